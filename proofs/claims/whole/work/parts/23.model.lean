/-! the model's states: isDone, force, worth, mayBe -/
/-- what holds of a state: a clause is nowhere or in a cell that there is, and no more is written than it takes -/
def m_ok (q : p_Q) (G : Nat → Nat → Int32) (cc kc : Nat) : Prop := ∀ k, k < 6 → (q.2.2.2.2 0 k = -1 ∨ (k < kc ∧ ∃ c, c < cc ∧ q.2.2.2.2 0 k = nI c)) ∧ (k < kc → ¬ G 2 k < q.2.2.2.2 1 k)
theorem m_pos {x : Int32} {cc kc k : Nat} (hc : cc ≤ 9) (h : x = -1 ∨ (k < kc ∧ ∃ c, c < cc ∧ x = nI c)) : x + 1 ≤ 0 ↔ x = -1 := by
  rcases h with h | ⟨_, c, hc2, h⟩
  · subst h
    constructor
    · intro _; rfl
    · intro _; decide
  · subst h
    rw [nI_1]
    constructor
    · intro z
      exact absurd z (nI_nle (by omega) (by omega))
    · intro z
      exact absurd z (p_nm1 (by omega))
theorem p_bit01 (x k : Int32) : p_bit x k = 0 ∨ p_bit x k = 1 := by
  obtain ⟨j, hj, e⟩ := pk_andE (x >>> (k &&& 31)) (m := 1) 1 (by decide)
  have e2 : p_bit x k = nI j := e
  rcases (show j = 0 ∨ j = 1 by omega) with rfl | rfl
  · exact Or.inl e2
  · exact Or.inr e2
theorem m_has_p (x k : Int32) : m_has x k = !decide (p_bit x k = 0) := by
  unfold m_has
  rcases p_bit01 x k with h | h <;> rw [h] <;> decide
theorem m_done {q : p_Q} {G : Nat → Nat → Int32} {cc kc k : Nat} (hc : cc ≤ 9) (hk : k < kc) (hkc : kc ≤ 6) (h : m_ok q G cc kc) : p_done q.2.2.2.2 G k = (!decide (q.2.2.2.2 0 k + 1 ≤ 0) && decide (q.2.2.2.2 1 k = G 2 k)) := by
  obtain ⟨h1, h2⟩ := h k (by omega)
  have h3 := h2 hk
  unfold p_done
  rw [show decide (q.2.2.2.2 0 k + 1 ≤ 0) = decide (q.2.2.2.2 0 k = -1) from decide_eq_decide.mpr (m_pos hc h1)]
  rw [show (!decide (q.2.2.2.2 1 k < G 2 k)) = decide (q.2.2.2.2 1 k = G 2 k) from by
    by_cases e : q.2.2.2.2 1 k = G 2 k
    · rw [e]; simp
    · have : q.2.2.2.2 1 k < G 2 k := by
        rw [Int32.lt_iff_toInt_lt] at h3 ⊢
        have e2 : ¬ (q.2.2.2.2 1 k).toInt = (G 2 k).toInt := fun z => e (Int32.toInt_inj.mp z)
        omega
      simp [e, this]]
theorem p_wor (x : Int32) (c : Bool) : (if c = true then x else x) = x := by split <;> rfl
theorem bk_X11_isDone_0_6 : rr_chk mX11_isDone [(.aload_n 1, 0, 1, 0), (.iconst 4, 4, 0, 0), (.iconst 3, 3, 0, 0), (.iload_n 2, 0, 2, 0), (.imul, 0, 0, 0), (.iadd, 0, 0, 0)] 0 6 = true := by decide +kernel
theorem bk_X11_isDone_34_35 : rr_chk mX11_isDone [(.iconst 0, 0, 0, 0)] 34 35 = true := by decide +kernel
theorem bk_X11_isDone_10_18 : rr_chk mX11_isDone [(.aload_n 1, 0, 1, 0), (.iconst 4, 4, 0, 0), (.iconst 3, 3, 0, 0), (.iload_n 2, 0, 2, 0), (.imul, 0, 0, 0), (.iadd, 0, 0, 0), (.iconst 1, 1, 0, 0), (.iadd, 0, 0, 0)] 10 18 = true := by decide +kernel
theorem bk_X11_isDone_19_26 : rr_chk mX11_isDone [(.aload_n 0, 0, 0, 0), (.getfield 26, 0, 11, 6), (.iconst 4, 4, 0, 0), (.iload_n 2, 0, 2, 0), (.imul, 0, 0, 0)] 19 26 = true := by decide +kernel
theorem bk_X11_isDone_30_35 : rr_chk mX11_isDone [(.iconst 1, 1, 0, 0), (.goto 4, 0, 0, 0)] 30 35 = true := by decide +kernel
set_option maxRecDepth 100000 in
set_option maxHeartbeats 4000000 in
theorem m_isDone_now (p : Nat → Int32) (M : Nat → Nat → Int32) (tc wd cc kc : Nat) (G : Nat → Nat → Int32) (hG : m_G M G tc wd cc kc) (q : p_Q) (hq : M 9 = en q) (k : Nat) (htc : tc ≤ 12) (hcc : cc ≤ 9) (hkc : kc ≤ 6) (hk : k < kc) (hok : m_ok q G cc kc) : rr_C mX11_isDone 0 [.ref 0, .ref 10, .int (nI k)] (W_M p M) 0 0 (some (rr_b (p_done q.2.2.2.2 G k))) (W_M p M) := by
  refine rr_C.of (n := 2) fX11_isDone.1 rfl rfl (fun Z hC => ?_)
  show rr_J Z 3 0 0 (rr_MQ Z 0 0 (some (rr_b (p_done q.2.2.2.2 G k))) (W_M p M)) 0 [(0, .ref 0), (1, .ref 10), (2, .int (nI k))] [] (W_M p M)
  refine rr_go hC bk_X11_isDone_0_6 (l' := [(0, .ref 0), (1, .ref 10), (2, .int (nI k))]) (st' := [.int (4 + (3 * (nI k))), .ref 10]) (w' := (W_M p M)) rfl ?_
  rw [show (3 * (nI k) : Int32) = nI (3 * k) from pk_mul 3 k]
  rw [show (4 + (nI (3 * k)) : Int32) = nI (4 + (3 * k)) from nI_add 4 (3 * k)]
  refine rr_iald hC (4 + (3 * k)) (by decide +kernel) rfl rfl (by omega) rfl ?_
  show rr_J Z 3 0 0 _ 7 [(0, .ref 0), (1, .ref 10), (2, .int (nI k))] [.int (M 9 (4 + (3 * k)))] (W_M p M)
  rw [hq, en_c q (show k < 6 by omega)]
  refine rr_if_le hC (off := 27) (tgt := 34) (by decide +kernel) (fun h7 => ?_) (fun h7 => ?_)
  · refine rr_go hC bk_X11_isDone_34_35 (l' := [(0, .ref 0), (1, .ref 10), (2, .int (nI k))]) (st' := [.int 0]) (w' := (W_M p M)) rfl ?_
    exact rr_retz hC (by decide +kernel) (Or.inl rfl) (by rw [m_done hcc hk hkc hok]; first | (rw [decide_eq_true h7]; rfl) | (rw [decide_eq_false h7, decide_eq_true h27]; rfl) | (rw [decide_eq_false h7, decide_eq_false h27]; rfl)) (by rfl) ⟨Nat.zero_le _, Nat.zero_le _⟩
  · refine rr_go hC bk_X11_isDone_10_18 (l' := [(0, .ref 0), (1, .ref 10), (2, .int (nI k))]) (st' := [.int ((4 + (3 * (nI k))) + 1), .ref 10]) (w' := (W_M p M)) rfl ?_
    rw [show (3 * (nI k) : Int32) = nI (3 * k) from pk_mul 3 k]
    rw [show (4 + (nI (3 * k)) : Int32) = nI (4 + (3 * k)) from nI_add 4 (3 * k)]
    rw [show ((nI (4 + (3 * k))) + 1 : Int32) = nI ((4 + (3 * k)) + 1) from nI_add (4 + (3 * k)) 1]
    refine rr_iald hC ((4 + (3 * k)) + 1) (by decide +kernel) rfl rfl (by omega) rfl ?_
    show rr_J Z 3 0 0 _ 19 [(0, .ref 0), (1, .ref 10), (2, .int (nI k))] [.int (M 9 ((4 + (3 * k)) + 1))] (W_M p M)
    rw [hq, en_w q (show k < 6 by omega)]
    refine rr_go hC bk_X11_isDone_19_26 (l' := [(0, .ref 0), (1, .ref 10), (2, .int (nI k))]) (st' := [.int (4 * (nI k)), .ref 5, .int (q.2.2.2.2 1 k)]) (w' := (W_M p M)) rfl ?_
    rw [show (4 * (nI k) : Int32) = nI (4 * k) from pk_mul 4 k]
    refine rr_iald hC (4 * k) (by decide +kernel) rfl rfl (by omega) rfl ?_
    show rr_J Z 3 0 0 _ 27 [(0, .ref 0), (1, .ref 10), (2, .int (nI k))] [.int (M 4 (4 * k)), .int (q.2.2.2.2 1 k)] (W_M p M)
    rw [(hG.2.2.2.2.2.2 k hk).1]
    refine rr_icmp_ne hC (off := 7) (tgt := 34) (by decide +kernel) (fun h27 => ?_) (fun h27 => ?_)
    · refine rr_go hC bk_X11_isDone_34_35 (l' := [(0, .ref 0), (1, .ref 10), (2, .int (nI k))]) (st' := [.int 0]) (w' := (W_M p M)) rfl ?_
      exact rr_retz hC (by decide +kernel) (Or.inl rfl) (by rw [m_done hcc hk hkc hok]; first | (rw [decide_eq_true h7]; rfl) | (rw [decide_eq_false h7, decide_eq_true h27]; rfl) | (rw [decide_eq_false h7, decide_eq_false h27]; rfl)) (by rfl) ⟨Nat.zero_le _, Nat.zero_le _⟩
    · refine rr_go hC bk_X11_isDone_30_35 (l' := [(0, .ref 0), (1, .ref 10), (2, .int (nI k))]) (st' := [.int 1]) (w' := (W_M p M)) rfl ?_
      exact rr_retz hC (by decide +kernel) (Or.inr rfl) (by rw [m_done hcc hk hkc hok]; first | (rw [decide_eq_true h7]; rfl) | (rw [decide_eq_false h7, decide_eq_true h27]; rfl) | (rw [decide_eq_false h7, decide_eq_false h27]; rfl)) (by rfl) ⟨Nat.zero_le _, Nat.zero_le _⟩
theorem bk_X11_force_0_4 : rr_chk mX11_force [(.iconst 0, 0, 0, 0), (.istore_n 2, 0, 2, 0), (.iconst 0, 0, 0, 0), (.istore_n 3, 0, 3, 0)] 0 4 = true := by decide +kernel
theorem bk_X11_force_4_11 : rr_chk mX11_force [(.iload_n 3, 0, 3, 0), (.aload_n 0, 0, 0, 0), (.getfield 17, 0, 11, 3), (.iconst 2, 2, 0, 0), (.iaload, 0, 2, 0)] 4 11 = true := by decide +kernel
theorem bk_X11_force_66_67 : rr_chk mX11_force [(.iload_n 2, 0, 2, 0)] 66 67 = true := by decide +kernel
theorem bk_X11_force_14_23 : rr_chk mX11_force [(.aload_n 0, 0, 0, 0), (.getfield 26, 0, 11, 6), (.iconst 4, 4, 0, 0), (.iload_n 3, 0, 3, 0), (.imul, 0, 0, 0), (.iconst 1, 1, 0, 0), (.iadd, 0, 0, 0)] 14 23 = true := by decide +kernel
theorem bk_X11_force_24_30 : rr_chk mX11_force [(.istore 4, 0, 4, 0), (.iload_n 2, 0, 2, 0), (.aload_n 0, 0, 0, 0), (.aload_n 1, 0, 1, 0), (.iload_n 3, 0, 3, 0)] 24 30 = true := by decide +kernel
theorem bk_X11_force_57_4 : rr_chk mX11_force [(.iconst 0, 0, 0, 0), (.ior, 0, 0, 0), (.istore_n 2, 0, 2, 0), (.iinc 3 1, 1, 3, 0), (.goto (-59), 0, 0, 0)] 57 4 = true := by decide +kernel
theorem bk_X11_force_36_39 : rr_chk mX11_force [(.iload 4, 0, 4, 0), (.iconst (-1), (-1), 0, 0)] 36 39 = true := by decide +kernel
theorem bk_X11_force_51_4 : rr_chk mX11_force [(.iconst 1, 1, 0, 0), (.iload_n 3, 0, 3, 0), (.ishl, 0, 0, 0), (.goto 4, 0, 0, 0), (.ior, 0, 0, 0), (.istore_n 2, 0, 2, 0), (.iinc 3 1, 1, 3, 0), (.goto (-59), 0, 0, 0)] 51 4 = true := by decide +kernel
theorem bk_X11_force_42_45 : rr_chk mX11_force [(.iload_n 2, 0, 2, 0), (.iload 4, 0, 4, 0)] 42 45 = true := by decide +kernel
set_option maxRecDepth 100000 in
set_option maxHeartbeats 4000000 in
theorem m_force_now (p : Nat → Int32) (M : Nat → Nat → Int32) (tc wd cc kc : Nat) (G : Nat → Nat → Int32) (hG : m_G M G tc wd cc kc) (q : p_Q) (hq : M 9 = en q) (htc : tc ≤ 12) (hcc : cc ≤ 9) (hkc : kc ≤ 6) (hok : m_ok q G cc kc) : rr_C mX11_force 1 [.ref 0, .ref 10] (W_M p M) 0 0 (some (p_fs q.2.2.2.2 G kc)) (W_M p M) := by
  refine rr_C.of (n := 1) fX11_force.1 rfl rfl (fun Z hC => ?_)
  show rr_J Z 5 0 0 (rr_MQ Z 0 0 (some (p_fs q.2.2.2.2 G kc)) (W_M p M)) 0 [(0, .ref 0), (1, .ref 10)] [] (W_M p M)
  refine rr_go hC bk_X11_force_0_4 (l' := [(0, .ref 0), (1, .ref 10), (2, .int 0), (3, .int 0)]) (st' := []) (w' := (W_M p M)) rfl ?_
  have lp4 : ∀ (j k : Nat), k + j = kc → 0 ≤ k → rr_J Z 5 0 0 (rr_MQ Z 0 0 (some (p_fs q.2.2.2.2 G kc)) (W_M p M)) 4 [(0, .ref 0), (1, .ref 10), (2, .int (p_fs q.2.2.2.2 G k)), (3, .int (nI k))] [] (W_M p M) := by
    intro j
    induction j with
    | zero =>
      intro k hk4 hlo4
      refine rr_go hC bk_X11_force_4_11 (l' := [(0, .ref 0), (1, .ref 10), (2, .int (p_fs q.2.2.2.2 G k)), (3, .int (nI k))]) (st' := [.int (M 1 2), .int (nI k)]) (w' := (W_M p M)) rfl ?_
      rw [show (M 1 2 : Int32) = nI kc from hG.2.2.1]
      refine rr_icmp_ge hC (off := 55) (tgt := 66) (by decide +kernel) (fun h11 => ?_) (fun h11 => by rw [rr_nn_le (by omega) (by omega)] at h11; omega)
      rw [rr_nn_le (by omega) (by omega)] at h11
      refine rr_go hC bk_X11_force_66_67 (l' := [(0, .ref 0), (1, .ref 10), (2, .int (p_fs q.2.2.2.2 G k)), (3, .int (nI k))]) (st' := [.int (p_fs q.2.2.2.2 G k)]) (w' := (W_M p M)) rfl ?_
      exact rr_reti hC (by decide +kernel) (by rw [show k = kc by omega]) (by rfl) ⟨Nat.zero_le _, Nat.zero_le _⟩
    | succ j ih =>
      intro k hk4 hlo4
      refine rr_go hC bk_X11_force_4_11 (l' := [(0, .ref 0), (1, .ref 10), (2, .int (p_fs q.2.2.2.2 G k)), (3, .int (nI k))]) (st' := [.int (M 1 2), .int (nI k)]) (w' := (W_M p M)) rfl ?_
      rw [show (M 1 2 : Int32) = nI kc from hG.2.2.1]
      refine rr_icmp_ge hC (off := 55) (tgt := 66) (by decide +kernel) (fun h11 => by rw [rr_nn_le (by omega) (by omega)] at h11; omega) (fun h11 => ?_)
      rw [rr_nn_le (by omega) (by omega)] at h11
      refine rr_go hC bk_X11_force_14_23 (l' := [(0, .ref 0), (1, .ref 10), (2, .int (p_fs q.2.2.2.2 G k)), (3, .int (nI k))]) (st' := [.int ((4 * (nI k)) + 1), .ref 5]) (w' := (W_M p M)) rfl ?_
      rw [show (4 * (nI k) : Int32) = nI (4 * k) from pk_mul 4 k]
      rw [show ((nI (4 * k)) + 1 : Int32) = nI ((4 * k) + 1) from nI_add (4 * k) 1]
      refine rr_iald hC ((4 * k) + 1) (by decide +kernel) rfl rfl (by omega) rfl ?_
      show rr_J Z 5 0 0 _ 24 [(0, .ref 0), (1, .ref 10), (2, .int (p_fs q.2.2.2.2 G k)), (3, .int (nI k))] [.int (M 4 ((4 * k) + 1))] (W_M p M)
      rw [(hG.2.2.2.2.2.2 k (show k < kc by omega)).2.1]
      refine rr_go hC bk_X11_force_24_30 (l' := [(0, .ref 0), (1, .ref 10), (2, .int (p_fs q.2.2.2.2 G k)), (3, .int (nI k)), (4, .int (G 3 k))]) (st' := [.int (nI k), .ref 10, .ref 0, .int (p_fs q.2.2.2.2 G k)]) (w' := (W_M p M)) rfl ?_
      refine rr_callVI hC (by decide +kernel) kl_11_155 fX11_isDone (m_isDone_now p M tc wd cc kc G hG q hq k (by omega) (by omega) (by omega) (by omega) hok) rfl rfl rfl rfl rfl (rest := [.int (p_fs q.2.2.2.2 G k)]) rfl rfl ⟨Nat.zero_le _, Nat.zero_le _⟩ (Eq.refl 22) ?_
      show rr_J Z 5 0 0 _ 33 [(0, .ref 0), (1, .ref 10), (2, .int (p_fs q.2.2.2.2 G k)), (3, .int (nI k)), (4, .int (G 3 k))] [.int (rr_b (p_done q.2.2.2.2 G k)), .int (p_fs q.2.2.2.2 G k)] (W_M p M)
      refine rr_eqb hC (off := 24) (tgt := 57) (by decide +kernel) (fun h33 => ?_) (fun h33 => ?_)
      · refine rr_go hC bk_X11_force_57_4 (l' := [(0, .ref 0), (1, .ref 10), (2, .int ((p_fs q.2.2.2.2 G k) ||| 0)), (3, .int ((nI k) + 1)), (4, .int (G 3 k))]) (st' := []) (w' := (W_M p M)) rfl ?_
        rw [show ((nI k) + 1 : Int32) = nI (k + 1) from nI_add k 1]
        refine rr_dr 4 (l' := [(0, .ref 0), (1, .ref 10), (2, .int ((p_fs q.2.2.2.2 G k) ||| 0)), (3, .int (nI (k + 1)))]) rfl ?_
        exact rr_cast (l' := [(0, .ref 0), (1, .ref 10), (2, .int (p_fs q.2.2.2.2 G (k + 1))), (3, .int (nI (k + 1)))]) (by first | (rw [p_or0, show p_fs q.2.2.2.2 G (k + 1) = p_fs q.2.2.2.2 G k from if_neg (by rintro ⟨z1, z2⟩; first | (rw [h33] at z1; cases z1; done) | (rw [m_has_p] at h48; rcases z2 with z2 | z2; exact h39 z2; simp [z2] at h48))]; done) | (rw [show p_fs q.2.2.2.2 G (k + 1) = _ from if_pos ⟨h33, by first | exact Or.inl h39 | (rw [m_has_p] at h48; exact Or.inr (by simpa using h48))⟩]; done)) rfl (w' := (W_M p M)) (by rfl) (ih (k + 1) (by omega) (by omega))
      · refine rr_go hC bk_X11_force_36_39 (l' := [(0, .ref 0), (1, .ref 10), (2, .int (p_fs q.2.2.2.2 G k)), (3, .int (nI k)), (4, .int (G 3 k))]) (st' := [.int (-1), .int (G 3 k), .int (p_fs q.2.2.2.2 G k)]) (w' := (W_M p M)) rfl ?_
        refine rr_icmp_eq hC (off := 12) (tgt := 51) (by decide +kernel) (fun h39 => ?_) (fun h39 => ?_)
        · refine rr_go hC bk_X11_force_51_4 (l' := [(0, .ref 0), (1, .ref 10), (2, .int ((p_fs q.2.2.2.2 G k) ||| (1 <<< (nI k &&& 31)))), (3, .int ((nI k) + 1)), (4, .int (G 3 k))]) (st' := []) (w' := (W_M p M)) rfl ?_
          rw [show ((nI k) + 1 : Int32) = nI (k + 1) from nI_add k 1]
          refine rr_dr 4 (l' := [(0, .ref 0), (1, .ref 10), (2, .int ((p_fs q.2.2.2.2 G k) ||| (1 <<< (nI k &&& 31)))), (3, .int (nI (k + 1)))]) rfl ?_
          exact rr_cast (l' := [(0, .ref 0), (1, .ref 10), (2, .int (p_fs q.2.2.2.2 G (k + 1))), (3, .int (nI (k + 1)))]) (by first | (rw [p_or0, show p_fs q.2.2.2.2 G (k + 1) = p_fs q.2.2.2.2 G k from if_neg (by rintro ⟨z1, z2⟩; first | (rw [h33] at z1; cases z1; done) | (rw [m_has_p] at h48; rcases z2 with z2 | z2; exact h39 z2; simp [z2] at h48))]; done) | (rw [show p_fs q.2.2.2.2 G (k + 1) = _ from if_pos ⟨h33, by first | exact Or.inl h39 | (rw [m_has_p] at h48; exact Or.inr (by simpa using h48))⟩]; done)) rfl (w' := (W_M p M)) (by rfl) (ih (k + 1) (by omega) (by omega))
        · refine rr_go hC bk_X11_force_42_45 (l' := [(0, .ref 0), (1, .ref 10), (2, .int (p_fs q.2.2.2.2 G k)), (3, .int (nI k)), (4, .int (G 3 k))]) (st' := [.int (G 3 k), .int (p_fs q.2.2.2.2 G k), .int (p_fs q.2.2.2.2 G k)]) (w' := (W_M p M)) rfl ?_
          refine rr_callS hC (by decide +kernel) kl_11_159 fX11_has (m_c_has (p_fs q.2.2.2.2 G k) (G 3 k)) rfl rfl [] rfl rfl (Eq.refl 0) rfl (rest := [.int (p_fs q.2.2.2.2 G k)]) rfl rfl ⟨Nat.zero_le _, Nat.zero_le _⟩ (w2 := (W_M p M)) rfl ?_
          show rr_J Z 5 0 0 _ 48 [(0, .ref 0), (1, .ref 10), (2, .int (p_fs q.2.2.2.2 G k)), (3, .int (nI k)), (4, .int (G 3 k))] [.int (rr_b (m_has (p_fs q.2.2.2.2 G k) (G 3 k))), .int (p_fs q.2.2.2.2 G k)] (W_M p M)
          refine rr_eqb hC (off := 9) (tgt := 57) (by decide +kernel) (fun h48 => ?_) (fun h48 => ?_)
          · refine rr_go hC bk_X11_force_57_4 (l' := [(0, .ref 0), (1, .ref 10), (2, .int ((p_fs q.2.2.2.2 G k) ||| 0)), (3, .int ((nI k) + 1)), (4, .int (G 3 k))]) (st' := []) (w' := (W_M p M)) rfl ?_
            rw [show ((nI k) + 1 : Int32) = nI (k + 1) from nI_add k 1]
            refine rr_dr 4 (l' := [(0, .ref 0), (1, .ref 10), (2, .int ((p_fs q.2.2.2.2 G k) ||| 0)), (3, .int (nI (k + 1)))]) rfl ?_
            exact rr_cast (l' := [(0, .ref 0), (1, .ref 10), (2, .int (p_fs q.2.2.2.2 G (k + 1))), (3, .int (nI (k + 1)))]) (by first | (rw [p_or0, show p_fs q.2.2.2.2 G (k + 1) = p_fs q.2.2.2.2 G k from if_neg (by rintro ⟨z1, z2⟩; first | (rw [h33] at z1; cases z1; done) | (rw [m_has_p] at h48; rcases z2 with z2 | z2; exact h39 z2; simp [z2] at h48))]; done) | (rw [show p_fs q.2.2.2.2 G (k + 1) = _ from if_pos ⟨h33, by first | exact Or.inl h39 | (rw [m_has_p] at h48; exact Or.inr (by simpa using h48))⟩]; done)) rfl (w' := (W_M p M)) (by rfl) (ih (k + 1) (by omega) (by omega))
          · refine rr_go hC bk_X11_force_51_4 (l' := [(0, .ref 0), (1, .ref 10), (2, .int ((p_fs q.2.2.2.2 G k) ||| (1 <<< (nI k &&& 31)))), (3, .int ((nI k) + 1)), (4, .int (G 3 k))]) (st' := []) (w' := (W_M p M)) rfl ?_
            rw [show ((nI k) + 1 : Int32) = nI (k + 1) from nI_add k 1]
            refine rr_dr 4 (l' := [(0, .ref 0), (1, .ref 10), (2, .int ((p_fs q.2.2.2.2 G k) ||| (1 <<< (nI k &&& 31)))), (3, .int (nI (k + 1)))]) rfl ?_
            exact rr_cast (l' := [(0, .ref 0), (1, .ref 10), (2, .int (p_fs q.2.2.2.2 G (k + 1))), (3, .int (nI (k + 1)))]) (by first | (rw [p_or0, show p_fs q.2.2.2.2 G (k + 1) = p_fs q.2.2.2.2 G k from if_neg (by rintro ⟨z1, z2⟩; first | (rw [h33] at z1; cases z1; done) | (rw [m_has_p] at h48; rcases z2 with z2 | z2; exact h39 z2; simp [z2] at h48))]; done) | (rw [show p_fs q.2.2.2.2 G (k + 1) = _ from if_pos ⟨h33, by first | exact Or.inl h39 | (rw [m_has_p] at h48; exact Or.inr (by simpa using h48))⟩]; done)) rfl (w' := (W_M p M)) (by rfl) (ih (k + 1) (by omega) (by omega))
  exact rr_cast (l' := [(0, .ref 0), (1, .ref 10), (2, .int (p_fs q.2.2.2.2 G 0)), (3, .int (nI 0))]) (by first | rfl | (rfl)) rfl (w' := (W_M p M)) (by rfl) (lp4 (kc - 0) 0 (by omega) (Nat.le_refl _))
set_option maxRecDepth 100000 in
set_option maxHeartbeats 4000000 in
theorem m_isDone_tried (p : Nat → Int32) (M : Nat → Nat → Int32) (tc wd cc kc : Nat) (G : Nat → Nat → Int32) (hG : m_G M G tc wd cc kc) (q : p_Q) (hq : M 10 = en q) (k : Nat) (htc : tc ≤ 12) (hcc : cc ≤ 9) (hkc : kc ≤ 6) (hk : k < kc) (hok : m_ok q G cc kc) : rr_C mX11_isDone 0 [.ref 0, .ref 11, .int (nI k)] (W_M p M) 0 0 (some (rr_b (p_done q.2.2.2.2 G k))) (W_M p M) := by
  refine rr_C.of (n := 2) fX11_isDone.1 rfl rfl (fun Z hC => ?_)
  show rr_J Z 3 0 0 (rr_MQ Z 0 0 (some (rr_b (p_done q.2.2.2.2 G k))) (W_M p M)) 0 [(0, .ref 0), (1, .ref 11), (2, .int (nI k))] [] (W_M p M)
  refine rr_go hC bk_X11_isDone_0_6 (l' := [(0, .ref 0), (1, .ref 11), (2, .int (nI k))]) (st' := [.int (4 + (3 * (nI k))), .ref 11]) (w' := (W_M p M)) rfl ?_
  rw [show (3 * (nI k) : Int32) = nI (3 * k) from pk_mul 3 k]
  rw [show (4 + (nI (3 * k)) : Int32) = nI (4 + (3 * k)) from nI_add 4 (3 * k)]
  refine rr_iald hC (4 + (3 * k)) (by decide +kernel) rfl rfl (by omega) rfl ?_
  show rr_J Z 3 0 0 _ 7 [(0, .ref 0), (1, .ref 11), (2, .int (nI k))] [.int (M 10 (4 + (3 * k)))] (W_M p M)
  rw [hq, en_c q (show k < 6 by omega)]
  refine rr_if_le hC (off := 27) (tgt := 34) (by decide +kernel) (fun h7 => ?_) (fun h7 => ?_)
  · refine rr_go hC bk_X11_isDone_34_35 (l' := [(0, .ref 0), (1, .ref 11), (2, .int (nI k))]) (st' := [.int 0]) (w' := (W_M p M)) rfl ?_
    exact rr_retz hC (by decide +kernel) (Or.inl rfl) (by rw [m_done hcc hk hkc hok]; first | (rw [decide_eq_true h7]; rfl) | (rw [decide_eq_false h7, decide_eq_true h27]; rfl) | (rw [decide_eq_false h7, decide_eq_false h27]; rfl)) (by rfl) ⟨Nat.zero_le _, Nat.zero_le _⟩
  · refine rr_go hC bk_X11_isDone_10_18 (l' := [(0, .ref 0), (1, .ref 11), (2, .int (nI k))]) (st' := [.int ((4 + (3 * (nI k))) + 1), .ref 11]) (w' := (W_M p M)) rfl ?_
    rw [show (3 * (nI k) : Int32) = nI (3 * k) from pk_mul 3 k]
    rw [show (4 + (nI (3 * k)) : Int32) = nI (4 + (3 * k)) from nI_add 4 (3 * k)]
    rw [show ((nI (4 + (3 * k))) + 1 : Int32) = nI ((4 + (3 * k)) + 1) from nI_add (4 + (3 * k)) 1]
    refine rr_iald hC ((4 + (3 * k)) + 1) (by decide +kernel) rfl rfl (by omega) rfl ?_
    show rr_J Z 3 0 0 _ 19 [(0, .ref 0), (1, .ref 11), (2, .int (nI k))] [.int (M 10 ((4 + (3 * k)) + 1))] (W_M p M)
    rw [hq, en_w q (show k < 6 by omega)]
    refine rr_go hC bk_X11_isDone_19_26 (l' := [(0, .ref 0), (1, .ref 11), (2, .int (nI k))]) (st' := [.int (4 * (nI k)), .ref 5, .int (q.2.2.2.2 1 k)]) (w' := (W_M p M)) rfl ?_
    rw [show (4 * (nI k) : Int32) = nI (4 * k) from pk_mul 4 k]
    refine rr_iald hC (4 * k) (by decide +kernel) rfl rfl (by omega) rfl ?_
    show rr_J Z 3 0 0 _ 27 [(0, .ref 0), (1, .ref 11), (2, .int (nI k))] [.int (M 4 (4 * k)), .int (q.2.2.2.2 1 k)] (W_M p M)
    rw [(hG.2.2.2.2.2.2 k hk).1]
    refine rr_icmp_ne hC (off := 7) (tgt := 34) (by decide +kernel) (fun h27 => ?_) (fun h27 => ?_)
    · refine rr_go hC bk_X11_isDone_34_35 (l' := [(0, .ref 0), (1, .ref 11), (2, .int (nI k))]) (st' := [.int 0]) (w' := (W_M p M)) rfl ?_
      exact rr_retz hC (by decide +kernel) (Or.inl rfl) (by rw [m_done hcc hk hkc hok]; first | (rw [decide_eq_true h7]; rfl) | (rw [decide_eq_false h7, decide_eq_true h27]; rfl) | (rw [decide_eq_false h7, decide_eq_false h27]; rfl)) (by rfl) ⟨Nat.zero_le _, Nat.zero_le _⟩
    · refine rr_go hC bk_X11_isDone_30_35 (l' := [(0, .ref 0), (1, .ref 11), (2, .int (nI k))]) (st' := [.int 1]) (w' := (W_M p M)) rfl ?_
      exact rr_retz hC (by decide +kernel) (Or.inr rfl) (by rw [m_done hcc hk hkc hok]; first | (rw [decide_eq_true h7]; rfl) | (rw [decide_eq_false h7, decide_eq_true h27]; rfl) | (rw [decide_eq_false h7, decide_eq_false h27]; rfl)) (by rfl) ⟨Nat.zero_le _, Nat.zero_le _⟩
set_option maxRecDepth 100000 in
set_option maxHeartbeats 4000000 in
theorem m_force_tried (p : Nat → Int32) (M : Nat → Nat → Int32) (tc wd cc kc : Nat) (G : Nat → Nat → Int32) (hG : m_G M G tc wd cc kc) (q : p_Q) (hq : M 10 = en q) (htc : tc ≤ 12) (hcc : cc ≤ 9) (hkc : kc ≤ 6) (hok : m_ok q G cc kc) : rr_C mX11_force 1 [.ref 0, .ref 11] (W_M p M) 0 0 (some (p_fs q.2.2.2.2 G kc)) (W_M p M) := by
  refine rr_C.of (n := 1) fX11_force.1 rfl rfl (fun Z hC => ?_)
  show rr_J Z 5 0 0 (rr_MQ Z 0 0 (some (p_fs q.2.2.2.2 G kc)) (W_M p M)) 0 [(0, .ref 0), (1, .ref 11)] [] (W_M p M)
  refine rr_go hC bk_X11_force_0_4 (l' := [(0, .ref 0), (1, .ref 11), (2, .int 0), (3, .int 0)]) (st' := []) (w' := (W_M p M)) rfl ?_
  have lp4 : ∀ (j k : Nat), k + j = kc → 0 ≤ k → rr_J Z 5 0 0 (rr_MQ Z 0 0 (some (p_fs q.2.2.2.2 G kc)) (W_M p M)) 4 [(0, .ref 0), (1, .ref 11), (2, .int (p_fs q.2.2.2.2 G k)), (3, .int (nI k))] [] (W_M p M) := by
    intro j
    induction j with
    | zero =>
      intro k hk4 hlo4
      refine rr_go hC bk_X11_force_4_11 (l' := [(0, .ref 0), (1, .ref 11), (2, .int (p_fs q.2.2.2.2 G k)), (3, .int (nI k))]) (st' := [.int (M 1 2), .int (nI k)]) (w' := (W_M p M)) rfl ?_
      rw [show (M 1 2 : Int32) = nI kc from hG.2.2.1]
      refine rr_icmp_ge hC (off := 55) (tgt := 66) (by decide +kernel) (fun h11 => ?_) (fun h11 => by rw [rr_nn_le (by omega) (by omega)] at h11; omega)
      rw [rr_nn_le (by omega) (by omega)] at h11
      refine rr_go hC bk_X11_force_66_67 (l' := [(0, .ref 0), (1, .ref 11), (2, .int (p_fs q.2.2.2.2 G k)), (3, .int (nI k))]) (st' := [.int (p_fs q.2.2.2.2 G k)]) (w' := (W_M p M)) rfl ?_
      exact rr_reti hC (by decide +kernel) (by rw [show k = kc by omega]) (by rfl) ⟨Nat.zero_le _, Nat.zero_le _⟩
    | succ j ih =>
      intro k hk4 hlo4
      refine rr_go hC bk_X11_force_4_11 (l' := [(0, .ref 0), (1, .ref 11), (2, .int (p_fs q.2.2.2.2 G k)), (3, .int (nI k))]) (st' := [.int (M 1 2), .int (nI k)]) (w' := (W_M p M)) rfl ?_
      rw [show (M 1 2 : Int32) = nI kc from hG.2.2.1]
      refine rr_icmp_ge hC (off := 55) (tgt := 66) (by decide +kernel) (fun h11 => by rw [rr_nn_le (by omega) (by omega)] at h11; omega) (fun h11 => ?_)
      rw [rr_nn_le (by omega) (by omega)] at h11
      refine rr_go hC bk_X11_force_14_23 (l' := [(0, .ref 0), (1, .ref 11), (2, .int (p_fs q.2.2.2.2 G k)), (3, .int (nI k))]) (st' := [.int ((4 * (nI k)) + 1), .ref 5]) (w' := (W_M p M)) rfl ?_
      rw [show (4 * (nI k) : Int32) = nI (4 * k) from pk_mul 4 k]
      rw [show ((nI (4 * k)) + 1 : Int32) = nI ((4 * k) + 1) from nI_add (4 * k) 1]
      refine rr_iald hC ((4 * k) + 1) (by decide +kernel) rfl rfl (by omega) rfl ?_
      show rr_J Z 5 0 0 _ 24 [(0, .ref 0), (1, .ref 11), (2, .int (p_fs q.2.2.2.2 G k)), (3, .int (nI k))] [.int (M 4 ((4 * k) + 1))] (W_M p M)
      rw [(hG.2.2.2.2.2.2 k (show k < kc by omega)).2.1]
      refine rr_go hC bk_X11_force_24_30 (l' := [(0, .ref 0), (1, .ref 11), (2, .int (p_fs q.2.2.2.2 G k)), (3, .int (nI k)), (4, .int (G 3 k))]) (st' := [.int (nI k), .ref 11, .ref 0, .int (p_fs q.2.2.2.2 G k)]) (w' := (W_M p M)) rfl ?_
      refine rr_callVI hC (by decide +kernel) kl_11_155 fX11_isDone (m_isDone_tried p M tc wd cc kc G hG q hq k (by omega) (by omega) (by omega) (by omega) hok) rfl rfl rfl rfl rfl (rest := [.int (p_fs q.2.2.2.2 G k)]) rfl rfl ⟨Nat.zero_le _, Nat.zero_le _⟩ (Eq.refl 22) ?_
      show rr_J Z 5 0 0 _ 33 [(0, .ref 0), (1, .ref 11), (2, .int (p_fs q.2.2.2.2 G k)), (3, .int (nI k)), (4, .int (G 3 k))] [.int (rr_b (p_done q.2.2.2.2 G k)), .int (p_fs q.2.2.2.2 G k)] (W_M p M)
      refine rr_eqb hC (off := 24) (tgt := 57) (by decide +kernel) (fun h33 => ?_) (fun h33 => ?_)
      · refine rr_go hC bk_X11_force_57_4 (l' := [(0, .ref 0), (1, .ref 11), (2, .int ((p_fs q.2.2.2.2 G k) ||| 0)), (3, .int ((nI k) + 1)), (4, .int (G 3 k))]) (st' := []) (w' := (W_M p M)) rfl ?_
        rw [show ((nI k) + 1 : Int32) = nI (k + 1) from nI_add k 1]
        refine rr_dr 4 (l' := [(0, .ref 0), (1, .ref 11), (2, .int ((p_fs q.2.2.2.2 G k) ||| 0)), (3, .int (nI (k + 1)))]) rfl ?_
        exact rr_cast (l' := [(0, .ref 0), (1, .ref 11), (2, .int (p_fs q.2.2.2.2 G (k + 1))), (3, .int (nI (k + 1)))]) (by first | (rw [p_or0, show p_fs q.2.2.2.2 G (k + 1) = p_fs q.2.2.2.2 G k from if_neg (by rintro ⟨z1, z2⟩; first | (rw [h33] at z1; cases z1; done) | (rw [m_has_p] at h48; rcases z2 with z2 | z2; exact h39 z2; simp [z2] at h48))]; done) | (rw [show p_fs q.2.2.2.2 G (k + 1) = _ from if_pos ⟨h33, by first | exact Or.inl h39 | (rw [m_has_p] at h48; exact Or.inr (by simpa using h48))⟩]; done)) rfl (w' := (W_M p M)) (by rfl) (ih (k + 1) (by omega) (by omega))
      · refine rr_go hC bk_X11_force_36_39 (l' := [(0, .ref 0), (1, .ref 11), (2, .int (p_fs q.2.2.2.2 G k)), (3, .int (nI k)), (4, .int (G 3 k))]) (st' := [.int (-1), .int (G 3 k), .int (p_fs q.2.2.2.2 G k)]) (w' := (W_M p M)) rfl ?_
        refine rr_icmp_eq hC (off := 12) (tgt := 51) (by decide +kernel) (fun h39 => ?_) (fun h39 => ?_)
        · refine rr_go hC bk_X11_force_51_4 (l' := [(0, .ref 0), (1, .ref 11), (2, .int ((p_fs q.2.2.2.2 G k) ||| (1 <<< (nI k &&& 31)))), (3, .int ((nI k) + 1)), (4, .int (G 3 k))]) (st' := []) (w' := (W_M p M)) rfl ?_
          rw [show ((nI k) + 1 : Int32) = nI (k + 1) from nI_add k 1]
          refine rr_dr 4 (l' := [(0, .ref 0), (1, .ref 11), (2, .int ((p_fs q.2.2.2.2 G k) ||| (1 <<< (nI k &&& 31)))), (3, .int (nI (k + 1)))]) rfl ?_
          exact rr_cast (l' := [(0, .ref 0), (1, .ref 11), (2, .int (p_fs q.2.2.2.2 G (k + 1))), (3, .int (nI (k + 1)))]) (by first | (rw [p_or0, show p_fs q.2.2.2.2 G (k + 1) = p_fs q.2.2.2.2 G k from if_neg (by rintro ⟨z1, z2⟩; first | (rw [h33] at z1; cases z1; done) | (rw [m_has_p] at h48; rcases z2 with z2 | z2; exact h39 z2; simp [z2] at h48))]; done) | (rw [show p_fs q.2.2.2.2 G (k + 1) = _ from if_pos ⟨h33, by first | exact Or.inl h39 | (rw [m_has_p] at h48; exact Or.inr (by simpa using h48))⟩]; done)) rfl (w' := (W_M p M)) (by rfl) (ih (k + 1) (by omega) (by omega))
        · refine rr_go hC bk_X11_force_42_45 (l' := [(0, .ref 0), (1, .ref 11), (2, .int (p_fs q.2.2.2.2 G k)), (3, .int (nI k)), (4, .int (G 3 k))]) (st' := [.int (G 3 k), .int (p_fs q.2.2.2.2 G k), .int (p_fs q.2.2.2.2 G k)]) (w' := (W_M p M)) rfl ?_
          refine rr_callS hC (by decide +kernel) kl_11_159 fX11_has (m_c_has (p_fs q.2.2.2.2 G k) (G 3 k)) rfl rfl [] rfl rfl (Eq.refl 0) rfl (rest := [.int (p_fs q.2.2.2.2 G k)]) rfl rfl ⟨Nat.zero_le _, Nat.zero_le _⟩ (w2 := (W_M p M)) rfl ?_
          show rr_J Z 5 0 0 _ 48 [(0, .ref 0), (1, .ref 11), (2, .int (p_fs q.2.2.2.2 G k)), (3, .int (nI k)), (4, .int (G 3 k))] [.int (rr_b (m_has (p_fs q.2.2.2.2 G k) (G 3 k))), .int (p_fs q.2.2.2.2 G k)] (W_M p M)
          refine rr_eqb hC (off := 9) (tgt := 57) (by decide +kernel) (fun h48 => ?_) (fun h48 => ?_)
          · refine rr_go hC bk_X11_force_57_4 (l' := [(0, .ref 0), (1, .ref 11), (2, .int ((p_fs q.2.2.2.2 G k) ||| 0)), (3, .int ((nI k) + 1)), (4, .int (G 3 k))]) (st' := []) (w' := (W_M p M)) rfl ?_
            rw [show ((nI k) + 1 : Int32) = nI (k + 1) from nI_add k 1]
            refine rr_dr 4 (l' := [(0, .ref 0), (1, .ref 11), (2, .int ((p_fs q.2.2.2.2 G k) ||| 0)), (3, .int (nI (k + 1)))]) rfl ?_
            exact rr_cast (l' := [(0, .ref 0), (1, .ref 11), (2, .int (p_fs q.2.2.2.2 G (k + 1))), (3, .int (nI (k + 1)))]) (by first | (rw [p_or0, show p_fs q.2.2.2.2 G (k + 1) = p_fs q.2.2.2.2 G k from if_neg (by rintro ⟨z1, z2⟩; first | (rw [h33] at z1; cases z1; done) | (rw [m_has_p] at h48; rcases z2 with z2 | z2; exact h39 z2; simp [z2] at h48))]; done) | (rw [show p_fs q.2.2.2.2 G (k + 1) = _ from if_pos ⟨h33, by first | exact Or.inl h39 | (rw [m_has_p] at h48; exact Or.inr (by simpa using h48))⟩]; done)) rfl (w' := (W_M p M)) (by rfl) (ih (k + 1) (by omega) (by omega))
          · refine rr_go hC bk_X11_force_51_4 (l' := [(0, .ref 0), (1, .ref 11), (2, .int ((p_fs q.2.2.2.2 G k) ||| (1 <<< (nI k &&& 31)))), (3, .int ((nI k) + 1)), (4, .int (G 3 k))]) (st' := []) (w' := (W_M p M)) rfl ?_
            rw [show ((nI k) + 1 : Int32) = nI (k + 1) from nI_add k 1]
            refine rr_dr 4 (l' := [(0, .ref 0), (1, .ref 11), (2, .int ((p_fs q.2.2.2.2 G k) ||| (1 <<< (nI k &&& 31)))), (3, .int (nI (k + 1)))]) rfl ?_
            exact rr_cast (l' := [(0, .ref 0), (1, .ref 11), (2, .int (p_fs q.2.2.2.2 G (k + 1))), (3, .int (nI (k + 1)))]) (by first | (rw [p_or0, show p_fs q.2.2.2.2 G (k + 1) = p_fs q.2.2.2.2 G k from if_neg (by rintro ⟨z1, z2⟩; first | (rw [h33] at z1; cases z1; done) | (rw [m_has_p] at h48; rcases z2 with z2 | z2; exact h39 z2; simp [z2] at h48))]; done) | (rw [show p_fs q.2.2.2.2 G (k + 1) = _ from if_pos ⟨h33, by first | exact Or.inl h39 | (rw [m_has_p] at h48; exact Or.inr (by simpa using h48))⟩]; done)) rfl (w' := (W_M p M)) (by rfl) (ih (k + 1) (by omega) (by omega))
  exact rr_cast (l' := [(0, .ref 0), (1, .ref 11), (2, .int (p_fs q.2.2.2.2 G 0)), (3, .int (nI 0))]) (by first | rfl | (rfl)) rfl (w' := (W_M p M)) (by rfl) (lp4 (kc - 0) 0 (by omega) (Nat.le_refl _))
