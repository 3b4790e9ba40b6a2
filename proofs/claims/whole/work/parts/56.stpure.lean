/-! a text that was read without a fault has none; a new strand -/
def z_ok (q : Int32 × Int32) : Prop := q.1 = 0 → q = (0, -1)
theorem z_ok_fl {q : Int32 × Int32} (h : z_ok q) {k : Int32} (hk : ¬ k = 0) (w : Int32) : z_ok (p_fl k w q) := by
  unfold p_fl
  split
  · exact fun e => absurd e hk
  · exact h
theorem z_ok_rq {q : Int32 × Int32} (h : z_ok q) (f : Nat → Int32) (len a : Nat) (lo hi : Int32) : z_ok (p_rq f len a lo hi q) := by
  unfold p_rq
  split
  · exact h
  · rename_i e
    exact z_ok_fl h e _
theorem z_ok_eq {q : Int32 × Int32} (h : z_ok q) (f : Nat → Int32) (len a : Nat) : z_ok (p_eq' f len a q) := by
  unfold p_eq'
  split
  · exact h
  · exact z_ok_fl h (by decide) _
theorem z_ok_lq {q : Int32 × Int32} (h : z_ok q) (f : Nat → Int32) (len a na kc : Nat) : z_ok (p_lq f len a na kc q) := by
  unfold p_lq
  split
  · exact z_ok_rq h _ _ _ _ _
  · split
    · exact z_ok_rq h _ _ _ _ _
    · exact z_ok_fl (z_ok_rq h _ _ _ _ _) (by decide) _
theorem z_ok_tl (f : Nat → Int32) (len j : Nat) : ∀ (n : Nat) (s : p_TS), z_ok s.2.2.1 → z_ok (p_tl f len j n s).2.2.2.1 := by
  induction j with
  | zero => intro n s h; exact h
  | succ j ih =>
    intro n s h
    by_cases e : p_nl f len s.1 = 44
    · rw [p_tl_s f len j n s e]
      exact ih _ _ (z_ok_rq h _ _ _ _ _)
    · rw [p_tl_e f len j n s e]
      exact h
theorem z_ok_pf {s : p_RS} (h : z_ok s.2.2.2.1) {k : Int32} (hk : ¬ k = 0) : z_ok (p_pf k s).2.2.2.1 := z_ok_fl h hk _
theorem z_ok_pt {f : Nat → Int32} {len : Nat} {s : p_RS} (h : z_ok s.2.2.2.1) : z_ok (p_pt f len s).2.2.2.1 := by
  unfold p_pt
  split
  · exact z_ok_eq (z_ok_tl f len 11 1 _ (z_ok_rq h _ _ _ _ _)) _ _ _
  · exact z_ok_pf (s := p_skS f len s) h (by decide)
theorem z_ok_pw {f : Nat → Int32} {len : Nat} {s : p_RS} (h : z_ok s.2.2.2.1) : z_ok (p_pw f len s).2.2.2.1 := by
  unfold p_pw
  split
  · exact z_ok_pf h (by decide)
  · exact z_ok_eq (z_ok_rq h _ _ _ _ _) _ _ _
theorem z_ok_pc {f : Nat → Int32} {len : Nat} {s : p_RS} (h : z_ok s.2.2.2.1) : z_ok (p_pc f len s).2.2.2.1 := by
  unfold p_pc
  split
  · exact z_ok_eq (z_ok_rq h _ _ _ _ _) _ _ _
  · exact z_ok_pf h (by decide)
theorem z_ok_pk {f : Nat → Int32} {len : Nat} {s : p_RS} (h : z_ok s.2.2.2.1) : z_ok (p_pk f len s).2.2.2.1 := by
  unfold p_pk
  split
  · exact z_ok_eq (z_ok_rq (z_ok_rq (z_ok_lq (z_ok_rq h _ _ _ _ _) _ _ _ _ _) _ _ _ _ _) _ _ _ _ _) _ _ _
  · exact z_ok_pf h (by decide)
theorem z_ok_part {f : Nat → Int32} {len : Nat} {s : p_RS} (h : z_ok s.2.2.2.1) : z_ok (p_part f len s).2.2.2.1 := by
  have h2 : z_ok (p_skS f len s).2.2.2.1 := h
  unfold p_part
  split
  · exact z_ok_pw h2
  · split
    · exact z_ok_pc h2
    · split
      · exact z_ok_pk h2
      · split
        · exact z_ok_pf h2 (by decide)
        · exact z_ok_pf h2 (by decide)
theorem z_ok_rl (f : Nat → Int32) (len j : Nat) : ∀ (s : p_RS), z_ok s.2.2.2.1 → z_ok (p_rl f len j s).2.2.2.1 := by
  induction j with
  | zero => intro s h; exact h
  | succ j ih =>
    intro s h
    by_cases e : s.2.2.2.1.1 = 0
    · by_cases e2 : p_nl f len s.1 = -1
      · rw [p_rl_2 f len j s e e2]; exact h
      · rw [p_rl_3 f len j s e e2]; exact ih _ (z_ok_part (s := p_skS f len s) h)
    · rw [p_rl_1 f len j s e]; exact h
theorem z_ok_read (f : Nat → Int32) (len na : Nat) (H : Nat → Nat → Int32) : z_ok (p_read f len na H).2.2.2.1 := by
  have h0 : z_ok (p_s0 na H).2.2.2.1 := fun _ => rfl
  unfold p_read
  split
  · exact h0
  · exact z_ok_rl f len 240 _ (z_ok_pt (s := p_skS f len (p_s0 na H)) h0)
theorem z_bec_at (G H : Nat → Nat → Int32) : (∀ i, i < 12 → p_bec G H 0 i = H 0 i) ∧ (∀ i, i < 9 → p_bec G H 1 i = H 1 i) ∧ (∀ i, i < 6 → p_bec G H 2 i = H 2 i ∧ p_bec G H 3 i = H 3 i ∧ p_bec G H 4 i = H 4 i ∧ p_bec G H 5 i = H 5 i) := by
  have c : ∀ (f g : Nat → Int32) (n i : Nat), i < n → va_cpy f g 0 0 n i = f i := fun f g n i h => by rw [pk_cpy_in (by omega) (by omega), Nat.sub_zero, Nat.zero_add]
  exact ⟨fun i h => c (H 0) (G 0) 12 i h, fun i h => c (H 1) (G 1) 9 i h, fun i h => ⟨c (H 2) (G 2) 6 i h, c (H 3) (G 3) 6 i h, c (H 4) (G 4) 6 i h, c (H 5) (G 5) 6 i h⟩⟩
theorem z_bec_G {M G H : Nat → Nat → Int32} {tc wd cc kc : Nat} (h : m_G M H tc wd cc kc) (htc : tc ≤ 12) (hcc : cc ≤ 9) (hkc : kc ≤ 6) : m_G M (p_bec G H) tc wd cc kc := by
  obtain ⟨h1, h2, h3, h4, h5, h6, h7⟩ := h
  obtain ⟨b0, b1, b2⟩ := z_bec_at G H
  refine ⟨h1, h2, h3, h4, fun i hi => ?_, fun c hc => ?_, fun k hk => ?_⟩
  · rw [b0 i (by omega)]; exact h5 i hi
  · rw [b1 c (by omega)]; exact h6 c hc
  · obtain ⟨c2, c3, c4, c5⟩ := b2 k (by omega)
    rw [c2, c3, c4, c5]; exact h7 k hk
/-- a new Sand -/
def z_new (S : Nat → Nat → Int32) : p_Q := (0, -1, 0, 0, p_rsS S 6)
theorem z_new_en (q : p_Q) (S : Nat → Nat → Int32) : p_zer (en q) 22 = en (z_new S) := by
  have z : ∀ i, i < 22 → p_zer (en q) 22 i = 0 := fun i hi => by rw [p_zer_at, if_pos hi]
  apply en_ext
  · rw [z 0 (by omega)]; rfl
  · rw [z 1 (by omega)]; exact (show (0 : Int32) = -1 + 1 by decide)
  · rw [z 2 (by omega)]; rfl
  · rw [z 3 (by omega)]; rfl
  · intro k hk
    rw [z _ (by omega)]
    show 0 = p_rsS S 6 0 k + 1
    rw [(p_rsS_at S 6 k hk).1]; decide
  · intro k hk
    rw [z _ (by omega)]
    exact (p_rsS_at S 6 k hk).2.1.symm
  · intro k hk
    rw [z _ (by omega)]
    exact (p_rsS_at S 6 k hk).2.2.symm
  · intro i hi
    rw [p_zer_at, if_neg (by omega), en_o q hi]
theorem z_new_I {G : Nat → Nat → Int32} {cc kc : Nat} (S : Nat → Nat → Int32) (hK : ∀ j, j < kc → ∃ t : Nat, G 2 j = nI t ∧ 1 ≤ t ∧ t ≤ 6) : m_I G cc kc (z_new S) := by
  refine ⟨⟨fun j hj => ⟨Or.inl (p_rsS_at S 6 j hj).1, fun hj2 => ?_⟩, fun j hj hs => absurd (show nI j = -1 from hs.symm) (p_nm1 (by omega))⟩, fun j hj _ => (p_rsS_at S 6 j hj).2⟩
  obtain ⟨t, h1, h2, h3⟩ := hK j hj2
  exact ⟨0, t, (p_rsS_at S 6 j hj).2.1, h1, by omega, h2, h3⟩
