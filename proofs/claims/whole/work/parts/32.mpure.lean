/-! more that holds of every state; a storm, by the model and by the class; rows copied, noted -/
def m_nz (S : Nat → Nat → Int32) : Prop := ∀ j, j < 6 → S 0 j = -1 → S 1 j = 0 ∧ S 2 j = 0
theorem m_nz.rm {S : Nat → Nat → Int32} (h : m_nz S) (k : Nat) : m_nz (p_rmS S k) := by
  intro j hj h0
  obtain ⟨a0, a1, a2⟩ := p_rmS_at S k j
  rw [a0] at h0
  rw [a1, a2]
  by_cases e : j = k
  · rw [if_pos e, if_pos e]
    exact ⟨rfl, rfl⟩
  · rw [if_neg e] at h0
    rw [if_neg e, if_neg e]
    exact h j hj h0
theorem m_nz.up {S : Nat → Nat → Int32} (h : m_nz S) (a : Nat) (ha : a = 1 ∨ a = 2) {k : Nat} (hk : ¬ S 0 k = -1) (x : Int32) : m_nz (va_up S a (upd (S a) k x)) := by
  intro j hj h0
  have e0 : va_up S a (upd (S a) k x) 0 = S 0 := by
    unfold va_up
    rw [if_neg (by omega)]
  rw [e0] at h0
  have hjk : ¬ j = k := fun e => hk (by rw [← e]; exact h0)
  have e1 : ∀ b, va_up S a (upd (S a) k x) b j = S b j := by
    intro b
    unfold va_up
    by_cases e : b = a
    · rw [if_pos e, pk_un hjk, e]
    · rw [if_neg e]
  rw [e1, e1]
  exact h j hj h0
theorem m_nz.rmup {S : Nat → Nat → Int32} (h : m_nz S) {k : Nat} (hk : ¬ S 0 k = -1) (x : Int32) : m_nz (p_rmS (va_up S 2 (upd (S 2) k x)) k) := (h.up 2 (Or.inr rfl) hk x).rm k
theorem m_nz.age {G S : Nat → Nat → Int32} (h : m_nz S) (tc wd hh : Nat) {k : Nat} (hk : ¬ S 0 k = -1) (ss : Int32) : m_nz (p_age G tc wd hh k S ss).1 := by
  unfold p_age
  split
  · exact h.rm k
  · split
    · exact h.up 1 (Or.inl rfl) hk _
    · split
      · split
        · exact h.up 2 (Or.inr rfl) hk _
        · exact h.rmup hk _
      · exact h
theorem m_nz.pl {G S : Nat → Nat → Int32} (h : m_nz S) (tc wd hh : Nat) (ss : Int32) (n : Nat) : m_nz (p_pl G tc wd hh S ss n).1 := by
  induction n with
  | zero => exact h
  | succ n ih =>
    unfold p_pl
    split
    · exact ih
    · rename_i hk
      exact ih.age tc wd hh hk _
theorem p_wrS_at (S : Nat → Nat → Int32) (k c j : Nat) : p_wrS S k c 0 j = (if j = k then nI c else S 0 j) ∧ p_wrS S k c 1 j = (if j = k then 0 else S 1 j) ∧ p_wrS S k c 2 j = (if j = k then 0 else S 2 j) := ⟨rfl, rfl, rfl⟩
theorem m_nz.wr {S : Nat → Nat → Int32} (h : m_nz S) (k : Nat) {c : Nat} (hc : c < 100000) : m_nz (p_wrS S k c) := by
  intro j hj h0
  obtain ⟨a0, a1, a2⟩ := p_wrS_at S k c j
  rw [a0] at h0
  rw [a1, a2]
  by_cases e : j = k
  · rw [if_pos e, if_pos e]
    exact ⟨rfl, rfl⟩
  · rw [if_neg e] at h0
    rw [if_neg e, if_neg e]
    exact h j hj h0
theorem m_iv.wr {S : Nat → Nat → Int32} {ss : Int32} {G : Nat → Nat → Int32} {cc kc : Nat} (h : m_iv G cc kc S ss) {k c : Nat} (hk : k < kc) (hkc : kc ≤ 6) (hc : c < cc) (hcc : cc ≤ 9) : m_iv G cc kc (p_wrS S k c) (nI k) := by
  constructor
  · intro j hj
    obtain ⟨h1, h2⟩ := h.1 j hj
    obtain ⟨a0, a1, _⟩ := p_wrS_at S k c j
    rw [a0, a1]
    by_cases e : j = k
    · rw [if_pos e, if_pos e]
      refine ⟨Or.inr ⟨by omega, c, hc, rfl⟩, fun hj2 => ?_⟩
      obtain ⟨n, t, e1, e2, h3, h4, h5⟩ := h2 hj2
      exact ⟨0, t, rfl, e2, by omega, h4, h5⟩
    · rw [if_neg e, if_neg e]
      exact ⟨h1, h2⟩
  · intro j hj hs
    have e : j = k := by
      have := congrArg Int32.toInt hs
      rw [nI_toInt (by omega), nI_toInt (by omega)] at this
      omega
    obtain ⟨a0, a1, _⟩ := p_wrS_at S k c j
    rw [a0, a1, if_pos e, if_pos e]
    refine ⟨by omega, p_nm1 (by omega), ?_⟩
    obtain ⟨n, t, e1, e2, h3, h4, h5⟩ := (h.1 j hj).2 (by omega)
    rw [e2]
    exact (nI_ltI (a := 0) (by omega) (by omega)).mpr (by omega)
/-- all that holds of a state -/
def m_I (G : Nat → Nat → Int32) (cc kc : Nat) (q : p_Q) : Prop := m_iv G cc kc q.2.2.2.2 q.2.1 ∧ m_nz q.2.2.2.2
theorem m_I.ok {q : p_Q} {G : Nat → Nat → Int32} {cc kc : Nat} (h : m_I G cc kc q) : m_ok q G cc kc := h.1.ok
theorem m_I.pok {q : p_Q} {G : Nat → Nat → Int32} {cc kc : Nat} (h : m_I G cc kc q) (hkc : kc ≤ 6) : p_ok q.2.2.2.2 cc kc := by
  intro k hk
  rcases (h.1.1 k (by omega)).1 with z | ⟨_, c, hc, z⟩
  · exact Or.inl z
  · exact Or.inr ⟨c, hc, z⟩
theorem m_I.pass {q : p_Q} {G : Nat → Nat → Int32} {cc kc : Nat} (h : m_I G cc kc q) (tc wd : Nat) (hkc : kc ≤ 6) : m_I G cc kc (p_pass G tc wd kc q) := ⟨h.1.pass tc wd hkc, h.2.pl tc wd q.1 q.2.1 kc⟩
theorem m_I.it {q : p_Q} {G : Nat → Nat → Int32} {cc kc : Nat} (h : m_I G cc kc q) (tc wd : Nat) (hkc : kc ≤ 6) (n : Nat) : m_I G cc kc (p_it G tc wd kc q n) := by
  induction n with
  | zero => exact h
  | succ n ih => exact ih.pass tc wd hkc
theorem m_I.wr {q : p_Q} {G : Nat → Nat → Int32} {cc kc : Nat} (h : m_I G cc kc q) {k c : Nat} (hk : k < kc) (hkc : kc ≤ 6) (hc : c < cc) (hcc : cc ≤ 9) : m_I G cc kc (p_wr q k c) := ⟨h.1.wr hk hkc hc hcc, h.2.wr k (by omega)⟩
theorem m_I.rb {q : p_Q} {G : Nat → Nat → Int32} {cc kc : Nat} (h : m_I G cc kc q) (k : Nat) : m_I G cc kc (p_rb q k) := ⟨h.1.rm k, h.2.rm k⟩
theorem m_I.sw {q : p_Q} {G : Nat → Nat → Int32} {cc kc : Nat} (h : m_I G cc kc q) (n : Nat) : m_I G cc kc (p_sw q n) := by
  induction n with
  | zero => exact h
  | succ n ih => exact ih.rb n
theorem p_upd_i (f : Nat → Int32) (k : Nat) {x : Int32} (h : f k = x) : upd f k x = f := by
  funext j
  by_cases e : j = k
  · subst e
    rw [pk_us, h]
  · rw [pk_un e]
theorem p_rmS_id {S : Nat → Nat → Int32} {k : Nat} (h0 : S 0 k = -1) (h1 : S 1 k = 0) (h2 : S 2 k = 0) : p_rmS S k = S := by
  unfold p_rmS
  rw [p_upd_i _ _ h0, p_upd_i _ _ h1, p_upd_i _ _ h2, va_up_i S 0, va_up_i S 1, va_up_i S 2]
theorem p_rb_id {q : p_Q} {G : Nat → Nat → Int32} {cc kc k : Nat} (h : m_I G cc kc q) (hk : k < 6) (h0 : q.2.2.2.2 0 k = -1) : p_rb q k = q := by
  obtain ⟨h1, h2⟩ := h.2 k hk h0
  unfold p_rb p_rms
  rw [p_rmS_id h0 h1 h2, if_neg (fun z => (h.1.2 k hk z).2.1 h0)]
theorem p_sw_ra {q : p_Q} {G : Nat → Nat → Int32} {cc kc : Nat} (h : m_I G cc kc q) (hcc : cc ≤ 9) (hkc : kc ≤ 6) {n : Nat} (hn : n ≤ kc) : p_sw q n = p_sm q n ∧ m_swc q n = (p_ra q.2.2.2.2 q.2.1 n).2.2 := by
  induction n with
  | zero => exact ⟨rfl, rfl⟩
  | succ n ih =>
    obtain ⟨i1, i2⟩ := ih (by omega)
    have hI := h.sw n
    have e : (p_ra q.2.2.2.2 q.2.1 n).1 = (p_sw q n).2.2.2.2 := by rw [i1]; rfl
    have e2 : (p_ra q.2.2.2.2 q.2.1 n).2.1 = (p_sw q n).2.1 := by rw [i1]; rfl
    have hp := m_pos (x := (p_sw q n).2.2.2.2 0 n) hcc (hI.1.1 n (by omega)).1
    by_cases c : (p_sw q n).2.2.2.2 0 n = -1
    · have er : p_ra q.2.2.2.2 q.2.1 (n + 1) = p_ra q.2.2.2.2 q.2.1 n := by
        show (if _ then _ else _) = _
        rw [if_pos (by rw [e]; exact c)]
      constructor
      · show p_rb (p_sw q n) n = _
        rw [p_rb_id hI (by omega) c, i1]
        unfold p_sm
        rw [er]
      · rw [er, ← i2]
        show (if _ then _ else _) = _
        rw [if_neg (Int32.not_lt.mpr (hp.mpr c))]
    · have er : p_ra q.2.2.2.2 q.2.1 (n + 1) = (p_rmS (p_sw q n).2.2.2.2 n, p_rms (p_sw q n).2.1 n, m_swc q n + 1) := by
        show (if _ then _ else _) = _
        rw [if_neg (by rw [e]; exact c), e, e2, i2]
      have f1 : (p_sw q n).1 = q.1 := by rw [i1]; rfl
      have f3 : (p_sw q n).2.2.1 = q.2.2.1 := by rw [i1]; rfl
      have f4 : (p_sw q n).2.2.2.1 = q.2.2.2.1 := by rw [i1]; rfl
      constructor
      · show p_rb (p_sw q n) n = _
        unfold p_sm p_rb
        rw [er, f1, f3, f4]
      · rw [er]
        show (if _ then _ else _) = _
        rw [if_pos (Int32.not_le.mp (fun z => c (hp.mp z)))]
theorem p_sw_hi {q : p_Q} {G : Nat → Nat → Int32} {cc kc : Nat} (h : m_I G cc kc q) (hcc : cc ≤ 9) {n : Nat} (hn : kc + n ≤ 6) : p_sw q (kc + n) = p_sw q kc ∧ m_swc q (kc + n) = m_swc q kc := by
  induction n with
  | zero => exact ⟨rfl, rfl⟩
  | succ n ih =>
    obtain ⟨i1, i2⟩ := ih (by omega)
    have hI := h.sw (kc + n)
    have c : (p_sw q (kc + n)).2.2.2.2 0 (kc + n) = -1 := (hI.1.1 (kc + n) (by omega)).1.resolve_right (fun z => by have := z.1; omega)
    have hp := m_pos (x := (p_sw q (kc + n)).2.2.2.2 0 (kc + n)) hcc (hI.1.1 (kc + n) (by omega)).1
    constructor
    · show p_rb (p_sw q (kc + n)) (kc + n) = _
      rw [p_rb_id hI (by omega) c, i1]
    · exact (if_neg (Int32.not_lt.mpr (hp.mpr c))).trans i2
theorem p_sw_sm {q : p_Q} {G : Nat → Nat → Int32} {cc kc : Nat} (h : m_I G cc kc q) (hcc : cc ≤ 9) (hkc : kc ≤ 6) : p_sw q 6 = p_sm q kc ∧ m_swc q 6 = (p_ra q.2.2.2.2 q.2.1 kc).2.2 := by
  obtain ⟨a, b⟩ := p_sw_ra h hcc hkc (Nat.le_refl kc)
  obtain ⟨c, d⟩ := p_sw_hi h hcc (n := 6 - kc) (by omega)
  rw [show kc + (6 - kc) = 6 by omega] at c d
  exact ⟨c.trans a, d.trans b⟩
theorem m_I.sm {q : p_Q} {G : Nat → Nat → Int32} {cc kc : Nat} (h : m_I G cc kc q) (hcc : cc ≤ 9) (hkc : kc ≤ 6) : m_I G cc kc (p_sm q kc) := by
  rw [← (p_sw_sm h hcc hkc).1]
  exact h.sw 6
theorem p_cin_more (f : Nat → Int32) (c : Int32) (k n m : Nat) (h : ∀ j, k + n ≤ j → j < k + n + m → ¬ f j = c) : p_cin f c k (n + m) = p_cin f c k n := by
  induction n generalizing k with
  | zero =>
    rw [Nat.zero_add]
    induction m generalizing k with
    | zero => rfl
    | succ m ih =>
      show (if _ then _ else _) = _
      rw [if_neg (h k (by omega) (by omega))]
      exact ih (k + 1) (fun j h1 h2 => h j (by omega) (by omega))
  | succ n ih =>
    rw [show n + 1 + m = (n + m) + 1 by omega]
    show (if _ then _ else _) = (if _ then _ else _)
    split
    · rfl
    · exact ih (k + 1) (fun j h1 h2 => h j (by omega) (by omega))
theorem p_cin_6 {q : p_Q} {G : Nat → Nat → Int32} {cc kc : Nat} (h : m_I G cc kc q) (hkc : kc ≤ 6) {c : Nat} (hc : c < 100000) : p_cin (q.2.2.2.2 0) (nI c) 0 6 = p_cin (q.2.2.2.2 0) (nI c) 0 kc := by
  have e := p_cin_more (q.2.2.2.2 0) (nI c) 0 kc (6 - kc) (fun j h1 h2 z => by
    have := (h.1.1 j (by omega)).1.resolve_right (fun z => by have := z.1; omega)
    rw [this] at z
    exact absurd z.symm (p_nm1 (by omega)))
  rw [show kc + (6 - kc) = 6 by omega] at e
  exact e
theorem p_may_m {q : p_Q} {G : Nat → Nat → Int32} {cc kc : Nat} (h : m_I G cc kc q) (hkc : kc ≤ 6) (tc k : Nat) {c : Nat} (hc : c < 100000) : p_may q.2.2.2.2 G q.2.1 tc kc q.1 k c = (decide (q.2.1 = -1) && m_may q G tc k c) := by
  unfold p_may m_may
  rw [p_cin_6 h hkc hc]
theorem m_I.d1 {x : p_Q × Int32} {G : Nat → Nat → Int32} {tc cc kc : Nat} (h : m_I G cc kc x.1) (hcc : cc ≤ 9) (hkc : kc ≤ 6) : m_I G cc kc (p_d1 G tc cc kc x).1 := by
  unfold p_d1
  split
  · rename_i h2
    split
    · exact h.wr (p_dr_lt _ h2.1) hkc (p_dr_lt _ h2.2) hcc
    · exact h
  · exact h
theorem m_I.dd {x : p_Q × Int32} {G : Nat → Nat → Int32} {tc cc kc : Nat} (h : m_I G cc kc x.1) (hcc : cc ≤ 9) (hkc : kc ≤ 6) : m_I G cc kc (p_dd G tc cc kc x).1 := by
  unfold p_dd
  have h1 := h.d1 (tc := tc) hcc hkc
  show m_I G cc kc (if _ then _ else _)
  split
  · exact h1.sm hcc hkc
  · exact h1
theorem m_I.df {x : p_Q × Int32} {G : Nat → Nat → Int32} {tc wd cc kc : Nat} (h : m_I G cc kc x.1) (hcc : cc ≤ 9) (hkc : kc ≤ 6) (n : Nat) : m_I G cc kc (p_df G tc wd cc kc x n).1 := by
  induction n with
  | zero => exact h
  | succ n ih => exact (ih.dd (tc := tc) hcc hkc).pass tc wd hkc
theorem en_cpy (q t : p_Q) : va_cpy (en q) (en t) 0 0 22 = en q := by
  funext i
  by_cases e : i < 22
  · rw [pk_cpy_in (by omega) (by omega), Nat.sub_zero, Nat.zero_add]
  · rw [pk_cpy_out (by omega), en_o q (by omega), en_o t (by omega)]
theorem en_cpr {f : Nat → Int32} {a : Nat} {q : p_Q} (t : p_Q) (h : ∀ i, i < 22 → f (a + i) = en q i) : va_cpy f (en t) a 0 22 = en q := by
  funext i
  by_cases e : i < 22
  · rw [pk_cpy_in (by omega) (by omega), Nat.sub_zero, h i e]
  · rw [pk_cpy_out (by omega), en_o q (by omega), en_o t (by omega)]
theorem en_agq {q r : p_Q} (h : p_agq q r) : en q = en r := by
  obtain ⟨h1, h2, h3, h4, h5⟩ := h
  apply en_ext
  · rw [en_0, h1]
  · rw [en_1, h2]
  · rw [en_2, h3]
  · rw [en_3, h4]
  · intro k hk; rw [en_c q hk, h5 0 (by omega) k hk]
  · intro k hk; rw [en_w q hk, h5 1 (by omega) k hk]
  · intro k hk; rw [en_d q hk, h5 2 (by omega) k hk]
  · intro i hi; rw [en_o q hi]
theorem m_I.ag {q r : p_Q} {G : Nat → Nat → Int32} {cc kc : Nat} (h : m_I G cc kc q) (ha : p_agq q r) : m_I G cc kc r := by
  obtain ⟨h1, h2, h3, h4, h5⟩ := ha
  obtain ⟨⟨i1, i2⟩, i3⟩ := h
  refine ⟨⟨fun j hj => ?_, fun j hj hs => ?_⟩, fun j hj h0 => ?_⟩
  · rw [← h5 0 (by omega) j hj, ← h5 1 (by omega) j hj]
    exact i1 j hj
  · rw [← h5 0 (by omega) j hj, ← h5 1 (by omega) j hj]
    exact i2 j hj (by rw [h2]; exact hs)
  · rw [← h5 1 (by omega) j hj, ← h5 2 (by omega) j hj]
    exact i3 j hj (by rw [h5 0 (by omega) j hj]; exact h0)
/-- the deeds' rows moved up by one, k numbers of them so far -/
def m_shf (f : Nat → Int32) (k i : Nat) : Int32 := if i < k then f (i + 22) else f i
theorem m_shf_s (f : Nat → Int32) (k : Nat) : upd (m_shf f k) k (m_shf f k (k + 22)) = m_shf f (k + 1) := by
  funext i
  unfold m_shf
  by_cases e : i = k
  · subst e
    rw [pk_us, if_neg (by omega), if_pos (by omega)]
  · rw [pk_un e]
    by_cases e2 : i < k
    · rw [if_pos e2, if_pos (by omega)]
    · rw [if_neg e2, if_neg (by omega)]
theorem m_shf_0 (f : Nat → Int32) : m_shf f 0 = f := by
  funext i
  exact if_neg (by omega)
/-- what notes leaves of the rows, and of their count -/
def m_nt (f e : Nat → Int32) (dd : Nat) : Nat → Int32 := if dd = 30 then va_cpy e (m_shf f 638) 0 638 22 else va_cpy e f 0 (22 * dd) 22
def m_nd (dd : Nat) : Nat := if dd = 30 then 30 else dd + 1
theorem m_nd_le {dd : Nat} (h : dd ≤ 30) : m_nd dd ≤ 30 := by
  unfold m_nd
  split <;> omega
theorem m_nd_min {dd : Nat} (h : dd ≤ 30) : m_nd dd = min (dd + 1) 30 := by
  unfold m_nd
  split <;> omega
/-- deeds, i of them, where f tells the states ahead of them -/
def m_np (f : Nat → Int32) (dd : Nat) (s : Nat → p_Q) : Nat → (Nat → Int32) × Nat
  | 0 => (f, dd)
  | i + 1 => (m_nt (m_np f dd s i).1 (en (s i)) (m_np f dd s i).2, m_nd (m_np f dd s i).2)
theorem m_np_le {f : Nat → Int32} {dd : Nat} {s : Nat → p_Q} (h : dd ≤ 30) (i : Nat) : (m_np f dd s i).2 ≤ 30 := by
  induction i with
  | zero => exact h
  | succ i ih => exact m_nd_le ih
theorem m_np_1 (f : Nat → Int32) (dd : Nat) (s : Nat → p_Q) (i : Nat) : (m_np f dd s (i + 1)).1 = m_nt (m_np f dd s i).1 (en (s i)) (m_np f dd s i).2 := rfl
theorem m_np_2 (f : Nat → Int32) (dd : Nat) (s : Nat → p_Q) (i : Nat) : (m_np f dd s (i + 1)).2 = m_nd (m_np f dd s i).2 := rfl
theorem m_np_01 (f : Nat → Int32) (dd : Nat) (s : Nat → p_Q) : (m_np f dd s 0).1 = f := rfl
theorem m_np_02 (f : Nat → Int32) (dd : Nat) (s : Nat → p_Q) : (m_np f dd s 0).2 = dd := rfl
