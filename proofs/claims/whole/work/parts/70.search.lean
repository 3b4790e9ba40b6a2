/-! plan: the class's search and the model's, against one fold over all plans -/
def z_vb (set : Int32) (dp : Nat) (w c : Nat → Nat) : Bool := p_all (fun p => !decide (p_bit set (nI (w p)) = 0) && p_all (fun r => !decide (w r = w p) && !decide (c r = c p)) p) dp
theorem z_vb_s (set : Int32) (dp : Nat) (w c : Nat → Nat) : z_vb set (dp + 1) w c = (z_vb set dp w c && (!decide (p_bit set (nI (w dp)) = 0) && p_all (fun r => !decide (w r = w dp) && !decide (c r = c dp)) dp)) := rfl
theorem z_vb_c {set : Int32} {n : Nat} {w c w' c' : Nat → Nat} (h : ∀ j, j < n → w j = w' j ∧ c j = c' j) : z_vb set n w c = z_vb set n w' c' := by
  unfold z_vb
  refine p_all_cg (fun p hp => ?_)
  rw [(h p hp).1, (h p hp).2]
  congr 1
  refine p_all_cg (fun r hr => ?_)
  rw [(h r (by omega)).1, (h r (by omega)).2]
theorem z_fu_c {G : Nat → Nat → Int32} {tc wd st n : Nat} {w c w' c' : Nat → Nat} (h : ∀ j, j < n → w j = w' j ∧ c j = c' j) : z_fu G tc wd w c st n = z_fu G tc wd w' c' st n := by
  induction n with
  | zero => rfl
  | succ n ih =>
    have i2 := ih (fun j hj => h j (by omega))
    show (p_dn G tc (c n) (z_fu G tc wd w c st n).1 (z_fu G tc wd w c st n).2 (w n), p_en G tc wd (c n) (z_fu G tc wd w c st n).1 (z_fu G tc wd w c st n).2 (w n)) = (p_dn G tc (c' n) (z_fu G tc wd w' c' st n).1 (z_fu G tc wd w' c' st n).2 (w' n), p_en G tc wd (c' n) (z_fu G tc wd w' c' st n).1 (z_fu G tc wd w' c' st n).2 (w' n))
    rw [i2, (h n (by omega)).1, (h n (by omega)).2]
def z_sp (G : Nat → Nat → Int32) (tc wd : Nat) (set : Int32) (m st dp : Nat) (w c : Nat → Nat) (s : p_S) : p_S := if z_vb set dp w c = true ∧ (z_fu G tc wd w c st dp).1 + m - 1 ≤ (z_fu G tc wd w c st dp).2 ∧ (z_fu G tc wd w c st dp).1 + m - 1 - st < s.1 then ((z_fu G tc wd w c st dp).1 + m - 1 - st, fun p => nI (w p + 10 * c p)) else s
def z_all (G : Nat → Nat → Int32) (tc wd cc kc : Nat) (set : Int32) (m st : Nat) : Nat → Nat → Nat → p_S → p_S
  | 0, dp, E, s => z_sp G tc wd set m st dp (m_who cc kc dp E) (m_whe cc kc dp E) s
  | f + 1, dp, E, s => p_lp (fun k => p_lp (fun c => z_all G tc wd cc kc set m st f (dp + 1) ((E * kc + k) * cc + c)) cc) kc s
theorem z_lp_id {f : Nat → p_S → p_S} {n : Nat} {s : p_S} (h : ∀ i, i < n → f i s = s) : p_lp f n s = s := by
  induction n with
  | zero => rfl
  | succ n ih => rw [p_lp_s, ih (fun i hi => h i (by omega)), h n (by omega)]
theorem z_lp_c {f g : Nat → p_S → p_S} {n : Nat} (h : ∀ i, i < n → ∀ s, f i s = g i s) (s : p_S) : p_lp f n s = p_lp g n s := by
  induction n with
  | zero => rfl
  | succ n ih => rw [p_lp_s, p_lp_s, ih (fun i hi => h i (by omega)), h n (by omega)]
theorem z_lp_add (g : Nat → p_S → p_S) (a b : Nat) (s : p_S) : p_lp g (a + b) s = p_lp (fun i => g (a + i)) b (p_lp g a s) := by
  induction b with
  | zero => rfl
  | succ b ih => rw [← Nat.add_assoc, p_lp_s, p_lp_s, ih]
theorem z_lp_mul (g : Nat → p_S → p_S) (a b : Nat) (s : p_S) : p_lp (fun k => p_lp (fun i => g (k * b + i)) b) a s = p_lp g (a * b) s := by
  induction a with
  | zero => rw [Nat.zero_mul]; rfl
  | succ a ih => rw [p_lp_s, ih, Nat.succ_mul, z_lp_add]
theorem z_all_lp (G : Nat → Nat → Int32) (tc wd cc kc : Nat) (set : Int32) (m st f : Nat) : ∀ dp E s, z_all G tc wd cc kc set m st f dp E s = p_lp (fun i => z_sp G tc wd set m st (dp + f) (m_who cc kc (dp + f) (E * m_T cc kc f + i)) (m_whe cc kc (dp + f) (E * m_T cc kc f + i))) (m_T cc kc f) s := by
  induction f with
  | zero =>
    intro dp E s
    show z_sp G tc wd set m st dp (m_who cc kc dp E) (m_whe cc kc dp E) s = z_sp G tc wd set m st (dp + 0) (m_who cc kc (dp + 0) (E * 1 + 0)) (m_whe cc kc (dp + 0) (E * 1 + 0)) s
    rw [Nat.mul_one, Nat.add_zero, Nat.add_zero]
  | succ f ih =>
    intro dp E s
    show p_lp (fun k => p_lp (fun c => z_all G tc wd cc kc set m st f (dp + 1) ((E * kc + k) * cc + c)) cc) kc s = p_lp _ (m_T cc kc f * cc * kc) s
    obtain ⟨T, hT⟩ : ∃ T, T = m_T cc kc f := ⟨_, rfl⟩
    have hT2 : m_T cc kc (f + 1) = T * cc * kc := by rw [hT]; rfl
    rw [hT2, ← hT, Nat.mul_comm (T * cc) kc, ← z_lp_mul _ kc (T * cc) s]
    refine z_lp_c (fun k hk s => ?_) s
    rw [Nat.mul_comm T cc, ← z_lp_mul _ cc T s]
    refine z_lp_c (fun c hc s => ?_) s
    rw [ih (dp + 1) ((E * kc + k) * cc + c) s, ← hT]
    refine z_lp_c (fun i hi s => ?_) s
    have e : ((E * kc + k) * cc + c) * T + i = E * (kc * (cc * T)) + (k * (cc * T) + (c * T + i)) := by
      rw [Nat.add_mul, Nat.add_mul, Nat.add_mul, Nat.mul_assoc, Nat.mul_assoc, Nat.mul_assoc]
      omega
    rw [e, show dp + 1 + f = dp + (f + 1) by omega]
theorem z_r_c (cc kc j e : Nat) : m_r cc kc (j + 1) e = m_r cc kc j (e / cc / kc) := by
  induction j with
  | zero => rfl
  | succ j ih => rw [m_r_s, ih, m_r_s]
section
variable {cc kc dp E k c : Nat}
theorem z_dg (hk : k < kc) (hc : c < cc) : ((E * kc + k) * cc + c) / cc = E * kc + k ∧ ((E * kc + k) * cc + c) % cc = c ∧ (E * kc + k) / kc = E ∧ (E * kc + k) % kc = k := by
  refine ⟨?_, ?_, ?_, ?_⟩
  · rw [Nat.mul_comm, Nat.mul_add_div (by omega), Nat.div_eq_of_lt hc, Nat.add_zero]
  · rw [Nat.mul_comm, Nat.mul_add_mod, Nat.mod_eq_of_lt hc]
  · rw [Nat.mul_comm, Nat.mul_add_div (by omega), Nat.div_eq_of_lt hk, Nat.add_zero]
  · rw [Nat.mul_comm, Nat.mul_add_mod, Nat.mod_eq_of_lt hk]
theorem z_pre (hk : k < kc) (hc : c < cc) {p : Nat} (hp : p < dp) : m_who cc kc (dp + 1) ((E * kc + k) * cc + c) p = m_who cc kc dp E p ∧ m_whe cc kc (dp + 1) ((E * kc + k) * cc + c) p = m_whe cc kc dp E p := by
  obtain ⟨a, b, d, e⟩ := z_dg (E := E) hk hc
  unfold m_who m_whe
  rw [show dp + 1 - 1 - p = (dp - 1 - p) + 1 by omega, z_r_c, a, d]
  exact ⟨rfl, rfl⟩
theorem z_lst (hk : k < kc) (hc : c < cc) : m_who cc kc (dp + 1) ((E * kc + k) * cc + c) dp = k ∧ m_whe cc kc (dp + 1) ((E * kc + k) * cc + c) dp = c := by
  obtain ⟨a, b, d, e⟩ := z_dg (E := E) hk hc
  unfold m_who m_whe
  rw [show dp + 1 - 1 - dp = 0 by omega]
  show ((E * kc + k) * cc + c) / cc % kc = k ∧ ((E * kc + k) * cc + c) % cc = c
  rw [a]
  exact ⟨e, b⟩
theorem z_vb_e (hk : k < kc) (hc : c < cc) (set : Int32) : z_vb set (dp + 1) (m_who cc kc (dp + 1) ((E * kc + k) * cc + c)) (m_whe cc kc (dp + 1) ((E * kc + k) * cc + c)) = (z_vb set dp (m_who cc kc dp E) (m_whe cc kc dp E) && (!decide (p_bit set (nI k) = 0) && p_all (fun r => !decide (m_who cc kc dp E r = k) && !decide (m_whe cc kc dp E r = c)) dp)) := by
  rw [z_vb_s, z_vb_c (fun j hj => z_pre (E := E) hk hc hj), (z_lst (E := E) (dp := dp) hk hc).1, (z_lst (E := E) (dp := dp) hk hc).2]
  congr 2
  refine p_all_cg (fun r hr => ?_)
  rw [(z_pre (E := E) hk hc hr).1, (z_pre (E := E) hk hc hr).2]
theorem z_fu_e (hk : k < kc) (hc : c < cc) (G : Nat → Nat → Int32) (tc wd st : Nat) : z_fu G tc wd (m_who cc kc (dp + 1) ((E * kc + k) * cc + c)) (m_whe cc kc (dp + 1) ((E * kc + k) * cc + c)) st (dp + 1) = (p_dn G tc c (z_fu G tc wd (m_who cc kc dp E) (m_whe cc kc dp E) st dp).1 (z_fu G tc wd (m_who cc kc dp E) (m_whe cc kc dp E) st dp).2 k, p_en G tc wd c (z_fu G tc wd (m_who cc kc dp E) (m_whe cc kc dp E) st dp).1 (z_fu G tc wd (m_who cc kc dp E) (m_whe cc kc dp E) st dp).2 k) := by
  show (p_dn G tc _ _ _ _, p_en G tc wd _ _ _ _) = _
  rw [z_fu_c (fun j hj => z_pre (E := E) hk hc hj), (z_lst (E := E) (dp := dp) hk hc).1, (z_lst (E := E) (dp := dp) hk hc).2]
end
theorem z_hop (G : Nat → Nat → Int32) (tc wd cc kc : Nat) (set : Int32) (m st f : Nat) (s : p_S) : ∀ dp E, ¬ (z_vb set dp (m_who cc kc dp E) (m_whe cc kc dp E) = true ∧ (z_fu G tc wd (m_who cc kc dp E) (m_whe cc kc dp E) st dp).1 + m - 1 ≤ (z_fu G tc wd (m_who cc kc dp E) (m_whe cc kc dp E) st dp).2 ∧ (z_fu G tc wd (m_who cc kc dp E) (m_whe cc kc dp E) st dp).1 + m - 1 - st < s.1) → z_all G tc wd cc kc set m st f dp E s = s := by
  induction f with
  | zero => intro dp E h; exact if_neg h
  | succ f ih =>
    intro dp E h
    refine z_lp_id (fun k hk => z_lp_id (fun c hc => ih (dp + 1) _ (fun h2 => h ?_)))
    obtain ⟨a, b, d⟩ := h2
    rw [z_vb_e hk hc, Bool.and_eq_true] at a
    rw [z_fu_e hk hc] at b d
    refine ⟨a.1, ?_⟩
    have h1 : (z_fu G tc wd (m_who cc kc dp E) (m_whe cc kc dp E) st dp).1 ≤ p_bg G tc c (z_fu G tc wd (m_who cc kc dp E) (m_whe cc kc dp E) st dp).1 (z_fu G tc wd (m_who cc kc dp E) (m_whe cc kc dp E) st dp).2 := p_fst_ge _ _ _
    have h2 : p_en G tc wd c (z_fu G tc wd (m_who cc kc dp E) (m_whe cc kc dp E) st dp).1 (z_fu G tc wd (m_who cc kc dp E) (m_whe cc kc dp E) st dp).2 k ≤ (z_fu G tc wd (m_who cc kc dp E) (m_whe cc kc dp E) st dp).2 := Nat.min_le_left _ _
    simp only [p_dn] at b d
    omega
theorem z_o10 : ∀ a, a < 6 → ∀ b, b < 9 → nI (a + 10 * b) / 10 = nI b ∧ nI (a + 10 * b) - nI (a + 10 * b) / 10 * 10 = nI a := by decide +kernel
theorem z_isp {O : Nat → Int32} {dp : Nat} {w c : Nat → Nat} (hO : ∀ i, i < dp → O i = nI (w i + 10 * c i) ∧ w i < 6 ∧ c i < 9) {k : Nat} (hk : k < 6) : p_isp O dp k = !p_all (fun r => !decide (w r = k)) dp := by
  unfold p_isp
  congr 1
  refine p_all_cg (fun r hr => ?_)
  obtain ⟨a, b, d⟩ := hO r hr
  rw [a, (z_o10 (w r) b (c r) d).2]
  by_cases e : w r = k
  · rw [e, decide_eq_true rfl, decide_eq_true rfl]
  · rw [decide_eq_false e, decide_eq_false (fun q => e (z_ne (by omega) (by omega) q))]
theorem z_ist {O : Nat → Int32} {dp : Nat} {w c : Nat → Nat} (hO : ∀ i, i < dp → O i = nI (w i + 10 * c i) ∧ w i < 6 ∧ c i < 9) {k : Nat} (hk : k < 9) : p_ist O dp k = !p_all (fun r => !decide (c r = k)) dp := by
  unfold p_ist
  congr 1
  refine p_all_cg (fun r hr => ?_)
  obtain ⟨a, b, d⟩ := hO r hr
  rw [a, (z_o10 (w r) b (c r) d).1]
  by_cases e : c r = k
  · rw [e, decide_eq_true rfl, decide_eq_true rfl]
  · rw [decide_eq_false e, decide_eq_false (fun q => e (z_ne (by omega) (by omega) q))]
theorem z_all_and (P Q : Nat → Bool) (n : Nat) : p_all (fun r => P r && Q r) n = (p_all P n && p_all Q n) := by
  rw [Bool.eq_iff_iff, Bool.and_eq_true, p_all_iff, p_all_iff, p_all_iff]
  constructor
  · intro h; exact ⟨fun k hk => (Bool.and_eq_true _ _ ▸ h k hk : P k = true ∧ Q k = true).1, fun k hk => (Bool.and_eq_true _ _ ▸ h k hk : P k = true ∧ Q k = true).2⟩
  · intro h k hk; rw [h.1 k hk, h.2 k hk]; rfl
theorem z_plc (G : Nat → Nat → Int32) (tc wd cc kc : Nat) (hcc : cc ≤ 9) (hkc : kc ≤ 6) (set : Int32) (m st sz f : Nat) : ∀ (dp E : Nat) (O : Nat → Int32) (fr un : Nat) (s t : p_S), dp + f = sz → (∀ i, i < dp → O i = nI (m_who cc kc dp E i + 10 * m_whe cc kc dp E i) ∧ m_who cc kc dp E i < 6 ∧ m_whe cc kc dp E i < 9) → (fr, un) = z_fu G tc wd (m_who cc kc dp E) (m_whe cc kc dp E) st dp → z_vb set dp (m_who cc kc dp E) (m_whe cc kc dp E) = true → p_sq sz s t → p_sq sz (p_plc G tc wd cc kc set m st f dp O fr un s) (z_all G tc wd cc kc set m st f dp E t) := by
  induction f with
  | zero =>
    intro dp E O fr un s t hsz hO hf hv hq
    have e1 : fr = (z_fu G tc wd (m_who cc kc dp E) (m_whe cc kc dp E) st dp).1 := congrArg Prod.fst hf
    have e2 : un = (z_fu G tc wd (m_who cc kc dp E) (m_whe cc kc dp E) st dp).2 := congrArg Prod.snd hf
    show p_sq sz (p_off m st O fr un s) (z_sp G tc wd set m st dp (m_who cc kc dp E) (m_whe cc kc dp E) t)
    unfold p_off z_sp p_bet
    rw [← e1, ← e2, hv, ← hq.1]
    simp only [Bool.and_eq_true, Bool.not_eq_true', decide_eq_false_iff_not, decide_eq_true_eq, true_and]
    by_cases c : ¬ un < fr + m - 1 ∧ fr + m - 1 - st < s.1
    · rw [if_pos c, if_pos ⟨by omega, c.2⟩]
      exact ⟨rfl, fun i hi => (hO i (by omega)).1⟩
    · rw [if_neg c, if_neg (fun q => c ⟨by omega, q.2⟩)]
      exact hq
  | succ f ih =>
    intro dp E O fr un s t hsz hO hf hv hq
    have e1 : (z_fu G tc wd (m_who cc kc dp E) (m_whe cc kc dp E) st dp).1 = fr := (congrArg Prod.fst hf).symm
    have e2 : (z_fu G tc wd (m_who cc kc dp E) (m_whe cc kc dp E) st dp).2 = un := (congrArg Prod.snd hf).symm
    show p_sq sz (p_lp (p_Fk G tc wd cc set m st (p_plc G tc wd cc kc set m st f (dp + 1)) dp O fr un) kc s) (p_lp (fun k => p_lp (fun c => z_all G tc wd cc kc set m st f (dp + 1) ((E * kc + k) * cc + c)) cc) kc t)
    refine p_lp_cg (fun k s t hk hq => ?_) hq
    have hvb : ∀ c, c < cc → z_vb set (dp + 1) (m_who cc kc (dp + 1) ((E * kc + k) * cc + c)) (m_whe cc kc (dp + 1) ((E * kc + k) * cc + c)) = (!decide (p_bit set (nI k) = 0) && (!p_isp O dp k && !p_ist O dp c)) := by
      intro c hc
      rw [z_vb_e hk hc, hv, Bool.true_and, z_all_and, z_isp hO (by omega), z_ist hO (by omega), Bool.not_not, Bool.not_not]
    unfold p_Fk
    by_cases c1 : p_bit set (nI k) = 0
    · rw [if_pos c1, z_lp_id]
      · exact hq
      · intro c hc
        refine z_hop G tc wd cc kc set m st f t (dp + 1) _ (fun h => ?_)
        rw [hvb c hc, decide_eq_true c1] at h
        exact absurd h.1 (by simp)
    · rw [if_neg c1]
      by_cases c2 : p_isp O dp k = true
      · rw [if_pos c2, z_lp_id]
        · exact hq
        · intro c hc
          refine z_hop G tc wd cc kc set m st f t (dp + 1) _ (fun h => ?_)
          rw [hvb c hc, c2] at h
          exact absurd h.1 (by simp)
      · rw [if_neg c2]
        refine p_lp_cg (fun c s t hc hq => ?_) hq
        unfold p_Fc
        by_cases c3 : p_ist O dp c = true
        · rw [if_pos c3, z_hop G tc wd cc kc set m st f t (dp + 1) _ (fun h => ?_)]
          · exact hq
          · rw [hvb c hc, c3] at h
            exact absurd h.1 (by simp)
        · rw [if_neg c3]
          have hv2 : z_vb set (dp + 1) (m_who cc kc (dp + 1) ((E * kc + k) * cc + c)) (m_whe cc kc (dp + 1) ((E * kc + k) * cc + c)) = true := by
            rw [hvb c hc, decide_eq_false c1, Bool.eq_false_iff.mpr c2, Bool.eq_false_iff.mpr c3]; rfl
          have hfu := z_fu_e (dp := dp) (E := E) hk hc G tc wd st
          rw [e1, e2] at hfu
          by_cases c4 : p_bet m st (p_dn G tc c fr un k) (p_en G tc wd c fr un k) s.1 = true
          · rw [if_pos c4]
            refine ih (dp + 1) ((E * kc + k) * cc + c) (upd O dp (nI (k + 10 * c))) _ _ s t (by omega) (fun i hi => ?_) hfu.symm hv2 hq
            by_cases ei : i = dp
            · rw [ei, pk_us, (z_lst (E := E) (dp := dp) hk hc).1, (z_lst (E := E) (dp := dp) hk hc).2]
              exact ⟨rfl, by omega, by omega⟩
            · rw [pk_un ei, (z_pre (E := E) (dp := dp) hk hc (show i < dp by omega)).1, (z_pre (E := E) (dp := dp) hk hc (show i < dp by omega)).2]
              exact hO i (by omega)
          · rw [if_neg c4, z_hop G tc wd cc kc set m st f t (dp + 1) _ (fun h => c4 ?_)]
            · exact hq
            · obtain ⟨_, h2, h3⟩ := h
              rw [hfu] at h2 h3
              rw [← hq.1] at h3
              unfold p_bet
              rw [decide_eq_false (show ¬ p_en G tc wd c fr un k < p_dn G tc c fr un k + m - 1 by have : p_dn G tc c fr un k + m - 1 ≤ p_en G tc wd c fr un k := h2; omega), decide_eq_true (show p_dn G tc c fr un k + m - 1 - st < s.1 from h3)]
              rfl
