/-! both sides' first state -/
def K_u : p_Q := (0, -1, 0, 0, p_rsS rr_S0 6)
def K_X : rr_A := W_X (gv 0 0 0 0) rr_S0 (rv 0 0 0 false (0, -1)) rr_S0 (gv 0 0 0 0) rr_S0 (sv4 (nI 0) (-1) 0 0) (p_rsS rr_S0 6) (sv4 (nI 0) (-1) 0 0) (p_rsS rr_S0 6) (pv 0 0) rr_S0 rr_S0 rr_z0 rr_S0 rr_S0 (dv (nI 0)) rr_S0 (dv (nI 0)) rr_S0 (dv 0)
def K_M : rr_A := W_M (mv 0 (-1) false 0 0 0 0 0 0) rr_S0
theorem k_s0 : ∀ j, j < 6 → p_rsS rr_S0 6 0 j = -1 ∧ p_rsS rr_S0 6 1 j = 0 ∧ p_rsS rr_S0 6 2 j = 0 := by decide +kernel
theorem k_ne : ∀ j, j < 6 → ¬ ((-1 : Int32) = nI j) := by decide +kernel
theorem k_en1 : ∀ i, i < 22 → en K_u i = 0 := by decide +kernel
theorem k_en : rr_z0 = en K_u := by
  funext i
  show (0 : Int32) = en K_u i
  by_cases h : i < 22
  · exact (k_en1 i h).symm
  · unfold en
    rw [if_neg (by omega), if_neg (by omega), if_neg (by omega), if_neg (by omega), if_neg h]
theorem k_I : m_I rr_S0 0 0 K_u := ⟨⟨fun j hj => ⟨Or.inl (k_s0 j hj).1, fun h => absurd h (Nat.not_lt_zero j)⟩, fun j hj h => absurd h (k_ne j hj)⟩, fun j hj _ => (k_s0 j hj).2⟩
theorem k_g : z_g 0 0 0 0 rr_S0 0 (-1) rr_z0 K_u 0 (fun _ => K_u) (fun _ => false) (fun _ => K_u) rr_z0 0 0 rr_S0 0 rr_S0 :=
  ⟨⟨⟨by omega, by omega, by omega, by omega, fun h => h, fun h => h⟩, fun j h => absurd h (Nat.not_lt_zero j), fun j h => absurd h (Nat.not_lt_zero j)⟩, by omega, ⟨⟨k_I, by show 0 ≤ 9050; omega, Or.inl rfl⟩, by omega, fun j h => absurd h (Nat.not_lt_zero j), fun i _ h => by cases h⟩, ⟨by omega, fun j h => absurd h (Nat.not_lt_zero j)⟩, ⟨by omega, fun j h => absurd h (Nat.not_lt_zero j)⟩⟩
theorem k_X : z_X 0 0 0 0 rr_S0 0 (-1) rr_z0 K_u 0 (fun _ => K_u) (fun _ => false) (fun _ => K_u) rr_z0 0 0 rr_S0 0 rr_S0 K_X :=
  ⟨0, 0, false, (0, -1), rr_S0, 0, 0, 0, 0, rr_S0, 0, -1, 0, 0, p_rsS rr_S0 6, 0, rr_S0, rr_S0, rr_z0, rr_S0, rr_S0, rr_S0, rfl, rfl, rfl, by omega, fun j h => absurd h (Nat.not_lt_zero j), fun i _ => ⟨rfl, fun h => by cases h⟩, fun _ _ => rfl⟩
theorem k_M : z_M 0 0 0 0 rr_S0 0 (-1) rr_z0 K_u 0 (fun _ => K_u) (fun _ => false) (fun _ => K_u) rr_z0 0 0 rr_S0 0 rr_S0 K_M :=
  ⟨false, 0, 0, rr_S0, rfl, ⟨rfl, rfl, rfl, rfl, fun j h => absurd h (Nat.not_lt_zero j), fun j h => absurd h (Nat.not_lt_zero j), fun j h => absurd h (Nat.not_lt_zero j)⟩, rfl, k_en, ⟨K_u, k_en⟩, fun j h => absurd h (Nat.not_lt_zero j), fun i _ => ⟨rfl, fun h => by cases h⟩, fun j h => absurd h (Nat.not_lt_zero j), fun j h => absurd h (Nat.not_lt_zero j)⟩
theorem k_R : z_R K_X K_M := ⟨0, 0, 0, 0, rr_S0, 0, -1, rr_z0, K_u, 0, fun _ => K_u, fun _ => false, fun _ => K_u, rr_z0, 0, 0, rr_S0, 0, rr_S0, k_g, k_X, k_M⟩
set_option maxRecDepth 100000 in
theorem k_cx : rr_C mX10_init 4 [.ref 0] [.inr (10, [.null, .null, .null, .null, .null, .null, .null, .null, .null, .null, .null])] 44 1285 none K_X := c10_init
set_option maxRecDepth 100000 in
theorem k_cm : rr_C mX11_init 1 [.ref 0] [.inr (11, [.null, .int 0, .int 0, .null, .null, .null, .null, .null, .null, .null, .null, .int 0, .null, .null, .null, .int 0, .null, .null, .null, .int 0, .null, .int 0, .null, .int 0, .int 0, .int 0, .null, .null, .null, .null])] 21 1614 none K_M := c11_init
