/-! one number of the row put anew -/
theorem en_u1 (q : p_Q) {k : Nat} (hk : k < 6) (x : Int32) : upd (en q) ((4 + 3 * k) + 1) x = en (q.1, q.2.1, q.2.2.1, q.2.2.2.1, va_up q.2.2.2.2 1 (upd (q.2.2.2.2 1) k x)) := by
  apply en_ext
  · rw [pk_un (by omega), en_0]
  · rw [pk_un (by omega), en_1]
  · rw [pk_un (by omega), en_2]
  · rw [pk_un (by omega), en_3]
  · intro j hj
    rw [pk_un (by omega), en_c q hj]; rfl
  · intro j hj
    show _ = upd (q.2.2.2.2 1) k x j
    by_cases e : j = k
    · subst e; rw [pk_us, pk_us]
    · rw [pk_un (by omega), pk_un e, en_w q hj]
  · intro j hj
    rw [pk_un (by omega), en_d q hj]; rfl
  · intro i hi
    rw [pk_un (by omega), en_o q hi]
theorem en_u2 (q : p_Q) {k : Nat} (hk : k < 6) (x : Int32) : upd (en q) ((4 + 3 * k) + 2) x = en (q.1, q.2.1, q.2.2.1, q.2.2.2.1, va_up q.2.2.2.2 2 (upd (q.2.2.2.2 2) k x)) := by
  apply en_ext
  · rw [pk_un (by omega), en_0]
  · rw [pk_un (by omega), en_1]
  · rw [pk_un (by omega), en_2]
  · rw [pk_un (by omega), en_3]
  · intro j hj
    rw [pk_un (by omega), en_c q hj]; rfl
  · intro j hj
    rw [pk_un (by omega), en_w q hj]; rfl
  · intro j hj
    show _ = upd (q.2.2.2.2 2) k x j
    by_cases e : j = k
    · subst e; rw [pk_us, pk_us]
    · rw [pk_un (by omega), pk_un e, en_d q hj]
  · intro i hi
    rw [pk_un (by omega), en_o q hi]
theorem en_us (q : p_Q) (s : Int32) : upd (en q) 1 (s + 1) = en (q.1, s, q.2.2.1, q.2.2.2.1, q.2.2.2.2) := by
  apply en_ext
  · rw [pk_un (by omega), en_0]
  · rw [pk_us]
  · rw [pk_un (by omega), en_2]
  · rw [pk_un (by omega), en_3]
  · intro j hj
    rw [pk_un (by omega), en_c q hj]
  · intro j hj
    rw [pk_un (by omega), en_w q hj]
  · intro j hj
    rw [pk_un (by omega), en_d q hj]
  · intro i hi
    rw [pk_un (by omega), en_o q hi]
theorem en_uh (q : p_Q) (h : Nat) : upd (en q) 0 (nI h) = en (h, q.2.1, q.2.2.1, q.2.2.2.1, q.2.2.2.2) := by
  apply en_ext
  · rw [pk_us]
  · rw [pk_un (by omega), en_1]
  · rw [pk_un (by omega), en_2]
  · rw [pk_un (by omega), en_3]
  · intro j hj
    rw [pk_un (by omega), en_c q hj]
  · intro j hj
    rw [pk_un (by omega), en_w q hj]
  · intro j hj
    rw [pk_un (by omega), en_d q hj]
  · intro i hi
    rw [pk_un (by omega), en_o q hi]
theorem en_up2 (q : p_Q) (x : Int32) : upd (en q) 2 x = en (q.1, q.2.1, x, q.2.2.2.1, q.2.2.2.2) := by
  apply en_ext
  · rw [pk_un (by omega), en_0]
  · rw [pk_un (by omega), en_1]
  · rw [pk_us]
  · rw [pk_un (by omega), en_3]
  · intro j hj
    rw [pk_un (by omega), en_c q hj]
  · intro j hj
    rw [pk_un (by omega), en_w q hj]
  · intro j hj
    rw [pk_un (by omega), en_d q hj]
  · intro i hi
    rw [pk_un (by omega), en_o q hi]
theorem en_up3 (q : p_Q) (x : Int32) : upd (en q) 3 x = en (q.1, q.2.1, q.2.2.1, x, q.2.2.2.2) := by
  apply en_ext
  · rw [pk_un (by omega), en_0]
  · rw [pk_un (by omega), en_1]
  · rw [pk_un (by omega), en_2]
  · rw [pk_us]
  · intro j hj
    rw [pk_un (by omega), en_c q hj]
  · intro j hj
    rw [pk_un (by omega), en_w q hj]
  · intro j hj
    rw [pk_un (by omega), en_d q hj]
  · intro i hi
    rw [pk_un (by omega), en_o q hi]
