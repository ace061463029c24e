/-! 07.lem: small facts of the pure functions that the contracts ask. DRAFT of 2026-11-15, not yet compiled. -/
theorem zb_St_has (u : CSt) (x : Int32) : C_St_has u x = 0 ∨ C_St_has u x = 1 := by
  unfold C_St_has; (repeat' split) <;> simp
theorem zb_Mo_has (u : RSt) (x : Int32) : C_Mo_has u x = 0 ∨ C_Mo_has u x = 1 := by
  unfold C_Mo_has; (repeat' split) <;> simp
theorem zb_Li_isOn (u : CSt) (x : Int32) : C_Li_isOn u x = 0 ∨ C_Li_isOn u x = 1 := by
  unfold C_Li_isOn; dsimp only; (repeat' split) <;> simp
theorem nn_c (x : Int32) : 0 ≤ vp_nar .char ((x.toUInt32 % 65536).toInt32) := by
  rw [pk_vc, pk_char]
  exact nI_pos' (by omega)
theorem nn_m (x : Int32) : 0 ≤ x &&& 65535 := by
  rw [pk_and x 16 (by decide)]
  exact nI_pos' (by omega)
theorem iv_upd {f : Nat → Int32} (h : ∀ j, 0 ≤ f j) (k : Nat) {x : Int32} (hx : 0 ≤ x) : ∀ j, 0 ≤ upd f k x j := by
  intro j
  unfold upd
  split
  · exact hx
  · exact h j
theorem ge_M_register {u : CSt} (h : ∀ j, 0 ≤ u.1 j) (x : Int32) : 0 ≤ C_M_register u x := h _
theorem ge_Mo_register {u : RSt} (h : ∀ j, 0 ≤ u.1 j) (x : Int32) : 0 ≤ C_Mo_register u x := h _
theorem iv_M_setRegister {u : CSt} (h : ∀ j, 0 ≤ u.1 j) (x y : Int32) : ∀ j, 0 ≤ (C_M_setRegister u x y).1 j := iv_upd h _ (nn_c y)
theorem iv_Mo_setRegister {u : RSt} (h : ∀ j, 0 ≤ u.1 j) (x y : Int32) : ∀ j, 0 ≤ (C_Mo_setRegister u x y).1 j := iv_upd h _ (nn_m y)
theorem iv_M_fetch {u : CSt} (h : ∀ j, 0 ≤ u.1 j) : ∀ j, 0 ≤ (C_M_fetch u).2.1 j := h
theorem iv_Mo_next {u : RSt} (h : ∀ j, 0 ≤ u.1 j) : ∀ j, 0 ≤ (C_Mo_next u).2.1 j := h
theorem iv_M_operandAddress {u : CSt} (h : ∀ j, 0 ≤ u.1 j) (x y : Int32) : ∀ j, 0 ≤ (C_M_operandAddress u x y).2.1 j := by
  unfold C_M_operandAddress
  dsimp only
  split
  · exact h
  split
  · exact h
  split
  · exact iv_M_fetch h
  · exact iv_M_setRegister h _ _
theorem iv_Mo_address {u : RSt} (h : ∀ j, 0 ≤ u.1 j) (x y : Int32) : ∀ j, 0 ≤ (C_Mo_address u x y).2.1 j := by
  unfold C_Mo_address
  dsimp only
  split
  · exact h
  split
  · exact h
  split
  · split
    · exact iv_Mo_next h
    · exact iv_Mo_next h
  · exact iv_Mo_setRegister (u := (u.1, u.2.1, u.2.2.1, u.2.2.2.1, u.2.2.2.2.1, u.2.2.2.2.2.1, u.2.2.2.2.2.2.1, u.2.2.2.2.2.2.2.1, _, _)) h _ _
theorem iv_J_M_step_76 {u : CSt} (h : ∀ j, 0 ≤ u.1 j) (x y : Int32) : ∀ j, 0 ≤ (J_M_step_76 x u y).2.1 j := by
  unfold J_M_step_76
  dsimp only
  split
  · exact h
  · exact iv_M_operandAddress h _ _
theorem iv_J_Mo_fetched_77 {u : RSt} (h : ∀ j, 0 ≤ u.1 j) (x y : Int32) : ∀ j, 0 ≤ (J_Mo_fetched_77 x u y).2.2.1 j := by
  unfold J_Mo_fetched_77
  dsimp only
  split
  · split
    · exact h
    · exact iv_Mo_address (u := (u.1, u.2.1, u.2.2.1, u.2.2.2.1, u.2.2.2.2.1, u.2.2.2.2.2.1, u.2.2.2.2.2.2.1, u.2.2.2.2.2.2.2.1, (-1), u.2.2.2.2.2.2.2.2.2)) h _ _
  · exact h
theorem l_ne {x y : Int32} (h0 : 0 ≤ x) (h : ¬ y ≤ x) : ¬ y.toInt64 = 0 := by
  intro q
  have h1 : y.toInt64.toInt = 0 := by rw [q]; rfl
  rw [Int32.toInt_toInt64] at h1
  rw [Int32.le_iff_toInt_le] at h0 h
  rw [Int32.toInt_zero] at h0
  omega
theorem dv_R {x y : Int32} (h0 : 0 ≤ x) (h : ¬ y ≤ x) : ¬ y.toInt64 = 0 := l_ne h0 h
theorem dv_C {x2 x3 z : Int32} (h0 : 0 ≤ x2) (j : z = J_M_divide_10 x2 x3) (h : ¬ z = 0) : ¬ x3.toInt64 = 0 := by
  refine l_ne h0 fun q => h ?_
  rw [j, J_M_divide_10, if_pos q]
theorem ix_b {x : Int32} {n : Nat} {N : Int32} (hN : N.toInt + 1 = n) (h1 : ¬ x < 0) (h2 : x ≤ N) : vp_in x n := by
  rw [vp_in_iff]
  rw [Int32.lt_iff_toInt_lt, Int32.toInt_zero] at h1
  rw [Int32.le_iff_toInt_le] at h2
  omega
theorem ix_W {x1 z r : Int32} {u : RSt} (j : z = J_Mo_wire_16 x1) (e : r = (C_Mo_fails u z).1) (h : r = 0) : vp_in x1 64 := by
  have hz : z = 0 := e.symm.trans h
  rw [j] at hz
  unfold J_Mo_wire_16 at hz
  split at hz
  · exact absurd hz (by decide)
  · split at hz
    · next h1 h2 => exact ix_b (N := 63) (by decide) h1 h2
    · exact absurd hz (by decide)
theorem ix_L {x1 z r : Int32} {u : RSt} (j : z = J_Mo_line_16 x1) (e : r = (C_Mo_fails u z).1) (h : r = 0) : vp_in x1 64 := by
  have hz : z = 0 := e.symm.trans h
  rw [j] at hz
  unfold J_Mo_line_16 at hz
  split at hz
  · exact absurd hz (by decide)
  · split at hz
    · next h1 h2 => exact ix_b (N := 63) (by decide) h1 h2
    · exact absurd hz (by decide)
