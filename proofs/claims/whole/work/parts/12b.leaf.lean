/-! 12b.leaf: the reference's small methods are the class's -/
def rep (b : Int64) : Nat → Int32 := fun j => if b.toBitVec.getLsbD j = true then 1 else 0
def ra (u : CSt) (t g w : Int32) : RSt := (u.1, rep u.2.1, t, u.2.2.2.1, u.2.2.2.2.1, u.2.2.1, u.2.2.2.2.2.1, u.2.2.2.2.2.2, g, w)
def Iv (u : CSt) : Prop := (∀ j, Wd (u.1 j)) ∧ u.2.2.2.1 &&& 1022 = u.2.2.2.1
theorem iv_nn {u : CSt} (h : Iv u) : ∀ j, 0 ≤ u.1 j := fun j => by
  obtain ⟨n, hn, e⟩ := wd_n (h.1 j)
  rw [e]
  exact nI_pos' (by omega)
section EQ
variable (u : CSt) (t g w : Int32)
theorem e_word (x : Int32) : C_Mo_word (ra u t g w) x = C_Me_word u x := by
  unfold C_Mo_word C_Me_word
  rw [ixEq]
  rfl
theorem e_setWord (x v : Int32) : C_Mo_setWord (ra u t g w) x v = ra (C_Me_setWord u x v) t g w := by
  unfold C_Mo_setWord C_Me_setWord
  rw [ixEq, chEq]
  rfl
theorem e_register (n : Int32) : C_Mo_register (ra u t g w) n = C_M_register u n := e_word u t g w _
theorem e_setRegister (n v : Int32) : C_Mo_setRegister (ra u t g w) n v = ra (C_M_setRegister u n v) t g w := e_setWord u t g w _ v
theorem e_next : C_Mo_next (ra u t g w) = ((C_M_fetch u).1, ra (C_M_fetch u).2 t g w) := Prod.ext (e_word u t g w _) rfl
theorem e_flag (b v : Int32) : C_Mo_flag (ra u t g w) b v = ra (C_St_mark u b v) t g w := rfl
theorem e_has (b : Int32) : C_Mo_has (ra u t g w) b = C_St_has u b := rfl
theorem e_setMask (v : Int32) : C_Mo_setMask (ra u t g w) v = ra (C_St_setMask u v) t g w := rfl
theorem e_compare {x y : Int32} (hx : Wd x) (hy : Wd y) : C_Mo_compare (ra u t g w) x y = ra (C_St_compare u x y) t g w := by
  have e := cmpBits u.2.2.1 (x ≤ y) (x.toInt16.toInt32 ≤ y.toInt16.toInt32) (x = y)
  unfold C_Mo_compare
  rw [sgEq hx, sgEq hy]
  have k : C_St_mark (C_St_mark (C_St_mark u 32768 (J_Mo_compare_13 x y)) 16384 (J_Mo_compare_36 x.toInt16.toInt32 y.toInt16.toInt32)) 8192 (J_Mo_compare_53 x y) = C_St_compare u x y :=
    congrArg (fun z : Int32 => ((u.1, u.2.1, z, u.2.2.2.1, u.2.2.2.2.1, u.2.2.2.2.2.1, u.2.2.2.2.2.2) : CSt)) e.symm
  rw [← k]
  rfl
theorem e_test {x : Int32} (hx : Wd x) : C_Mo_test (ra u t g w) x = ra (C_St_tested u x).2 t g w := e_compare u t g w hx wd_0
theorem e_value0 (x : Int32) : C_Mo_value (ra u t g w) x 0 = C_Me_load u x 2 := by
  unfold C_Mo_value C_Me_load
  rw [e_word]
  rfl
theorem e_value1 (x : Int32) : C_Mo_value (ra u t g w) x 1 = C_Me_load u x 1 := by
  unfold C_Mo_value C_Me_load C_Me_isUpper
  rw [e_word]
  simp only [if_neg (show ¬ (1 : Int32) = 0 by decide), if_neg (show ¬ (1 : Int32) = 2 by decide), if_true, if_false]
  by_cases h : (x &&& 1) = 0
  · simp only [if_pos h, if_neg (show ¬ (1 : Int32) = 0 by decide), if_true, if_false]
  · simp only [if_neg h, if_pos (show (0 : Int32) = 0 from rfl), loEq, if_true, if_false]
theorem sw_c {v v' : Int32} (x : Int32) (h : v &&& 65535 = v' &&& 65535) : C_Me_setWord u x v = C_Me_setWord u x v' := by
  unfold C_Me_setWord
  rw [chEq, chEq, h]
theorem e_store0 (x v : Int32) : C_Mo_store (ra u t g w) x v 0 = ra (C_Me_store u x v 2) t g w := by
  unfold C_Mo_store C_Me_store J_Mo_store_51
  simp only [if_pos (show (0 : Int32) = 0 from rfl), if_pos (show (2 : Int32) = 2 from rfl), if_true, if_false]
  exact e_setWord u t g w x v
theorem e_store1 (x : Int32) {v : Int32} (hv : Wd v) : C_Mo_store (ra u t g w) x v 1 = ra (C_Me_store u x v 1) t g w := by
  have e8 : (v >>> ((8 : Int32) &&& 31)) &&& 255 = v >>> ((8 : Int32) &&& 31) := by
    obtain ⟨n, hn, rfl⟩ := wd_n hv
    rw [pk_shrN (by omega) _ 8 (by decide), pk_andN (by omega) 8 (by decide)]
    exact congrArg nI (by omega)
  unfold C_Mo_store C_Me_store J_Mo_store_51 C_Me_isUpper
  rw [e_word]
  simp only [if_neg (show ¬ (1 : Int32) = 0 by decide), if_neg (show ¬ (1 : Int32) = 2 by decide), if_true, if_false]
  by_cases h : (x &&& 1) = 0
  · simp only [if_pos h, if_neg (show ¬ (1 : Int32) = 0 by decide), e_setWord, if_true, if_false]
    rw [Int32.or_comm]
  · simp only [if_neg h, if_pos (show (0 : Int32) = 0 from rfl), e_setWord, e8, if_true, if_false]
theorem e_parity {x : Int32} (h : Up x) : C_Mo_parity (ra u t g w) x = ra (C_St_markParity u x 1) t g w := by
  unfold C_Mo_parity C_St_markParity
  simp only [if_pos (show (1 : Int32) = 1 from rfl), e_flag, ← parEq h, if_true, if_false]
theorem mp_2 (x : Int32) : C_St_markParity u x 2 = u := by
  unfold C_St_markParity
  rw [if_neg (by decide)]
theorem e_change (x : Int32) : C_Mo_change (ra u t g w) x = ra (C_M_switchThrough u x) t g w := by
  have e1 := e_word u t g w x
  have e2 := e_word u t g w (x + 2)
  unfold C_Mo_change
  rw [e1, e2]
  have s1 := e_setRegister (C_M_setWorkspace u (C_Me_word u x)) t g w 13 u.2.2.2.1
  have s2 := e_setRegister (C_M_setRegister (C_M_setWorkspace u (C_Me_word u x)) 13 u.2.2.2.1) t g w 14
  have s3 := e_setRegister (C_M_setRegister (C_M_setRegister (C_M_setWorkspace u (C_Me_word u x)) 13 u.2.2.2.1) 14 (C_M_setRegister (C_M_setWorkspace u (C_Me_word u x)) 13 u.2.2.2.1).2.2.2.2.1) t g w 15
  show (let u34 := C_Mo_setRegister (ra (C_M_setWorkspace u (C_Me_word u x)) t g w) 13 u.2.2.2.1; let u44 := C_Mo_setRegister u34 14 u34.2.2.2.2.1; let u54 := C_Mo_setRegister u44 15 u44.2.2.2.2.2.1; (u54.1, u54.2.1, u54.2.2.1, u54.2.2.2.1, (C_Me_word u (x + 2) &&& 1022), u54.2.2.2.2.2.1, u54.2.2.2.2.2.2.1, u54.2.2.2.2.2.2.2.1, u54.2.2.2.2.2.2.2.2.1, u54.2.2.2.2.2.2.2.2.2)) = _
  rw [s1]
  dsimp only
  rw [show (ra (C_M_setRegister (C_M_setWorkspace u (C_Me_word u x)) 13 u.2.2.2.1) t g w).2.2.2.2.1 = (C_M_setRegister (C_M_setWorkspace u (C_Me_word u x)) 13 u.2.2.2.1).2.2.2.2.1 from rfl, s2, s3]
  rfl
def gA (x : Int32) : Int32 := if ((x >>> ((4 : Int32) &&& 31)) &&& 3) = 0 then g else if ((x >>> ((4 : Int32) &&& 31)) &&& 3) = 1 then g else if ((x >>> ((4 : Int32) &&& 31)) &&& 3) = 2 then g else u.2.2.2.1 + (2 * (x &&& 15))
def wA (x : Int32) : Int32 := if ((x >>> ((4 : Int32) &&& 31)) &&& 3) = 0 then w else if ((x >>> ((4 : Int32) &&& 31)) &&& 3) = 1 then w else if ((x >>> ((4 : Int32) &&& 31)) &&& 3) = 2 then w else C_M_register u (x &&& 15)
theorem kd (x : Int32) : (((x &&& 63) >>> ((4 : Int32) &&& 31)) &&& 3) = ((x >>> ((4 : Int32) &&& 31)) &&& 3) := by
  rw [pk_and x 6 (by decide), pk_shrN (by omega) _ 4 (by decide), pk_andN (by omega) 2 (by decide), pk_and (x >>> ((4 : Int32) &&& 31)) 2 (by decide), shr_nat x ((4 : Int32) &&& 31) 4 (by decide) (by decide) 2 (by decide)]
  exact congrArg nI (by omega)
theorem k15 (x : Int32) : ((x &&& 63) &&& 15) = (x &&& 15) := by
  rw [Int32.and_assoc]
  rfl
theorem e_address (x b : Int32) : C_Mo_address (ra u t g w) (x &&& 63) b = ((C_M_operandAddress u x (J_Mo_address_122 b)).1, ra (C_M_operandAddress u x (J_Mo_address_122 b)).2 t (gA u g x) (wA u w x)) := by
  unfold C_Mo_address C_M_operandAddress gA wA
  rw [kd, k15]
  by_cases h0 : ((x >>> ((4 : Int32) &&& 31)) &&& 3) = 0
  · simp only [if_pos h0, if_true, if_false]
    rfl
  · by_cases h1 : ((x >>> ((4 : Int32) &&& 31)) &&& 3) = 1
    · simp only [if_neg h0, if_pos h1, e_register, if_true, if_false]
    · by_cases h2 : ((x >>> ((4 : Int32) &&& 31)) &&& 3) = 2
      · simp only [if_neg h0, if_neg h1, if_pos h2, e_next, if_true, if_false]
        unfold J_M_operandAddress_73
        by_cases h3 : (x &&& 15) = 0
        · simp only [if_pos h3, Int32.add_zero, if_true, if_false]
        · simp only [if_neg h3, e_register, if_true, if_false]
      · simp only [if_neg h0, if_neg h1, if_neg h2, e_register, if_true, if_false]
        exact Prod.ext rfl (e_setRegister u t (u.2.2.2.1 + (2 * (x &&& 15))) (C_M_register u (x &&& 15)) (x &&& 15) _)
end EQ
section IV
variable {u : CSt}
theorem i_setWord (h : Iv u) (x v : Int32) : Iv (C_Me_setWord u x v) := by
  refine ⟨fun j => ?_, h.2⟩
  show Wd (upd u.1 _ _ j)
  unfold upd
  split
  · rw [chEq]; exact wd_m v
  · exact h.1 j
theorem i_setWorkspace (h : Iv u) (x : Int32) : Iv (C_M_setWorkspace u x) := by
  refine ⟨h.1, ?_⟩
  show (x &&& 1022) &&& 1022 = x &&& 1022
  rw [Int32.and_assoc]
  rfl
theorem i_setRegister (h : Iv u) (n v : Int32) : Iv (C_M_setRegister u n v) := i_setWord h _ v
theorem i_fetch (h : Iv u) : Iv (C_M_fetch u).2 := h
theorem i_operand (h : Iv u) (x z : Int32) : Iv (C_M_operandAddress u x z).2 := by
  unfold C_M_operandAddress
  by_cases h0 : ((x >>> ((4 : Int32) &&& 31)) &&& 3) = 0
  · simp only [if_pos h0, if_true, if_false]; exact h
  · by_cases h1 : ((x >>> ((4 : Int32) &&& 31)) &&& 3) = 1
    · simp only [if_neg h0, if_pos h1, if_true, if_false]; exact h
    · by_cases h2 : ((x >>> ((4 : Int32) &&& 31)) &&& 3) = 2
      · simp only [if_neg h0, if_neg h1, if_pos h2, if_true, if_false]; exact i_fetch h
      · simp only [if_neg h0, if_neg h1, if_neg h2, if_true, if_false]; exact i_setRegister h _ _
theorem i_switch (h : Iv u) (x : Int32) : Iv (C_M_switchThrough u x) := by
  have h1 : Iv (C_M_setWorkspace u (C_Me_word u x)) := i_setWorkspace h _
  exact i_setRegister (i_setRegister (i_setRegister h1 _ _) _ _) _ _
theorem i_store (h : Iv u) (x v z : Int32) : Iv (C_Me_store u x v z) := by
  unfold C_Me_store
  dsimp only
  split
  · exact i_setWord h _ _
  · split
    · exact i_setWord h _ _
    · exact i_setWord h _ _
theorem i_compare (h : Iv u) (x y : Int32) : Iv (C_St_compare u x y) := h
theorem i_tested (h : Iv u) (x : Int32) : Iv (C_St_tested u x).2 := h
theorem i_mark (h : Iv u) (b z : Int32) : Iv (C_St_mark u b z) := h
theorem i_setMask (h : Iv u) (x : Int32) : Iv (C_St_setMask u x) := h
theorem i_setBits (h : Iv u) (x : Int32) : Iv (C_St_setBits u x) := h
theorem i_setCounter (h : Iv u) (x : Int32) : Iv (C_M_setCounter u x) := h
theorem i_liset (h : Iv u) (x y : Int32) : Iv (C_Li_set u x y) := h
theorem i_sum (h : Iv u) (a b c : Int32) : Iv (C_St_sum u a b c).2 := h
theorem w_word (h : Iv u) (x : Int32) : Wd (C_Me_word u x) := h.1 _
theorem w_reg (h : Iv u) (n : Int32) : Wd (C_M_register u n) := h.1 _
theorem w_load2 (h : Iv u) (x : Int32) : Wd (C_Me_load u x 2) := h.1 _
theorem u_load1 (x : Int32) : Up (C_Me_load u x 1) := by
  unfold C_Me_load
  simp only [if_neg (show ¬ (1 : Int32) = 2 by decide), if_true, if_false]
  split
  · exact up_lo _
  · exact up_m _
end IV
