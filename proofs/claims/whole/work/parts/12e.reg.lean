/-! 12e.reg: instructions on a register and an operand -/
theorem shl_or (a b s : Int32) (k : Nat) (hs : (s.toBitVec.smod 32).toNat = k) : (a ||| b) <<< s = (a <<< s) ||| (b <<< s) := by
  refine bx fun i hi => ?_
  rw [bt_or, bt_shl _ _ k hs hi, bt_shl _ _ k hs hi, bt_shl _ _ k hs hi, bt_or]
  cases decide (i < k) <;> cases bt a (i - k) <;> cases bt b (i - k) <;> rfl
theorem oneTab : ∀ k, k < 8 → ((1 : Int32) <<< (nI k &&& 31)) <<< ((8 : Int32) &&& 31) = 1 <<< ((nI k + 8) &&& 31) := by decide +kernel
theorem oneB : ∀ k, k < 8 → ((1 : Int32) <<< (nI k &&& (31 : Int32))) &&& (255 : Int32) = (1 : Int32) <<< (nI k &&& (31 : Int32)) := by decide +kernel
theorem oneW : ∀ k, k < 16 → ((1 : Int32) <<< (nI k &&& (31 : Int32))) &&& (65535 : Int32) = (1 : Int32) <<< (nI k &&& (31 : Int32)) := by decide +kernel
theorem zb_send (z i : Int32) : J_M_sendLines_82 z i = 0 ∨ J_M_sendLines_82 z i = 1 := by
  unfold J_M_sendLines_82
  split <;> simp
/-- lines are sent -/
theorem lp_send {c : Nat} (hc : c ≤ 16) (sh v z r t g w : Int32) (hz : ∀ k, k < c → ((v >>> ((nI k + sh) &&& 31)) &&& 1) = ((z >>> (nI k &&& 31)) &&& 1)) :
    ∀ (f k : Nat) (u : CSt), k ≤ c → Iv u → C_M_register u 12 = r →
      L_Mo_lineOperand_82 1 (nI c) sh f (v, nI k, ra u t g w) = (v, (L_M_sendLines_51 (nI c) z r f (nI k, u)).1, ra (L_M_sendLines_51 (nI c) z r f (nI k, u)).2 t g w) := by
  intro f
  induction f with
  | zero => intro k u _ _ _; rfl
  | succ f ih =>
    intro k u hk hu hr
    rw [L_Mo_lineOperand_82_s, L_M_sendLines_51_s]
    by_cases h : nI c ≤ nI k
    · rw [if_pos h, if_pos h]
    · rw [if_neg h, if_neg h]
      have hkc : k < c := by
        rw [nI_leI (by omega) (by omega)] at h
        omega
      have e1 : B_M_sendLines_51 (nI c) z r (nI k, u) = (nI (k + 1), C_Li_set u ((r / 2) + nI k) (J_M_sendLines_82 z (nI k))) := by
        rw [← nI_1]
        rfl
      have e2 : B_Mo_lineOperand_82 1 (nI c) sh (v, nI k, ra u t g w) = (v, nI (k + 1), ra (C_Li_set u ((r / 2) + nI k) (J_M_sendLines_82 z (nI k))) t g w) := by
        have z1 : J_Mo_lineOperand_129 sh v (nI k) = J_M_sendLines_82 z (nI k) := by
          unfold J_Mo_lineOperand_129 J_M_sendLines_82
          rw [hz k hkc]
        rw [← e_line u t g w _ (zb_send z (nI k)), ← z1, ← nI_1]
        unfold B_Mo_lineOperand_82 J_Mo_lineOperand_160
        simp only [if_neg (show ¬ (1 : Int32) = 0 by decide), e_base t g w hu, hr, if_true, if_false]
      rw [e1, e2]
      exact ih (k + 1) _ (by omega) (i_liset hu _ _) hr
theorem i_send (c z r : Int32) : ∀ (f : Nat) (i : Int32) (u : CSt), Iv u → Iv (L_M_sendLines_51 c z r f (i, u)).2 := by
  intro f
  induction f with
  | zero => intro i u h; exact h
  | succ f ih =>
    intro i u h
    rw [L_M_sendLines_51_s]
    split
    · exact h
    · exact ih _ _ (i_liset h _ _)
/-- lines are received: words, bytes -/
theorem lp_recv0 {c : Nat} (hc : c ≤ 16) (r t g w : Int32) {u : CSt} (hu : Iv u) (hr : C_M_register u 12 = r) :
    ∀ (f k : Nat) (a : Int32), k ≤ c →
      L_Mo_lineOperand_82 0 (nI c) 0 f (a, nI k, ra u t g w) = ((L_M_receiveLines_29 (nI c) u r f (a, nI k)).1, (L_M_receiveLines_29 (nI c) u r f (a, nI k)).2, ra u t g w) := by
  intro f
  induction f with
  | zero => intro k a _; rfl
  | succ f ih =>
    intro k a hk
    rw [L_Mo_lineOperand_82_s, L_M_receiveLines_29_s]
    by_cases h : nI c ≤ nI k
    · rw [if_pos h, if_pos h]
    · rw [if_neg h, if_neg h]
      have hkc : k < c := by
        rw [nI_leI (by omega) (by omega)] at h
        omega
      have on := on_eq u ((r / 2) + nI k)
      have e1 : B_M_receiveLines_29 (nI c) u r (a, nI k) = (a ||| J_M_receiveLines_60 (nI k) (C_Li_isOn u ((r / 2) + nI k)), nI (k + 1)) := by
        rw [← nI_1]
        rfl
      have e2 : B_Mo_lineOperand_82 0 (nI c) 0 (a, nI k, ra u t g w) = (a ||| J_M_receiveLines_60 (nI k) (C_Li_isOn u ((r / 2) + nI k)), nI (k + 1), ra u t g w) := by
        have z1 : J_Mo_lineOperand_158 0 a (nI k) (ra u t g w) (r / 2) = a ||| J_M_receiveLines_60 (nI k) (C_Li_isOn u ((r / 2) + nI k)) := by
          rw [on]
          unfold J_Mo_lineOperand_158 J_M_receiveLines_60
          show (if rep u.2.1 (((r / 2) + nI k) &&& 63).toNatClampNeg = 0 then _ else _) = _
          by_cases q : rep u.2.1 (((r / 2) + nI k) &&& 63).toNatClampNeg = 0
          · rw [if_pos q, if_pos q, Int32.or_zero]
          · rw [if_neg q, if_neg q, Int32.add_zero]
        rw [← z1, ← nI_1]
        unfold B_Mo_lineOperand_82 J_Mo_lineOperand_160
        simp only [if_pos (show (0 : Int32) = 0 from rfl), e_base t g w hu, hr, if_true, if_false]
      rw [e1, e2]
      exact ih (k + 1) _ (by omega)
theorem lp_recv8 {c : Nat} (hc : c ≤ 8) (r t g w : Int32) {u : CSt} (hu : Iv u) (hr : C_M_register u 12 = r) :
    ∀ (f k : Nat) (a : Int32), k ≤ c →
      L_Mo_lineOperand_82 0 (nI c) 8 f (a <<< ((8 : Int32) &&& 31), nI k, ra u t g w) = ((L_M_receiveLines_29 (nI c) u r f (a, nI k)).1 <<< ((8 : Int32) &&& 31), (L_M_receiveLines_29 (nI c) u r f (a, nI k)).2, ra u t g w) := by
  intro f
  induction f with
  | zero => intro k a _; rfl
  | succ f ih =>
    intro k a hk
    rw [L_Mo_lineOperand_82_s, L_M_receiveLines_29_s]
    by_cases h : nI c ≤ nI k
    · rw [if_pos h, if_pos h]
    · rw [if_neg h, if_neg h]
      have hkc : k < c := by
        rw [nI_leI (by omega) (by omega)] at h
        omega
      have on := on_eq u ((r / 2) + nI k)
      have e1 : B_M_receiveLines_29 (nI c) u r (a, nI k) = (a ||| J_M_receiveLines_60 (nI k) (C_Li_isOn u ((r / 2) + nI k)), nI (k + 1)) := by
        rw [← nI_1]
        rfl
      have e2 : B_Mo_lineOperand_82 0 (nI c) 8 (a <<< ((8 : Int32) &&& 31), nI k, ra u t g w) = ((a ||| J_M_receiveLines_60 (nI k) (C_Li_isOn u ((r / 2) + nI k))) <<< ((8 : Int32) &&& 31), nI (k + 1), ra u t g w) := by
        have z1 : J_Mo_lineOperand_158 8 (a <<< ((8 : Int32) &&& 31)) (nI k) (ra u t g w) (r / 2) = (a ||| J_M_receiveLines_60 (nI k) (C_Li_isOn u ((r / 2) + nI k))) <<< ((8 : Int32) &&& 31) := by
          rw [on]
          unfold J_Mo_lineOperand_158 J_M_receiveLines_60
          show (if rep u.2.1 (((r / 2) + nI k) &&& 63).toNatClampNeg = 0 then _ else _) = _
          by_cases q : rep u.2.1 (((r / 2) + nI k) &&& 63).toNatClampNeg = 0
          · rw [if_pos q, if_pos q, Int32.or_zero]
          · rw [if_neg q, if_neg q, shl_or _ _ _ 8 (by decide), oneTab k (by omega)]
        rw [← z1, ← nI_1]
        unfold B_Mo_lineOperand_82 J_Mo_lineOperand_160
        simp only [if_pos (show (0 : Int32) = 0 from rfl), e_base t g w hu, hr, if_true, if_false]
      rw [e1, e2]
      exact ih (k + 1) _ (by omega)
theorem m_recv {c : Nat} (u : CSt) (r M : Int32) (hM : ∀ k, k < c → ((1 : Int32) <<< (nI k &&& 31)) &&& M = 1 <<< (nI k &&& 31)) (hc : c ≤ 16) :
    ∀ (f k : Nat) (a : Int32), k ≤ c → a &&& M = a → (L_M_receiveLines_29 (nI c) u r f (a, nI k)).1 &&& M = (L_M_receiveLines_29 (nI c) u r f (a, nI k)).1 := by
  intro f
  induction f with
  | zero => intro k a _ h; exact h
  | succ f ih =>
    intro k a hk ha
    rw [L_M_receiveLines_29_s]
    by_cases h : nI c ≤ nI k
    · rw [if_pos h]; exact ha
    · rw [if_neg h]
      have hkc : k < c := by
        rw [nI_leI (by omega) (by omega)] at h
        omega
      have e1 : B_M_receiveLines_29 (nI c) u r (a, nI k) = (a ||| J_M_receiveLines_60 (nI k) (C_Li_isOn u ((r / 2) + nI k)), nI (k + 1)) := by
        rw [← nI_1]
        rfl
      rw [e1]
      refine ih (k + 1) _ (by omega) (mk_or ha ?_)
      unfold J_M_receiveLines_60
      split
      · exact Int32.zero_and
      · exact hM k hkc
theorem sp_c (u : CSt) (x v p : Int32) : C_Me_store (C_St_markParity u p 1) x v 1 = C_St_markParity (C_Me_store u x v 1) p 1 := by
  unfold C_Me_store
  simp only [if_neg (show ¬ (1 : Int32) = 2 by decide), if_true, if_false]
  split <;> rfl
theorem cnt (x : Int32) : ∃ c, 1 ≤ c ∧ c ≤ 16 ∧ J_Mo_lineOperand_22 x = nI c ∧ J_M_runOnRegisterAndOperand_66 x = nI c ∧ J_M_runOnRegisterAndOperand_84 x = nI c := by
  obtain ⟨j, hj, e⟩ := pk_andE (x >>> ((6 : Int32) &&& 31)) (m := 15) 4 (by decide)
  unfold J_Mo_lineOperand_22 J_M_runOnRegisterAndOperand_66 J_M_runOnRegisterAndOperand_84
  rw [e]
  by_cases h : nI j = 0
  · rw [if_pos h]
    exact ⟨16, by decide, by decide, rfl, rfl, rfl⟩
  · rw [if_neg h]
    refine ⟨j, ?_, by omega, rfl, rfl, rfl⟩
    rcases j with _ | j
    · exact absurd rfl h
    · omega
theorem sb (c k : Nat) (hk : k < 8) : ((nI k + 8) &&& 31) = nI (k + 8) &&& 31 := by
  rw [← nI_add]
  rfl
theorem e_send {u : CSt} (h : Iv u) (t g w x : Int32) : ∃ g' w', C_Mo_lineOperand (ra u t g w) x 1 = ra (C_M_sendLines u x (J_M_runOnRegisterAndOperand_66 x)) t g' w' := by
  obtain ⟨c, hc1, hc2, q1, q2, -⟩ := cnt x
  refine ⟨gA u g x, wA u w x, ?_⟩
  unfold C_Mo_lineOperand C_M_sendLines
  rw [q1, q2]
  by_cases h8 : c ≤ 8
  · have n8 : ¬ (8 : Int32) < nI c := show ¬ nI 8 < nI c from by rw [nI_ltI (by decide) (by omega)]; omega
    have z34 : J_Mo_lineOperand_34 (nI c) = 1 := by unfold J_Mo_lineOperand_34; rw [if_neg n8]
    have zs : C_M_sizeForLines (nI c) = 1 := by unfold C_M_sizeForLines; rw [if_neg n8]
    have iA : Iv (C_M_operandAddress u x 1).2 := i_operand h _ _
    have hU : Up (C_Me_load (C_M_operandAddress u x 1).2 (C_M_operandAddress u x 1).1 1) := u_load1 _
    simp only [z34, zs, show J_Mo_lineOperand_59 1 = 8 from rfl, e_address, show J_Mo_address_122 1 = 1 from rfl]
    unfold J_Mo_lineOperand_77 J_Mo_lineOperand_183
    simp only [if_neg (show ¬ (1 : Int32) = 0 by decide), e_value1, if_true, if_false]
    have lp := lp_send hc2 8 (C_Me_load (C_M_operandAddress u x 1).2 (C_M_operandAddress u x 1).1 1) (J_M_sendLines_36 1 (C_Me_load (C_M_operandAddress u x 1).2 (C_M_operandAddress u x 1).1 1)) _ t (gA u g x) (wA u w x) (fun k hk => by
      obtain ⟨n, hn, e⟩ := wd_n (up_w hU)
      unfold J_M_sendLines_36
      rw [if_pos rfl, e, sb c k (by omega), pk_shrN (n := n) (by omega) (nI (k + 8) &&& 31) (k + 8) (sm _ (by omega)), pk_shrN (n := n) (by omega) ((8 : Int32) &&& 31) 8 (by decide), pk_shrN (n := n / 2 ^ 8) (by omega) (nI k &&& 31) k (sm _ (by omega)), Nat.div_div_eq_div_mul, ← Nat.pow_add, Nat.add_comm 8 k]) ((nI c).toInt - (0 : Int32).toInt).toNat 0 _ (by omega) iA rfl
    rw [show (0 : Int32) = nI 0 from rfl] at *
    rw [lp]
    dsimp only
    rw [e_test _ _ _ _ (up_w hU), e_parity _ _ _ _ hU]
    rfl
  · have n8 : (8 : Int32) < nI c := nI_lt (a := 8) (by omega) (by omega)
    have z34 : J_Mo_lineOperand_34 (nI c) = 0 := by unfold J_Mo_lineOperand_34; rw [if_pos n8]
    have zs : C_M_sizeForLines (nI c) = 2 := by unfold C_M_sizeForLines; rw [if_pos n8]
    have iA : Iv (C_M_operandAddress u x 2).2 := i_operand h _ _
    have hU : Wd (C_Me_load (C_M_operandAddress u x 2).2 (C_M_operandAddress u x 2).1 2) := w_load2 iA _
    simp only [z34, zs, show J_Mo_lineOperand_59 0 = 0 from rfl, e_address, show J_Mo_address_122 0 = 2 from rfl]
    unfold J_Mo_lineOperand_77 J_Mo_lineOperand_183
    simp only [if_neg (show ¬ (1 : Int32) = 0 by decide), if_pos (show (0 : Int32) = 0 from rfl), e_value0, if_true, if_false]
    have lp := lp_send hc2 0 (C_Me_load (C_M_operandAddress u x 2).2 (C_M_operandAddress u x 2).1 2) (J_M_sendLines_36 2 (C_Me_load (C_M_operandAddress u x 2).2 (C_M_operandAddress u x 2).1 2)) _ t (gA u g x) (wA u w x) (fun k hk => by
      unfold J_M_sendLines_36
      rw [if_neg (by decide), Int32.add_zero]) ((nI c).toInt - (0 : Int32).toInt).toNat 0 _ (by omega) iA rfl
    rw [show nI 0 = (0 : Int32) from rfl] at lp
    rw [lp]
    dsimp only
    rw [e_test _ _ _ _ hU, mp_2]
    rfl
theorem e_recv {u : CSt} (h : Iv u) (t g w x : Int32) : ∃ g' w', C_Mo_lineOperand (ra u t g w) x 0 = ra (C_M_receiveLines u x (J_M_runOnRegisterAndOperand_84 x)) t g' w' := by
  obtain ⟨c, hc1, hc2, q1, -, q2⟩ := cnt x
  refine ⟨gA u g x, wA u w x, ?_⟩
  unfold C_Mo_lineOperand C_M_receiveLines
  rw [q1, q2]
  by_cases h8 : c ≤ 8
  · have n8 : ¬ (8 : Int32) < nI c := show ¬ nI 8 < nI c from by rw [nI_ltI (by decide) (by omega)]; omega
    have z34 : J_Mo_lineOperand_34 (nI c) = 1 := by unfold J_Mo_lineOperand_34; rw [if_neg n8]
    have zs : C_M_sizeForLines (nI c) = 1 := by unfold C_M_sizeForLines; rw [if_neg n8]
    have iA : Iv (C_M_operandAddress u x 1).2 := i_operand h _ _
    simp only [z34, zs, show J_Mo_lineOperand_59 1 = 8 from rfl, e_address, show J_Mo_address_122 1 = 1 from rfl]
    unfold J_Mo_lineOperand_77 J_Mo_lineOperand_183 J_M_receiveLines_88
    simp only [if_neg (show ¬ (1 : Int32) = 0 by decide), if_pos (show (0 : Int32) = 0 from rfl), if_pos (show (1 : Int32) = 1 from rfl), if_true, if_false]
    have lp := lp_recv8 h8 (C_M_register (C_M_operandAddress u x 1).2 12) t (gA u g x) (wA u w x) iA rfl ((nI c).toInt - (0 : Int32).toInt).toNat 0 0 (by omega)
    have mB := m_recv (C_M_operandAddress u x 1).2 (C_M_register (C_M_operandAddress u x 1).2 12) 255 (fun k hk => oneB k (by omega)) hc2 ((nI c).toInt - (0 : Int32).toInt).toNat 0 0 (by omega) rfl
    rw [show (0 : Int32) <<< ((8 : Int32) &&& 31) = 0 by decide, show nI 0 = (0 : Int32) from rfl] at lp
    rw [show nI 0 = (0 : Int32) from rfl] at mB
    rw [lp]
    dsimp only
    generalize (L_M_receiveLines_29 (nI c) (C_M_operandAddress u x 1).2 (C_M_register (C_M_operandAddress u x 1).2 12) ((nI c).toInt - (0 : Int32).toInt).toNat (0, 0)).1 = a at *
    have hU : Up (a <<< ((8 : Int32) &&& 31)) := by rw [← mB]; exact up_lo _
    rw [e_test _ _ _ _ (up_w hU), e_parity _ _ _ _ hU, e_store1 _ _ _ _ _ (up_w hU), sp_c]
    rfl
  · have n8 : (8 : Int32) < nI c := nI_lt (a := 8) (by omega) (by omega)
    have z34 : J_Mo_lineOperand_34 (nI c) = 0 := by unfold J_Mo_lineOperand_34; rw [if_pos n8]
    have zs : C_M_sizeForLines (nI c) = 2 := by unfold C_M_sizeForLines; rw [if_pos n8]
    have iA : Iv (C_M_operandAddress u x 2).2 := i_operand h _ _
    simp only [z34, zs, show J_Mo_lineOperand_59 0 = 0 from rfl, e_address, show J_Mo_address_122 0 = 2 from rfl]
    unfold J_Mo_lineOperand_77 J_Mo_lineOperand_183 J_M_receiveLines_88
    simp only [if_neg (show ¬ (2 : Int32) = 1 by decide), if_pos (show (0 : Int32) = 0 from rfl), if_true, if_false]
    have lp := lp_recv0 hc2 (C_M_register (C_M_operandAddress u x 2).2 12) t (gA u g x) (wA u w x) iA rfl ((nI c).toInt - (0 : Int32).toInt).toNat 0 0 (by omega)
    have mB := m_recv (C_M_operandAddress u x 2).2 (C_M_register (C_M_operandAddress u x 2).2 12) 65535 (fun k hk => oneW k (by omega)) hc2 ((nI c).toInt - (0 : Int32).toInt).toNat 0 0 (by omega) rfl
    rw [show nI 0 = (0 : Int32) from rfl] at lp mB
    rw [lp]
    dsimp only
    generalize (L_M_receiveLines_29 (nI c) (C_M_operandAddress u x 2).2 (C_M_register (C_M_operandAddress u x 2).2 12) ((nI c).toInt - (0 : Int32).toInt).toNat (0, 0)).1 = a at *
    rw [e_test _ _ _ _ mB, e_store0, mp_2]
    rfl
/-- the rest -/
theorem e_reg {u : CSt} (h : Iv u) (t g w : Int32) {n : Nat} (h1 : 8192 ≤ n) (h2 : n < 16384) : ∃ g' w', C_Mo_withRegister (ra u t g w) (nI n) = ra (C_M_runOnRegisterAndOperand u (nI n)).2 t g' w' := by
  have e10 : nI n >>> ((10 : Int32) &&& 31) = nI (n / 1024) := pk_shrN (by omega) _ 10 (by decide)
  have hq1 : 8 ≤ n / 1024 := by omega
  have hq2 : n / 1024 < 16 := by omega
  generalize nI n = x at *
  generalize n / 1024 = q at *
  by_cases c12 : q = 12
  · subst c12
    obtain ⟨g', w', k⟩ := e_send h t g w x
    refine ⟨g', w', ?_⟩
    unfold C_Mo_withRegister C_M_runOnRegisterAndOperand J_Mo_withRegister_38
    simp only [e10, if_pos (show nI 12 = 12 from rfl), if_neg (show ¬ nI 12 = 11 by decide), if_true, if_false]
    exact k
  by_cases c13 : q = 13
  · subst c13
    obtain ⟨g', w', k⟩ := e_recv h t g w x
    refine ⟨g', w', ?_⟩
    unfold C_Mo_withRegister C_M_runOnRegisterAndOperand J_Mo_withRegister_38
    simp only [e10, if_pos (show nI 13 = 13 from rfl), if_neg (show ¬ nI 13 = 11 by decide), if_neg (show ¬ nI 13 = 12 by decide), if_true, if_false]
    exact k
  refine ⟨gA u g x, wA u w x, ?_⟩
  have iA : Iv (C_M_operandAddress u x 2).2 := i_operand h _ _
  have hs : Wd (C_Me_word (C_M_operandAddress u x 2).2 (C_M_operandAddress u x 2).1) := w_word iA _
  have hr : Wd (C_M_register (C_M_operandAddress u x 2).2 ((x >>> ((6 : Int32) &&& 31)) &&& 15)) := w_reg iA _
  unfold C_Mo_withRegister C_M_runOnRegisterAndOperand C_M_combineIntoRegister J_Mo_withRegister_129 J_Mo_withRegister_155 J_Mo_withRegister_180 J_Mo_withRegister_220
  simp only [e10, e_address, show J_Mo_address_122 0 = 2 from rfl, e_word, e_register]
  rcases (show q = 8 ∨ q = 9 ∨ q = 10 ∨ q = 11 ∨ q = 14 ∨ q = 15 by omega) with rfl | rfl | rfl | rfl | rfl | rfl
  · simp only [if_pos (show nI 8 = 8 from rfl), if_neg (show ¬ nI 8 = 9 by decide), if_neg (show ¬ nI 8 = 10 by decide), if_neg (show ¬ nI 8 = 11 by decide), if_neg (show ¬ nI 8 = 12 by decide), if_neg (show ¬ nI 8 = 13 by decide), if_neg (show ¬ nI 8 = 14 by decide), if_neg (show ¬ nI 8 = 15 by decide), if_true, if_false]
    rfl
  · simp only [if_neg (show ¬ nI 9 = 8 by decide), if_pos (show nI 9 = 9 from rfl), if_neg (show ¬ nI 9 = 10 by decide), if_neg (show ¬ nI 9 = 11 by decide), if_neg (show ¬ nI 9 = 12 by decide), if_neg (show ¬ nI 9 = 13 by decide), if_neg (show ¬ nI 9 = 14 by decide), if_neg (show ¬ nI 9 = 15 by decide), if_true, if_false]
    rfl
  · simp only [if_neg (show ¬ nI 10 = 8 by decide), if_neg (show ¬ nI 10 = 9 by decide), if_pos (show nI 10 = 10 from rfl), if_neg (show ¬ nI 10 = 11 by decide), if_neg (show ¬ nI 10 = 12 by decide), if_neg (show ¬ nI 10 = 13 by decide), if_neg (show ¬ nI 10 = 14 by decide), if_neg (show ¬ nI 10 = 15 by decide), if_true, if_false]
    rw [e_test _ _ _ _ (mk_xor hr hs), e_setRegister]
    rfl
  · simp only [if_pos (show nI 11 = 11 from rfl), if_neg (show ¬ nI 11 = 12 by decide), if_neg (show ¬ nI 11 = 13 by decide), if_true, if_false]
    rw [e_change, e_setRegister]
    rfl
  · simp only [if_neg (show ¬ nI 14 = 8 by decide), if_neg (show ¬ nI 14 = 9 by decide), if_neg (show ¬ nI 14 = 10 by decide), if_neg (show ¬ nI 14 = 11 by decide), if_neg (show ¬ nI 14 = 12 by decide), if_neg (show ¬ nI 14 = 13 by decide), if_pos (show nI 14 = 14 from rfl), if_neg (show ¬ nI 14 = 15 by decide), if_true, if_false]
    rw [e_setRegister, e_setRegister]
    unfold C_M_multiply C_M_setRegister
    dsimp only
    rw [sw_c _ _ (lowEq _)]
  · simp only [if_neg (show ¬ nI 15 = 8 by decide), if_neg (show ¬ nI 15 = 9 by decide), if_neg (show ¬ nI 15 = 10 by decide), if_neg (show ¬ nI 15 = 11 by decide), if_neg (show ¬ nI 15 = 12 by decide), if_neg (show ¬ nI 15 = 13 by decide), if_neg (show ¬ nI 15 = 14 by decide), if_pos (show nI 15 = 15 from rfl), if_true, if_false]
    generalize (C_M_operandAddress u x 2).2 = A at *
    generalize (x >>> ((6 : Int32) &&& 31)) &&& 15 = d at *
    generalize C_Me_word A (C_M_operandAddress u x 2).1 = s at *
    unfold J_Mo_withRegister_242 C_M_divide J_M_divide_10 J_M_divide_29
    by_cases hsr : s ≤ C_M_register A d
    · simp only [if_pos hsr, if_pos (show (0 : Int32) = 0 from rfl), if_neg (show ¬ C_M_register A d < s from Int32.not_lt.mpr hsr), if_true, if_false]
      rfl
    · simp only [if_neg hsr, if_neg (show ¬ (1 : Int32) = 0 by decide), if_pos (show C_M_register A d < s from Int32.not_le.mp hsr), e_flag, e_register, e_setRegister, if_true, if_false]
      have iM : Iv (C_St_mark A 2048 0) := iA
      rw [dvdEq hr (w_reg iM _)]
theorem reg_0 (u : CSt) (x : Int32) : (C_M_runOnRegisterAndOperand u x).1 = 0 := by
  unfold C_M_runOnRegisterAndOperand
  dsimp only
  (repeat' split) <;> rfl
theorem i_divide {u : CSt} (h : Iv u) (n a b : Int32) : Iv (C_M_divide u n a b) := by
  unfold C_M_divide
  dsimp only
  split
  · exact i_mark h _ _
  · exact i_setRegister (i_setRegister (i_mark h _ _) _ _) _ _
theorem i_multiply {u : CSt} (h : Iv u) (n a b : Int32) : Iv (C_M_multiply u n a b) := by
  unfold C_M_multiply
  exact i_setRegister (i_setRegister h _ _) _ _
theorem i_combine {u : CSt} (h : Iv u) (a b c : Int32) : Iv (C_M_combineIntoRegister u a b c) := by
  unfold C_M_combineIntoRegister
  dsimp only
  split
  · exact i_mark h _ _
  split
  · exact i_mark h _ _
  split
  · exact i_setRegister (i_tested h _) _ _
  split
  · exact i_divide h _ _ _
  split
  · exact i_divide h _ _ _
  split
  · exact i_divide h _ _ _
  split
  · exact i_multiply h _ _ _
  · exact i_divide h _ _ _
theorem i_reg {u : CSt} (h : Iv u) (x : Int32) : Iv (C_M_runOnRegisterAndOperand u x).2 := by
  unfold C_M_runOnRegisterAndOperand
  dsimp only
  split
  · exact i_mark (i_setRegister (i_switch (i_operand h _ _) _) _ _) _ _
  · split
    · unfold C_M_sendLines
      exact i_parity (i_compare (i_send _ _ _ _ _ _ (i_operand h _ _)) _ _) _ _
    · split
      · unfold C_M_receiveLines
        exact i_parity (i_store (i_tested (i_operand h _ _) _) _ _ _) _ _
      · exact i_combine (i_operand h _ _) _ _ _
