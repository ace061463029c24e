/-! 12h.top: a step, and the other methods -/
theorem exTab : ∀ r, r < 64 → (1152 : Int32) ||| nI r = nI (1152 + r) ∧ nI (1152 + r) &&& 65472 = 1152 := by decide +kernel
theorem exEq (x : Int32) : x &&& 65535 = (x &&& 65472) ||| (x &&& 63) := by
  refine bx fun i hi => ?_
  simp only [bt_and, bt_or]
  generalize bt x i = b
  revert b; revert hi; revert i
  decide +kernel
theorem ex_iff {n : Nat} (h : n < 65536) : (nI n &&& 65472) = 1152 ↔ n / 64 = 18 := by
  constructor
  · intro q
    have e := exEq (nI n)
    rw [wd_of h, q] at e
    obtain ⟨j, hj, k⟩ := pk_andE (nI n) (m := 63) 6 (by decide)
    rw [k, (exTab j hj).1, nI_eq (by omega) (by omega)] at e
    omega
  · intro q
    have e : n = 1152 + n % 64 := by omega
    rw [e]
    exact (exTab (n % 64) (by omega)).2
theorem l_lt {n : Nat} {K : Int32} (k : Nat) (h : n < k) (hk : k < 2 ^ 31 := by decide) (e : K = nI k := by rfl) : nI n < K := by
  rw [e]; exact nI_lt h hk
theorem l_nlt {n : Nat} {K : Int32} (k : Nat) (h : k ≤ n) (hn : n < 2 ^ 31 := by omega) (e : K = nI k := by rfl) : ¬ nI n < K := by
  rw [e]; exact nI_nlt h hn
theorem l_le {n : Nat} {K : Int32} (k : Nat) (h : k ≤ n) (hn : n < 2 ^ 31 := by omega) (e : K = nI k := by rfl) : K ≤ nI n := by
  rw [e]; exact nI_le h hn
theorem l_nle {n : Nat} {K : Int32} (k : Nat) (h : n < k) (hk : k < 2 ^ 31 := by decide) (e : K = nI k := by rfl) : ¬ K ≤ nI n := by
  rw [e]; exact nI_ge h hk
theorem ex_1 {n : Nat} (h : n < 65536) (q : n / 64 = 18) : C_M_isExecute (nI n) = 1 ∧ C_Mo_isX (nI n) = 1 ∧ C_Mo_known (nI n) = 1 := by
  unfold C_M_isExecute C_Mo_isX C_Mo_known
  refine ⟨if_pos ((ex_iff h).mpr q), ?_, ?_⟩
  · rw [if_neg (l_nlt (n := n) (K := 1152) 1152 (by omega)), if_neg (l_nle (n := n) (K := 1216) 1216 (by omega))]
  · rw [if_pos (l_lt (n := n) (K := 4096) 4096 (by omega)), if_pos (l_lt (n := n) (K := 2048) 2048 (by omega)), if_neg (l_nlt (n := n) (K := 1024) 1024 (by omega)), if_neg (l_nle (n := n) (K := 1920) 1920 (by omega))]
theorem ex_0 {n : Nat} (h : n < 65536) (q : n / 64 ≠ 18) : C_M_isExecute (nI n) = 0 ∧ C_Mo_isX (nI n) = 0 := by
  unfold C_M_isExecute C_Mo_isX
  refine ⟨if_neg (fun z => q ((ex_iff h).mp z)), ?_⟩
  by_cases a : n < 1152
  · rw [if_pos (l_lt (n := n) (K := 1152) 1152 a)]
  · rw [if_neg (l_nlt (n := n) (K := 1152) 1152 (by omega)), if_pos (l_le (n := n) (K := 1216) 1216 (by omega))]
/-- what is not known is refused, and changes nothing -/
theorem run_2 (u : CSt) {n : Nat} (h : n < 65536) (k : C_Mo_known (nI n) = 0) : C_M_run u (nI n) = (2, u) := by
  have hx : n / 64 ≠ 18 := fun q => by rw [(ex_1 h q).2.2] at k; exact absurd k (by decide)
  unfold C_Mo_known at k
  unfold C_M_run C_M_runImmediateOrControl
  rw [(ex_0 h hx).1]
  by_cases a1 : nI n < 4096
  · rw [if_pos a1] at k
    have a0 : nI n < 8192 := nI_lt (b := 8192) (by have := (nI_ltI (a := n) (b := 4096) (by omega) (by decide)).mp a1; omega) (by decide)
    have a9 : nI n < 16384 := nI_lt (b := 16384) (by have := (nI_ltI (a := n) (b := 4096) (by omega) (by decide)).mp a1; omega) (by decide)
    simp only [if_pos a9, if_pos a0, if_pos a1, if_pos (show (0 : Int32) = 0 from rfl), if_true, if_false]
    by_cases a2 : nI n < 2048
    · rw [if_pos a2] at k
      simp only [if_pos a2, if_true, if_false]
      by_cases a3 : nI n < 1024
      · rw [if_pos a3] at k
        simp only [if_pos a3, if_true, if_false]
        by_cases a4 : nI n < 512
        · simp only [if_pos a4, if_true, if_false]
        · rw [if_neg a4] at k
          simp only [if_neg a4, if_true, if_false]
          by_cases a5 : (nI n &&& 16) = 0
          · rw [if_pos a5] at k
            simp only [if_pos a5, if_true, if_false]
            by_cases a6 : ((nI n >>> ((5 : Int32) &&& 31)) &&& 15) = 9
            · simp only [a6]
              rfl
            · rw [if_neg a6] at k
              exact absurd k (by decide)
          · simp only [if_neg a5, if_true, if_false]
      · rw [if_neg a3] at k
        simp only [if_neg a3, if_true, if_false]
        by_cases a4 : 1920 ≤ nI n
        · simp only [if_pos a4, if_true, if_false]
        · rw [if_neg a4] at k
          exact absurd k (by decide)
    · rw [if_neg a2] at k
      simp only [if_neg a2, if_true, if_false]
      by_cases a3 : 3072 ≤ nI n
      · simp only [if_pos a3, if_true, if_false]
      · rw [if_neg a3] at k
        exact absurd k (by decide)
  · rw [if_neg a1] at k
    exact absurd k (by decide)
theorem run_3 (u : CSt) {n : Nat} (h : n < 65536) (q : n / 64 = 18) : C_M_run u (nI n) = (3, u) := by
  unfold C_M_run
  rw [(ex_1 h q).1]
  simp only [if_pos (l_lt (n := n) (K := 16384) 16384 (by omega)), if_pos (l_lt (n := n) (K := 8192) 8192 (by omega)), if_pos (l_lt (n := n) (K := 4096) 4096 (by omega)), if_pos (l_lt (n := n) (K := 2048) 2048 (by omega)), if_neg (show ¬ (1 : Int32) = 0 by decide), if_true, if_false]
theorem pr0 (p : Int32 × CSt) (h : p.1 = 0) : p = (0, p.2) := Prod.ext h rfl
/-- what is known is done alike, and answers 0 or 1 -/
theorem run_0 {u : CSt} (hu : Iv u) (t g w : Int32) {n : Nat} (h : n < 65536) (q : n / 64 ≠ 18) (k : ¬ C_Mo_known (nI n) = 0) :
    (∃ g' w', C_Mo_does (ra u t g w) (nI n) = ((C_M_run u (nI n)).1, ra (C_M_run u (nI n)).2 t g' w')) ∧ ((C_M_run u (nI n)).1 = 0 ∨ (C_M_run u (nI n)).1 = 1) ∧ Iv (C_M_run u (nI n)).2 := by
  unfold C_Mo_known at k
  unfold C_Mo_does C_M_run
  rw [(ex_0 h q).1]
  by_cases a9 : nI n < 16384
  · simp only [if_pos a9, if_true, if_false]
    have b9 := (nI_ltI (a := n) (b := 16384) (by omega) (by decide)).mp a9
    by_cases a0 : nI n < 8192
    · simp only [if_pos a0, if_true, if_false]
      have b0 := (nI_ltI (a := n) (b := 8192) (by omega) (by decide)).mp a0
      by_cases a1 : nI n < 4096
      · rw [if_pos a1] at k
        simp only [if_pos a1, if_true, if_false]
        have b1 := (nI_ltI (a := n) (b := 4096) (by omega) (by decide)).mp a1
        by_cases a2 : nI n < 2048
        · rw [if_pos a2] at k
          simp only [if_pos a2, if_pos (show (0 : Int32) = 0 from rfl), if_true, if_false]
          have b2 := (nI_ltI (a := n) (b := 2048) (by omega) (by decide)).mp a2
          by_cases a3 : nI n < 1024
          · rw [if_pos a3] at k
            simp only [if_pos a3, if_true, if_false]
            have b3 := (nI_ltI (a := n) (b := 1024) (by omega) (by decide)).mp a3
            by_cases a4 : nI n < 512
            · rw [if_pos a4] at k
              exact absurd rfl k
            · rw [if_neg a4] at k
              simp only [if_neg a4, if_true, if_false]
              by_cases a5 : (nI n &&& 16) = 0
              · rw [if_pos a5] at k
                simp only [if_pos a5, if_true, if_false]
                have e5 : (nI n >>> ((5 : Int32) &&& 31)) &&& 15 = nI (n / 32 % 16) := by
                  rw [pk_shrN (by omega) _ 5 (by decide), pk_andN (by omega) 4 (by decide)]
                have n9 : n / 32 % 16 ≠ 9 := fun z => k (by rw [e5, z]; rfl)
                rw [e_inner hu t g w b3 n9]
                refine ⟨⟨g, w, rfl⟩, ?_, i_inner hu _⟩
                unfold C_M_runImmediateOrControl
                dsimp only
                (repeat' split) <;> first | exact Or.inl rfl | exact Or.inr rfl | skip
                next z => exact absurd (e5.symm.trans z) (fun y => n9 ((nI_eq (b := 9) (by omega) (by decide)).mp y))
              · rw [if_neg a5] at k
                exact absurd rfl k
          · rw [if_neg a3] at k
            simp only [if_neg a3, if_true, if_false]
            have b3 : ¬ n < 1024 := fun z => a3 (l_lt 1024 z)
            by_cases a4 : 1920 ≤ nI n
            · rw [if_pos a4] at k
              exact absurd rfl k
            · simp only [if_neg a4, if_true, if_false]
              have b4 : ¬ 1920 ≤ n := fun z => a4 (l_le 1920 z)
              obtain ⟨g', w', e⟩ := e_one hu t g w (n := n) (by omega) (by omega) q
              rw [e, pr0 _ (one_z u (nI n))]
              exact ⟨⟨g', w', rfl⟩, Or.inl rfl, i_one hu _⟩
        · rw [if_neg a2] at k
          simp only [if_neg a2, if_true, if_false]
          have b2 : ¬ n < 2048 := fun z => a2 (l_lt 2048 z)
          by_cases a3 : 3072 ≤ nI n
          · rw [if_pos a3] at k
            exact absurd rfl k
          · simp only [if_neg a3, if_true, if_false]
            have b3 : ¬ 3072 ≤ n := fun z => a3 (l_le 3072 z)
            rw [e_shift hu t g w (n := n) (by omega) (by omega), pr0 _ (shift_0 u (nI n))]
            exact ⟨⟨g, w, rfl⟩, Or.inl rfl, i_shift hu _⟩
      · simp only [if_neg a1, if_true, if_false]
        have b1 : ¬ n < 4096 := fun z => a1 (l_lt 4096 z)
        rw [e_jump hu t g w (n := n) (by omega) (by omega)]
        by_cases a2 : 7424 ≤ nI n
        · simp only [if_pos a2, if_true, if_false]
          rw [pr0 _ (line_0 u (nI n))]
          exact ⟨⟨g, w, rfl⟩, Or.inl rfl, i_line hu _⟩
        · simp only [if_neg a2, if_true, if_false]
          rw [pr0 _ (jump_0 u (nI n))]
          exact ⟨⟨g, w, rfl⟩, Or.inl rfl, i_jump hu _⟩
    · simp only [if_neg a0, if_true, if_false]
      have b0 : ¬ n < 8192 := fun z => a0 (l_lt 8192 z)
      obtain ⟨g', w', e⟩ := e_reg hu t g w (n := n) (by omega) (by omega)
      rw [e, pr0 _ (reg_0 u (nI n))]
      exact ⟨⟨g', w', rfl⟩, Or.inl rfl, i_reg hu _⟩
  · simp only [if_neg a9, if_true, if_false]
    have b9 : ¬ n < 16384 := fun z => a9 (l_lt 16384 z)
    obtain ⟨g', w', e⟩ := e_two hu t g w (n := n) (by omega) h
    rw [e, pr0 _ (two_0 u (nI n))]
    exact ⟨⟨g', w', rfl⟩, Or.inl rfl, i_two hu _⟩
/-- the words are back: a register that has grown is as before -/
theorem upd_2 (f : Nat → Int32) (k : Nat) (a : Int32) : upd (upd f k a) k (f k) = f := by
  funext j
  unfold upd
  split
  · next h => rw [h]
  · rfl
theorem bk_word {u : CSt} (h : Iv u) (n a : Int32) : C_M_setRegister (C_M_setRegister u n a) n (C_M_register u n) = u := by
  have hw : C_M_register u n &&& 65535 = C_M_register u n := w_reg h n
  have e : upd (upd u.1 (((u.2.2.2.1 + (2 * n)) &&& 1023) >>> ((1 : Int32) &&& 31)).toNatClampNeg (a &&& 65535)) (((u.2.2.2.1 + (2 * n)) &&& 1023) >>> ((1 : Int32) &&& 31)).toNatClampNeg (C_M_register u n &&& 65535) = u.1 := by
    rw [hw]
    exact upd_2 _ _ _
  unfold C_M_setRegister C_M_registerAddress C_Me_setWord
  simp only [chEq]
  rw [e]
theorem sr_id {u : CSt} (h : Iv u) (n : Int32) : C_M_setRegister u n (C_M_register u n) = u := sw_id h _
theorem gr_nn {u : CSt} (h : Iv u) (x : Int32) : ¬ u.2.2.2.1 + (2 * (x &&& 15)) < 0 := by
  obtain ⟨j, hj, e⟩ := pk_andE x (m := 15) 4 (by decide)
  have h2 : u.2.2.2.1 &&& 1023 = u.2.2.2.1 := by
    rw [← h.2, Int32.and_assoc]
    rfl
  obtain ⟨k, hk, q⟩ := pk_andE u.2.2.2.1 (m := 1023) 10 (by decide)
  rw [e, ← h2, q, show (2 : Int32) = nI 2 from rfl, pk_mul, nI_add]
  exact nI_pos (by omega)
/-- the state with another PC -/
def pcTo (u : CSt) (x : Int32) : CSt := (u.1, u.2.1, u.2.2.1, u.2.2.2.1, x, u.2.2.2.2.2.1, u.2.2.2.2.2.2)
/-- an X that is refused: nothing has changed -/
theorem bk_X {u : CSt} (h : Iv u) (t w c : Int32) (v : Int32) :
    (if (ra (C_M_operandAddress (C_M_fetch u).2 c 2).2 t (gA (C_M_fetch u).2 (-1) c) (wA (C_M_fetch u).2 w c)).2.2.2.2.2.2.2.2.1 < 0 then (v, ra (pcTo (C_M_operandAddress (C_M_fetch u).2 c 2).2 u.2.2.2.2.1) t (gA (C_M_fetch u).2 (-1) c) (wA (C_M_fetch u).2 w c)) else (v, C_Mo_setWord (ra (pcTo (C_M_operandAddress (C_M_fetch u).2 c 2).2 u.2.2.2.2.1) t (gA (C_M_fetch u).2 (-1) c) (wA (C_M_fetch u).2 w c)) (gA (C_M_fetch u).2 (-1) c) (wA (C_M_fetch u).2 w c))) =
    (v, ra (C_M_setRegister (pcTo (C_M_operandAddress (C_M_fetch u).2 c 2).2 u.2.2.2.2.1) (c &&& 15) (C_M_register (C_M_fetch u).2 (c &&& 15))) t (gA (C_M_fetch u).2 (-1) c) (wA (C_M_fetch u).2 w c)) := by
  have g1 : (ra (C_M_operandAddress (C_M_fetch u).2 c 2).2 t (gA (C_M_fetch u).2 (-1) c) (wA (C_M_fetch u).2 w c)).2.2.2.2.2.2.2.2.1 = gA (C_M_fetch u).2 (-1) c := rfl
  rw [g1]
  by_cases k3 : ((c >>> ((4 : Int32) &&& 31)) &&& 3) = 0 ∨ ((c >>> ((4 : Int32) &&& 31)) &&& 3) = 1 ∨ ((c >>> ((4 : Int32) &&& 31)) &&& 3) = 2
  · have hg : gA (C_M_fetch u).2 (-1) c = -1 := by
      unfold gA
      rcases k3 with k | k | k
      · rw [if_pos k]
      · by_cases a : ((c >>> ((4 : Int32) &&& 31)) &&& 3) = 0
        · rw [if_pos a]
        · rw [if_neg a, if_pos k]
      · by_cases a : ((c >>> ((4 : Int32) &&& 31)) &&& 3) = 0
        · rw [if_pos a]
        · by_cases b : ((c >>> ((4 : Int32) &&& 31)) &&& 3) = 1
          · rw [if_neg a, if_pos b]
          · rw [if_neg a, if_neg b, if_pos k]
    have hA : pcTo (C_M_operandAddress (C_M_fetch u).2 c 2).2 u.2.2.2.2.1 = u := by
      unfold C_M_operandAddress
      by_cases a : ((c >>> ((4 : Int32) &&& 31)) &&& 3) = 0
      · rw [if_pos a]; rfl
      · by_cases b : ((c >>> ((4 : Int32) &&& 31)) &&& 3) = 1
        · rw [if_neg a, if_pos b]; rfl
        · have k : ((c >>> ((4 : Int32) &&& 31)) &&& 3) = 2 := by
            rcases k3 with k | k | k
            · exact absurd k a
            · exact absurd k b
            · exact k
          rw [if_neg a, if_neg b, if_pos k]; rfl
    rw [hg, hA, if_pos (by decide)]
    exact congrArg (fun z => (v, ra z t (-1) (wA (C_M_fetch u).2 w c))) (sr_id h (c &&& 15)).symm
  · have a : ¬ ((c >>> ((4 : Int32) &&& 31)) &&& 3) = 0 := fun z => k3 (Or.inl z)
    have b : ¬ ((c >>> ((4 : Int32) &&& 31)) &&& 3) = 1 := fun z => k3 (Or.inr (Or.inl z))
    have d : ¬ ((c >>> ((4 : Int32) &&& 31)) &&& 3) = 2 := fun z => k3 (Or.inr (Or.inr z))
    have hg : gA (C_M_fetch u).2 (-1) c = u.2.2.2.1 + (2 * (c &&& 15)) := by
      unfold gA
      rw [if_neg a, if_neg b, if_neg d]
      rfl
    have hw : wA (C_M_fetch u).2 w c = C_M_register (C_M_fetch u).2 (c &&& 15) := by
      unfold wA
      rw [if_neg a, if_neg b, if_neg d]
    have hA : (C_M_operandAddress (C_M_fetch u).2 c 2).2 = C_M_setRegister (C_M_fetch u).2 (c &&& 15) (C_M_register (C_M_fetch u).2 (c &&& 15) + 2) := by
      unfold C_M_operandAddress
      rw [if_neg a, if_neg b, if_neg d]
    rw [hg, if_neg (gr_nn h c), e_setWord, hw, hA]
    rfl
theorem e_step {u : CSt} (h : Iv u) (t g w : Int32) : (∃ g' w', C_Mo_step (ra u t g w) = ((C_M_step u).1, ra (C_M_step u).2 0 g' w')) ∧ Iv (C_M_step u).2 := by
  unfold C_Mo_step C_M_step
  have hm : (ra u t g w).2.2.2.2.2.1 &&& 15 = C_St_mask u := rfl
  have hl : (ra u t g w).2.2.2.2.2.2.1 = u.2.2.2.2.2.1 := rfl
  have hi : (ra u t g w).2.2.2.2.2.2.2.1 = u.2.2.2.2.2.2 := rfl
  have h0 : (((ra u t g w).1, (ra u t g w).2.1, 0, (ra u t g w).2.2.2.1, (ra u t g w).2.2.2.2.1, (ra u t g w).2.2.2.2.2.1, (ra u t g w).2.2.2.2.2.2.1, (ra u t g w).2.2.2.2.2.2.2.1, (ra u t g w).2.2.2.2.2.2.2.2.1, (ra u t g w).2.2.2.2.2.2.2.2.2) : RSt) = ra u 0 g w := rfl
  rw [h0, hm, hl, hi]
  by_cases a : C_St_mask u < u.2.2.2.2.2.1
  · simp only [if_pos a, if_true, if_false]
    by_cases b : u.2.2.2.2.2.2 = 0
    · simp only [if_pos b, if_true, if_false]
      have hF : Iv (C_M_fetch u).2 := h
      obtain ⟨n, hn, en⟩ := wd_n (w_word h u.2.2.2.2.1)
      have ec : (C_M_fetch u).1 = nI n := en
      unfold C_Mo_fetched J_Mo_fetched_77 J_M_step_76
      simp only [e_next, ec]
      have h1 : (((ra (C_M_fetch u).2 0 g w).1, (ra (C_M_fetch u).2 0 g w).2.1, (ra (C_M_fetch u).2 0 g w).2.2.1, (ra (C_M_fetch u).2 0 g w).2.2.2.1, (ra (C_M_fetch u).2 0 g w).2.2.2.2.1, (ra (C_M_fetch u).2 0 g w).2.2.2.2.2.1, (ra (C_M_fetch u).2 0 g w).2.2.2.2.2.2.1, (ra (C_M_fetch u).2 0 g w).2.2.2.2.2.2.2.1, (-1), (ra (C_M_fetch u).2 0 g w).2.2.2.2.2.2.2.2.2) : RSt) = ra (C_M_fetch u).2 0 (-1) w := rfl
      simp only [h1]
      by_cases k : C_Mo_known (nI n) = 0
      · have hx : n / 64 ≠ 18 := fun q => by rw [(ex_1 hn q).2.2] at k; exact absurd k (by decide)
        have z27 : J_Mo_fetched_27 (C_Mo_known (nI n)) = 2 := by unfold J_Mo_fetched_27; rw [if_pos k]
        simp only [z27, (ex_0 hn hx).1, if_neg (show ¬ (2 : Int32) = 0 by decide), if_pos (show (0 : Int32) = 0 from rfl), if_pos (show (2 : Int32) = 2 from rfl), run_2 _ hn k, if_true, if_false]
        have e1 : C_M_setRegister ((C_M_fetch u).2.1, (C_M_fetch u).2.2.1, (C_M_fetch u).2.2.2.1, (C_M_fetch u).2.2.2.2.1, u.2.2.2.2.1, (C_M_fetch u).2.2.2.2.2.2.1, (C_M_fetch u).2.2.2.2.2.2.2) (nI n &&& 15) (C_M_register (C_M_fetch u).2 (nI n &&& 15)) = u := sr_id h _
        rw [e1, if_pos (show (ra (C_M_fetch u).2 0 (-1) w).2.2.2.2.2.2.2.2.1 < 0 from (by decide : (-1 : Int32) < 0))]
        exact ⟨⟨-1, w, rfl⟩, h⟩
      · have z27 : J_Mo_fetched_27 (C_Mo_known (nI n)) = 0 := by unfold J_Mo_fetched_27; rw [if_neg k]
        simp only [z27, if_pos (show (0 : Int32) = 0 from rfl), if_true, if_false]
        by_cases q : n / 64 = 18
        · simp only [(ex_1 hn q).1, (ex_1 hn q).2.1, if_neg (show ¬ (1 : Int32) = 0 by decide), e_address, show J_Mo_address_122 0 = 2 from rfl, e_word, if_true, if_false]
          have iA : Iv (C_M_operandAddress (C_M_fetch u).2 (nI n) 2).2 := i_operand hF _ _
          obtain ⟨m, hm2, em⟩ := wd_n (w_word iA (C_M_operandAddress (C_M_fetch u).2 (nI n) 2).1)
          simp only [em]
          have bk := bk_X h 0 w (nI n)
          have iR : ∀ v, Iv (C_M_setRegister (pcTo (C_M_operandAddress (C_M_fetch u).2 (nI n) 2).2 u.2.2.2.2.1) (nI n &&& 15) v) := fun v => i_setRegister (show Iv (pcTo (C_M_operandAddress (C_M_fetch u).2 (nI n) 2).2 u.2.2.2.2.1) from iA) _ _
          by_cases k2 : C_Mo_known (nI m) = 0
          · have z76 : J_Mo_fetched_76 (nI m) (C_Mo_known (nI m)) = 2 := by unfold J_Mo_fetched_76; rw [if_pos k2]
            simp only [z76, run_2 _ hm2 k2, if_neg (show ¬ (2 : Int32) = 0 by decide), if_pos (show (2 : Int32) = 2 from rfl), if_true, if_false]
            exact ⟨⟨_, _, bk 2⟩, iR _⟩
          · by_cases q2 : m / 64 = 18
            · have z76 : J_Mo_fetched_76 (nI m) (C_Mo_known (nI m)) = 3 := by unfold J_Mo_fetched_76; rw [if_neg k2, (ex_1 hm2 q2).2.1]; rfl
              simp only [z76, run_3 _ hm2 q2, if_neg (show ¬ (3 : Int32) = 0 by decide), if_neg (show ¬ (3 : Int32) = 2 by decide), if_pos (show (3 : Int32) = 3 from rfl), if_true, if_false]
              exact ⟨⟨_, _, bk 3⟩, iR _⟩
            · have z76 : J_Mo_fetched_76 (nI m) (C_Mo_known (nI m)) = 0 := by unfold J_Mo_fetched_76; rw [if_neg k2, (ex_0 hm2 q2).2]; rfl
              simp only [z76, if_pos (show (0 : Int32) = 0 from rfl), if_true, if_false]
              obtain ⟨⟨g', w', e⟩, r, i⟩ := run_0 iA 0 (gA (C_M_fetch u).2 (-1) (nI n)) (wA (C_M_fetch u).2 w (nI n)) hm2 q2 k2
              rw [e]
              have r2 : ¬ (C_M_run (C_M_operandAddress (C_M_fetch u).2 (nI n) 2).2 (nI m)).1 = 2 := by rcases r with z | z <;> rw [z] <;> decide
              have r3 : ¬ (C_M_run (C_M_operandAddress (C_M_fetch u).2 (nI n) 2).2 (nI m)).1 = 3 := by rcases r with z | z <;> rw [z] <;> decide
              simp only [if_neg r2, if_neg r3, if_true, if_false]
              exact ⟨⟨g', w', rfl⟩, i⟩
        · simp only [(ex_0 hn q).1, (ex_0 hn q).2, if_pos (show (0 : Int32) = 0 from rfl), if_true, if_false]
          obtain ⟨⟨g', w', e⟩, r, i⟩ := run_0 hF 0 (-1) w hn q k
          rw [e]
          have r2 : ¬ (C_M_run (C_M_fetch u).2 (nI n)).1 = 2 := by rcases r with z | z <;> rw [z] <;> decide
          have r3 : ¬ (C_M_run (C_M_fetch u).2 (nI n)).1 = 3 := by rcases r with z | z <;> rw [z] <;> decide
          simp only [if_neg r2, if_neg r3, if_true, if_false]
          exact ⟨⟨g', w', rfl⟩, i⟩
    · simp only [if_neg b, if_true, if_false]
      exact ⟨⟨g, w, rfl⟩, h⟩
  · simp only [if_neg a, e_change, if_true, if_false]
    exact ⟨⟨g, w, rfl⟩, i_switch h _⟩
theorem e_reset (u : CSt) (t g w : Int32) : C_Mo_reset (ra u t g w) = ra (C_M_reset u) 0 g w := by
  unfold C_Mo_reset
  have h0 : (((ra u t g w).1, (ra u t g w).2.1, 0, (ra u t g w).2.2.2.1, (ra u t g w).2.2.2.2.1, (ra u t g w).2.2.2.2.2.1, (ra u t g w).2.2.2.2.2.2.1, (ra u t g w).2.2.2.2.2.2.2.1, (ra u t g w).2.2.2.2.2.2.2.2.1, (ra u t g w).2.2.2.2.2.2.2.2.2) : RSt) = ra u 0 g w := rfl
  rw [h0, e_change]
  rfl
theorem i_reset {u : CSt} (h : Iv u) : Iv (C_M_reset u) := i_switch h 0
/-- refused or not -/
theorem adTab : ∀ i, i < 32 → ∀ b : Bool, (b && bt 1023 i) = b → (b && bt 1 i) = false → (b && bt 1022 i) = b := by decide +kernel
theorem ad_iff (x : Int32) : C_M_isWordAddress x = C_Mo_isAddress x := by
  unfold C_M_isWordAddress C_Mo_isAddress
  by_cases h : (x &&& 1022) = x
  · have h1 : x &&& 1 = 0 := by
      rw [← h, Int32.and_assoc]
      exact Int32.and_zero
    have h2 : x &&& 1023 = x := by
      rw [← h, Int32.and_assoc]
      rfl
    obtain ⟨j, hj, e⟩ := pk_andE x (m := 1023) 10 (by decide)
    have hx : x = nI j := h2.symm.trans e
    have hj2 : j ≠ 1023 := fun q => by
      rw [hx, q] at h1
      exact absurd h1 (by decide)
    rw [if_pos h, hx, if_neg (nI_pos (by omega)), if_neg (show ¬ (1022 : Int32) < nI j from nI_nlt (a := 1022) (b := j) (by omega) (by decide)), ← hx, if_pos h1]
  · rw [if_neg h]
    by_cases a : x < 0
    · rw [if_pos a]
    · by_cases b : 1022 < x
      · rw [if_neg a, if_pos b]
      · rw [if_neg a, if_neg b]
        by_cases c : (x &&& 1) = 0
        · exfalso
          apply h
          obtain ⟨j, hj, hx⟩ := nI_of2 (M := 1022) (n := 1022) (by decide) a (Int32.not_lt.mp b)
          have h2 : x &&& 1023 = x := by
            rw [hx, pk_andN (by omega) 10 (by decide)]
            exact congrArg nI (Nat.mod_eq_of_lt (by omega))
          refine bx fun i hi => ?_
          have q1 := congrArg (fun z => bt z i) h2
          have q2 := congrArg (fun z => bt z i) c
          simp only [bt_and] at q1 q2
          rw [bt_and]
          refine adTab i hi _ q1 (q2.trans ?_)
          unfold bt
          exact BitVec.getLsbD_zero
        · rw [if_neg c]
theorem ln_eq (x : Int32) : C_M_isLine x = if J_Mo_wire_16 x = 0 then 1 else 0 := by
  unfold C_M_isLine J_Mo_wire_16
  by_cases a : x < 0
  · rw [if_pos a, if_pos a, if_neg (by decide)]
  · by_cases b : x ≤ 63
    · have c : ¬ 64 ≤ x := fun q => by
        rw [Int32.le_iff_toInt_le] at b q
        have e1 : (63 : Int32).toInt = 63 := by decide
        have e2 : (64 : Int32).toInt = 64 := by decide
        omega
      rw [if_neg a, if_neg a, if_pos b, if_neg c, if_pos rfl]
    · have c : 64 ≤ x := by
        rw [Int32.le_iff_toInt_le] at b ⊢
        have e1 : (63 : Int32).toInt = 63 := by decide
        have e2 : (64 : Int32).toInt = 64 := by decide
        omega
      rw [if_neg a, if_neg a, if_neg b, if_pos c, if_neg (by decide)]
