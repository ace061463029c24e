/-! 12a.bits: facts of numbers alone -/
def bt (x : Int32) (i : Nat) : Bool := x.toBitVec.getLsbD i
theorem bx {a b : Int32} (h : ∀ i, i < 32 → bt a i = bt b i) : a = b := Int32.toBitVec_inj.mp (BitVec.eq_of_getLsbD_eq h)
theorem bt_and (x y : Int32) (i : Nat) : bt (x &&& y) i = (bt x i && bt y i) := by unfold bt; rw [Int32.toBitVec_and, BitVec.getLsbD_and]
theorem bt_or (x y : Int32) (i : Nat) : bt (x ||| y) i = (bt x i || bt y i) := by unfold bt; rw [Int32.toBitVec_or, BitVec.getLsbD_or]
theorem bt_xor (x y : Int32) (i : Nat) : bt (x ^^^ y) i = (bt x i ^^ bt y i) := by unfold bt; rw [Int32.toBitVec_xor, BitVec.getLsbD_xor]
theorem bt_shl (x s : Int32) (k : Nat) (hs : (s.toBitVec.smod 32).toNat = k) {i : Nat} (hi : i < 32) : bt (x <<< s) i = (!decide (i < k) && bt x (i - k)) := by
  show (x.toBitVec <<< (s.toBitVec.smod 32).toNat).getLsbD i = _
  rw [hs, BitVec.getLsbD_shiftLeft, decide_eq_true hi, Bool.true_and]
  rfl
theorem bt_shr (x s : Int32) (k : Nat) (hs : (s.toBitVec.smod 32).toNat = k) {i : Nat} (hi : i < 32) : bt (x >>> s) i = if k + i < 32 then bt x (k + i) else bt x 31 := by
  show (x.toBitVec.sshiftRight (s.toBitVec.smod 32).toNat).getLsbD i = _
  rw [hs, BitVec.getLsbD_sshiftRight, decide_eq_false (by omega), Bool.not_false, Bool.true_and, BitVec.msb_eq_getLsbD_last]
  rfl
/-- the int of the word of n -/
theorem ti (a : Int32) : (a.toInt = a.toBitVec.toNat ∧ a.toBitVec.toNat < 2 ^ 31) ∨ (a.toInt = (a.toBitVec.toNat : Int) - 2 ^ 32 ∧ 2 ^ 31 ≤ a.toBitVec.toNat ∧ a.toBitVec.toNat < 2 ^ 32) := by
  have h := a.toBitVec.isLt
  have e : a.toInt = a.toBitVec.toInt := rfl
  rw [e, BitVec.toInt_eq_toNat_cond]
  split
  · exact Or.inl ⟨rfl, by omega⟩
  · exact Or.inr ⟨rfl, by omega, h⟩
theorem sm (k : Nat) (h : k < 32) : ((nI k &&& 31).toBitVec.smod 32).toNat = k := by
  revert k
  decide +kernel
theorem shr_nat (x s : Int32) (k : Nat) (hs : (s.toBitVec.smod 32).toNat = k) (hk : k < 32) (j : Nat) (hj : j + k ≤ 32) : (x >>> s).toBitVec.toNat % 2 ^ j = x.toBitVec.toNat % 2 ^ (j + k) / 2 ^ k := by
  apply Nat.eq_of_testBit_eq
  intro i
  rw [Nat.testBit_mod_two_pow, Nat.testBit_div_two_pow, Nat.testBit_mod_two_pow]
  by_cases hi : i < j
  · have h2 : i + k < j + k := by omega
    rw [decide_eq_true hi, decide_eq_true h2, Bool.true_and, Bool.true_and]
    have e := bt_shr x s k hs (i := i) (by omega)
    rw [if_pos (by omega), Nat.add_comm k i] at e
    exact e
  · have h2 : ¬ i + k < j + k := by omega
    rw [decide_eq_false hi, decide_eq_false h2, Bool.false_and, Bool.false_and]
/-- the index of a word: both texts of it -/
theorem ixEq (x : Int32) : ((x >>> ((1 : Int32) &&& 31)) &&& 511) = ((x &&& 1023) >>> ((1 : Int32) &&& 31)) := by
  rw [pk_and x 10 (by decide), pk_shrN (k := 1) (by omega) ((1 : Int32) &&& 31) (by decide), pk_and _ 9 (by decide), shr_nat x ((1 : Int32) &&& 31) 1 (by decide) (by decide) 9 (by decide)]
/-- a word's number: 16 bits -/
def Wd (x : Int32) : Prop := x &&& 65535 = x
theorem wd_n {x : Int32} (h : Wd x) : ∃ n, n < 65536 ∧ x = nI n := by
  obtain ⟨j, hj, e⟩ := pk_andE x (m := 65535) 16 (by decide)
  exact ⟨j, hj, h.symm.trans e⟩
theorem wd_of {n : Nat} (h : n < 65536) : Wd (nI n) := by
  unfold Wd
  rw [pk_andN (by omega) 16 (by decide)]
  exact congrArg nI (Nat.mod_eq_of_lt h)
theorem wd_m (x : Int32) : Wd (x &&& 65535) := by
  obtain ⟨j, hj, e⟩ := pk_andE x (m := 65535) 16 (by decide)
  rw [e]
  exact wd_of hj
theorem wd_0 : Wd 0 := wd_of (n := 0) (by decide)
theorem mk_and {m x : Int32} (y : Int32) (h : x &&& m = x) : (x &&& y) &&& m = x &&& y := by
  rw [Int32.and_assoc, Int32.and_comm y, ← Int32.and_assoc, h]
theorem mk_and' {m x : Int32} (y : Int32) (h : x &&& m = x) : (y &&& x) &&& m = y &&& x := by
  rw [Int32.and_assoc, h]
theorem mk_or {m x y : Int32} (hx : x &&& m = x) (hy : y &&& m = y) : (x ||| y) &&& m = x ||| y := by
  refine bx fun i _ => ?_
  have a := congrArg (fun z => bt z i) hx
  have b := congrArg (fun z => bt z i) hy
  simp only [bt_and] at a b
  rw [bt_and, bt_or]
  revert a b
  cases bt x i <;> cases bt y i <;> cases bt m i <;> decide
theorem mk_xor {m x y : Int32} (hx : x &&& m = x) (hy : y &&& m = y) : (x ^^^ y) &&& m = x ^^^ y := by
  refine bx fun i _ => ?_
  have a := congrArg (fun z => bt z i) hx
  have b := congrArg (fun z => bt z i) hy
  simp only [bt_and] at a b
  rw [bt_and, bt_xor]
  revert a b
  cases bt x i <;> cases bt y i <;> cases bt m i <;> decide
theorem chEq (x : Int32) : vp_nar .char ((x.toUInt32 % 65536).toInt32) = x &&& 65535 := by
  rw [pk_vc, pk_char, pk_and x 16 (by decide)]
theorem chWd {x : Int32} (h : Wd x) : (x.toUInt32 % 65536).toInt32 = x := by
  have e : (x.toUInt32 % 65536).toInt32 = x &&& 65535 := by rw [pk_char, pk_and x 16 (by decide)]
  exact e.trans h
/-- the sign of a word -/
theorem sgEq {x : Int32} (h : Wd x) : C_Mo_signed x = x.toInt16.toInt32 := by
  obtain ⟨n, hn, rfl⟩ := wd_n h
  have e1 : (32767 : Int32) = nI 32767 := rfl
  have e2 : (65536 : Int32).toInt = 65536 := by decide
  unfold C_Mo_signed
  apply Int32.toInt_inj.mp
  rw [Int16.toInt_toInt32, Int32.toInt_toInt16, nI_toInt (by omega), e1]
  by_cases h5 : n ≤ 32767
  · rw [if_pos ((nI_leI (by omega) (by decide)).mpr h5), nI_toInt (by omega), Int.bmod_def]
    split <;> omega
  · rw [if_neg (fun z => h5 ((nI_leI (by omega) (by decide)).mp z)), Int32.toInt_sub, nI_toInt (by omega), e2, Int.bmod_def, Int.bmod_def]
    split <;> split <;> omega
/-- the three flags of a comparison -/
theorem cmpBits (s : Int32) (p q r : Prop) [Decidable p] [Decidable q] [Decidable r] :
    (((((s &&& (-57345)) ||| (if p then 0 else 32768)) ||| (if q then 0 else 16384)) ||| (if r then 8192 else 0)) : Int32) =
    (let a : Int32 := if (if p then (0 : Int32) else 1) = 0 then s &&& (32768 ^^^ (-1)) else s ||| 32768
     let b : Int32 := if (if q then (0 : Int32) else 1) = 0 then a &&& (16384 ^^^ (-1)) else a ||| 16384
     if (if r then (1 : Int32) else 0) = 0 then b &&& (8192 ^^^ (-1)) else b ||| 8192) := by
  have n1 : ¬ (1 : Int32) = 0 := by decide
  by_cases hp : p <;> by_cases hq : q <;> by_cases hr : r <;> simp only [hp, hq, hr, if_true, if_false, n1] <;> refine bx fun i hi => ?_ <;> simp only [bt_and, bt_or, bt_xor] <;> generalize bt s i = b <;> revert b <;> revert hi <;> revert i <;> decide +kernel
theorem eqx (s : Int32) : (s &&& 65535) ^^^ 65535 = ((s &&& 65535) ^^^ (-1)) &&& 65535 := by
  refine bx fun i hi => ?_
  simp only [bt_and, bt_xor]
  generalize bt s i = b
  revert b; revert hi; revert i
  decide +kernel
theorem nwEq {s : Int32} (h : Wd s) : s ^^^ 65535 = (s ^^^ (-1)) &&& 65535 := by
  have e := eqx s
  rwa [h] at e
theorem anW {d : Int32} (s : Int32) (h : Wd d) : d &&& (s ^^^ 65535) = d &&& (s ^^^ (-1)) := by
  rw [← h]
  refine bx fun i hi => ?_
  simp only [bt_and, bt_xor]
  generalize bt s i = b
  generalize bt d i = c
  revert b c; revert hi; revert i
  decide +kernel
/-- a byte in the upper half -/
def Up (x : Int32) : Prop := x &&& 65280 = x
theorem anU {d : Int32} (s : Int32) (h : Up d) : d &&& (s ^^^ 65280) = d &&& (s ^^^ (-1)) := by
  rw [← h]
  refine bx fun i hi => ?_
  simp only [bt_and, bt_xor]
  generalize bt s i = b
  generalize bt d i = c
  revert b c; revert hi; revert i
  decide +kernel
theorem up_w {x : Int32} (h : Up x) : Wd x := by
  unfold Wd
  rw [← h, Int32.and_assoc]
  rfl
theorem up_m (x : Int32) : Up (x &&& 65280) := by
  unfold Up
  rw [Int32.and_assoc]
  rfl
theorem loEq (x : Int32) : (x <<< ((8 : Int32) &&& 31)) &&& 65280 = (x &&& 255) <<< ((8 : Int32) &&& 31) := by
  refine bx fun i hi => ?_
  rw [bt_and, bt_shl _ _ 8 (by decide) hi, bt_shl _ _ 8 (by decide) hi, bt_and]
  generalize bt x (i - 8) = b
  revert b; revert hi; revert i
  decide +kernel
theorem hiEq (x : Int32) : x &&& 65280 = ((x >>> ((8 : Int32) &&& 31)) &&& 255) <<< ((8 : Int32) &&& 31) := by
  refine bx fun i hi => ?_
  rw [bt_and, bt_shl _ _ 8 (by decide) hi, bt_and]
  by_cases h : i < 8
  · rw [decide_eq_true h, Bool.not_true, Bool.false_and]
    generalize bt x i = b
    revert b; revert h; revert hi; revert i
    decide +kernel
  · rw [decide_eq_false h, bt_shr _ _ 8 (by decide) (by omega), if_pos (by omega), show 8 + (i - 8) = i by omega]
    generalize bt x i = b
    revert b; revert h; revert hi; revert i
    decide +kernel
theorem up_n {x : Int32} (h : Up x) : ∃ n, n < 256 ∧ x = nI (n * 256) := by
  have e : x = _ := h.symm.trans (hiEq x)
  obtain ⟨j, hj, q⟩ := pk_andE (x >>> ((8 : Int32) &&& 31)) (m := 255) 8 (by decide)
  rw [q, pk_shlN ((8 : Int32) &&& 31) 8 (by decide) (by omega)] at e
  exact ⟨j, hj, e⟩
theorem up_of : ∀ n, n < 256 → nI (n * 256) &&& 65280 = nI (n * 256) := by decide +kernel
theorem up_lo (x : Int32) : Up ((x &&& 255) <<< ((8 : Int32) &&& 31)) := by
  rw [← loEq]
  exact up_m _
/-- parity, as either side counts it -/
theorem parTab : ∀ n, n < 256 → J_St_markParity_24 (C_In_bitCount (nI (n * 256))) = J_Mo_parity_41 (L_Mo_parity_5 (nI (n * 256)) (((16 : Int32).toInt - (8 : Int32).toInt).toNat) (0, 8)).1 := by decide +kernel
theorem parEq {x : Int32} (h : Up x) : J_St_markParity_24 (C_In_bitCount x) = J_Mo_parity_41 (L_Mo_parity_5 x (((16 : Int32).toInt - (8 : Int32).toInt).toNat) (0, 8)).1 := by
  obtain ⟨n, hn, rfl⟩ := up_n h
  exact parTab n hn
/-- a difference of bytes -/
theorem subTab : ∀ n, n < 256 → (nI (n * 256) ^^^ 65280) + 255 = ((nI (n * 256) ^^^ (-1)) &&& 65535) ∧ (nI (n * 256) ^^^ 65280) &&& 32768 = ((nI (n * 256) ^^^ (-1)) &&& 65535) &&& 32768 ∧ ((nI (n * 256) ^^^ (-1)) &&& 65535) = nI (65535 - n * 256) := by decide +kernel
theorem ovEq (a v : Int32) {b c : Int32} (h : b &&& 32768 = c &&& 32768) : ((a ^^^ v) &&& (b ^^^ v)) &&& 32768 = ((a ^^^ v) &&& (c ^^^ v)) &&& 32768 := by
  refine bx fun i _ => ?_
  have e := congrArg (fun z => bt z i) h
  simp only [bt_and] at e
  simp only [bt_and, bt_xor]
  revert e
  cases bt a i <;> cases bt b i <;> cases bt c i <;> cases bt v i <;> cases bt 32768 i <;> decide
/-- one bit of a word -/
theorem bit1 {n : Nat} (hn : n < 2 ^ 31) (k : Nat) (m : Int32) (hm : m.toBitVec.toNat = 2 ^ k) (hk : k < 31) : nI n &&& m = nI (n / 2 ^ k % 2 * 2 ^ k) := by
  apply Int32.toBitVec_inj.mp
  apply BitVec.eq_of_toNat_eq
  have hp : 2 ^ k ≤ 2 ^ 30 := Nat.pow_le_pow_right (by decide) (by omega)
  have hq : n / 2 ^ k % 2 < 2 := Nat.mod_lt _ (by decide)
  have hr : n / 2 ^ k % 2 * 2 ^ k ≤ 1 * 2 ^ k := Nat.mul_le_mul_right _ (by omega)
  rw [Int32.toBitVec_and, BitVec.toNat_and, hm, pk_tn (by omega), pk_tn (by omega)]
  apply Nat.eq_of_testBit_eq
  intro i
  rw [Nat.testBit_and, Nat.testBit_two_pow]
  by_cases h : n / 2 ^ k % 2 = 1
  · rw [h, Nat.one_mul, Nat.testBit_two_pow]
    by_cases e : k = i
    · subst e
      rw [Nat.testBit_eq_decide_div_mod_eq, decide_eq_true h]
      rfl
    · rw [decide_eq_false e, Bool.and_false]
  · rw [show n / 2 ^ k % 2 = 0 by omega, Nat.zero_mul, Nat.zero_testBit]
    by_cases e : k = i
    · subst e
      rw [Nat.testBit_eq_decide_div_mod_eq, decide_eq_false h, Bool.false_and]
    · rw [decide_eq_false e, Bool.and_false]
