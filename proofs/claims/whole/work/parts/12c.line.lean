/-! 12c.line: lines, sums, registers -/
def bl (x : Int64) (i : Nat) : Bool := x.toBitVec.getLsbD i
theorem blx {a b : Int64} (h : ∀ i, i < 64 → bl a i = bl b i) : a = b := Int64.toBitVec_inj.mp (BitVec.eq_of_getLsbD_eq h)
theorem bl_and (x y : Int64) (i : Nat) : bl (x &&& y) i = (bl x i && bl y i) := by unfold bl; rw [Int64.toBitVec_and, BitVec.getLsbD_and]
theorem bl_or (x y : Int64) (i : Nat) : bl (x ||| y) i = (bl x i || bl y i) := by unfold bl; rw [Int64.toBitVec_or, BitVec.getLsbD_or]
theorem bl_xor (x y : Int64) (i : Nat) : bl (x ^^^ y) i = (bl x i ^^ bl y i) := by unfold bl; rw [Int64.toBitVec_xor, BitVec.getLsbD_xor]
theorem bl_out (x : Int64) {i : Nat} (h : 64 ≤ i) : bl x i = false := BitVec.getLsbD_of_ge _ _ h
theorem bl_1 : ∀ i, i < 64 → bl (-1) i = true := by decide +kernel
theorem bl_0 (i : Nat) : bl 0 i = false := by
  by_cases h : i < 64
  · revert h; revert i; decide +kernel
  · exact bl_out _ (by omega)
theorem bofTab : ∀ j, j < 64 → ∀ i, i < 64 → bl ((1 : Int64) <<< ((nI j).toInt64 &&& 63)) i = decide (i = j) := by decide +kernel
theorem bof {x : Int32} {j : Nat} (hj : j < 64) (e : x &&& 63 = nI j) {i : Nat} (hi : i < 64) : bl (C_Li_bitOf x) i = decide (i = j) := by
  unfold C_Li_bitOf
  rw [e]
  exact bofTab j hj i hi
theorem rep_v (b : Int64) (j : Nat) : rep b j = if bl b j = true then 1 else 0 := rfl
theorem on_eq (u : CSt) (x : Int32) : C_Li_isOn u x = rep u.2.1 (x &&& 63).toNatClampNeg := by
  obtain ⟨j, hj, e⟩ := pk_andE x (m := 63) 6 (by decide)
  have hj : j < 64 := hj
  have k : u.2.1 &&& C_Li_bitOf x = 0 ↔ bl u.2.1 j = false := by
    constructor
    · intro h
      have q := congrArg (fun z => bl z j) h
      simp only [bl_and, bof hj e hj, bl_0, decide_true, Bool.and_true] at q
      exact q
    · intro h
      refine blx fun i hi => ?_
      rw [bl_and, bof hj e hi, bl_0]
      by_cases d : i = j
      · rw [d, h, Bool.false_and]
      · rw [decide_eq_false d, Bool.and_false]
  unfold C_Li_isOn
  simp only [lg_cmp_eq]
  rw [e, nI_clamp (by omega), rep_v]
  by_cases h : bl u.2.1 j = true
  · rw [if_pos h, if_neg (fun q => by rw [k.mp q] at h; cases h)]
  · rw [if_neg h, if_pos (k.mpr (by simpa using h))]
theorem set_eq (u : CSt) (x v : Int32) : rep (C_Li_set u x v).2.1 = upd (rep u.2.1) (x &&& 63).toNatClampNeg (if v = 0 then 0 else 1) := by
  obtain ⟨j, hj, e⟩ := pk_andE x (m := 63) 6 (by decide)
  have hj : j < 64 := hj
  have z : (C_Li_set u x v).2.1 = J_Li_set_30 u x v := rfl
  rw [z, e, nI_clamp (by omega)]
  funext i
  unfold upd J_Li_set_30
  rw [rep_v, rep_v]
  by_cases hv : v = 0
  · simp only [if_pos hv, bl_and, bl_xor, if_true, if_false]
    by_cases hi : i < 64
    · rw [bof hj e hi, bl_1 i hi]
      by_cases d : i = j
      · simp [d]
      · simp [d]
    · rw [if_neg (show ¬ i = j by omega), bl_out _ (by omega), Bool.false_and]
  · simp only [if_neg hv, bl_or, if_true, if_false]
    by_cases hi : i < 64
    · rw [bof hj e hi]
      by_cases d : i = j
      · simp [d]
      · simp [d]
    · rw [if_neg (show ¬ i = j by omega), bl_out _ (by omega), bl_out _ (by omega), Bool.false_or]
theorem nb_i {v : Int32} (h : v = 0 ∨ v = 1) : vp_nar .boolean v = if v = 0 then 0 else 1 := by
  rcases h with rfl | rfl <;> decide +kernel
/-- a line of the reference is set -/
theorem e_line (u : CSt) (t g w x : Int32) {v : Int32} (h : v = 0 ∨ v = 1) :
    (((ra u t g w).1, (upd (ra u t g w).2.1 (x &&& 63).toNatClampNeg (vp_nar .boolean v)), (ra u t g w).2.2.1, (ra u t g w).2.2.2.1, (ra u t g w).2.2.2.2.1, (ra u t g w).2.2.2.2.2.1, (ra u t g w).2.2.2.2.2.2.1, (ra u t g w).2.2.2.2.2.2.2.1, (ra u t g w).2.2.2.2.2.2.2.2.1, (ra u t g w).2.2.2.2.2.2.2.2.2) : RSt) = ra (C_Li_set u x v) t g w := by
  have e := set_eq u x v
  rw [← nb_i h] at e
  show _ = (u.1, rep (C_Li_set u x v).2.1, t, u.2.2.2.1, u.2.2.2.2.1, u.2.2.1, u.2.2.2.2.2.1, u.2.2.2.2.2.2, g, w)
  rw [e]
  rfl
theorem half {x : Int32} (h : Wd x) : x >>> ((1 : Int32) &&& 31) = x / 2 := by
  obtain ⟨n, hn, rfl⟩ := wd_n h
  rw [pk_shrN (by omega) _ 1 (by decide), show (2 : Int32) = nI 2 from rfl, pk_div (by omega) (by decide) (by decide)]
theorem e_base {u : CSt} (t g w : Int32) (h : Iv u) : C_Mo_base (ra u t g w) = C_M_register u 12 / 2 := by
  unfold C_Mo_base
  rw [e_register]
  exact half (w_reg h 12)
theorem byEq (x : Int32) : J_Mo_jumpOrLine_35 x = x.toInt8.toInt32 := by
  have e1 : (127 : Int32) = nI 127 := rfl
  have e2 : (256 : Int32).toInt = 256 := by decide
  have hx := ti x
  unfold J_Mo_jumpOrLine_35
  rw [pk_and x 8 (by decide), e1]
  apply Int32.toInt_inj.mp
  rw [Int8.toInt_toInt32, Int32.toInt_toInt8]
  by_cases h5 : x.toBitVec.toNat % 2 ^ 8 ≤ 127
  · rw [if_pos ((nI_leI (by omega) (by decide)).mpr h5), nI_toInt (by omega), Int.bmod_def]
    split <;> omega
  · rw [if_neg (fun z => h5 ((nI_leI (by omega) (by decide)).mp z)), Int32.toInt_sub, nI_toInt (by omega), e2, Int.bmod_def, Int.bmod_def]
    split <;> split <;> omega
/-- sums -/
theorem e_sum0 (u : CSt) (t g w a b c : Int32) : C_Mo_sum (ra u t g w) a b c 0 = (((a + b + c) &&& 65535), ra (C_St_mark (C_St_mark u 4096 (J_St_sum_30 a b c)) 2048 (J_St_sum_57 a b c)) t g w) := by
  unfold C_Mo_sum J_Mo_sum_17
  rw [if_pos rfl]
  rfl
theorem s_sum (u : CSt) (a b c : Int32) : C_St_sum u a b c = (((a + b + c) &&& 65535), (C_St_tested (C_St_mark (C_St_mark u 4096 (J_St_sum_30 a b c)) 2048 (J_St_sum_57 a b c)) ((a + b + c) &&& 65535)).2) := rfl
theorem e_sumT0 (u : CSt) (t g w a b c : Int32) : C_Mo_test (C_Mo_sum (ra u t g w) a b c 0).2 (C_Mo_sum (ra u t g w) a b c 0).1 = ra (C_St_sum u a b c).2 t g w := by
  rw [e_sum0, s_sum]
  exact e_test _ t g w (wd_m _)
theorem e_sum1a (u : CSt) (t g w a b : Int32) : C_Mo_sum (ra u t g w) a b 0 1 = C_Mo_sum (ra u t g w) a b 0 0 := by
  unfold C_Mo_sum J_Mo_sum_17
  rw [if_pos rfl, if_neg (by decide)]
  rfl
theorem e_sum1s (u : CSt) (t g w a : Int32) {s : Int32} (hs : Up s) : C_Mo_sum (ra u t g w) a (s ^^^ 65280) 1 1 = C_Mo_sum (ra u t g w) a ((s ^^^ (-1)) &&& 65535) 1 0 := by
  obtain ⟨n, hn, rfl⟩ := up_n hs
  obtain ⟨h1, h2, -⟩ := subTab n hn
  have e : (a + (nI (n * 256) ^^^ 65280)) + 256 * 1 = (a + ((nI (n * 256) ^^^ (-1)) &&& 65535)) + 1 := by
    rw [← h1, show (256 : Int32) * 1 = 255 + 1 from rfl, ← Int32.add_assoc, ← Int32.add_assoc]
  have o : ∀ v, ((a ^^^ v) &&& ((nI (n * 256) ^^^ 65280) ^^^ v)) &&& 32768 = ((a ^^^ v) &&& (((nI (n * 256) ^^^ (-1)) &&& 65535) ^^^ v)) &&& 32768 := fun v => ovEq a v h2
  unfold C_Mo_sum J_Mo_sum_17 J_Mo_sum_43 J_Mo_sum_70
  rw [if_pos (show (0 : Int32) = 0 from rfl), if_neg (show ¬ (1 : Int32) = 0 by decide)]
  simp only [e, o]
/-- what a sum of bytes is -/
theorem up_sum {a b : Int32} (ha : Up a) (hb : Up b) : Up ((a + b + 0) &&& 65535) := by
  obtain ⟨n, hn, rfl⟩ := up_n ha
  obtain ⟨m, hm, rfl⟩ := up_n hb
  rw [Int32.add_zero, nI_add, pk_andN (by omega) 16 (by decide), show (n * 256 + m * 256) % 2 ^ 16 = (n + m) % 256 * 256 by omega]
  exact up_of _ (by omega)
theorem up_sub {a s : Int32} (ha : Up a) (hs : Up s) : Up ((a + ((s ^^^ (-1)) &&& 65535) + 1) &&& 65535) := by
  obtain ⟨n, hn, rfl⟩ := up_n ha
  obtain ⟨m, hm, rfl⟩ := up_n hs
  obtain ⟨-, -, h3⟩ := subTab m hm
  rw [h3, nI_add, nI_1, pk_andN (by omega) 16 (by decide), show (n * 256 + (65535 - m * 256) + 1) % 2 ^ 16 = (n + (256 - m)) % 256 * 256 by omega]
  exact up_of _ (by omega)
/-- a product's lower half, a dividend -/
theorem lowEq (p : Int64) : ((p &&& 65535).toInt32) &&& 65535 = p.toInt32 &&& 65535 := by
  refine bx fun i hi => ?_
  rw [bt_and, bt_and]
  have a : bt (p &&& 65535).toInt32 i = (bl p i && bl 65535 i) := by
    rw [← bl_and]
    unfold bt bl
    rw [Int64.toBitVec_toInt32, BitVec.getLsbD_signExtend, decide_eq_true hi, Bool.true_and, if_pos (by omega)]
  have b : bt p.toInt32 i = bl p i := by
    unfold bt bl
    rw [Int64.toBitVec_toInt32, BitVec.getLsbD_signExtend, decide_eq_true hi, Bool.true_and, if_pos (by omega)]
  rw [a, b]
  clear a b
  generalize bl p i = c
  revert c; revert hi; revert i
  decide +kernel
theorem dvdEq {x y : Int32} (hx : Wd x) (hy : Wd y) : (x.toInt64 <<< ((16 : Int32).toInt64 &&& 63)) ||| y.toInt64 = x.toInt64 * 65536 + y.toInt64 := by
  obtain ⟨a, ha, rfl⟩ := wd_n hx
  obtain ⟨b, hb, rfl⟩ := wd_n hy
  rw [nI_l (by omega), nI_l (by omega), show (65536 : Int64) = lN 65536 from rfl, lN_mul, lN_add]
  apply Int64.toBitVec_inj.mp
  apply BitVec.eq_of_toNat_eq
  have t1 : ∀ n, n < 2 ^ 64 → (lN n).toBitVec.toNat = n := fun n h => Nat.mod_eq_of_lt h
  have t2 : (lN a <<< ((16 : Int32).toInt64 &&& 63)).toBitVec.toNat = a * 2 ^ 16 := by
    show (( lN a).toBitVec <<< (((16 : Int32).toInt64 &&& 63).toBitVec.smod 64).toNat).toNat = _
    rw [show (((16 : Int32).toInt64 &&& 63).toBitVec.smod 64).toNat = 16 by decide, BitVec.toNat_shiftLeft, Nat.shiftLeft_eq, t1 a (by omega)]
    omega
  rw [Int64.toBitVec_or, BitVec.toNat_or, t2, t1 b (by omega), t1 _ (by omega), Nat.mul_comm a (2 ^ 16), ← Nat.two_pow_add_eq_or_of_lt (show b < 2 ^ 16 by omega) a]
