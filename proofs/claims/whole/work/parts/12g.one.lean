/-! 12g.one: one operand, immediates, control, laid by pure.py -/
theorem cmC (s : Int32) (p q r : Prop) [Decidable p] [Decidable q] [Decidable r] (z : Int32) (m : Int32) (hm : m = 4096 ∨ m = 2048) :
    (((((if z = 0 then s &&& (m ^^^ (-1)) else s ||| m) &&& (-57345)) ||| (if p then 0 else 32768)) ||| (if q then 0 else 16384)) ||| (if r then 8192 else 0) : Int32) =
    if z = 0 then ((((s &&& (-57345)) ||| (if p then 0 else 32768)) ||| (if q then 0 else 16384)) ||| (if r then 8192 else 0)) &&& (m ^^^ (-1)) else ((((s &&& (-57345)) ||| (if p then 0 else 32768)) ||| (if q then 0 else 16384)) ||| (if r then 8192 else 0)) ||| m := by
  rcases hm with rfl | rfl <;> by_cases hz : z = 0 <;> by_cases hp : p <;> by_cases hq : q <;> by_cases hr : r <;> simp only [hz, hp, hq, hr, if_true, if_false] <;> refine bx fun i hi => ?_ <;> simp only [bt_and, bt_or, bt_xor] <;> generalize bt s i = b <;> revert b <;> revert hi <;> revert i <;> decide +kernel
theorem cm_c (u : CSt) (a b z m : Int32) (hm : m = 4096 ∨ m = 2048) : C_St_compare (C_St_mark u m z) a b = C_St_mark (C_St_compare u a b) m z :=
  congrArg (fun z : Int32 => ((u.1, u.2.1, z, u.2.2.2.1, u.2.2.2.2.1, u.2.2.2.2.2.1, u.2.2.2.2.2.2) : CSt)) (cmC u.2.2.1 (a ≤ b) (a.toInt16.toInt32 ≤ b.toInt16.toInt32) (a = b) z m hm)
theorem mmC (s : Int32) (y z : Int32) : (if z = 0 then (if y = 0 then s &&& (4096 ^^^ (-1)) else s ||| 4096) &&& (2048 ^^^ (-1)) else (if y = 0 then s &&& (4096 ^^^ (-1)) else s ||| 4096) ||| 2048 : Int32) = if y = 0 then (if z = 0 then s &&& (2048 ^^^ (-1)) else s ||| 2048) &&& (4096 ^^^ (-1)) else (if z = 0 then s &&& (2048 ^^^ (-1)) else s ||| 2048) ||| 4096 := by
  by_cases hy : y = 0 <;> by_cases hz : z = 0 <;> simp only [hy, hz, if_true, if_false] <;> refine bx fun i hi => ?_ <;> simp only [bt_and, bt_or, bt_xor] <;> generalize bt s i = b <;> revert b <;> revert hi <;> revert i <;> decide +kernel
theorem mm_c (u : CSt) (y z : Int32) : C_St_mark (C_St_mark u 4096 y) 2048 z = C_St_mark (C_St_mark u 2048 z) 4096 y :=
  congrArg (fun z : Int32 => ((u.1, u.2.1, z, u.2.2.2.1, u.2.2.2.2.1, u.2.2.2.2.2.1, u.2.2.2.2.2.2) : CSt)) (mmC u.2.2.1 y z)
theorem upd_id (f : Nat → Int32) (k : Nat) : upd f k (f k) = f := by
  funext j
  unfold upd
  split
  · next h => rw [h]
  · rfl
theorem sw_id {u : CSt} (h : Iv u) (x : Int32) : C_Me_setWord u x (C_Me_word u x) = u := by
  have e : upd u.1 ((x &&& 1023) >>> ((1 : Int32) &&& 31)).toNatClampNeg (C_Me_word u x &&& 65535) = u.1 := by
    rw [w_word h x]
    exact upd_id _ _
  unfold C_Me_setWord
  rw [chEq, e]
theorem sgBit {x : Int32} (h : Wd x) : (x &&& 32768) = 0 ↔ x ≤ 32767 := by
  obtain ⟨n, hn, rfl⟩ := wd_n h
  rw [bit1 (by omega) 15 32768 (by decide) (by decide), show (32767 : Int32) = nI 32767 from rfl, nI_leI (by omega) (by decide), show (0 : Int32) = nI 0 from rfl, nI_eq (by omega) (by decide)]
  omega
theorem swEq (o : Int32) : ((o >>> ((8 : Int32) &&& 31)) ||| (o <<< ((8 : Int32) &&& 31))) &&& 65535 = ((o >>> ((8 : Int32) &&& 31)) ||| ((o &&& 255) <<< ((8 : Int32) &&& 31))) &&& 65535 := by
  refine bx fun i hi => ?_
  rw [bt_and, bt_and, bt_or, bt_or, bt_shl _ _ 8 (by decide) hi, bt_shl _ _ 8 (by decide) hi, bt_and]
  generalize bt (o >>> ((8 : Int32) &&& 31)) i = c
  generalize bt o (i - 8) = b
  revert b c; revert hi; revert i
  decide +kernel
def RO (v : RSt) (y o x : Int32) : RSt := if ((x >>> ((6 : Int32) &&& 31)) &&& 15) = 0 then (let u31 := C_Mo_change v y; u31) else (if ((x >>> ((6 : Int32) &&& 31)) &&& 15) = 1 then ((v.1, v.2.1, v.2.2.1, v.2.2.2.1, (y &&& 1022), v.2.2.2.2.2.1, v.2.2.2.2.2.2.1, v.2.2.2.2.2.2.2.1, v.2.2.2.2.2.2.2.2.1, v.2.2.2.2.2.2.2.2.2)) else (if ((x >>> ((6 : Int32) &&& 31)) &&& 15) = 10 then (let u67 := C_Mo_setRegister v 11 v.2.2.2.2.1; (u67.1, u67.2.1, u67.2.2.1, u67.2.2.2.1, (y &&& 1022), u67.2.2.2.2.2.1, u67.2.2.2.2.2.2.1, u67.2.2.2.2.2.2.2.1, u67.2.2.2.2.2.2.2.2.1, u67.2.2.2.2.2.2.2.2.2)) else (if ((x >>> ((6 : Int32) &&& 31)) &&& 15) ≤ 5 then (if ((x >>> ((6 : Int32) &&& 31)) &&& 15) = 13 then (let u161 := C_Mo_test v o; let z180 := J_Mo_oneOperand_180 o; let u180 := C_Mo_flag u161 2048 z180; let u188 := C_Mo_flag u180 4096 0; if o ≤ 32767 then (u188) else (let u204 := C_Mo_setWord u188 y (-o); u204)) else (if ((x >>> ((6 : Int32) &&& 31)) &&& 15) = 4 then (let z235 := J_Mo_oneOperand_235 x o; let u243 := C_Mo_test v (z235 &&& 65535); let v268 := J_Mo_oneOperand_268 x o u243; let v292 := J_Mo_oneOperand_292 x o v268; let u296 := C_Mo_setWord v292 y (z235 &&& 65535); u296) else (if ((x >>> ((6 : Int32) &&& 31)) &&& 15) = 5 then (let z235 := J_Mo_oneOperand_235 x o; let u243 := C_Mo_test v (z235 &&& 65535); let v268 := J_Mo_oneOperand_268 x o u243; let v292 := J_Mo_oneOperand_292 x o v268; let u296 := C_Mo_setWord v292 y (z235 &&& 65535); u296) else (let z335 := J_Mo_oneOperand_335 x o; let u335 := C_Mo_setWord v y z335; u335)))) else (if 10 ≤ ((x >>> ((6 : Int32) &&& 31)) &&& 15) then (if ((x >>> ((6 : Int32) &&& 31)) &&& 15) = 13 then (let u161 := C_Mo_test v o; let z180 := J_Mo_oneOperand_180 o; let u180 := C_Mo_flag u161 2048 z180; let u188 := C_Mo_flag u180 4096 0; if o ≤ 32767 then (u188) else (let u204 := C_Mo_setWord u188 y (-o); u204)) else (if ((x >>> ((6 : Int32) &&& 31)) &&& 15) = 4 then (let z235 := J_Mo_oneOperand_235 x o; let u243 := C_Mo_test v (z235 &&& 65535); let v268 := J_Mo_oneOperand_268 x o u243; let v292 := J_Mo_oneOperand_292 x o v268; let u296 := C_Mo_setWord v292 y (z235 &&& 65535); u296) else (if ((x >>> ((6 : Int32) &&& 31)) &&& 15) = 5 then (let z235 := J_Mo_oneOperand_235 x o; let u243 := C_Mo_test v (z235 &&& 65535); let v268 := J_Mo_oneOperand_268 x o u243; let v292 := J_Mo_oneOperand_292 x o v268; let u296 := C_Mo_setWord v292 y (z235 &&& 65535); u296) else (let z335 := J_Mo_oneOperand_335 x o; let u335 := C_Mo_setWord v y z335; u335)))) else (let z129 := J_Mo_oneOperand_129 x; let r131 := (C_Mo_sum v o z129 0 0).1; let u131 := (C_Mo_sum v o z129 0 0).2; let u139 := C_Mo_test u131 r131; let u146 := C_Mo_setWord u139 y r131; u146)))))
def CO (B : CSt) (y x : Int32) : Int32 × CSt := if ((x >>> ((6 : Int32) &&& 31)) &&& 15) = 0 then (let u54 := C_M_switchThrough B y; (0, u54)) else if ((x >>> ((6 : Int32) &&& 31)) &&& 15) = 1 then (let u62 := C_M_setCounter B y; (0, u62)) else if ((x >>> ((6 : Int32) &&& 31)) &&& 15) = 10 then (let u75 := C_M_setRegister B 11 B.2.2.2.2.1; let u80 := C_M_setCounter u75 y; (0, u80)) else (let r98 := C_Me_word B y; let r101 := (C_M_changed B ((x >>> ((6 : Int32) &&& 31)) &&& 15) r98).1; let u101 := (C_M_changed B ((x >>> ((6 : Int32) &&& 31)) &&& 15) r98).2; let u104 := C_Me_setWord u101 y r101; (0, u104))
theorem ro_eq (v : RSt) (x : Int32) : C_Mo_oneOperand v x = RO (C_Mo_address v (x &&& 63) 0).2 (C_Mo_address v (x &&& 63) 0).1 (C_Mo_word (C_Mo_address v (x &&& 63) 0).2 (C_Mo_address v (x &&& 63) 0).1) x := rfl
theorem co_eq (u : CSt) (x : Int32) : C_M_runOnOneOperand u x = CO (C_M_operandAddress u x 2).2 (C_M_operandAddress u x 2).1 x := rfl
theorem one_0 {B : CSt} (h : Iv B) (t g w y : Int32) {x : Int32} (hq : (x >>> ((6 : Int32) &&& 31)) &&& 15 = 0) :
    RO (ra B t g w) y (C_Me_word B y) x = ra (CO B y x).2 t g w := by
  unfold RO CO C_M_changed J_Mo_oneOperand_129 J_Mo_oneOperand_235 J_Mo_oneOperand_268 J_Mo_oneOperand_292 J_Mo_oneOperand_335
  simp only [hq, if_pos (show (0 : Int32) = 0 by decide), if_neg (show ¬ (0 : Int32) = 1 by decide), if_neg (show ¬ (0 : Int32) = 10 by decide), if_neg (show ¬ (0 : Int32) = 13 by decide), if_neg (show ¬ (0 : Int32) = 4 by decide), if_neg (show ¬ (0 : Int32) = 5 by decide), if_neg (show ¬ (0 : Int32) = 3 by decide), if_neg (show ¬ (0 : Int32) = 12 by decide), if_neg (show ¬ (0 : Int32) = 6 by decide), if_neg (show ¬ (0 : Int32) = 7 by decide), if_neg (show ¬ (0 : Int32) = 8 by decide), if_neg (show ¬ (0 : Int32) = 9 by decide), if_neg (show ¬ (0 : Int32) = 11 by decide), if_pos (show (0 : Int32) ≤ 5 by decide), if_neg (show ¬ (10 : Int32) ≤ 0 by decide), if_neg (show ¬ (1 : Int32) = 0 by decide), if_true, if_false]
  exact e_change B t g w y
theorem one_1 {B : CSt} (h : Iv B) (t g w y : Int32) {x : Int32} (hq : (x >>> ((6 : Int32) &&& 31)) &&& 15 = 1) :
    RO (ra B t g w) y (C_Me_word B y) x = ra (CO B y x).2 t g w := by
  unfold RO CO C_M_changed J_Mo_oneOperand_129 J_Mo_oneOperand_235 J_Mo_oneOperand_268 J_Mo_oneOperand_292 J_Mo_oneOperand_335
  simp only [hq, if_neg (show ¬ (1 : Int32) = 0 by decide), if_pos (show (1 : Int32) = 1 by decide), if_neg (show ¬ (1 : Int32) = 10 by decide), if_neg (show ¬ (1 : Int32) = 13 by decide), if_neg (show ¬ (1 : Int32) = 4 by decide), if_neg (show ¬ (1 : Int32) = 5 by decide), if_neg (show ¬ (1 : Int32) = 3 by decide), if_neg (show ¬ (1 : Int32) = 12 by decide), if_neg (show ¬ (1 : Int32) = 6 by decide), if_neg (show ¬ (1 : Int32) = 7 by decide), if_neg (show ¬ (1 : Int32) = 8 by decide), if_neg (show ¬ (1 : Int32) = 9 by decide), if_neg (show ¬ (1 : Int32) = 11 by decide), if_pos (show (1 : Int32) ≤ 5 by decide), if_neg (show ¬ (10 : Int32) ≤ 1 by decide), if_pos (show (0 : Int32) = 0 by decide), if_true, if_false]
  rfl
theorem one_3 {B : CSt} (h : Iv B) (t g w y : Int32) {x : Int32} (hq : (x >>> ((6 : Int32) &&& 31)) &&& 15 = 3) :
    RO (ra B t g w) y (C_Me_word B y) x = ra (CO B y x).2 t g w := by
  unfold RO CO C_M_changed J_Mo_oneOperand_129 J_Mo_oneOperand_235 J_Mo_oneOperand_268 J_Mo_oneOperand_292 J_Mo_oneOperand_335
  simp only [hq, if_neg (show ¬ (3 : Int32) = 0 by decide), if_neg (show ¬ (3 : Int32) = 1 by decide), if_neg (show ¬ (3 : Int32) = 10 by decide), if_neg (show ¬ (3 : Int32) = 13 by decide), if_neg (show ¬ (3 : Int32) = 4 by decide), if_neg (show ¬ (3 : Int32) = 5 by decide), if_pos (show (3 : Int32) = 3 by decide), if_neg (show ¬ (3 : Int32) = 12 by decide), if_neg (show ¬ (3 : Int32) = 6 by decide), if_neg (show ¬ (3 : Int32) = 7 by decide), if_neg (show ¬ (3 : Int32) = 8 by decide), if_neg (show ¬ (3 : Int32) = 9 by decide), if_neg (show ¬ (3 : Int32) = 11 by decide), if_pos (show (3 : Int32) ≤ 5 by decide), if_neg (show ¬ (10 : Int32) ≤ 3 by decide), if_pos (show (0 : Int32) = 0 by decide), if_neg (show ¬ (1 : Int32) = 0 by decide), if_true, if_false]
  rw [e_setWord]
theorem one_4 {B : CSt} (h : Iv B) (t g w y : Int32) {x : Int32} (hq : (x >>> ((6 : Int32) &&& 31)) &&& 15 = 4) :
    RO (ra B t g w) y (C_Me_word B y) x = ra (CO B y x).2 t g w := by
  unfold RO CO C_M_changed J_Mo_oneOperand_129 J_Mo_oneOperand_235 J_Mo_oneOperand_268 J_Mo_oneOperand_292 J_Mo_oneOperand_335
  simp only [hq, if_neg (show ¬ (4 : Int32) = 0 by decide), if_neg (show ¬ (4 : Int32) = 1 by decide), if_neg (show ¬ (4 : Int32) = 10 by decide), if_neg (show ¬ (4 : Int32) = 13 by decide), if_pos (show (4 : Int32) = 4 by decide), if_neg (show ¬ (4 : Int32) = 5 by decide), if_neg (show ¬ (4 : Int32) = 3 by decide), if_neg (show ¬ (4 : Int32) = 12 by decide), if_neg (show ¬ (4 : Int32) = 6 by decide), if_neg (show ¬ (4 : Int32) = 7 by decide), if_neg (show ¬ (4 : Int32) = 8 by decide), if_neg (show ¬ (4 : Int32) = 9 by decide), if_neg (show ¬ (4 : Int32) = 11 by decide), if_pos (show (4 : Int32) ≤ 5 by decide), if_neg (show ¬ (10 : Int32) ≤ 4 by decide), if_pos (show (0 : Int32) = 0 by decide), if_neg (show ¬ (1 : Int32) = 0 by decide), if_true, if_false]
  unfold C_M_negated
  simp only [e_test B t g w (wd_m (-(C_Me_word B y))), e_flag, e_setWord]
  unfold C_St_tested
  simp only [cm_c _ _ _ _ _ (Or.inl rfl), cm_c _ _ _ _ _ (Or.inr rfl)]
  rfl
theorem one_5 {B : CSt} (h : Iv B) (t g w y : Int32) {x : Int32} (hq : (x >>> ((6 : Int32) &&& 31)) &&& 15 = 5) :
    RO (ra B t g w) y (C_Me_word B y) x = ra (CO B y x).2 t g w := by
  unfold RO CO C_M_changed J_Mo_oneOperand_129 J_Mo_oneOperand_235 J_Mo_oneOperand_268 J_Mo_oneOperand_292 J_Mo_oneOperand_335
  simp only [hq, if_neg (show ¬ (5 : Int32) = 0 by decide), if_neg (show ¬ (5 : Int32) = 1 by decide), if_neg (show ¬ (5 : Int32) = 10 by decide), if_neg (show ¬ (5 : Int32) = 13 by decide), if_neg (show ¬ (5 : Int32) = 4 by decide), if_pos (show (5 : Int32) = 5 by decide), if_neg (show ¬ (5 : Int32) = 3 by decide), if_neg (show ¬ (5 : Int32) = 12 by decide), if_neg (show ¬ (5 : Int32) = 6 by decide), if_neg (show ¬ (5 : Int32) = 7 by decide), if_neg (show ¬ (5 : Int32) = 8 by decide), if_neg (show ¬ (5 : Int32) = 9 by decide), if_neg (show ¬ (5 : Int32) = 11 by decide), if_pos (show (5 : Int32) ≤ 5 by decide), if_neg (show ¬ (10 : Int32) ≤ 5 by decide), if_pos (show (0 : Int32) = 0 by decide), if_neg (show ¬ (1 : Int32) = 0 by decide), if_true, if_false]
  rw [e_test _ _ _ _ (wd_m _), e_setWord]
  rfl
theorem one_6 {B : CSt} (h : Iv B) (t g w y : Int32) {x : Int32} (hq : (x >>> ((6 : Int32) &&& 31)) &&& 15 = 6) :
    RO (ra B t g w) y (C_Me_word B y) x = ra (CO B y x).2 t g w := by
  unfold RO CO C_M_changed J_Mo_oneOperand_129 J_Mo_oneOperand_235 J_Mo_oneOperand_268 J_Mo_oneOperand_292 J_Mo_oneOperand_335
  simp only [hq, if_neg (show ¬ (6 : Int32) = 0 by decide), if_neg (show ¬ (6 : Int32) = 1 by decide), if_neg (show ¬ (6 : Int32) = 10 by decide), if_neg (show ¬ (6 : Int32) = 13 by decide), if_neg (show ¬ (6 : Int32) = 4 by decide), if_neg (show ¬ (6 : Int32) = 5 by decide), if_neg (show ¬ (6 : Int32) = 3 by decide), if_neg (show ¬ (6 : Int32) = 12 by decide), if_pos (show (6 : Int32) = 6 by decide), if_neg (show ¬ (6 : Int32) = 7 by decide), if_neg (show ¬ (6 : Int32) = 8 by decide), if_neg (show ¬ (6 : Int32) = 9 by decide), if_neg (show ¬ (6 : Int32) = 11 by decide), if_neg (show ¬ (6 : Int32) ≤ 5 by decide), if_neg (show ¬ (10 : Int32) ≤ 6 by decide), if_pos (show (0 : Int32) = 0 by decide), if_neg (show ¬ (1 : Int32) = 0 by decide), if_true, if_false]
  rw [e_sumT0, e_sum0, e_setWord]
  rfl
theorem one_7 {B : CSt} (h : Iv B) (t g w y : Int32) {x : Int32} (hq : (x >>> ((6 : Int32) &&& 31)) &&& 15 = 7) :
    RO (ra B t g w) y (C_Me_word B y) x = ra (CO B y x).2 t g w := by
  unfold RO CO C_M_changed J_Mo_oneOperand_129 J_Mo_oneOperand_235 J_Mo_oneOperand_268 J_Mo_oneOperand_292 J_Mo_oneOperand_335
  simp only [hq, if_neg (show ¬ (7 : Int32) = 0 by decide), if_neg (show ¬ (7 : Int32) = 1 by decide), if_neg (show ¬ (7 : Int32) = 10 by decide), if_neg (show ¬ (7 : Int32) = 13 by decide), if_neg (show ¬ (7 : Int32) = 4 by decide), if_neg (show ¬ (7 : Int32) = 5 by decide), if_neg (show ¬ (7 : Int32) = 3 by decide), if_neg (show ¬ (7 : Int32) = 12 by decide), if_neg (show ¬ (7 : Int32) = 6 by decide), if_pos (show (7 : Int32) = 7 by decide), if_neg (show ¬ (7 : Int32) = 8 by decide), if_neg (show ¬ (7 : Int32) = 9 by decide), if_neg (show ¬ (7 : Int32) = 11 by decide), if_neg (show ¬ (7 : Int32) ≤ 5 by decide), if_neg (show ¬ (10 : Int32) ≤ 7 by decide), if_pos (show (0 : Int32) = 0 by decide), if_neg (show ¬ (1 : Int32) = 0 by decide), if_true, if_false]
  rw [e_sumT0, e_sum0, e_setWord]
  rfl
theorem one_8 {B : CSt} (h : Iv B) (t g w y : Int32) {x : Int32} (hq : (x >>> ((6 : Int32) &&& 31)) &&& 15 = 8) :
    RO (ra B t g w) y (C_Me_word B y) x = ra (CO B y x).2 t g w := by
  unfold RO CO C_M_changed J_Mo_oneOperand_129 J_Mo_oneOperand_235 J_Mo_oneOperand_268 J_Mo_oneOperand_292 J_Mo_oneOperand_335
  simp only [hq, if_neg (show ¬ (8 : Int32) = 0 by decide), if_neg (show ¬ (8 : Int32) = 1 by decide), if_neg (show ¬ (8 : Int32) = 10 by decide), if_neg (show ¬ (8 : Int32) = 13 by decide), if_neg (show ¬ (8 : Int32) = 4 by decide), if_neg (show ¬ (8 : Int32) = 5 by decide), if_neg (show ¬ (8 : Int32) = 3 by decide), if_neg (show ¬ (8 : Int32) = 12 by decide), if_neg (show ¬ (8 : Int32) = 6 by decide), if_neg (show ¬ (8 : Int32) = 7 by decide), if_pos (show (8 : Int32) = 8 by decide), if_neg (show ¬ (8 : Int32) = 9 by decide), if_neg (show ¬ (8 : Int32) = 11 by decide), if_neg (show ¬ (8 : Int32) ≤ 5 by decide), if_neg (show ¬ (10 : Int32) ≤ 8 by decide), if_pos (show (0 : Int32) = 0 by decide), if_neg (show ¬ (1 : Int32) = 0 by decide), if_true, if_false]
  rw [e_sumT0, e_sum0, e_setWord]
  rfl
theorem one_9 {B : CSt} (h : Iv B) (t g w y : Int32) {x : Int32} (hq : (x >>> ((6 : Int32) &&& 31)) &&& 15 = 9) :
    RO (ra B t g w) y (C_Me_word B y) x = ra (CO B y x).2 t g w := by
  unfold RO CO C_M_changed J_Mo_oneOperand_129 J_Mo_oneOperand_235 J_Mo_oneOperand_268 J_Mo_oneOperand_292 J_Mo_oneOperand_335
  simp only [hq, if_neg (show ¬ (9 : Int32) = 0 by decide), if_neg (show ¬ (9 : Int32) = 1 by decide), if_neg (show ¬ (9 : Int32) = 10 by decide), if_neg (show ¬ (9 : Int32) = 13 by decide), if_neg (show ¬ (9 : Int32) = 4 by decide), if_neg (show ¬ (9 : Int32) = 5 by decide), if_neg (show ¬ (9 : Int32) = 3 by decide), if_neg (show ¬ (9 : Int32) = 12 by decide), if_neg (show ¬ (9 : Int32) = 6 by decide), if_neg (show ¬ (9 : Int32) = 7 by decide), if_neg (show ¬ (9 : Int32) = 8 by decide), if_pos (show (9 : Int32) = 9 by decide), if_neg (show ¬ (9 : Int32) = 11 by decide), if_neg (show ¬ (9 : Int32) ≤ 5 by decide), if_neg (show ¬ (10 : Int32) ≤ 9 by decide), if_pos (show (0 : Int32) = 0 by decide), if_neg (show ¬ (1 : Int32) = 0 by decide), if_true, if_false]
  rw [e_sumT0, e_sum0, e_setWord]
  rfl
theorem one_10 {B : CSt} (h : Iv B) (t g w y : Int32) {x : Int32} (hq : (x >>> ((6 : Int32) &&& 31)) &&& 15 = 10) :
    RO (ra B t g w) y (C_Me_word B y) x = ra (CO B y x).2 t g w := by
  unfold RO CO C_M_changed J_Mo_oneOperand_129 J_Mo_oneOperand_235 J_Mo_oneOperand_268 J_Mo_oneOperand_292 J_Mo_oneOperand_335
  simp only [hq, if_neg (show ¬ (10 : Int32) = 0 by decide), if_neg (show ¬ (10 : Int32) = 1 by decide), if_pos (show (10 : Int32) = 10 by decide), if_neg (show ¬ (10 : Int32) = 13 by decide), if_neg (show ¬ (10 : Int32) = 4 by decide), if_neg (show ¬ (10 : Int32) = 5 by decide), if_neg (show ¬ (10 : Int32) = 3 by decide), if_neg (show ¬ (10 : Int32) = 12 by decide), if_neg (show ¬ (10 : Int32) = 6 by decide), if_neg (show ¬ (10 : Int32) = 7 by decide), if_neg (show ¬ (10 : Int32) = 8 by decide), if_neg (show ¬ (10 : Int32) = 9 by decide), if_neg (show ¬ (10 : Int32) = 11 by decide), if_neg (show ¬ (10 : Int32) ≤ 5 by decide), if_pos (show (10 : Int32) ≤ 10 by decide), if_pos (show (0 : Int32) = 0 by decide), if_neg (show ¬ (1 : Int32) = 0 by decide), if_true, if_false]
  rw [e_setRegister]
  rfl
theorem one_11 {B : CSt} (h : Iv B) (t g w y : Int32) {x : Int32} (hq : (x >>> ((6 : Int32) &&& 31)) &&& 15 = 11) :
    RO (ra B t g w) y (C_Me_word B y) x = ra (CO B y x).2 t g w := by
  unfold RO CO C_M_changed J_Mo_oneOperand_129 J_Mo_oneOperand_235 J_Mo_oneOperand_268 J_Mo_oneOperand_292 J_Mo_oneOperand_335
  simp only [hq, if_neg (show ¬ (11 : Int32) = 0 by decide), if_neg (show ¬ (11 : Int32) = 1 by decide), if_neg (show ¬ (11 : Int32) = 10 by decide), if_neg (show ¬ (11 : Int32) = 13 by decide), if_neg (show ¬ (11 : Int32) = 4 by decide), if_neg (show ¬ (11 : Int32) = 5 by decide), if_neg (show ¬ (11 : Int32) = 3 by decide), if_neg (show ¬ (11 : Int32) = 12 by decide), if_neg (show ¬ (11 : Int32) = 6 by decide), if_neg (show ¬ (11 : Int32) = 7 by decide), if_neg (show ¬ (11 : Int32) = 8 by decide), if_neg (show ¬ (11 : Int32) = 9 by decide), if_pos (show (11 : Int32) = 11 by decide), if_neg (show ¬ (11 : Int32) ≤ 5 by decide), if_pos (show (10 : Int32) ≤ 11 by decide), if_pos (show (0 : Int32) = 0 by decide), if_neg (show ¬ (1 : Int32) = 0 by decide), if_true, if_false]
  rw [e_setWord, sw_c _ _ (swEq _)]
theorem one_12 {B : CSt} (h : Iv B) (t g w y : Int32) {x : Int32} (hq : (x >>> ((6 : Int32) &&& 31)) &&& 15 = 12) :
    RO (ra B t g w) y (C_Me_word B y) x = ra (CO B y x).2 t g w := by
  unfold RO CO C_M_changed J_Mo_oneOperand_129 J_Mo_oneOperand_235 J_Mo_oneOperand_268 J_Mo_oneOperand_292 J_Mo_oneOperand_335
  simp only [hq, if_neg (show ¬ (12 : Int32) = 0 by decide), if_neg (show ¬ (12 : Int32) = 1 by decide), if_neg (show ¬ (12 : Int32) = 10 by decide), if_neg (show ¬ (12 : Int32) = 13 by decide), if_neg (show ¬ (12 : Int32) = 4 by decide), if_neg (show ¬ (12 : Int32) = 5 by decide), if_neg (show ¬ (12 : Int32) = 3 by decide), if_pos (show (12 : Int32) = 12 by decide), if_neg (show ¬ (12 : Int32) = 6 by decide), if_neg (show ¬ (12 : Int32) = 7 by decide), if_neg (show ¬ (12 : Int32) = 8 by decide), if_neg (show ¬ (12 : Int32) = 9 by decide), if_neg (show ¬ (12 : Int32) = 11 by decide), if_neg (show ¬ (12 : Int32) ≤ 5 by decide), if_pos (show (10 : Int32) ≤ 12 by decide), if_pos (show (0 : Int32) = 0 by decide), if_neg (show ¬ (1 : Int32) = 0 by decide), if_true, if_false]
  rw [e_setWord]
theorem one_13 {B : CSt} (h : Iv B) (t g w y : Int32) {x : Int32} (hq : (x >>> ((6 : Int32) &&& 31)) &&& 15 = 13) :
    RO (ra B t g w) y (C_Me_word B y) x = ra (CO B y x).2 t g w := by
  unfold RO CO C_M_changed J_Mo_oneOperand_129 J_Mo_oneOperand_235 J_Mo_oneOperand_268 J_Mo_oneOperand_292 J_Mo_oneOperand_335
  simp only [hq, if_neg (show ¬ (13 : Int32) = 0 by decide), if_neg (show ¬ (13 : Int32) = 1 by decide), if_neg (show ¬ (13 : Int32) = 10 by decide), if_pos (show (13 : Int32) = 13 by decide), if_neg (show ¬ (13 : Int32) = 4 by decide), if_neg (show ¬ (13 : Int32) = 5 by decide), if_neg (show ¬ (13 : Int32) = 3 by decide), if_neg (show ¬ (13 : Int32) = 12 by decide), if_neg (show ¬ (13 : Int32) = 6 by decide), if_neg (show ¬ (13 : Int32) = 7 by decide), if_neg (show ¬ (13 : Int32) = 8 by decide), if_neg (show ¬ (13 : Int32) = 9 by decide), if_neg (show ¬ (13 : Int32) = 11 by decide), if_neg (show ¬ (13 : Int32) ≤ 5 by decide), if_pos (show (10 : Int32) ≤ 13 by decide), if_pos (show (0 : Int32) = 0 by decide), if_neg (show ¬ (1 : Int32) = 0 by decide), if_true, if_false]
  unfold C_M_withoutSign
  rw [e_test _ _ _ _ (w_word h y), e_flag, e_flag]
  simp only [sgBit (w_word h y)]
  have mm := mm_c (C_St_tested B (C_Me_word B y)).2 0 (J_Mo_oneOperand_180 (C_Me_word B y))
  by_cases k : C_Me_word B y ≤ 32767
  · simp only [if_pos k, if_true, if_false]
    rw [← mm]
    exact congrArg (fun z => ra z t g w) (sw_id (u := C_St_mark (C_St_mark (C_St_tested B (C_Me_word B y)).2 4096 0) 2048 (J_Mo_oneOperand_180 (C_Me_word B y))) h y).symm
  · simp only [if_neg k, if_true, if_false]
    rw [e_setWord, ← mm, sw_c (C_St_mark (C_St_mark (C_St_tested B (C_Me_word B y)).2 4096 0) 2048 (J_Mo_oneOperand_180 (C_Me_word B y))) (v := -(C_Me_word B y)) (v' := (-(C_Me_word B y)) &&& 65535) y (wd_m _).symm]
    rfl
theorem e_one {u : CSt} (h : Iv u) (t g w : Int32) {n : Nat} (h1 : 1024 ≤ n) (h2 : n < 1920) (hX : n / 64 ≠ 18) : ∃ g' w', C_Mo_oneOperand (ra u t g w) (nI n) = ra (C_M_runOnOneOperand u (nI n)).2 t g' w' := by
  have e6 : (nI n >>> ((6 : Int32) &&& 31)) &&& 15 = nI (n / 64 % 16) := by
    rw [pk_shrN (by omega) _ 6 (by decide), pk_andN (by omega) 4 (by decide)]
  have hq1 : n / 64 % 16 < 14 := by omega
  have hq2 : n / 64 % 16 ≠ 2 := by omega
  generalize nI n = x at *
  generalize n / 64 % 16 = q at *
  refine ⟨gA u g x, wA u w x, ?_⟩
  have iB : Iv (C_M_operandAddress u x 2).2 := i_operand h _ _
  rw [ro_eq, co_eq, e_address, show J_Mo_address_122 0 = 2 from rfl]
  dsimp only
  rw [e_word]
  rcases (show q = 0 ∨ q = 1 ∨ q = 3 ∨ q = 4 ∨ q = 5 ∨ q = 6 ∨ q = 7 ∨ q = 8 ∨ q = 9 ∨ q = 10 ∨ q = 11 ∨ q = 12 ∨ q = 13 by omega) with rfl | rfl | rfl | rfl | rfl | rfl | rfl | rfl | rfl | rfl | rfl | rfl | rfl
  · exact one_0 iB t _ _ _ e6
  · exact one_1 iB t _ _ _ e6
  · exact one_3 iB t _ _ _ e6
  · exact one_4 iB t _ _ _ e6
  · exact one_5 iB t _ _ _ e6
  · exact one_6 iB t _ _ _ e6
  · exact one_7 iB t _ _ _ e6
  · exact one_8 iB t _ _ _ e6
  · exact one_9 iB t _ _ _ e6
  · exact one_10 iB t _ _ _ e6
  · exact one_11 iB t _ _ _ e6
  · exact one_12 iB t _ _ _ e6
  · exact one_13 iB t _ _ _ e6
theorem one_z (u : CSt) (x : Int32) : (C_M_runOnOneOperand u x).1 = 0 := by
  unfold C_M_runOnOneOperand
  dsimp only
  (repeat' split) <;> rfl
theorem i_negated {u : CSt} (h : Iv u) (b : Int32) : Iv (C_M_negated u b).2 := h
theorem i_withoutSign {u : CSt} (h : Iv u) (b : Int32) : Iv (C_M_withoutSign u b).2 := by
  unfold C_M_withoutSign
  dsimp only
  split <;> exact h
theorem i_changed {u : CSt} (h : Iv u) (a b : Int32) : Iv (C_M_changed u a b).2 := by
  unfold C_M_changed
  dsimp only
  split
  · exact h
  split
  · exact i_negated h _
  split
  · exact i_tested h _
  split
  · exact i_sum h _ _ _
  split
  · exact i_sum h _ _ _
  split
  · exact i_sum h _ _ _
  split
  · exact i_sum h _ _ _
  split
  · exact i_withoutSign h _
  split
  · exact h
  split
  · exact h
  · exact i_withoutSign h _
theorem i_one {u : CSt} (h : Iv u) (x : Int32) : Iv (C_M_runOnOneOperand u x).2 := by
  have h1 : Iv (C_M_operandAddress u x 2).2 := i_operand h _ _
  unfold C_M_runOnOneOperand
  dsimp only
  split
  · exact i_switch h1 _
  · split
    · exact i_setCounter h1 _
    · split
      · exact i_setCounter (i_setRegister h1 _ _) _
      · exact i_setWord (i_changed h1 _ _) _ _
theorem in_0 {u : CSt} (h : Iv u) (t g w : Int32) {x : Int32} (hq : (x >>> ((5 : Int32) &&& 31)) &&& 15 = 0) : C_Mo_inner (ra u t g w) x = ((C_M_runImmediateOrControl u x).1, ra (C_M_runImmediateOrControl u x).2 t g w) := by
  unfold C_Mo_inner C_M_runImmediateOrControl J_Mo_inner_33 J_Mo_inner_50 J_Mo_inner_68 J_Mo_inner_79 J_Mo_inner_90 J_Mo_inner_136
  simp only [hq, if_neg (show ¬ (0 : Int32) = 5 by decide), if_neg (show ¬ (0 : Int32) = 6 by decide), if_neg (show ¬ (0 : Int32) = 7 by decide), if_neg (show ¬ (0 : Int32) = 8 by decide), if_neg (show ¬ (0 : Int32) = 9 by decide), if_neg (show ¬ (0 : Int32) = 10 by decide), if_neg (show ¬ (0 : Int32) = 11 by decide), if_neg (show ¬ (0 : Int32) = 12 by decide), if_pos (show (0 : Int32) = 0 by decide), if_neg (show ¬ (0 : Int32) = 1 by decide), if_neg (show ¬ (0 : Int32) = 2 by decide), if_neg (show ¬ (0 : Int32) = 3 by decide), if_neg (show ¬ (0 : Int32) = 4 by decide), if_pos (show (0 : Int32) < 5 by decide), if_neg (show ¬ (4 : Int32) < 0 by decide), if_neg (show ¬ (1 : Int32) = 0 by decide), if_true, if_false]
  unfold C_Mo_immediate C_M_runImmediate J_Mo_immediate_100
  simp only [e_next, e_register, if_neg (show ¬ (0 : Int32) = 5 by decide), if_neg (show ¬ (0 : Int32) = 6 by decide), if_neg (show ¬ (0 : Int32) = 7 by decide), if_neg (show ¬ (0 : Int32) = 8 by decide), if_neg (show ¬ (0 : Int32) = 9 by decide), if_neg (show ¬ (0 : Int32) = 10 by decide), if_neg (show ¬ (0 : Int32) = 11 by decide), if_neg (show ¬ (0 : Int32) = 12 by decide), if_pos (show (0 : Int32) = 0 by decide), if_neg (show ¬ (0 : Int32) = 1 by decide), if_neg (show ¬ (0 : Int32) = 2 by decide), if_neg (show ¬ (0 : Int32) = 3 by decide), if_neg (show ¬ (0 : Int32) = 4 by decide), if_pos (show (0 : Int32) < 5 by decide), if_neg (show ¬ (4 : Int32) < 0 by decide), if_neg (show ¬ (1 : Int32) = 0 by decide), if_true, if_false]
  have iF : Iv (C_M_fetch u).2 := h
  have hm : Wd (C_M_fetch u).1 := w_word h _
  have hr : Wd (C_M_register (C_M_fetch u).2 (x &&& 15)) := w_reg iF _
  rw [e_test _ _ _ _ hm, e_setRegister]
  rfl
theorem in_1 {u : CSt} (h : Iv u) (t g w : Int32) {x : Int32} (hq : (x >>> ((5 : Int32) &&& 31)) &&& 15 = 1) : C_Mo_inner (ra u t g w) x = ((C_M_runImmediateOrControl u x).1, ra (C_M_runImmediateOrControl u x).2 t g w) := by
  unfold C_Mo_inner C_M_runImmediateOrControl J_Mo_inner_33 J_Mo_inner_50 J_Mo_inner_68 J_Mo_inner_79 J_Mo_inner_90 J_Mo_inner_136
  simp only [hq, if_neg (show ¬ (1 : Int32) = 5 by decide), if_neg (show ¬ (1 : Int32) = 6 by decide), if_neg (show ¬ (1 : Int32) = 7 by decide), if_neg (show ¬ (1 : Int32) = 8 by decide), if_neg (show ¬ (1 : Int32) = 9 by decide), if_neg (show ¬ (1 : Int32) = 10 by decide), if_neg (show ¬ (1 : Int32) = 11 by decide), if_neg (show ¬ (1 : Int32) = 12 by decide), if_neg (show ¬ (1 : Int32) = 0 by decide), if_pos (show (1 : Int32) = 1 by decide), if_neg (show ¬ (1 : Int32) = 2 by decide), if_neg (show ¬ (1 : Int32) = 3 by decide), if_neg (show ¬ (1 : Int32) = 4 by decide), if_pos (show (1 : Int32) < 5 by decide), if_neg (show ¬ (4 : Int32) < 1 by decide), if_pos (show (0 : Int32) = 0 by decide), if_true, if_false]
  unfold C_Mo_immediate C_M_runImmediate J_Mo_immediate_100
  simp only [e_next, e_register, if_neg (show ¬ (1 : Int32) = 5 by decide), if_neg (show ¬ (1 : Int32) = 6 by decide), if_neg (show ¬ (1 : Int32) = 7 by decide), if_neg (show ¬ (1 : Int32) = 8 by decide), if_neg (show ¬ (1 : Int32) = 9 by decide), if_neg (show ¬ (1 : Int32) = 10 by decide), if_neg (show ¬ (1 : Int32) = 11 by decide), if_neg (show ¬ (1 : Int32) = 12 by decide), if_neg (show ¬ (1 : Int32) = 0 by decide), if_pos (show (1 : Int32) = 1 by decide), if_neg (show ¬ (1 : Int32) = 2 by decide), if_neg (show ¬ (1 : Int32) = 3 by decide), if_neg (show ¬ (1 : Int32) = 4 by decide), if_pos (show (1 : Int32) < 5 by decide), if_neg (show ¬ (4 : Int32) < 1 by decide), if_pos (show (0 : Int32) = 0 by decide), if_true, if_false]
  rw [e_sumT0, e_sum0, e_setRegister]
  rfl
theorem in_2 {u : CSt} (h : Iv u) (t g w : Int32) {x : Int32} (hq : (x >>> ((5 : Int32) &&& 31)) &&& 15 = 2) : C_Mo_inner (ra u t g w) x = ((C_M_runImmediateOrControl u x).1, ra (C_M_runImmediateOrControl u x).2 t g w) := by
  unfold C_Mo_inner C_M_runImmediateOrControl J_Mo_inner_33 J_Mo_inner_50 J_Mo_inner_68 J_Mo_inner_79 J_Mo_inner_90 J_Mo_inner_136
  simp only [hq, if_neg (show ¬ (2 : Int32) = 5 by decide), if_neg (show ¬ (2 : Int32) = 6 by decide), if_neg (show ¬ (2 : Int32) = 7 by decide), if_neg (show ¬ (2 : Int32) = 8 by decide), if_neg (show ¬ (2 : Int32) = 9 by decide), if_neg (show ¬ (2 : Int32) = 10 by decide), if_neg (show ¬ (2 : Int32) = 11 by decide), if_neg (show ¬ (2 : Int32) = 12 by decide), if_neg (show ¬ (2 : Int32) = 0 by decide), if_neg (show ¬ (2 : Int32) = 1 by decide), if_pos (show (2 : Int32) = 2 by decide), if_neg (show ¬ (2 : Int32) = 3 by decide), if_neg (show ¬ (2 : Int32) = 4 by decide), if_pos (show (2 : Int32) < 5 by decide), if_neg (show ¬ (4 : Int32) < 2 by decide), if_pos (show (0 : Int32) = 0 by decide), if_neg (show ¬ (1 : Int32) = 0 by decide), if_true, if_false]
  unfold C_Mo_immediate C_M_runImmediate J_Mo_immediate_100
  simp only [e_next, e_register, if_neg (show ¬ (2 : Int32) = 5 by decide), if_neg (show ¬ (2 : Int32) = 6 by decide), if_neg (show ¬ (2 : Int32) = 7 by decide), if_neg (show ¬ (2 : Int32) = 8 by decide), if_neg (show ¬ (2 : Int32) = 9 by decide), if_neg (show ¬ (2 : Int32) = 10 by decide), if_neg (show ¬ (2 : Int32) = 11 by decide), if_neg (show ¬ (2 : Int32) = 12 by decide), if_neg (show ¬ (2 : Int32) = 0 by decide), if_neg (show ¬ (2 : Int32) = 1 by decide), if_pos (show (2 : Int32) = 2 by decide), if_neg (show ¬ (2 : Int32) = 3 by decide), if_neg (show ¬ (2 : Int32) = 4 by decide), if_pos (show (2 : Int32) < 5 by decide), if_neg (show ¬ (4 : Int32) < 2 by decide), if_pos (show (0 : Int32) = 0 by decide), if_neg (show ¬ (1 : Int32) = 0 by decide), if_true, if_false]
  have iF : Iv (C_M_fetch u).2 := h
  have hm : Wd (C_M_fetch u).1 := w_word h _
  have hr : Wd (C_M_register (C_M_fetch u).2 (x &&& 15)) := w_reg iF _
  rw [e_test _ _ _ _ (mk_and _ hr), e_setRegister]
  rfl
theorem in_3 {u : CSt} (h : Iv u) (t g w : Int32) {x : Int32} (hq : (x >>> ((5 : Int32) &&& 31)) &&& 15 = 3) : C_Mo_inner (ra u t g w) x = ((C_M_runImmediateOrControl u x).1, ra (C_M_runImmediateOrControl u x).2 t g w) := by
  unfold C_Mo_inner C_M_runImmediateOrControl J_Mo_inner_33 J_Mo_inner_50 J_Mo_inner_68 J_Mo_inner_79 J_Mo_inner_90 J_Mo_inner_136
  simp only [hq, if_neg (show ¬ (3 : Int32) = 5 by decide), if_neg (show ¬ (3 : Int32) = 6 by decide), if_neg (show ¬ (3 : Int32) = 7 by decide), if_neg (show ¬ (3 : Int32) = 8 by decide), if_neg (show ¬ (3 : Int32) = 9 by decide), if_neg (show ¬ (3 : Int32) = 10 by decide), if_neg (show ¬ (3 : Int32) = 11 by decide), if_neg (show ¬ (3 : Int32) = 12 by decide), if_neg (show ¬ (3 : Int32) = 0 by decide), if_neg (show ¬ (3 : Int32) = 1 by decide), if_neg (show ¬ (3 : Int32) = 2 by decide), if_pos (show (3 : Int32) = 3 by decide), if_neg (show ¬ (3 : Int32) = 4 by decide), if_pos (show (3 : Int32) < 5 by decide), if_neg (show ¬ (4 : Int32) < 3 by decide), if_pos (show (0 : Int32) = 0 by decide), if_neg (show ¬ (1 : Int32) = 0 by decide), if_true, if_false]
  unfold C_Mo_immediate C_M_runImmediate J_Mo_immediate_100
  simp only [e_next, e_register, if_neg (show ¬ (3 : Int32) = 5 by decide), if_neg (show ¬ (3 : Int32) = 6 by decide), if_neg (show ¬ (3 : Int32) = 7 by decide), if_neg (show ¬ (3 : Int32) = 8 by decide), if_neg (show ¬ (3 : Int32) = 9 by decide), if_neg (show ¬ (3 : Int32) = 10 by decide), if_neg (show ¬ (3 : Int32) = 11 by decide), if_neg (show ¬ (3 : Int32) = 12 by decide), if_neg (show ¬ (3 : Int32) = 0 by decide), if_neg (show ¬ (3 : Int32) = 1 by decide), if_neg (show ¬ (3 : Int32) = 2 by decide), if_pos (show (3 : Int32) = 3 by decide), if_neg (show ¬ (3 : Int32) = 4 by decide), if_pos (show (3 : Int32) < 5 by decide), if_neg (show ¬ (4 : Int32) < 3 by decide), if_pos (show (0 : Int32) = 0 by decide), if_neg (show ¬ (1 : Int32) = 0 by decide), if_true, if_false]
  have iF : Iv (C_M_fetch u).2 := h
  have hm : Wd (C_M_fetch u).1 := w_word h _
  have hr : Wd (C_M_register (C_M_fetch u).2 (x &&& 15)) := w_reg iF _
  rw [e_test _ _ _ _ (mk_or hr hm), e_setRegister]
  rfl
theorem in_4 {u : CSt} (h : Iv u) (t g w : Int32) {x : Int32} (hq : (x >>> ((5 : Int32) &&& 31)) &&& 15 = 4) : C_Mo_inner (ra u t g w) x = ((C_M_runImmediateOrControl u x).1, ra (C_M_runImmediateOrControl u x).2 t g w) := by
  unfold C_Mo_inner C_M_runImmediateOrControl J_Mo_inner_33 J_Mo_inner_50 J_Mo_inner_68 J_Mo_inner_79 J_Mo_inner_90 J_Mo_inner_136
  simp only [hq, if_neg (show ¬ (4 : Int32) = 5 by decide), if_neg (show ¬ (4 : Int32) = 6 by decide), if_neg (show ¬ (4 : Int32) = 7 by decide), if_neg (show ¬ (4 : Int32) = 8 by decide), if_neg (show ¬ (4 : Int32) = 9 by decide), if_neg (show ¬ (4 : Int32) = 10 by decide), if_neg (show ¬ (4 : Int32) = 11 by decide), if_neg (show ¬ (4 : Int32) = 12 by decide), if_neg (show ¬ (4 : Int32) = 0 by decide), if_neg (show ¬ (4 : Int32) = 1 by decide), if_neg (show ¬ (4 : Int32) = 2 by decide), if_neg (show ¬ (4 : Int32) = 3 by decide), if_pos (show (4 : Int32) = 4 by decide), if_pos (show (4 : Int32) < 5 by decide), if_neg (show ¬ (4 : Int32) < 4 by decide), if_pos (show (0 : Int32) = 0 by decide), if_neg (show ¬ (1 : Int32) = 0 by decide), if_true, if_false]
  unfold C_Mo_immediate C_M_runImmediate J_Mo_immediate_100
  simp only [e_next, e_register, if_neg (show ¬ (4 : Int32) = 5 by decide), if_neg (show ¬ (4 : Int32) = 6 by decide), if_neg (show ¬ (4 : Int32) = 7 by decide), if_neg (show ¬ (4 : Int32) = 8 by decide), if_neg (show ¬ (4 : Int32) = 9 by decide), if_neg (show ¬ (4 : Int32) = 10 by decide), if_neg (show ¬ (4 : Int32) = 11 by decide), if_neg (show ¬ (4 : Int32) = 12 by decide), if_neg (show ¬ (4 : Int32) = 0 by decide), if_neg (show ¬ (4 : Int32) = 1 by decide), if_neg (show ¬ (4 : Int32) = 2 by decide), if_neg (show ¬ (4 : Int32) = 3 by decide), if_pos (show (4 : Int32) = 4 by decide), if_pos (show (4 : Int32) < 5 by decide), if_neg (show ¬ (4 : Int32) < 4 by decide), if_pos (show (0 : Int32) = 0 by decide), if_neg (show ¬ (1 : Int32) = 0 by decide), if_true, if_false]
  have iF : Iv (C_M_fetch u).2 := h
  have hm : Wd (C_M_fetch u).1 := w_word h _
  have hr : Wd (C_M_register (C_M_fetch u).2 (x &&& 15)) := w_reg iF _
  rw [e_compare _ _ _ _ hr hm]
theorem in_5 {u : CSt} (h : Iv u) (t g w : Int32) {x : Int32} (hq : (x >>> ((5 : Int32) &&& 31)) &&& 15 = 5) : C_Mo_inner (ra u t g w) x = ((C_M_runImmediateOrControl u x).1, ra (C_M_runImmediateOrControl u x).2 t g w) := by
  unfold C_Mo_inner C_M_runImmediateOrControl J_Mo_inner_33 J_Mo_inner_50 J_Mo_inner_68 J_Mo_inner_79 J_Mo_inner_90 J_Mo_inner_136
  simp only [hq, if_pos (show (5 : Int32) = 5 by decide), if_neg (show ¬ (5 : Int32) = 6 by decide), if_neg (show ¬ (5 : Int32) = 7 by decide), if_neg (show ¬ (5 : Int32) = 8 by decide), if_neg (show ¬ (5 : Int32) = 9 by decide), if_neg (show ¬ (5 : Int32) = 10 by decide), if_neg (show ¬ (5 : Int32) = 11 by decide), if_neg (show ¬ (5 : Int32) = 12 by decide), if_neg (show ¬ (5 : Int32) = 0 by decide), if_neg (show ¬ (5 : Int32) = 1 by decide), if_neg (show ¬ (5 : Int32) = 2 by decide), if_neg (show ¬ (5 : Int32) = 3 by decide), if_neg (show ¬ (5 : Int32) = 4 by decide), if_neg (show ¬ (5 : Int32) < 5 by decide), if_pos (show (4 : Int32) < 5 by decide), if_pos (show (0 : Int32) = 0 by decide), if_neg (show ¬ (1 : Int32) = 0 by decide), if_true, if_false]
  rw [e_setRegister]
  rfl
theorem in_6 {u : CSt} (h : Iv u) (t g w : Int32) {x : Int32} (hq : (x >>> ((5 : Int32) &&& 31)) &&& 15 = 6) : C_Mo_inner (ra u t g w) x = ((C_M_runImmediateOrControl u x).1, ra (C_M_runImmediateOrControl u x).2 t g w) := by
  unfold C_Mo_inner C_M_runImmediateOrControl J_Mo_inner_33 J_Mo_inner_50 J_Mo_inner_68 J_Mo_inner_79 J_Mo_inner_90 J_Mo_inner_136
  simp only [hq, if_neg (show ¬ (6 : Int32) = 5 by decide), if_pos (show (6 : Int32) = 6 by decide), if_neg (show ¬ (6 : Int32) = 7 by decide), if_neg (show ¬ (6 : Int32) = 8 by decide), if_neg (show ¬ (6 : Int32) = 9 by decide), if_neg (show ¬ (6 : Int32) = 10 by decide), if_neg (show ¬ (6 : Int32) = 11 by decide), if_neg (show ¬ (6 : Int32) = 12 by decide), if_neg (show ¬ (6 : Int32) = 0 by decide), if_neg (show ¬ (6 : Int32) = 1 by decide), if_neg (show ¬ (6 : Int32) = 2 by decide), if_neg (show ¬ (6 : Int32) = 3 by decide), if_neg (show ¬ (6 : Int32) = 4 by decide), if_neg (show ¬ (6 : Int32) < 5 by decide), if_pos (show (4 : Int32) < 6 by decide), if_pos (show (0 : Int32) = 0 by decide), if_neg (show ¬ (1 : Int32) = 0 by decide), if_true, if_false]
  rw [e_setRegister]
  rfl
theorem in_7 {u : CSt} (h : Iv u) (t g w : Int32) {x : Int32} (hq : (x >>> ((5 : Int32) &&& 31)) &&& 15 = 7) : C_Mo_inner (ra u t g w) x = ((C_M_runImmediateOrControl u x).1, ra (C_M_runImmediateOrControl u x).2 t g w) := by
  unfold C_Mo_inner C_M_runImmediateOrControl J_Mo_inner_33 J_Mo_inner_50 J_Mo_inner_68 J_Mo_inner_79 J_Mo_inner_90 J_Mo_inner_136
  simp only [hq, if_neg (show ¬ (7 : Int32) = 5 by decide), if_neg (show ¬ (7 : Int32) = 6 by decide), if_pos (show (7 : Int32) = 7 by decide), if_neg (show ¬ (7 : Int32) = 8 by decide), if_neg (show ¬ (7 : Int32) = 9 by decide), if_neg (show ¬ (7 : Int32) = 10 by decide), if_neg (show ¬ (7 : Int32) = 11 by decide), if_neg (show ¬ (7 : Int32) = 12 by decide), if_neg (show ¬ (7 : Int32) = 0 by decide), if_neg (show ¬ (7 : Int32) = 1 by decide), if_neg (show ¬ (7 : Int32) = 2 by decide), if_neg (show ¬ (7 : Int32) = 3 by decide), if_neg (show ¬ (7 : Int32) = 4 by decide), if_neg (show ¬ (7 : Int32) < 5 by decide), if_pos (show (4 : Int32) < 7 by decide), if_pos (show (0 : Int32) = 0 by decide), if_neg (show ¬ (1 : Int32) = 0 by decide), if_true, if_false]
  unfold C_Mo_immediate
  simp only [e_next, e_register, if_neg (show ¬ (7 : Int32) = 5 by decide), if_neg (show ¬ (7 : Int32) = 6 by decide), if_pos (show (7 : Int32) = 7 by decide), if_neg (show ¬ (7 : Int32) = 8 by decide), if_neg (show ¬ (7 : Int32) = 9 by decide), if_neg (show ¬ (7 : Int32) = 10 by decide), if_neg (show ¬ (7 : Int32) = 11 by decide), if_neg (show ¬ (7 : Int32) = 12 by decide), if_neg (show ¬ (7 : Int32) = 0 by decide), if_neg (show ¬ (7 : Int32) = 1 by decide), if_neg (show ¬ (7 : Int32) = 2 by decide), if_neg (show ¬ (7 : Int32) = 3 by decide), if_neg (show ¬ (7 : Int32) = 4 by decide), if_neg (show ¬ (7 : Int32) < 5 by decide), if_pos (show (4 : Int32) < 7 by decide), if_pos (show (0 : Int32) = 0 by decide), if_neg (show ¬ (1 : Int32) = 0 by decide), if_true, if_false]
  rfl
theorem in_8 {u : CSt} (h : Iv u) (t g w : Int32) {x : Int32} (hq : (x >>> ((5 : Int32) &&& 31)) &&& 15 = 8) : C_Mo_inner (ra u t g w) x = ((C_M_runImmediateOrControl u x).1, ra (C_M_runImmediateOrControl u x).2 t g w) := by
  unfold C_Mo_inner C_M_runImmediateOrControl J_Mo_inner_33 J_Mo_inner_50 J_Mo_inner_68 J_Mo_inner_79 J_Mo_inner_90 J_Mo_inner_136
  simp only [hq, if_neg (show ¬ (8 : Int32) = 5 by decide), if_neg (show ¬ (8 : Int32) = 6 by decide), if_neg (show ¬ (8 : Int32) = 7 by decide), if_pos (show (8 : Int32) = 8 by decide), if_neg (show ¬ (8 : Int32) = 9 by decide), if_neg (show ¬ (8 : Int32) = 10 by decide), if_neg (show ¬ (8 : Int32) = 11 by decide), if_neg (show ¬ (8 : Int32) = 12 by decide), if_neg (show ¬ (8 : Int32) = 0 by decide), if_neg (show ¬ (8 : Int32) = 1 by decide), if_neg (show ¬ (8 : Int32) = 2 by decide), if_neg (show ¬ (8 : Int32) = 3 by decide), if_neg (show ¬ (8 : Int32) = 4 by decide), if_neg (show ¬ (8 : Int32) < 5 by decide), if_pos (show (4 : Int32) < 8 by decide), if_pos (show (0 : Int32) = 0 by decide), if_neg (show ¬ (1 : Int32) = 0 by decide), if_true, if_false]
  unfold C_Mo_immediate
  simp only [e_next, e_register, if_neg (show ¬ (8 : Int32) = 5 by decide), if_neg (show ¬ (8 : Int32) = 6 by decide), if_neg (show ¬ (8 : Int32) = 7 by decide), if_pos (show (8 : Int32) = 8 by decide), if_neg (show ¬ (8 : Int32) = 9 by decide), if_neg (show ¬ (8 : Int32) = 10 by decide), if_neg (show ¬ (8 : Int32) = 11 by decide), if_neg (show ¬ (8 : Int32) = 12 by decide), if_neg (show ¬ (8 : Int32) = 0 by decide), if_neg (show ¬ (8 : Int32) = 1 by decide), if_neg (show ¬ (8 : Int32) = 2 by decide), if_neg (show ¬ (8 : Int32) = 3 by decide), if_neg (show ¬ (8 : Int32) = 4 by decide), if_neg (show ¬ (8 : Int32) < 5 by decide), if_pos (show (4 : Int32) < 8 by decide), if_pos (show (0 : Int32) = 0 by decide), if_neg (show ¬ (1 : Int32) = 0 by decide), if_true, if_false]
  rfl
theorem in_10 {u : CSt} (h : Iv u) (t g w : Int32) {x : Int32} (hq : (x >>> ((5 : Int32) &&& 31)) &&& 15 = 10) : C_Mo_inner (ra u t g w) x = ((C_M_runImmediateOrControl u x).1, ra (C_M_runImmediateOrControl u x).2 t g w) := by
  unfold C_Mo_inner C_M_runImmediateOrControl J_Mo_inner_33 J_Mo_inner_50 J_Mo_inner_68 J_Mo_inner_79 J_Mo_inner_90 J_Mo_inner_136
  simp only [hq, if_neg (show ¬ (10 : Int32) = 5 by decide), if_neg (show ¬ (10 : Int32) = 6 by decide), if_neg (show ¬ (10 : Int32) = 7 by decide), if_neg (show ¬ (10 : Int32) = 8 by decide), if_neg (show ¬ (10 : Int32) = 9 by decide), if_pos (show (10 : Int32) = 10 by decide), if_neg (show ¬ (10 : Int32) = 11 by decide), if_neg (show ¬ (10 : Int32) = 12 by decide), if_neg (show ¬ (10 : Int32) = 0 by decide), if_neg (show ¬ (10 : Int32) = 1 by decide), if_neg (show ¬ (10 : Int32) = 2 by decide), if_neg (show ¬ (10 : Int32) = 3 by decide), if_neg (show ¬ (10 : Int32) = 4 by decide), if_neg (show ¬ (10 : Int32) < 5 by decide), if_pos (show (4 : Int32) < 10 by decide), if_pos (show (0 : Int32) = 0 by decide), if_neg (show ¬ (1 : Int32) = 0 by decide), if_true, if_false]
  rfl
theorem in_11 {u : CSt} (h : Iv u) (t g w : Int32) {x : Int32} (hq : (x >>> ((5 : Int32) &&& 31)) &&& 15 = 11) : C_Mo_inner (ra u t g w) x = ((C_M_runImmediateOrControl u x).1, ra (C_M_runImmediateOrControl u x).2 t g w) := by
  unfold C_Mo_inner C_M_runImmediateOrControl J_Mo_inner_33 J_Mo_inner_50 J_Mo_inner_68 J_Mo_inner_79 J_Mo_inner_90 J_Mo_inner_136
  simp only [hq, if_neg (show ¬ (11 : Int32) = 5 by decide), if_neg (show ¬ (11 : Int32) = 6 by decide), if_neg (show ¬ (11 : Int32) = 7 by decide), if_neg (show ¬ (11 : Int32) = 8 by decide), if_neg (show ¬ (11 : Int32) = 9 by decide), if_neg (show ¬ (11 : Int32) = 10 by decide), if_pos (show (11 : Int32) = 11 by decide), if_neg (show ¬ (11 : Int32) = 12 by decide), if_neg (show ¬ (11 : Int32) = 0 by decide), if_neg (show ¬ (11 : Int32) = 1 by decide), if_neg (show ¬ (11 : Int32) = 2 by decide), if_neg (show ¬ (11 : Int32) = 3 by decide), if_neg (show ¬ (11 : Int32) = 4 by decide), if_neg (show ¬ (11 : Int32) < 5 by decide), if_pos (show (4 : Int32) < 11 by decide), if_pos (show (0 : Int32) = 0 by decide), if_neg (show ¬ (1 : Int32) = 0 by decide), if_true, if_false]
  rfl
theorem in_12 {u : CSt} (h : Iv u) (t g w : Int32) {x : Int32} (hq : (x >>> ((5 : Int32) &&& 31)) &&& 15 = 12) : C_Mo_inner (ra u t g w) x = ((C_M_runImmediateOrControl u x).1, ra (C_M_runImmediateOrControl u x).2 t g w) := by
  unfold C_Mo_inner C_M_runImmediateOrControl J_Mo_inner_33 J_Mo_inner_50 J_Mo_inner_68 J_Mo_inner_79 J_Mo_inner_90 J_Mo_inner_136
  simp only [hq, if_neg (show ¬ (12 : Int32) = 5 by decide), if_neg (show ¬ (12 : Int32) = 6 by decide), if_neg (show ¬ (12 : Int32) = 7 by decide), if_neg (show ¬ (12 : Int32) = 8 by decide), if_neg (show ¬ (12 : Int32) = 9 by decide), if_neg (show ¬ (12 : Int32) = 10 by decide), if_neg (show ¬ (12 : Int32) = 11 by decide), if_pos (show (12 : Int32) = 12 by decide), if_neg (show ¬ (12 : Int32) = 0 by decide), if_neg (show ¬ (12 : Int32) = 1 by decide), if_neg (show ¬ (12 : Int32) = 2 by decide), if_neg (show ¬ (12 : Int32) = 3 by decide), if_neg (show ¬ (12 : Int32) = 4 by decide), if_neg (show ¬ (12 : Int32) < 5 by decide), if_pos (show (4 : Int32) < 12 by decide), if_pos (show (0 : Int32) = 0 by decide), if_neg (show ¬ (1 : Int32) = 0 by decide), if_true, if_false]
  exact Prod.ext rfl (by
    have e13 := e_register u t g w 13
    have e14 := e_register u t g w 14
    have e15 := e_register (u.1, u.2.1, u.2.2.1, u.2.2.2.1, C_M_register u 14 &&& 1022, u.2.2.2.2.2.1, u.2.2.2.2.2.2) t g w 15
    rw [e13, e14]
    exact (congrArg (fun z : Int32 => ((u.1, rep u.2.1, t, (C_M_register u 13 &&& 1022), (C_M_register u 14 &&& 1022), z, u.2.2.2.2.2.1, u.2.2.2.2.2.2, g, w) : RSt)) e15))
theorem in_13 {u : CSt} (h : Iv u) (t g w : Int32) {x : Int32} (hq : (x >>> ((5 : Int32) &&& 31)) &&& 15 = 13) : C_Mo_inner (ra u t g w) x = ((C_M_runImmediateOrControl u x).1, ra (C_M_runImmediateOrControl u x).2 t g w) := by
  unfold C_Mo_inner C_M_runImmediateOrControl J_Mo_inner_33 J_Mo_inner_50 J_Mo_inner_68 J_Mo_inner_79 J_Mo_inner_90 J_Mo_inner_136
  simp only [hq, if_neg (show ¬ (13 : Int32) = 5 by decide), if_neg (show ¬ (13 : Int32) = 6 by decide), if_neg (show ¬ (13 : Int32) = 7 by decide), if_neg (show ¬ (13 : Int32) = 8 by decide), if_neg (show ¬ (13 : Int32) = 9 by decide), if_neg (show ¬ (13 : Int32) = 10 by decide), if_neg (show ¬ (13 : Int32) = 11 by decide), if_neg (show ¬ (13 : Int32) = 12 by decide), if_neg (show ¬ (13 : Int32) = 0 by decide), if_neg (show ¬ (13 : Int32) = 1 by decide), if_neg (show ¬ (13 : Int32) = 2 by decide), if_neg (show ¬ (13 : Int32) = 3 by decide), if_neg (show ¬ (13 : Int32) = 4 by decide), if_neg (show ¬ (13 : Int32) < 5 by decide), if_pos (show (4 : Int32) < 13 by decide), if_pos (show (0 : Int32) = 0 by decide), if_neg (show ¬ (1 : Int32) = 0 by decide), if_true, if_false]
  all_goals rfl
theorem in_14 {u : CSt} (h : Iv u) (t g w : Int32) {x : Int32} (hq : (x >>> ((5 : Int32) &&& 31)) &&& 15 = 14) : C_Mo_inner (ra u t g w) x = ((C_M_runImmediateOrControl u x).1, ra (C_M_runImmediateOrControl u x).2 t g w) := by
  unfold C_Mo_inner C_M_runImmediateOrControl J_Mo_inner_33 J_Mo_inner_50 J_Mo_inner_68 J_Mo_inner_79 J_Mo_inner_90 J_Mo_inner_136
  simp only [hq, if_neg (show ¬ (14 : Int32) = 5 by decide), if_neg (show ¬ (14 : Int32) = 6 by decide), if_neg (show ¬ (14 : Int32) = 7 by decide), if_neg (show ¬ (14 : Int32) = 8 by decide), if_neg (show ¬ (14 : Int32) = 9 by decide), if_neg (show ¬ (14 : Int32) = 10 by decide), if_neg (show ¬ (14 : Int32) = 11 by decide), if_neg (show ¬ (14 : Int32) = 12 by decide), if_neg (show ¬ (14 : Int32) = 0 by decide), if_neg (show ¬ (14 : Int32) = 1 by decide), if_neg (show ¬ (14 : Int32) = 2 by decide), if_neg (show ¬ (14 : Int32) = 3 by decide), if_neg (show ¬ (14 : Int32) = 4 by decide), if_neg (show ¬ (14 : Int32) < 5 by decide), if_pos (show (4 : Int32) < 14 by decide), if_pos (show (0 : Int32) = 0 by decide), if_neg (show ¬ (1 : Int32) = 0 by decide), if_true, if_false]
  all_goals rfl
theorem in_15 {u : CSt} (h : Iv u) (t g w : Int32) {x : Int32} (hq : (x >>> ((5 : Int32) &&& 31)) &&& 15 = 15) : C_Mo_inner (ra u t g w) x = ((C_M_runImmediateOrControl u x).1, ra (C_M_runImmediateOrControl u x).2 t g w) := by
  unfold C_Mo_inner C_M_runImmediateOrControl J_Mo_inner_33 J_Mo_inner_50 J_Mo_inner_68 J_Mo_inner_79 J_Mo_inner_90 J_Mo_inner_136
  simp only [hq, if_neg (show ¬ (15 : Int32) = 5 by decide), if_neg (show ¬ (15 : Int32) = 6 by decide), if_neg (show ¬ (15 : Int32) = 7 by decide), if_neg (show ¬ (15 : Int32) = 8 by decide), if_neg (show ¬ (15 : Int32) = 9 by decide), if_neg (show ¬ (15 : Int32) = 10 by decide), if_neg (show ¬ (15 : Int32) = 11 by decide), if_neg (show ¬ (15 : Int32) = 12 by decide), if_neg (show ¬ (15 : Int32) = 0 by decide), if_neg (show ¬ (15 : Int32) = 1 by decide), if_neg (show ¬ (15 : Int32) = 2 by decide), if_neg (show ¬ (15 : Int32) = 3 by decide), if_neg (show ¬ (15 : Int32) = 4 by decide), if_neg (show ¬ (15 : Int32) < 5 by decide), if_pos (show (4 : Int32) < 15 by decide), if_pos (show (0 : Int32) = 0 by decide), if_neg (show ¬ (1 : Int32) = 0 by decide), if_true, if_false]
  all_goals rfl
theorem e_inner {u : CSt} (h : Iv u) (t g w : Int32) {n : Nat} (h2 : n < 1024) (h9 : n / 32 % 16 ≠ 9) : C_Mo_inner (ra u t g w) (nI n) = ((C_M_runImmediateOrControl u (nI n)).1, ra (C_M_runImmediateOrControl u (nI n)).2 t g w) := by
  have e5 : (nI n >>> ((5 : Int32) &&& 31)) &&& 15 = nI (n / 32 % 16) := by
    rw [pk_shrN (by omega) _ 5 (by decide), pk_andN (by omega) 4 (by decide)]
  have hq1 : n / 32 % 16 < 16 := by omega
  generalize nI n = x at *
  generalize n / 32 % 16 = q at *
  rcases (show q = 0 ∨ q = 1 ∨ q = 2 ∨ q = 3 ∨ q = 4 ∨ q = 5 ∨ q = 6 ∨ q = 7 ∨ q = 8 ∨ q = 10 ∨ q = 11 ∨ q = 12 ∨ q = 13 ∨ q = 14 ∨ q = 15 by omega) with rfl | rfl | rfl | rfl | rfl | rfl | rfl | rfl | rfl | rfl | rfl | rfl | rfl | rfl | rfl
  · exact in_0 h t g w e5
  · exact in_1 h t g w e5
  · exact in_2 h t g w e5
  · exact in_3 h t g w e5
  · exact in_4 h t g w e5
  · exact in_5 h t g w e5
  · exact in_6 h t g w e5
  · exact in_7 h t g w e5
  · exact in_8 h t g w e5
  · exact in_10 h t g w e5
  · exact in_11 h t g w e5
  · exact in_12 h t g w e5
  · exact in_13 h t g w e5
  · exact in_14 h t g w e5
  · exact in_15 h t g w e5
theorem i_inner {u : CSt} (h : Iv u) (x : Int32) : Iv (C_M_runImmediateOrControl u x).2 := by
  have hF : Iv (C_M_fetch u).2 := h
  unfold C_M_runImmediateOrControl C_M_runImmediate
  dsimp only
  (repeat' split) <;> first | exact h | exact i_setRegister h _ _ | exact i_setWorkspace hF _ | exact i_setWorkspace (i_setCounter (i_setBits h _) _) _ | exact i_setRegister (i_tested hF _) _ _ | exact i_setRegister (i_sum hF _ _ _) _ _ | exact i_compare hF _ _
