/-! 14c.case: the law's eight cases, laid by gen5.py -/
theorem t_133 : Cond.methodLink R_La 39 y_M_reset ∈ TB := mt 133 (by decide +kernel) (by decide +kernel)
theorem t_134 : Cond.instanceMethod y_M_reset ∈ TB := mt 134 (by decide +kernel) (by decide +kernel)
theorem t_135 : Cond.selects R_M y_M_reset y_M_reset ∈ TB := mt 135 (by decide +kernel) (by decide +kernel)
theorem t_136 : Cond.code y_M_reset b_M_reset 1 none ∈ TB := mt 136 (by decide +kernel) (by decide +kernel)
theorem t_657 : Cond.methodLink R_La 42 y_Mo_reset ∈ TB := mt 657 (by decide +kernel) (by decide +kernel)
theorem t_658 : Cond.instanceMethod y_Mo_reset ∈ TB := mt 658 (by decide +kernel) (by decide +kernel)
theorem t_659 : Cond.selects R_Mo y_Mo_reset y_Mo_reset ∈ TB := mt 659 (by decide +kernel) (by decide +kernel)
theorem t_660 : Cond.code y_Mo_reset b_Mo_reset 1 none ∈ TB := mt 660 (by decide +kernel) (by decide +kernel)
theorem t_173 : Cond.methodLink R_La 57 y_M_step ∈ TB := mt 173 (by decide +kernel) (by decide +kernel)
theorem t_174 : Cond.instanceMethod y_M_step ∈ TB := mt 174 (by decide +kernel) (by decide +kernel)
theorem t_175 : Cond.selects R_M y_M_step y_M_step ∈ TB := mt 175 (by decide +kernel) (by decide +kernel)
theorem t_176 : Cond.code y_M_step b_M_step 6 (some .int) ∈ TB := mt 176 (by decide +kernel) (by decide +kernel)
theorem t_525 : Cond.methodLink R_La 60 y_Mo_step ∈ TB := mt 525 (by decide +kernel) (by decide +kernel)
theorem t_526 : Cond.instanceMethod y_Mo_step ∈ TB := mt 526 (by decide +kernel) (by decide +kernel)
theorem t_527 : Cond.selects R_Mo y_Mo_step y_Mo_step ∈ TB := mt 527 (by decide +kernel) (by decide +kernel)
theorem t_528 : Cond.code y_Mo_step b_Mo_step 1 (some .int) ∈ TB := mt 528 (by decide +kernel) (by decide +kernel)
theorem t_366 : Cond.codeWith y_La_poke b_La_poke 4 (some .int) [(0, 6, 9, 13)] ∈ TB := mt 366 (by decide +kernel) (by decide +kernel)
theorem t_364 : Cond.methodLink R_La 43 y_La_poke ∈ TB := mt 364 (by decide +kernel) (by decide +kernel)
theorem t_365 : Cond.static y_La_poke ∈ TB := mt 365 (by decide +kernel) (by decide +kernel)
theorem t_61 : Cond.initialized R_La ∈ TB := mt 61 (by decide +kernel) (by decide +kernel)
theorem t_661 : Cond.methodLink R_La 48 y_Mo_poke ∈ TB := mt 661 (by decide +kernel) (by decide +kernel)
theorem t_662 : Cond.instanceMethod y_Mo_poke ∈ TB := mt 662 (by decide +kernel) (by decide +kernel)
theorem t_663 : Cond.selects R_Mo y_Mo_poke y_Mo_poke ∈ TB := mt 663 (by decide +kernel) (by decide +kernel)
theorem t_664 : Cond.code y_Mo_poke b_Mo_poke 3 none ∈ TB := mt 664 (by decide +kernel) (by decide +kernel)
theorem t_521 : Cond.methodLink R_La 49 y_Mo_thrown ∈ TB := mt 521 (by decide +kernel) (by decide +kernel)
theorem t_522 : Cond.instanceMethod y_Mo_thrown ∈ TB := mt 522 (by decide +kernel) (by decide +kernel)
theorem t_523 : Cond.selects R_Mo y_Mo_thrown y_Mo_thrown ∈ TB := mt 523 (by decide +kernel) (by decide +kernel)
theorem t_524 : Cond.code y_Mo_thrown b_Mo_thrown 1 (some .int) ∈ TB := mt 524 (by decide +kernel) (by decide +kernel)
theorem t_450 : Cond.codeWith y_La_level b_La_level 3 (some .int) [(0, 5, 8, 13)] ∈ TB := mt 450 (by decide +kernel) (by decide +kernel)
theorem t_448 : Cond.methodLink R_La 61 y_La_level ∈ TB := mt 448 (by decide +kernel) (by decide +kernel)
theorem t_449 : Cond.static y_La_level ∈ TB := mt 449 (by decide +kernel) (by decide +kernel)
theorem t_676 : Cond.methodLink R_La 64 y_Mo_level ∈ TB := mt 676 (by decide +kernel) (by decide +kernel)
theorem t_677 : Cond.instanceMethod y_Mo_level ∈ TB := mt 677 (by decide +kernel) (by decide +kernel)
theorem t_678 : Cond.selects R_Mo y_Mo_level y_Mo_level ∈ TB := mt 678 (by decide +kernel) (by decide +kernel)
theorem t_679 : Cond.code y_Mo_level b_Mo_level 2 none ∈ TB := mt 679 (by decide +kernel) (by decide +kernel)
theorem t_458 : Cond.codeWith y_La_wire b_La_wire 4 (some .int) [(0, 6, 9, 13)] ∈ TB := mt 458 (by decide +kernel) (by decide +kernel)
theorem t_456 : Cond.methodLink R_La 65 y_La_wire ∈ TB := mt 456 (by decide +kernel) (by decide +kernel)
theorem t_457 : Cond.static y_La_wire ∈ TB := mt 457 (by decide +kernel) (by decide +kernel)
theorem t_680 : Cond.methodLink R_La 68 y_Mo_wire ∈ TB := mt 680 (by decide +kernel) (by decide +kernel)
theorem t_681 : Cond.instanceMethod y_Mo_wire ∈ TB := mt 681 (by decide +kernel) (by decide +kernel)
theorem t_682 : Cond.selects R_Mo y_Mo_wire y_Mo_wire ∈ TB := mt 682 (by decide +kernel) (by decide +kernel)
theorem t_683 : Cond.code y_Mo_wire b_Mo_wire 3 none ∈ TB := mt 683 (by decide +kernel) (by decide +kernel)
theorem t_443 : Cond.codeWith y_La_peek b_La_peek 4 (some .int) [(0, 9, 12, 13)] ∈ TB := mt 443 (by decide +kernel) (by decide +kernel)
theorem t_441 : Cond.methodLink R_La 53 y_La_peek ∈ TB := mt 441 (by decide +kernel) (by decide +kernel)
theorem t_442 : Cond.static y_La_peek ∈ TB := mt 442 (by decide +kernel) (by decide +kernel)
theorem t_672 : Cond.methodLink R_La 56 y_Mo_peek ∈ TB := mt 672 (by decide +kernel) (by decide +kernel)
theorem t_673 : Cond.instanceMethod y_Mo_peek ∈ TB := mt 673 (by decide +kernel) (by decide +kernel)
theorem t_674 : Cond.selects R_Mo y_Mo_peek y_Mo_peek ∈ TB := mt 674 (by decide +kernel) (by decide +kernel)
theorem t_675 : Cond.code y_Mo_peek b_Mo_peek 2 (some .char) ∈ TB := mt 675 (by decide +kernel) (by decide +kernel)
theorem t_469 : Cond.codeWith y_La_line b_La_line 4 (some .int) [(0, 16, 19, 13)] ∈ TB := mt 469 (by decide +kernel) (by decide +kernel)
theorem t_467 : Cond.methodLink R_La 69 y_La_line ∈ TB := mt 467 (by decide +kernel) (by decide +kernel)
theorem t_468 : Cond.static y_La_line ∈ TB := mt 468 (by decide +kernel) (by decide +kernel)
theorem t_684 : Cond.methodLink R_La 71 y_Mo_line ∈ TB := mt 684 (by decide +kernel) (by decide +kernel)
theorem t_685 : Cond.instanceMethod y_Mo_line ∈ TB := mt 685 (by decide +kernel) (by decide +kernel)
theorem t_686 : Cond.selects R_Mo y_Mo_line y_Mo_line ∈ TB := mt 686 (by decide +kernel) (by decide +kernel)
theorem t_687 : Cond.code y_Mo_line b_Mo_line 2 (some .boolean) ∈ TB := mt 687 (by decide +kernel) (by decide +kernel)
theorem t_476 : Cond.codeWith y_La_state b_La_state 4 (some .int) [(0, 9, 12, 13)] ∈ TB := mt 476 (by decide +kernel) (by decide +kernel)
theorem t_474 : Cond.methodLink R_La 72 y_La_state ∈ TB := mt 474 (by decide +kernel) (by decide +kernel)
theorem t_475 : Cond.static y_La_state ∈ TB := mt 475 (by decide +kernel) (by decide +kernel)
theorem t_688 : Cond.methodLink R_La 74 y_Mo_state ∈ TB := mt 688 (by decide +kernel) (by decide +kernel)
theorem t_689 : Cond.instanceMethod y_Mo_state ∈ TB := mt 689 (by decide +kernel) (by decide +kernel)
theorem t_690 : Cond.selects R_Mo y_Mo_state y_Mo_state ∈ TB := mt 690 (by decide +kernel) (by decide +kernel)
theorem t_691 : Cond.code y_Mo_state b_Mo_state 3 (some .int) ∈ TB := mt 691 (by decide +kernel) (by decide +kernel)
set_option maxHeartbeats 4000000 in
theorem lw_c0 {p : Program} {l : Launch} {e : Env} {s : State} {m : MethodId} {below : List Frame} {meth : Method} {c : Code} {b L : Nat} {xs : Nat → Int32} {D : va_G} {a : CAd} {o : OAd} {r : RAd} (F : LF p l s m meth c b L xs D a o r) {H : Heap} {locs : List Loc} {ls : Array Slot} {i : Int32} {u : CSt} {f : Nat → Int64} {t g w : Int32} {cells slots : Nat} {Q : State → Prop}
    (hP : va_P D kl (cwo a o (u, f)) H) (hQ : va_P D kl (mw r (ra u t g w)) H) (hS : va_S (An0 s) s.heap H locs) (hI : Iv u) (hl : lv_has ls 7 [(0, .ref b), (1, .ref a.1), (2, .ref r.1), (3, .ref o.1), (4, .int i)]) (hin : vp_in (i + 1) L ∧ vp_in (i + 2) L) (hf : cells + 1 ≤ room_1.cells ∧ slots + 6 ≤ room_1.slots)
    (kk : ∀ (H1 : Heap) (locs1 : List Loc) (ls1 : Array Slot) (u' : CSt) (f' : Nat → Int64) (t' g' w' : Int32), va_P D kl (cwo a o (u', f')) H1 → va_P D kl (mw r (ra u' t' g' w')) H1 → va_S (An0 s) s.heap H1 locs1 → Iv u' → lv_has ls1 7 [(0, .ref b), (1, .ref a.1), (2, .ref r.1), (3, .ref o.1), (4, .int i)] → W p l e room_1 s m #[Value.ref b] below meth c H1 locs1 (cells + 1) (slots + 6) Q (F0 m 433 ls1 [])) :
    W p l e room_1 s m #[Value.ref b] below meth c H locs cells slots Q (F0 m 84 ls []) := by
  have F0 := F
  obtain ⟨⟨hx, hb, hr, hml, hown, hts, hX, hbl, hlk⟩, hfl, ⟨hK, hKR⟩, ⟨hA, hAR⟩, ⟨hn1, hn2, hn3⟩, -, ⟨hs51, hs93, hs98, hs113⟩⟩ := F0
  have hbA : ¬ An0 s b := fun z => absurd hbl (Nat.not_lt.mpr z)
  have hf2 : cells + 1 ≤ room_1.cells ∧ slots + 6 ≤ room_1.slots := hf
  refine lv_aload_n hx hb d_lw_84 rfl (lv_at hl 1 rfl) ?_
  refine lc_V F (As := []) (rest := []) (k_M_reset l D a hA.1 u ) (cwV 0 hts (gg_V hB t_133 t_134 t_135 t_62 t_136) rfl rfl rfl (by decide +kernel) ⟨Nat.le_of_ble_eq_true rfl, Nat.le_of_ble_eq_true rfl⟩) hP hQ hS rfl hl.1 rfl (Nat.le_of_ble_eq_true rfl) d_lw_85 hf (fun H locs hP hQ hS => ?_)
  refine lv_aload_n hx hb d_lw_88 rfl (lv_at hl 2 rfl) ?_
  refine lc_R F (As := []) (rest := []) (k_Mo_reset l D r hAR (ra u t g w) ) (cwV 0 hts (gg_V hB t_657 t_658 t_659 t_66 t_660) rfl rfl rfl (by decide +kernel) ⟨Nat.le_of_ble_eq_true rfl, Nat.le_of_ble_eq_true rfl⟩) hP hQ hS rfl hl.1 rfl (Nat.le_of_ble_eq_true rfl) d_lw_89 ⟨by omega, by omega⟩ (fun H locs hP hQ hS => ?_)
  rw [e_reset] at hQ
  refine lv_goto (tgt := 433) hx hb d_lw_92 (by decide) ?_
  refine W_widen (k := cells + 1) (n := slots + 6) (by omega) (by omega) ?_
  exact kk _ _ _ (C_M_reset u) f 0 g w hP hQ hS (i_reset hI) (lv_sub hl [0, 1, 2, 3, 4] rfl)
set_option maxHeartbeats 4000000 in
theorem lw_c3 {p : Program} {l : Launch} {e : Env} {s : State} {m : MethodId} {below : List Frame} {meth : Method} {c : Code} {b L : Nat} {xs : Nat → Int32} {D : va_G} {a : CAd} {o : OAd} {r : RAd} (F : LF p l s m meth c b L xs D a o r) {H : Heap} {locs : List Loc} {ls : Array Slot} {i : Int32} {u : CSt} {f : Nat → Int64} {t g w : Int32} {cells slots : Nat} {Q : State → Prop}
    (hP : va_P D kl (cwo a o (u, f)) H) (hQ : va_P D kl (mw r (ra u t g w)) H) (hS : va_S (An0 s) s.heap H locs) (hI : Iv u) (hl : lv_has ls 7 [(0, .ref b), (1, .ref a.1), (2, .ref r.1), (3, .ref o.1), (4, .int i)]) (hin : vp_in (i + 1) L ∧ vp_in (i + 2) L) (hf : cells + 1 ≤ room_1.cells ∧ slots + 6 ≤ room_1.slots)
    (kk : ∀ (H1 : Heap) (locs1 : List Loc) (ls1 : Array Slot) (u' : CSt) (f' : Nat → Int64) (t' g' w' : Int32), va_P D kl (cwo a o (u', f')) H1 → va_P D kl (mw r (ra u' t' g' w')) H1 → va_S (An0 s) s.heap H1 locs1 → Iv u' → lv_has ls1 7 [(0, .ref b), (1, .ref a.1), (2, .ref r.1), (3, .ref o.1), (4, .int i)] → W p l e room_1 s m #[Value.ref b] below meth c H1 locs1 (cells + 1) (slots + 6) Q (F0 m 433 ls1 [])) :
    W p l e room_1 s m #[Value.ref b] below meth c H locs cells slots Q (F0 m 201 ls []) := by
  have F0 := F
  obtain ⟨⟨hx, hb, hr, hml, hown, hts, hX, hbl, hlk⟩, hfl, ⟨hK, hKR⟩, ⟨hA, hAR⟩, ⟨hn1, hn2, hn3⟩, -, ⟨hs51, hs93, hs98, hs113⟩⟩ := F0
  have hbA : ¬ An0 s b := fun z => absurd hbl (Nat.not_lt.mpr z)
  have hf2 : cells + 1 ≤ room_1.cells ∧ slots + 6 ≤ room_1.slots := hf
  obtain ⟨⟨g1, w1, es⟩, hI1⟩ := e_step hI t g w
  refine lv_aload_n hx hb d_lw_201 rfl (lv_at hl 1 rfl) ?_
  refine lc_V F (As := []) (rest := []) (k_M_step l D a hA.1 u (iv_nn hI)) (cwV 0 hts (gg_V hB t_173 t_174 t_175 t_62 t_176) rfl rfl rfl (by decide +kernel) ⟨Nat.le_of_ble_eq_true rfl, Nat.le_of_ble_eq_true rfl⟩) hP hQ hS rfl hl.1 rfl (Nat.le_of_ble_eq_true rfl) d_lw_202 hf (fun H locs hP hQ hS => ?_)
  refine lv_aload_n hx hb d_lw_205 rfl (lv_at hl 2 rfl) ?_
  refine lc_R F (As := []) (rest := [.int (C_M_step u).1]) (k_Mo_step l D r hAR (ra u t g w) (iv_nn hI)) (cwV 0 hts (gg_V hB t_525 t_526 t_527 t_66 t_528) rfl rfl rfl (by decide +kernel) ⟨Nat.le_of_ble_eq_true rfl, Nat.le_of_ble_eq_true rfl⟩) hP hQ hS rfl hl.1 rfl (Nat.le_of_ble_eq_true rfl) d_lw_206 ⟨by omega, by omega⟩ (fun H locs hP hQ hS => ?_)
  rw [es] at hQ ⊢
  refine lv_icmp_eq (tgt := 433) hx hb d_lw_209 (by decide) (fun h => ?_) (fun h => ?_)
  · refine W_widen (k := cells + 1) (n := slots + 6) (by omega) (by omega) ?_
    exact kk _ _ _ (C_M_step u).2 f 0 g1 w1 hP hQ hS hI1 (lv_sub hl [0, 1, 2, 3, 4] rfl)
  · exact absurd rfl h
set_option maxHeartbeats 4000000 in
theorem lw_c1 {p : Program} {l : Launch} {e : Env} {s : State} {m : MethodId} {below : List Frame} {meth : Method} {c : Code} {b L : Nat} {xs : Nat → Int32} {D : va_G} {a : CAd} {o : OAd} {r : RAd} (F : LF p l s m meth c b L xs D a o r) {H : Heap} {locs : List Loc} {ls : Array Slot} {i : Int32} {u : CSt} {f : Nat → Int64} {t g w : Int32} {cells slots : Nat} {Q : State → Prop}
    (hP : va_P D kl (cwo a o (u, f)) H) (hQ : va_P D kl (mw r (ra u t g w)) H) (hS : va_S (An0 s) s.heap H locs) (hI : Iv u) (hl : lv_has ls 7 [(0, .ref b), (1, .ref a.1), (2, .ref r.1), (3, .ref o.1), (4, .int i)]) (hin : vp_in (i + 1) L ∧ vp_in (i + 2) L) (hf : cells + 1 ≤ room_1.cells ∧ slots + 6 ≤ room_1.slots)
    (kk : ∀ (H1 : Heap) (locs1 : List Loc) (ls1 : Array Slot) (u' : CSt) (f' : Nat → Int64) (t' g' w' : Int32), va_P D kl (cwo a o (u', f')) H1 → va_P D kl (mw r (ra u' t' g' w')) H1 → va_S (An0 s) s.heap H1 locs1 → Iv u' → lv_has ls1 7 [(0, .ref b), (1, .ref a.1), (2, .ref r.1), (3, .ref o.1), (4, .int i)] → W p l e room_1 s m #[Value.ref b] below meth c H1 locs1 (cells + 1) (slots + 6) Q (F0 m 433 ls1 [])) :
    W p l e room_1 s m #[Value.ref b] below meth c H locs cells slots Q (F0 m 95 ls []) := by
  have F0 := F
  obtain ⟨⟨hx, hb, hr, hml, hown, hts, hX, hbl, hlk⟩, hfl, ⟨hK, hKR⟩, ⟨hA, hAR⟩, ⟨hn1, hn2, hn3⟩, -, ⟨hs51, hs93, hs98, hs113⟩⟩ := F0
  have hbA : ¬ An0 s b := fun z => absurd hbl (Nat.not_lt.mpr z)
  have hf2 : cells + 1 ≤ room_1.cells ∧ slots + 6 ≤ room_1.slots := hf
  refine lv_aload_n hx hb d_lw_95 rfl (lv_at hl 1 rfl) ?_
  refine lv_aload_n hx hb d_lw_96 rfl (lv_at hl 0 rfl) ?_
  refine lv_iload hx hb d_lw_97 (lv_at hl 4 rfl) ?_
  refine lv_iconst (v := 1) hx hb d_lw_99 (by decide) ?_
  refine lv_iadd hx hb d_lw_100 ?_
  refine va_sld hx hb hX hbl hbA hS hin.1 d_lw_101 ?_
  refine lv_aload_n hx hb d_lw_102 rfl (lv_at hl 0 rfl) ?_
  refine lv_iload hx hb d_lw_103 (lv_at hl 4 rfl) ?_
  refine lv_iconst (v := 2) hx hb d_lw_105 (by decide) ?_
  refine lv_iadd hx hb d_lw_106 ?_
  refine va_sld hx hb hX hbl hbA hS hin.2 d_lw_107 ?_
  refine lv_i2c hx hb d_lw_108 rfl ?_
  refine lc_W F (As := [.ref a.1, .int (xs (i + 1).toNatClampNeg), .int (((xs (i + 2).toNatClampNeg).toUInt32 % 65536).toInt32)]) (rest := []) (k := 3) (kw_poke l hfl D a o hA (u, f) (xs (i + 1).toNatClampNeg) (((xs (i + 2).toNatClampNeg).toUInt32 % 65536).toInt32)) t_366 t_364 t_365 t_61 (by decide +kernel) ⟨Nat.le_of_ble_eq_true rfl, Nat.le_of_ble_eq_true rfl⟩ hs51 hP hQ hS rfl hl.1 rfl (Nat.le_of_ble_eq_true rfl) d_lw_109 hf (fun H locs hP hQ hS => ?_)
  refine lv_istore hx hb d_lw_112 hl (by decide) rfl (fun ls hl => ?_)
  have hl : lv_has ls 7 [(5, .int (if C_M_isWordAddress (xs (i + 1).toNatClampNeg) = 0 then (1 : Int32) else 0)), (0, .ref b), (1, .ref a.1), (2, .ref r.1), (3, .ref o.1), (4, .int i)] := hl
  refine lv_aload_n hx hb d_lw_114 rfl (lv_at hl 3 rfl) ?_
  refine lv_aload_n hx hb d_lw_115 rfl (lv_at hl 1 rfl) ?_
  refine lv_iload hx hb d_lw_116 (lv_at hl 5 rfl) ?_
  refine lv_iconst (v := 1) hx hb d_lw_118 (by decide) ?_
  refine lv_iadd hx hb d_lw_119 ?_
  refine va_sld hx hb hX hbl hbA hS hin.1 d_lw_120 ?_
  refine lv_aload_n hx hb d_lw_121 rfl (lv_at hl 1 rfl) ?_
  refine lv_iload hx hb d_lw_122 (lv_at hl 5 rfl) ?_
  refine lv_iconst (v := 2) hx hb d_lw_124 (by decide) ?_
  refine lv_iadd hx hb d_lw_125 ?_
  refine va_sld hx hb hX hbl hbA hS hin.2 d_lw_126 ?_
  refine lv_i2c hx hb d_lw_127 rfl ?_
  refine lc_R F (As := [.int (xs (i + 1).toNatClampNeg), .int (((xs (i + 2).toNatClampNeg).toUInt32 % 65536).toInt32)]) (rest := []) (k_Mo_poke l D r hAR (ra u t g w) (xs (i + 1).toNatClampNeg) (((xs (i + 2).toNatClampNeg).toUInt32 % 65536).toInt32)) (cwV 2 hts (gg_V hB t_661 t_662 t_663 t_66 t_664) rfl rfl rfl (by decide +kernel) ⟨Nat.le_of_ble_eq_true rfl, Nat.le_of_ble_eq_true rfl⟩) hP hQ hS rfl hl.1 rfl (Nat.le_of_ble_eq_true rfl) d_lw_128 ⟨hf.1, hf.2⟩ (fun H locs hP hQ hS => ?_)
  rw [f_poke] at hQ
  refine lv_aload_n hx hb d_lw_131 rfl (lv_at hl 3 rfl) ?_
  refine lc_R F (As := []) (rest := []) (k_Mo_thrown l D r hAR (ra (C_M_poke u (xs (i + 1).toNatClampNeg) (((xs (i + 2).toNatClampNeg).toUInt32 % 65536).toInt32)) (if C_M_isWordAddress (xs (i + 1).toNatClampNeg) = 0 then (1 : Int32) else 0) g w) ) (cwV 0 hts (gg_V hB t_521 t_522 t_523 t_66 t_524) rfl rfl rfl (by decide +kernel) ⟨Nat.le_of_ble_eq_true rfl, Nat.le_of_ble_eq_true rfl⟩) hP hQ hS rfl hl.1 rfl (Nat.le_of_ble_eq_true rfl) d_lw_132 ⟨hf.1, hf.2⟩ (fun H locs hP hQ hS => ?_)
  refine lv_iload hx hb d_lw_135 (lv_at hl 0 rfl) ?_
  refine lv_icmp_eq (tgt := 142) hx hb d_lw_137 (by decide) (fun h => ?_) (fun h => ?_)
  · refine lv_goto (tgt := 433) hx hb d_lw_142 (by decide) ?_
    exact kk _ _ _ (C_M_poke u (xs (i + 1).toNatClampNeg) (((xs (i + 2).toNatClampNeg).toUInt32 % 65536).toInt32)) f (if C_M_isWordAddress (xs (i + 1).toNatClampNeg) = 0 then (1 : Int32) else 0) g w hP hQ hS (i_poke hI _ _) (lv_sub hl [1, 2, 3, 4, 5] rfl)
  · exact absurd rfl h
set_option maxHeartbeats 4000000 in
theorem lw_c4 {p : Program} {l : Launch} {e : Env} {s : State} {m : MethodId} {below : List Frame} {meth : Method} {c : Code} {b L : Nat} {xs : Nat → Int32} {D : va_G} {a : CAd} {o : OAd} {r : RAd} (F : LF p l s m meth c b L xs D a o r) {H : Heap} {locs : List Loc} {ls : Array Slot} {i : Int32} {u : CSt} {f : Nat → Int64} {t g w : Int32} {cells slots : Nat} {Q : State → Prop}
    (hP : va_P D kl (cwo a o (u, f)) H) (hQ : va_P D kl (mw r (ra u t g w)) H) (hS : va_S (An0 s) s.heap H locs) (hI : Iv u) (hl : lv_has ls 7 [(0, .ref b), (1, .ref a.1), (2, .ref r.1), (3, .ref o.1), (4, .int i)]) (hin : vp_in (i + 1) L ∧ vp_in (i + 2) L) (hf : cells + 1 ≤ room_1.cells ∧ slots + 6 ≤ room_1.slots)
    (kk : ∀ (H1 : Heap) (locs1 : List Loc) (ls1 : Array Slot) (u' : CSt) (f' : Nat → Int64) (t' g' w' : Int32), va_P D kl (cwo a o (u', f')) H1 → va_P D kl (mw r (ra u' t' g' w')) H1 → va_S (An0 s) s.heap H1 locs1 → Iv u' → lv_has ls1 7 [(0, .ref b), (1, .ref a.1), (2, .ref r.1), (3, .ref o.1), (4, .int i)] → W p l e room_1 s m #[Value.ref b] below meth c H1 locs1 (cells + 1) (slots + 6) Q (F0 m 433 ls1 [])) :
    W p l e room_1 s m #[Value.ref b] below meth c H locs cells slots Q (F0 m 214 ls []) := by
  have F0 := F
  obtain ⟨⟨hx, hb, hr, hml, hown, hts, hX, hbl, hlk⟩, hfl, ⟨hK, hKR⟩, ⟨hA, hAR⟩, ⟨hn1, hn2, hn3⟩, -, ⟨hs51, hs93, hs98, hs113⟩⟩ := F0
  have hbA : ¬ An0 s b := fun z => absurd hbl (Nat.not_lt.mpr z)
  have hf2 : cells + 1 ≤ room_1.cells ∧ slots + 6 ≤ room_1.slots := hf
  refine lv_aload_n hx hb d_lw_214 rfl (lv_at hl 1 rfl) ?_
  refine lv_aload_n hx hb d_lw_215 rfl (lv_at hl 0 rfl) ?_
  refine lv_iload hx hb d_lw_216 (lv_at hl 4 rfl) ?_
  refine lv_iconst (v := 1) hx hb d_lw_218 (by decide) ?_
  refine lv_iadd hx hb d_lw_219 ?_
  refine va_sld hx hb hX hbl hbA hS hin.1 d_lw_220 ?_
  refine lc_W F (As := [.ref a.1, .int (xs (i + 1).toNatClampNeg)]) (rest := []) (k := 2) (kw_level l hfl D a o hA (u, f) (xs (i + 1).toNatClampNeg)) t_450 t_448 t_449 t_61 (by decide +kernel) ⟨Nat.le_of_ble_eq_true rfl, Nat.le_of_ble_eq_true rfl⟩ hs93 hP hQ hS rfl hl.1 rfl (Nat.le_of_ble_eq_true rfl) d_lw_221 hf (fun H locs hP hQ hS => ?_)
  refine lv_istore hx hb d_lw_224 hl (by decide) rfl (fun ls hl => ?_)
  have hl : lv_has ls 7 [(5, .int (if ¬ (¬ (xs (i + 1).toNatClampNeg) < 0 ∧ (xs (i + 1).toNatClampNeg) ≤ 16) then (1 : Int32) else 0)), (0, .ref b), (1, .ref a.1), (2, .ref r.1), (3, .ref o.1), (4, .int i)] := hl
  refine lv_aload_n hx hb d_lw_226 rfl (lv_at hl 3 rfl) ?_
  refine lv_aload_n hx hb d_lw_227 rfl (lv_at hl 1 rfl) ?_
  refine lv_iload hx hb d_lw_228 (lv_at hl 5 rfl) ?_
  refine lv_iconst (v := 1) hx hb d_lw_230 (by decide) ?_
  refine lv_iadd hx hb d_lw_231 ?_
  refine va_sld hx hb hX hbl hbA hS hin.1 d_lw_232 ?_
  refine lc_R F (As := [.int (xs (i + 1).toNatClampNeg)]) (rest := []) (k_Mo_level l D r hAR (ra u t g w) (xs (i + 1).toNatClampNeg)) (cwV 1 hts (gg_V hB t_676 t_677 t_678 t_66 t_679) rfl rfl rfl (by decide +kernel) ⟨Nat.le_of_ble_eq_true rfl, Nat.le_of_ble_eq_true rfl⟩) hP hQ hS rfl hl.1 rfl (Nat.le_of_ble_eq_true rfl) d_lw_233 ⟨hf.1, hf.2⟩ (fun H locs hP hQ hS => ?_)
  rw [f_level] at hQ
  refine lv_aload_n hx hb d_lw_236 rfl (lv_at hl 3 rfl) ?_
  refine lc_R F (As := []) (rest := []) (k_Mo_thrown l D r hAR (ra (C_M_level u (xs (i + 1).toNatClampNeg)) (if ¬ (¬ (xs (i + 1).toNatClampNeg) < 0 ∧ (xs (i + 1).toNatClampNeg) ≤ 16) then (1 : Int32) else 0) g w) ) (cwV 0 hts (gg_V hB t_521 t_522 t_523 t_66 t_524) rfl rfl rfl (by decide +kernel) ⟨Nat.le_of_ble_eq_true rfl, Nat.le_of_ble_eq_true rfl⟩) hP hQ hS rfl hl.1 rfl (Nat.le_of_ble_eq_true rfl) d_lw_237 ⟨hf.1, hf.2⟩ (fun H locs hP hQ hS => ?_)
  refine lv_iload hx hb d_lw_240 (lv_at hl 0 rfl) ?_
  refine lv_icmp_eq (tgt := 247) hx hb d_lw_242 (by decide) (fun h => ?_) (fun h => ?_)
  · refine lv_goto (tgt := 433) hx hb d_lw_247 (by decide) ?_
    exact kk _ _ _ (C_M_level u (xs (i + 1).toNatClampNeg)) f (if ¬ (¬ (xs (i + 1).toNatClampNeg) < 0 ∧ (xs (i + 1).toNatClampNeg) ≤ 16) then (1 : Int32) else 0) g w hP hQ hS (i_level hI _) (lv_sub hl [1, 2, 3, 4, 5] rfl)
  · exact absurd rfl h
set_option maxHeartbeats 4000000 in
theorem lw_c5 {p : Program} {l : Launch} {e : Env} {s : State} {m : MethodId} {below : List Frame} {meth : Method} {c : Code} {b L : Nat} {xs : Nat → Int32} {D : va_G} {a : CAd} {o : OAd} {r : RAd} (F : LF p l s m meth c b L xs D a o r) {H : Heap} {locs : List Loc} {ls : Array Slot} {i : Int32} {u : CSt} {f : Nat → Int64} {t g w : Int32} {cells slots : Nat} {Q : State → Prop}
    (hP : va_P D kl (cwo a o (u, f)) H) (hQ : va_P D kl (mw r (ra u t g w)) H) (hS : va_S (An0 s) s.heap H locs) (hI : Iv u) (hl : lv_has ls 7 [(0, .ref b), (1, .ref a.1), (2, .ref r.1), (3, .ref o.1), (4, .int i)]) (hin : vp_in (i + 1) L ∧ vp_in (i + 2) L) (hf : cells + 1 ≤ room_1.cells ∧ slots + 6 ≤ room_1.slots)
    (kk : ∀ (H1 : Heap) (locs1 : List Loc) (ls1 : Array Slot) (u' : CSt) (f' : Nat → Int64) (t' g' w' : Int32), va_P D kl (cwo a o (u', f')) H1 → va_P D kl (mw r (ra u' t' g' w')) H1 → va_S (An0 s) s.heap H1 locs1 → Iv u' → lv_has ls1 7 [(0, .ref b), (1, .ref a.1), (2, .ref r.1), (3, .ref o.1), (4, .int i)] → W p l e room_1 s m #[Value.ref b] below meth c H1 locs1 (cells + 1) (slots + 6) Q (F0 m 433 ls1 [])) :
    W p l e room_1 s m #[Value.ref b] below meth c H locs cells slots Q (F0 m 250 ls []) := by
  have F0 := F
  obtain ⟨⟨hx, hb, hr, hml, hown, hts, hX, hbl, hlk⟩, hfl, ⟨hK, hKR⟩, ⟨hA, hAR⟩, ⟨hn1, hn2, hn3⟩, -, ⟨hs51, hs93, hs98, hs113⟩⟩ := F0
  have hbA : ¬ An0 s b := fun z => absurd hbl (Nat.not_lt.mpr z)
  have hf2 : cells + 1 ≤ room_1.cells ∧ slots + 6 ≤ room_1.slots := hf
  refine lv_aload_n hx hb d_lw_250 rfl (lv_at hl 1 rfl) ?_
  refine lv_aload_n hx hb d_lw_251 rfl (lv_at hl 0 rfl) ?_
  refine lv_iload hx hb d_lw_252 (lv_at hl 4 rfl) ?_
  refine lv_iconst (v := 1) hx hb d_lw_254 (by decide) ?_
  refine lv_iadd hx hb d_lw_255 ?_
  refine va_sld hx hb hX hbl hbA hS hin.1 d_lw_256 ?_
  refine lv_aload_n hx hb d_lw_257 rfl (lv_at hl 0 rfl) ?_
  refine lv_iload hx hb d_lw_258 (lv_at hl 4 rfl) ?_
  refine lv_iconst (v := 2) hx hb d_lw_260 (by decide) ?_
  refine lv_iadd hx hb d_lw_261 ?_
  refine va_sld hx hb hX hbl hbA hS hin.2 d_lw_262 ?_
  by_cases hz : (xs (i + 2).toNatClampNeg) = 0
  · refine lv_if_eq (tgt := 270) hx hb d_lw_263 (by decide) (fun h1 => ?_) (fun h1 => ?_)
    rotate_left
    · exact absurd hz h1
    refine lv_iconst (v := 0) hx hb d_lw_270 (by decide) ?_
    refine lc_W F (As := [.ref a.1, .int (xs (i + 1).toNatClampNeg), .int 0]) (rest := []) (k := 3) (kw_wire l hfl D a o hA (u, f) (xs (i + 1).toNatClampNeg) 0) t_458 t_456 t_457 t_61 (by decide +kernel) ⟨Nat.le_of_ble_eq_true rfl, Nat.le_of_ble_eq_true rfl⟩ hs98 hP hQ hS rfl hl.1 rfl (Nat.le_of_ble_eq_true rfl) d_lw_271 hf (fun H locs hP hQ hS => ?_)
    refine lv_istore hx hb d_lw_274 hl (by decide) rfl (fun ls hl => ?_)
    have hl : lv_has ls 7 [(5, .int (if C_M_isLine (xs (i + 1).toNatClampNeg) = 0 then (1 : Int32) else 0)), (0, .ref b), (1, .ref a.1), (2, .ref r.1), (3, .ref o.1), (4, .int i)] := hl
    refine lv_aload_n hx hb d_lw_276 rfl (lv_at hl 3 rfl) ?_
    refine lv_aload_n hx hb d_lw_277 rfl (lv_at hl 1 rfl) ?_
    refine lv_iload hx hb d_lw_278 (lv_at hl 5 rfl) ?_
    refine lv_iconst (v := 1) hx hb d_lw_280 (by decide) ?_
    refine lv_iadd hx hb d_lw_281 ?_
    refine va_sld hx hb hX hbl hbA hS hin.1 d_lw_282 ?_
    refine lv_aload_n hx hb d_lw_283 rfl (lv_at hl 1 rfl) ?_
    refine lv_iload hx hb d_lw_284 (lv_at hl 5 rfl) ?_
    refine lv_iconst (v := 2) hx hb d_lw_286 (by decide) ?_
    refine lv_iadd hx hb d_lw_287 ?_
    refine va_sld hx hb hX hbl hbA hS hin.2 d_lw_288 ?_
    refine lv_if_eq (tgt := 296) hx hb d_lw_289 (by decide) (fun h2 => ?_) (fun h2 => ?_)
    rotate_left
    · exact absurd hz h2
    refine lv_iconst (v := 0) hx hb d_lw_296 (by decide) ?_
    refine lc_R F (As := [.int (xs (i + 1).toNatClampNeg), .int 0]) (rest := []) (k_Mo_wire l D r hAR (ra u t g w) (xs (i + 1).toNatClampNeg) 0) (cwV 2 hts (gg_V hB t_680 t_681 t_682 t_66 t_683) rfl rfl rfl (by decide +kernel) ⟨Nat.le_of_ble_eq_true rfl, Nat.le_of_ble_eq_true rfl⟩) hP hQ hS rfl hl.1 rfl (Nat.le_of_ble_eq_true rfl) d_lw_297 ⟨hf.1, hf.2⟩ (fun H locs hP hQ hS => ?_)
    rw [f_wire u t g w _ (by decide)] at hQ
    refine lv_aload_n hx hb d_lw_300 rfl (lv_at hl 3 rfl) ?_
    refine lc_R F (As := []) (rest := []) (k_Mo_thrown l D r hAR (ra (C_M_wire u (xs (i + 1).toNatClampNeg) 0) (if C_M_isLine (xs (i + 1).toNatClampNeg) = 0 then (1 : Int32) else 0) g w) ) (cwV 0 hts (gg_V hB t_521 t_522 t_523 t_66 t_524) rfl rfl rfl (by decide +kernel) ⟨Nat.le_of_ble_eq_true rfl, Nat.le_of_ble_eq_true rfl⟩) hP hQ hS rfl hl.1 rfl (Nat.le_of_ble_eq_true rfl) d_lw_301 ⟨hf.1, hf.2⟩ (fun H locs hP hQ hS => ?_)
    refine lv_iload hx hb d_lw_304 (lv_at hl 0 rfl) ?_
    refine lv_icmp_eq (tgt := 311) hx hb d_lw_306 (by decide) (fun h => ?_) (fun h => ?_)
    · refine lv_goto (tgt := 433) hx hb d_lw_311 (by decide) ?_
      exact kk _ _ _ (C_M_wire u (xs (i + 1).toNatClampNeg) 0) f (if C_M_isLine (xs (i + 1).toNatClampNeg) = 0 then (1 : Int32) else 0) g w hP hQ hS (i_wire hI _ _) (lv_sub hl [1, 2, 3, 4, 5] rfl)
    · exact absurd rfl h
  · refine lv_if_eq (tgt := 270) hx hb d_lw_263 (by decide) (fun h1 => ?_) (fun h1 => ?_)
    · exact absurd h1 hz
    refine lv_iconst (v := 1) hx hb d_lw_266 (by decide) ?_
    refine lv_goto (tgt := 271) hx hb d_lw_267 (by decide) ?_
    refine lc_W F (As := [.ref a.1, .int (xs (i + 1).toNatClampNeg), .int 1]) (rest := []) (k := 3) (kw_wire l hfl D a o hA (u, f) (xs (i + 1).toNatClampNeg) 1) t_458 t_456 t_457 t_61 (by decide +kernel) ⟨Nat.le_of_ble_eq_true rfl, Nat.le_of_ble_eq_true rfl⟩ hs98 hP hQ hS rfl hl.1 rfl (Nat.le_of_ble_eq_true rfl) d_lw_271 hf (fun H locs hP hQ hS => ?_)
    refine lv_istore hx hb d_lw_274 hl (by decide) rfl (fun ls hl => ?_)
    have hl : lv_has ls 7 [(5, .int (if C_M_isLine (xs (i + 1).toNatClampNeg) = 0 then (1 : Int32) else 0)), (0, .ref b), (1, .ref a.1), (2, .ref r.1), (3, .ref o.1), (4, .int i)] := hl
    refine lv_aload_n hx hb d_lw_276 rfl (lv_at hl 3 rfl) ?_
    refine lv_aload_n hx hb d_lw_277 rfl (lv_at hl 1 rfl) ?_
    refine lv_iload hx hb d_lw_278 (lv_at hl 5 rfl) ?_
    refine lv_iconst (v := 1) hx hb d_lw_280 (by decide) ?_
    refine lv_iadd hx hb d_lw_281 ?_
    refine va_sld hx hb hX hbl hbA hS hin.1 d_lw_282 ?_
    refine lv_aload_n hx hb d_lw_283 rfl (lv_at hl 1 rfl) ?_
    refine lv_iload hx hb d_lw_284 (lv_at hl 5 rfl) ?_
    refine lv_iconst (v := 2) hx hb d_lw_286 (by decide) ?_
    refine lv_iadd hx hb d_lw_287 ?_
    refine va_sld hx hb hX hbl hbA hS hin.2 d_lw_288 ?_
    refine lv_if_eq (tgt := 296) hx hb d_lw_289 (by decide) (fun h2 => ?_) (fun h2 => ?_)
    · exact absurd h2 hz
    refine lv_iconst (v := 1) hx hb d_lw_292 (by decide) ?_
    refine lv_goto (tgt := 297) hx hb d_lw_293 (by decide) ?_
    refine lc_R F (As := [.int (xs (i + 1).toNatClampNeg), .int 1]) (rest := []) (k_Mo_wire l D r hAR (ra u t g w) (xs (i + 1).toNatClampNeg) 1) (cwV 2 hts (gg_V hB t_680 t_681 t_682 t_66 t_683) rfl rfl rfl (by decide +kernel) ⟨Nat.le_of_ble_eq_true rfl, Nat.le_of_ble_eq_true rfl⟩) hP hQ hS rfl hl.1 rfl (Nat.le_of_ble_eq_true rfl) d_lw_297 ⟨hf.1, hf.2⟩ (fun H locs hP hQ hS => ?_)
    rw [f_wire u t g w _ (by decide)] at hQ
    refine lv_aload_n hx hb d_lw_300 rfl (lv_at hl 3 rfl) ?_
    refine lc_R F (As := []) (rest := []) (k_Mo_thrown l D r hAR (ra (C_M_wire u (xs (i + 1).toNatClampNeg) 1) (if C_M_isLine (xs (i + 1).toNatClampNeg) = 0 then (1 : Int32) else 0) g w) ) (cwV 0 hts (gg_V hB t_521 t_522 t_523 t_66 t_524) rfl rfl rfl (by decide +kernel) ⟨Nat.le_of_ble_eq_true rfl, Nat.le_of_ble_eq_true rfl⟩) hP hQ hS rfl hl.1 rfl (Nat.le_of_ble_eq_true rfl) d_lw_301 ⟨hf.1, hf.2⟩ (fun H locs hP hQ hS => ?_)
    refine lv_iload hx hb d_lw_304 (lv_at hl 0 rfl) ?_
    refine lv_icmp_eq (tgt := 311) hx hb d_lw_306 (by decide) (fun h => ?_) (fun h => ?_)
    · refine lv_goto (tgt := 433) hx hb d_lw_311 (by decide) ?_
      exact kk _ _ _ (C_M_wire u (xs (i + 1).toNatClampNeg) 1) f (if C_M_isLine (xs (i + 1).toNatClampNeg) = 0 then (1 : Int32) else 0) g w hP hQ hS (i_wire hI _ _) (lv_sub hl [1, 2, 3, 4, 5] rfl)
    · exact absurd rfl h
set_option maxHeartbeats 4000000 in
theorem lw_c2 {p : Program} {l : Launch} {e : Env} {s : State} {m : MethodId} {below : List Frame} {meth : Method} {c : Code} {b L : Nat} {xs : Nat → Int32} {D : va_G} {a : CAd} {o : OAd} {r : RAd} (F : LF p l s m meth c b L xs D a o r) {H : Heap} {locs : List Loc} {ls : Array Slot} {i : Int32} {u : CSt} {f : Nat → Int64} {t g w : Int32} {cells slots : Nat} {Q : State → Prop}
    (hP : va_P D kl (cwo a o (u, f)) H) (hQ : va_P D kl (mw r (ra u t g w)) H) (hS : va_S (An0 s) s.heap H locs) (hI : Iv u) (hl : lv_has ls 7 [(0, .ref b), (1, .ref a.1), (2, .ref r.1), (3, .ref o.1), (4, .int i)]) (hin : vp_in (i + 1) L ∧ vp_in (i + 2) L) (hf : cells + 1 ≤ room_1.cells ∧ slots + 6 ≤ room_1.slots)
    (kk : ∀ (H1 : Heap) (locs1 : List Loc) (ls1 : Array Slot) (u' : CSt) (f' : Nat → Int64) (t' g' w' : Int32), va_P D kl (cwo a o (u', f')) H1 → va_P D kl (mw r (ra u' t' g' w')) H1 → va_S (An0 s) s.heap H1 locs1 → Iv u' → lv_has ls1 7 [(0, .ref b), (1, .ref a.1), (2, .ref r.1), (3, .ref o.1), (4, .int i)] → W p l e room_1 s m #[Value.ref b] below meth c H1 locs1 (cells + 1) (slots + 6) Q (F0 m 433 ls1 [])) :
    W p l e room_1 s m #[Value.ref b] below meth c H locs cells slots Q (F0 m 145 ls []) := by
  have F0 := F
  obtain ⟨⟨hx, hb, hr, hml, hown, hts, hX, hbl, hlk⟩, hfl, ⟨hK, hKR⟩, ⟨hA, hAR⟩, ⟨hn1, hn2, hn3⟩, -, ⟨hs51, hs93, hs98, hs113⟩⟩ := F0
  have hbA : ¬ An0 s b := fun z => absurd hbl (Nat.not_lt.mpr z)
  have hf2 : cells + 1 ≤ room_1.cells ∧ slots + 6 ≤ room_1.slots := hf
  refine lv_aload_n hx hb d_lw_145 rfl (lv_at hl 1 rfl) ?_
  refine lv_aload_n hx hb d_lw_146 rfl (lv_at hl 0 rfl) ?_
  refine lv_iload hx hb d_lw_147 (lv_at hl 4 rfl) ?_
  refine lv_iconst (v := 1) hx hb d_lw_149 (by decide) ?_
  refine lv_iadd hx hb d_lw_150 ?_
  refine va_sld hx hb hX hbl hbA hS hin.1 d_lw_151 ?_
  refine lv_aload_n hx hb d_lw_152 rfl (lv_at hl 3 rfl) ?_
  refine lc_W F (As := [.ref a.1, .int (xs (i + 1).toNatClampNeg), .ref o.1]) (rest := []) (k := 3) (kw_peek l hfl D a o hA (u, f) (xs (i + 1).toNatClampNeg)) t_443 t_441 t_442 t_61 (by decide +kernel) ⟨Nat.le_of_ble_eq_true rfl, Nat.le_of_ble_eq_true rfl⟩ hs51 hP hQ hS rfl hl.1 rfl (Nat.le_of_ble_eq_true rfl) d_lw_153 hf (fun H locs hP hQ hS => ?_)
  refine lv_istore hx hb d_lw_156 hl (by decide) rfl (fun ls hl => ?_)
  have hl : lv_has ls 7 [(5, .int (if C_M_isWordAddress (xs (i + 1).toNatClampNeg) = 0 then (1 : Int32) else 0)), (0, .ref b), (1, .ref a.1), (2, .ref r.1), (3, .ref o.1), (4, .int i)] := hl
  refine lv_aload_n hx hb d_lw_158 rfl (lv_at hl 3 rfl) ?_
  refine lv_aload_n hx hb d_lw_159 rfl (lv_at hl 1 rfl) ?_
  refine lv_iload hx hb d_lw_160 (lv_at hl 5 rfl) ?_
  refine lv_iconst (v := 1) hx hb d_lw_162 (by decide) ?_
  refine lv_iadd hx hb d_lw_163 ?_
  refine va_sld hx hb hX hbl hbA hS hin.1 d_lw_164 ?_
  refine lc_R F (As := [.int (xs (i + 1).toNatClampNeg)]) (rest := []) (k_Mo_peek l D r hAR (ra u t g w) (xs (i + 1).toNatClampNeg)) (cwV 1 hts (gg_V hB t_672 t_673 t_674 t_66 t_675) rfl rfl rfl (by decide +kernel) ⟨Nat.le_of_ble_eq_true rfl, Nat.le_of_ble_eq_true rfl⟩) hP hQ hS rfl hl.1 rfl (Nat.le_of_ble_eq_true rfl) d_lw_165 ⟨hf.1, hf.2⟩ (fun H locs hP hQ hS => ?_)
  rw [f_peek] at hQ ⊢
  refine lv_istore hx hb d_lw_168 hl (by decide) rfl (fun ls hl => ?_)
  have hl : lv_has ls 7 [(6, .int (C_M_peek u (xs (i + 1).toNatClampNeg))), (5, .int (if C_M_isWordAddress (xs (i + 1).toNatClampNeg) = 0 then (1 : Int32) else 0)), (0, .ref b), (1, .ref a.1), (2, .ref r.1), (3, .ref o.1), (4, .int i)] := hl
  refine lv_aload_n hx hb d_lw_170 rfl (lv_at hl 4 rfl) ?_
  refine lc_R F (As := []) (rest := []) (k_Mo_thrown l D r hAR (ra u (if C_M_isWordAddress (xs (i + 1).toNatClampNeg) = 0 then (1 : Int32) else 0) g w) ) (cwV 0 hts (gg_V hB t_521 t_522 t_523 t_66 t_524) rfl rfl rfl (by decide +kernel) ⟨Nat.le_of_ble_eq_true rfl, Nat.le_of_ble_eq_true rfl⟩) hP hQ hS rfl hl.1 rfl (Nat.le_of_ble_eq_true rfl) d_lw_171 ⟨hf.1, hf.2⟩ (fun H locs hP hQ hS => ?_)
  refine lv_iload hx hb d_lw_174 (lv_at hl 1 rfl) ?_
  refine lv_icmp_eq (tgt := 181) hx hb d_lw_176 (by decide) (fun h => ?_) (fun h => ?_)
  rotate_left
  · exact absurd rfl h
  refine lv_iload hx hb d_lw_181 (lv_at hl 1 rfl) ?_
  refine lv_if_ne (tgt := 198) hx hb d_lw_183 (by decide) (fun h2 => ?_) (fun h2 => ?_)
  · skip
    refine lv_goto (tgt := 433) hx hb d_lw_198 (by decide) ?_
    exact kk _ _ _ u (if C_M_isWordAddress (xs (i + 1).toNatClampNeg) = 0 then f else vp_updL f 0 (C_M_peek u (xs (i + 1).toNatClampNeg)).toInt64) (if C_M_isWordAddress (xs (i + 1).toNatClampNeg) = 0 then (1 : Int32) else 0) g w hP hQ hS hI (lv_sub hl [2, 3, 4, 5, 6] rfl)
  have hg : ¬ (C_M_isWordAddress (xs (i + 1).toNatClampNeg) = 0) := fun z => by rw [if_pos z] at h2; exact absurd h2 (by decide)
  refine lv_aload_n hx hb d_lw_186 rfl (lv_at hl 5 rfl) ?_
  refine lv_iconst (v := 0) hx hb d_lw_187 (by decide) ?_
  refine va_lald hx hb hK hP 5 1 rfl rfl (pk_in 0 1 (by decide)) d_lw_188 ?_
  have hv : (if C_M_isWordAddress (xs (i + 1).toNatClampNeg) = 0 then f else vp_updL f 0 (C_M_peek u (xs (i + 1).toNatClampNeg)).toInt64) (0 : Int32).toNatClampNeg = (C_M_peek u (xs (i + 1).toNatClampNeg)).toInt64 := by rw [if_neg hg]; rfl
  refine lv_iload hx hb d_lw_189 (lv_at hl 0 rfl) ?_
  refine lv_i2l hx hb d_lw_191 rfl ?_
  refine W.lcmp hx hb d_lw_192 ?_
  refine lv_if_eq (tgt := 198) hx hb d_lw_193 (by decide) (fun h3 => ?_) (fun h3 => ?_)
  · skip
    refine lv_goto (tgt := 433) hx hb d_lw_198 (by decide) ?_
    exact kk _ _ _ u (if C_M_isWordAddress (xs (i + 1).toNatClampNeg) = 0 then f else vp_updL f 0 (C_M_peek u (xs (i + 1).toNatClampNeg)).toInt64) (if C_M_isWordAddress (xs (i + 1).toNatClampNeg) = 0 then (1 : Int32) else 0) g w hP hQ hS hI (lv_sub hl [2, 3, 4, 5, 6] rfl)
  · exact absurd ((lg_cmp_eq _ _).mpr hv) h3
set_option maxHeartbeats 4000000 in
theorem lw_c6 {p : Program} {l : Launch} {e : Env} {s : State} {m : MethodId} {below : List Frame} {meth : Method} {c : Code} {b L : Nat} {xs : Nat → Int32} {D : va_G} {a : CAd} {o : OAd} {r : RAd} (F : LF p l s m meth c b L xs D a o r) {H : Heap} {locs : List Loc} {ls : Array Slot} {i : Int32} {u : CSt} {f : Nat → Int64} {t g w : Int32} {cells slots : Nat} {Q : State → Prop}
    (hP : va_P D kl (cwo a o (u, f)) H) (hQ : va_P D kl (mw r (ra u t g w)) H) (hS : va_S (An0 s) s.heap H locs) (hI : Iv u) (hl : lv_has ls 7 [(0, .ref b), (1, .ref a.1), (2, .ref r.1), (3, .ref o.1), (4, .int i)]) (hin : vp_in (i + 1) L ∧ vp_in (i + 2) L) (hf : cells + 1 ≤ room_1.cells ∧ slots + 6 ≤ room_1.slots)
    (kk : ∀ (H1 : Heap) (locs1 : List Loc) (ls1 : Array Slot) (u' : CSt) (f' : Nat → Int64) (t' g' w' : Int32), va_P D kl (cwo a o (u', f')) H1 → va_P D kl (mw r (ra u' t' g' w')) H1 → va_S (An0 s) s.heap H1 locs1 → Iv u' → lv_has ls1 7 [(0, .ref b), (1, .ref a.1), (2, .ref r.1), (3, .ref o.1), (4, .int i)] → W p l e room_1 s m #[Value.ref b] below meth c H1 locs1 (cells + 1) (slots + 6) Q (F0 m 433 ls1 [])) :
    W p l e room_1 s m #[Value.ref b] below meth c H locs cells slots Q (F0 m 314 ls []) := by
  have F0 := F
  obtain ⟨⟨hx, hb, hr, hml, hown, hts, hX, hbl, hlk⟩, hfl, ⟨hK, hKR⟩, ⟨hA, hAR⟩, ⟨hn1, hn2, hn3⟩, -, ⟨hs51, hs93, hs98, hs113⟩⟩ := F0
  have hbA : ¬ An0 s b := fun z => absurd hbl (Nat.not_lt.mpr z)
  have hf2 : cells + 1 ≤ room_1.cells ∧ slots + 6 ≤ room_1.slots := hf
  refine lv_aload_n hx hb d_lw_314 rfl (lv_at hl 1 rfl) ?_
  refine lv_aload_n hx hb d_lw_315 rfl (lv_at hl 0 rfl) ?_
  refine lv_iload hx hb d_lw_316 (lv_at hl 4 rfl) ?_
  refine lv_iconst (v := 1) hx hb d_lw_318 (by decide) ?_
  refine lv_iadd hx hb d_lw_319 ?_
  refine va_sld hx hb hX hbl hbA hS hin.1 d_lw_320 ?_
  refine lv_aload_n hx hb d_lw_321 rfl (lv_at hl 3 rfl) ?_
  refine lc_W F (As := [.ref a.1, .int (xs (i + 1).toNatClampNeg), .ref o.1]) (rest := []) (k := 3) (kw_line l hfl D a o hA (u, f) (xs (i + 1).toNatClampNeg)) t_469 t_467 t_468 t_61 (by decide +kernel) ⟨Nat.le_of_ble_eq_true rfl, Nat.le_of_ble_eq_true rfl⟩ hs98 hP hQ hS rfl hl.1 rfl (Nat.le_of_ble_eq_true rfl) d_lw_322 hf (fun H locs hP hQ hS => ?_)
  refine lv_istore hx hb d_lw_325 hl (by decide) rfl (fun ls hl => ?_)
  have hl : lv_has ls 7 [(5, .int (if C_M_isLine (xs (i + 1).toNatClampNeg) = 0 then (1 : Int32) else 0)), (0, .ref b), (1, .ref a.1), (2, .ref r.1), (3, .ref o.1), (4, .int i)] := hl
  refine lv_aload_n hx hb d_lw_327 rfl (lv_at hl 3 rfl) ?_
  refine lv_aload_n hx hb d_lw_328 rfl (lv_at hl 1 rfl) ?_
  refine lv_iload hx hb d_lw_329 (lv_at hl 5 rfl) ?_
  refine lv_iconst (v := 1) hx hb d_lw_331 (by decide) ?_
  refine lv_iadd hx hb d_lw_332 ?_
  refine va_sld hx hb hX hbl hbA hS hin.1 d_lw_333 ?_
  refine lc_R F (As := [.int (xs (i + 1).toNatClampNeg)]) (rest := []) (k_Mo_line l D r hAR (ra u t g w) (xs (i + 1).toNatClampNeg)) (cwV 1 hts (gg_V hB t_684 t_685 t_686 t_66 t_687) rfl rfl rfl (by decide +kernel) ⟨Nat.le_of_ble_eq_true rfl, Nat.le_of_ble_eq_true rfl⟩) hP hQ hS rfl hl.1 rfl (Nat.le_of_ble_eq_true rfl) d_lw_334 ⟨hf.1, hf.2⟩ (fun H locs hP hQ hS => ?_)
  rw [f_line] at hQ ⊢
  refine lv_istore hx hb d_lw_337 hl (by decide) rfl (fun ls hl => ?_)
  have hl : lv_has ls 7 [(6, .int (C_M_line u (xs (i + 1).toNatClampNeg))), (5, .int (if C_M_isLine (xs (i + 1).toNatClampNeg) = 0 then (1 : Int32) else 0)), (0, .ref b), (1, .ref a.1), (2, .ref r.1), (3, .ref o.1), (4, .int i)] := hl
  refine lv_aload_n hx hb d_lw_339 rfl (lv_at hl 4 rfl) ?_
  refine lc_R F (As := []) (rest := []) (k_Mo_thrown l D r hAR (ra u (if C_M_isLine (xs (i + 1).toNatClampNeg) = 0 then (1 : Int32) else 0) g w) ) (cwV 0 hts (gg_V hB t_521 t_522 t_523 t_66 t_524) rfl rfl rfl (by decide +kernel) ⟨Nat.le_of_ble_eq_true rfl, Nat.le_of_ble_eq_true rfl⟩) hP hQ hS rfl hl.1 rfl (Nat.le_of_ble_eq_true rfl) d_lw_340 ⟨hf.1, hf.2⟩ (fun H locs hP hQ hS => ?_)
  refine lv_iload hx hb d_lw_343 (lv_at hl 1 rfl) ?_
  refine lv_icmp_eq (tgt := 350) hx hb d_lw_345 (by decide) (fun h => ?_) (fun h => ?_)
  rotate_left
  · exact absurd rfl h
  refine lv_iload hx hb d_lw_350 (lv_at hl 1 rfl) ?_
  refine lv_if_ne (tgt := 374) hx hb d_lw_352 (by decide) (fun h2 => ?_) (fun h2 => ?_)
  · skip
    refine lv_goto (tgt := 433) hx hb d_lw_374 (by decide) ?_
    exact kk _ _ _ u (if C_M_isLine (xs (i + 1).toNatClampNeg) = 0 then f else vp_updL f 0 (if C_M_line u (xs (i + 1).toNatClampNeg) = 0 then (0 : Int64) else 1)) (if C_M_isLine (xs (i + 1).toNatClampNeg) = 0 then (1 : Int32) else 0) g w hP hQ hS hI (lv_sub hl [2, 3, 4, 5, 6] rfl)
  have hg : ¬ (C_M_isLine (xs (i + 1).toNatClampNeg) = 0) := fun z => by rw [if_pos z] at h2; exact absurd h2 (by decide)
  refine lv_aload_n hx hb d_lw_355 rfl (lv_at hl 5 rfl) ?_
  refine lv_iconst (v := 0) hx hb d_lw_356 (by decide) ?_
  refine va_lald hx hb hK hP 5 1 rfl rfl (pk_in 0 1 (by decide)) d_lw_357 ?_
  have hv : (if C_M_isLine (xs (i + 1).toNatClampNeg) = 0 then f else vp_updL f 0 (if C_M_line u (xs (i + 1).toNatClampNeg) = 0 then (0 : Int64) else 1)) (0 : Int32).toNatClampNeg = (if C_M_line u (xs (i + 1).toNatClampNeg) = 0 then (0 : Int64) else 1) := by rw [if_neg hg]; rfl
  refine lv_iload hx hb d_lw_358 (lv_at hl 0 rfl) ?_
  refine lv_if_eq (tgt := 367) hx hb d_lw_360 (by decide) (fun h4 => ?_) (fun h4 => ?_)
  · refine lv_lconst (v := 0) hx hb d_lw_367 (by decide) ?_
    refine W.lcmp hx hb d_lw_368 ?_
    refine lv_if_eq (tgt := 374) hx hb d_lw_369 (by decide) (fun h3 => ?_) (fun h3 => ?_)
    · skip
      refine lv_goto (tgt := 433) hx hb d_lw_374 (by decide) ?_
      exact kk _ _ _ u (if C_M_isLine (xs (i + 1).toNatClampNeg) = 0 then f else vp_updL f 0 (if C_M_line u (xs (i + 1).toNatClampNeg) = 0 then (0 : Int64) else 1)) (if C_M_isLine (xs (i + 1).toNatClampNeg) = 0 then (1 : Int32) else 0) g w hP hQ hS hI (lv_sub hl [2, 3, 4, 5, 6] rfl)
    · refine absurd ((lg_cmp_eq _ _).mpr ?_) h3
      exact hv.trans (if_pos h4)
  · refine lv_lconst (v := 1) hx hb d_lw_363 (by decide) ?_
    refine lv_goto (tgt := 368) hx hb d_lw_364 (by decide) ?_
    refine W.lcmp hx hb d_lw_368 ?_
    refine lv_if_eq (tgt := 374) hx hb d_lw_369 (by decide) (fun h3 => ?_) (fun h3 => ?_)
    · skip
      refine lv_goto (tgt := 433) hx hb d_lw_374 (by decide) ?_
      exact kk _ _ _ u (if C_M_isLine (xs (i + 1).toNatClampNeg) = 0 then f else vp_updL f 0 (if C_M_line u (xs (i + 1).toNatClampNeg) = 0 then (0 : Int64) else 1)) (if C_M_isLine (xs (i + 1).toNatClampNeg) = 0 then (1 : Int32) else 0) g w hP hQ hS hI (lv_sub hl [2, 3, 4, 5, 6] rfl)
    · refine absurd ((lg_cmp_eq _ _).mpr ?_) h3
      exact hv.trans (if_neg h4)
set_option maxHeartbeats 4000000 in
theorem lw_c7 {p : Program} {l : Launch} {e : Env} {s : State} {m : MethodId} {below : List Frame} {meth : Method} {c : Code} {b L : Nat} {xs : Nat → Int32} {D : va_G} {a : CAd} {o : OAd} {r : RAd} (F : LF p l s m meth c b L xs D a o r) {H : Heap} {locs : List Loc} {ls : Array Slot} {i : Int32} {u : CSt} {f : Nat → Int64} {t g w : Int32} {cells slots : Nat} {Q : State → Prop}
    (hP : va_P D kl (cwo a o (u, f)) H) (hQ : va_P D kl (mw r (ra u t g w)) H) (hS : va_S (An0 s) s.heap H locs) (hI : Iv u) (hl : lv_has ls 7 [(0, .ref b), (1, .ref a.1), (2, .ref r.1), (3, .ref o.1), (4, .int i)]) (hin : vp_in (i + 1) L ∧ vp_in (i + 2) L) (hf : cells + 1 ≤ room_1.cells ∧ slots + 6 ≤ room_1.slots)
    (kk : ∀ (H1 : Heap) (locs1 : List Loc) (ls1 : Array Slot) (u' : CSt) (f' : Nat → Int64) (t' g' w' : Int32), va_P D kl (cwo a o (u', f')) H1 → va_P D kl (mw r (ra u' t' g' w')) H1 → va_S (An0 s) s.heap H1 locs1 → Iv u' → lv_has ls1 7 [(0, .ref b), (1, .ref a.1), (2, .ref r.1), (3, .ref o.1), (4, .int i)] → W p l e room_1 s m #[Value.ref b] below meth c H1 locs1 (cells + 1) (slots + 6) Q (F0 m 433 ls1 [])) :
    W p l e room_1 s m #[Value.ref b] below meth c H locs cells slots Q (F0 m 377 ls []) := by
  have F0 := F
  obtain ⟨⟨hx, hb, hr, hml, hown, hts, hX, hbl, hlk⟩, hfl, ⟨hK, hKR⟩, ⟨hA, hAR⟩, ⟨hn1, hn2, hn3⟩, -, ⟨hs51, hs93, hs98, hs113⟩⟩ := F0
  have hbA : ¬ An0 s b := fun z => absurd hbl (Nat.not_lt.mpr z)
  have hf2 : cells + 1 ≤ room_1.cells ∧ slots + 6 ≤ room_1.slots := hf
  refine lv_aload_n hx hb d_lw_377 rfl (lv_at hl 1 rfl) ?_
  refine lv_aload_n hx hb d_lw_378 rfl (lv_at hl 0 rfl) ?_
  refine lv_iload hx hb d_lw_379 (lv_at hl 4 rfl) ?_
  refine lv_iconst (v := 1) hx hb d_lw_381 (by decide) ?_
  refine lv_iadd hx hb d_lw_382 ?_
  refine va_sld hx hb hX hbl hbA hS hin.1 d_lw_383 ?_
  refine lv_aload_n hx hb d_lw_384 rfl (lv_at hl 3 rfl) ?_
  refine lc_W F (As := [.ref a.1, .int (xs (i + 1).toNatClampNeg), .ref o.1]) (rest := []) (k := 3) (kw_state l hfl D a o hA (u, f) (xs (i + 1).toNatClampNeg)) t_476 t_474 t_475 t_61 (by decide +kernel) ⟨Nat.le_of_ble_eq_true rfl, Nat.le_of_ble_eq_true rfl⟩ hs113 hP hQ hS rfl hl.1 rfl (Nat.le_of_ble_eq_true rfl) d_lw_385 hf (fun H locs hP hQ hS => ?_)
  refine lv_istore hx hb d_lw_388 hl (by decide) rfl (fun ls hl => ?_)
  have hl : lv_has ls 7 [(5, .int (if ¬ ((xs (i + 1).toNatClampNeg) = 0 ∨ (xs (i + 1).toNatClampNeg) = 1 ∨ (xs (i + 1).toNatClampNeg) = 2 ∨ (xs (i + 1).toNatClampNeg) = 3 ∨ (xs (i + 1).toNatClampNeg) = 4) then (1 : Int32) else 0)), (0, .ref b), (1, .ref a.1), (2, .ref r.1), (3, .ref o.1), (4, .int i)] := hl
  refine lv_aload_n hx hb d_lw_390 rfl (lv_at hl 3 rfl) ?_
  refine lv_aload_n hx hb d_lw_391 rfl (lv_at hl 1 rfl) ?_
  refine lv_iload hx hb d_lw_392 (lv_at hl 5 rfl) ?_
  refine lv_iconst (v := 1) hx hb d_lw_394 (by decide) ?_
  refine lv_iadd hx hb d_lw_395 ?_
  refine va_sld hx hb hX hbl hbA hS hin.1 d_lw_396 ?_
  refine lc_R F (As := [.int (xs (i + 1).toNatClampNeg)]) (rest := []) (k_Mo_state l D r hAR (ra u t g w) (xs (i + 1).toNatClampNeg)) (cwV 1 hts (gg_V hB t_688 t_689 t_690 t_66 t_691) rfl rfl rfl (by decide +kernel) ⟨Nat.le_of_ble_eq_true rfl, Nat.le_of_ble_eq_true rfl⟩) hP hQ hS rfl hl.1 rfl (Nat.le_of_ble_eq_true rfl) d_lw_397 ⟨hf.1, hf.2⟩ (fun H locs hP hQ hS => ?_)
  rw [f_state] at hQ ⊢
  refine lv_istore hx hb d_lw_400 hl (by decide) rfl (fun ls hl => ?_)
  have hl : lv_has ls 7 [(6, .int (C_M_state u (xs (i + 1).toNatClampNeg))), (5, .int (if ¬ ((xs (i + 1).toNatClampNeg) = 0 ∨ (xs (i + 1).toNatClampNeg) = 1 ∨ (xs (i + 1).toNatClampNeg) = 2 ∨ (xs (i + 1).toNatClampNeg) = 3 ∨ (xs (i + 1).toNatClampNeg) = 4) then (1 : Int32) else 0)), (0, .ref b), (1, .ref a.1), (2, .ref r.1), (3, .ref o.1), (4, .int i)] := hl
  refine lv_aload_n hx hb d_lw_402 rfl (lv_at hl 4 rfl) ?_
  refine lc_R F (As := []) (rest := []) (k_Mo_thrown l D r hAR (ra u (if ¬ ((xs (i + 1).toNatClampNeg) = 0 ∨ (xs (i + 1).toNatClampNeg) = 1 ∨ (xs (i + 1).toNatClampNeg) = 2 ∨ (xs (i + 1).toNatClampNeg) = 3 ∨ (xs (i + 1).toNatClampNeg) = 4) then (1 : Int32) else 0) g w) ) (cwV 0 hts (gg_V hB t_521 t_522 t_523 t_66 t_524) rfl rfl rfl (by decide +kernel) ⟨Nat.le_of_ble_eq_true rfl, Nat.le_of_ble_eq_true rfl⟩) hP hQ hS rfl hl.1 rfl (Nat.le_of_ble_eq_true rfl) d_lw_403 ⟨hf.1, hf.2⟩ (fun H locs hP hQ hS => ?_)
  refine lv_iload hx hb d_lw_406 (lv_at hl 1 rfl) ?_
  refine lv_icmp_eq (tgt := 413) hx hb d_lw_408 (by decide) (fun h => ?_) (fun h => ?_)
  rotate_left
  · exact absurd rfl h
  refine lv_iload hx hb d_lw_413 (lv_at hl 1 rfl) ?_
  refine lv_if_ne (tgt := 430) hx hb d_lw_415 (by decide) (fun h2 => ?_) (fun h2 => ?_)
  · skip
    refine lv_goto (tgt := 433) hx hb d_lw_430 (by decide) ?_
    exact kk _ _ _ u (if ¬ ((xs (i + 1).toNatClampNeg) = 0 ∨ (xs (i + 1).toNatClampNeg) = 1 ∨ (xs (i + 1).toNatClampNeg) = 2 ∨ (xs (i + 1).toNatClampNeg) = 3 ∨ (xs (i + 1).toNatClampNeg) = 4) then f else vp_updL f 0 (C_M_state u (xs (i + 1).toNatClampNeg)).toInt64) (if ¬ ((xs (i + 1).toNatClampNeg) = 0 ∨ (xs (i + 1).toNatClampNeg) = 1 ∨ (xs (i + 1).toNatClampNeg) = 2 ∨ (xs (i + 1).toNatClampNeg) = 3 ∨ (xs (i + 1).toNatClampNeg) = 4) then (1 : Int32) else 0) g w hP hQ hS hI (lv_sub hl [2, 3, 4, 5, 6] rfl)
  have hg : ¬ (¬ ((xs (i + 1).toNatClampNeg) = 0 ∨ (xs (i + 1).toNatClampNeg) = 1 ∨ (xs (i + 1).toNatClampNeg) = 2 ∨ (xs (i + 1).toNatClampNeg) = 3 ∨ (xs (i + 1).toNatClampNeg) = 4)) := fun z => by rw [if_pos z] at h2; exact absurd h2 (by decide)
  refine lv_aload_n hx hb d_lw_418 rfl (lv_at hl 5 rfl) ?_
  refine lv_iconst (v := 0) hx hb d_lw_419 (by decide) ?_
  refine va_lald hx hb hK hP 5 1 rfl rfl (pk_in 0 1 (by decide)) d_lw_420 ?_
  have hv : (if ¬ ((xs (i + 1).toNatClampNeg) = 0 ∨ (xs (i + 1).toNatClampNeg) = 1 ∨ (xs (i + 1).toNatClampNeg) = 2 ∨ (xs (i + 1).toNatClampNeg) = 3 ∨ (xs (i + 1).toNatClampNeg) = 4) then f else vp_updL f 0 (C_M_state u (xs (i + 1).toNatClampNeg)).toInt64) (0 : Int32).toNatClampNeg = (C_M_state u (xs (i + 1).toNatClampNeg)).toInt64 := by rw [if_neg hg]; rfl
  refine lv_iload hx hb d_lw_421 (lv_at hl 0 rfl) ?_
  refine lv_i2l hx hb d_lw_423 rfl ?_
  refine W.lcmp hx hb d_lw_424 ?_
  refine lv_if_eq (tgt := 430) hx hb d_lw_425 (by decide) (fun h3 => ?_) (fun h3 => ?_)
  · skip
    refine lv_goto (tgt := 433) hx hb d_lw_430 (by decide) ?_
    exact kk _ _ _ u (if ¬ ((xs (i + 1).toNatClampNeg) = 0 ∨ (xs (i + 1).toNatClampNeg) = 1 ∨ (xs (i + 1).toNatClampNeg) = 2 ∨ (xs (i + 1).toNatClampNeg) = 3 ∨ (xs (i + 1).toNatClampNeg) = 4) then f else vp_updL f 0 (C_M_state u (xs (i + 1).toNatClampNeg)).toInt64) (if ¬ ((xs (i + 1).toNatClampNeg) = 0 ∨ (xs (i + 1).toNatClampNeg) = 1 ∨ (xs (i + 1).toNatClampNeg) = 2 ∨ (xs (i + 1).toNatClampNeg) = 3 ∨ (xs (i + 1).toNatClampNeg) = 4) then (1 : Int32) else 0) g w hP hQ hS hI (lv_sub hl [2, 3, 4, 5, 6] rfl)
  · exact absurd ((lg_cmp_eq _ _).mpr hv) h3
