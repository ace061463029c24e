/-! contracts, laid by gen.py -/
set_option maxHeartbeats 4000000 in
set_option maxRecDepth 100000 in
theorem k_M_shiftCount (l : Launch) (D : va_G) (a : CAd) (hA : ApC a) (u0 : CSt) (x1 : Int32) : MC kl (cw a) (FA a) (tyC a) l D y_M_shiftCount b_M_shiftCount 3 (some .int) rm_M_shiftCount [.ref a.1, .int x1] u0 (some (.int (C_M_shiftCount u0 x1))) u0 := by
  refine MC.mk (by decide) (Nat.le_of_ble_eq_true rfl) ?_
  intro p e s m below meth c ls Q args H locs hx hb hr hml hown hts hlk hl hP hK hS hQ
  have hown : s.vm.findClass R_M = some m.cls := hown
  have hl : lv_has ls 3 [(0, .ref a.1), (1, .int x1)] := hl
  refine lv_iload_n hx hb d_M_shiftCount_0 rfl (lv_at hl 1 rfl) ?_
  refine lv_if_eq (tgt := 6) hx hb d_M_shiftCount_1 (by decide) (fun h1 => ?_) (fun h1 => ?_)
  · refine lv_aload_n hx hb d_M_shiftCount_6 rfl (lv_at hl 0 rfl) ?_
    refine lv_iconst (v := 0) hx hb d_M_shiftCount_7 (by decide) ?_
    refine cl_V (C := R_M) (k_M_register l D a hA u0 0) ⟨hx, hb, hml, hown, hts⟩ (cwV 1 hts (gi_V t_189 t_191 t_7 t_62 t_192) rfl rfl rfl (by decide +kernel) ⟨Nat.le_of_ble_eq_true rfl, Nat.le_of_ble_eq_true rfl⟩) (va_recv (q0 := 0) (ci := 3) (q := (R_M, F_M, 7)) hK hP rfl rfl) hP hK hS rfl hl.1 rfl (Nat.le_of_ble_eq_true rfl) d_M_shiftCount_8 (nm_i (fun r8 e8 H locs hP hS => ?_))
    refine lv_bipush (v := 15) hx hb d_M_shiftCount_11 (by decide) ?_
    refine lv_iand hx hb d_M_shiftCount_13 ?_
    refine lv_istore_n hx hb d_M_shiftCount_14 rfl hl (by decide) rfl (fun ls hl => ?_)
    have hl : lv_has ls 3 [(2, .int (r8 &&& 15)), (0, .ref a.1), (1, .int x1)] := hl
    refine lv_iload_n hx hb d_M_shiftCount_15 rfl (lv_at hl 0 rfl) ?_
    refine lv_if_eq (tgt := 23) hx hb d_M_shiftCount_16 (by decide) (fun h16 => ?_) (fun h16 => ?_)
    · refine lv_bipush (v := 16) hx hb d_M_shiftCount_23 (by decide) ?_
      subst hQ
      exact rt_i hx hb hr hlk (by simp only [C_M_shiftCount, if_pos h1, ← e8, if_pos h16]) rfl hP hS d_M_shiftCount_25
    refine lv_iload_n hx hb d_M_shiftCount_19 rfl (lv_at hl 0 rfl) ?_
    refine lv_goto (tgt := 25) hx hb d_M_shiftCount_20 (by decide) ?_
    subst hQ
    exact rt_i hx hb hr hlk (by simp only [C_M_shiftCount, if_pos h1, ← e8, if_neg h16]) rfl hP hS d_M_shiftCount_25
  refine lv_iload_n hx hb d_M_shiftCount_4 rfl (lv_at hl 1 rfl) ?_
  subst hQ
  exact rt_i hx hb hr hlk (by simp only [C_M_shiftCount, if_neg h1]) rfl hP hS d_M_shiftCount_5
set_option maxHeartbeats 4000000 in
set_option maxRecDepth 100000 in
theorem k_M_shiftedOnce (l : Launch) (D : va_G) (a : CAd) (hA : ApC a) (u0 : CSt) (x0 : Int32) (x1 : Int32) : MC kl (cw a) (FA a) (tyC a) l D y_M_shiftedOnce b_M_shiftedOnce 2 (some .int) rm_M_shiftedOnce [.int x0, .int x1] u0 (some (.int (C_M_shiftedOnce x0 x1))) u0 := by
  refine MC.mk (by decide) (Nat.le_of_ble_eq_true rfl) ?_
  intro p e s m below meth c ls Q args H locs hx hb hr hml hown hts hlk hl hP hK hS hQ
  have hown : s.vm.findClass R_M = some m.cls := hown
  have hl : lv_has ls 2 [(0, .int x0), (1, .int x1)] := hl
  refine lv_iload_n hx hb d_M_shiftedOnce_0 rfl (lv_at hl 0 rfl) ?_
  by_cases h1_0 : x0 = 8
  · refine lv_tableIn (off := 27) (tgt := 28) hx hb d_M_shiftedOnce_1 (by rw [h1_0]; decide) (by rw [h1_0]; decide) (by rw [h1_0]; decide +kernel) (by decide) ?_
    refine lv_iload_n hx hb d_M_shiftedOnce_28 rfl (lv_at hl 1 rfl) ?_
    refine lv_ldc (v := 32768) hx hb hown (hts _ (wm t_311)) d_M_shiftedOnce_29 ?_
    refine lv_iand hx hb d_M_shiftedOnce_31 ?_
    refine lv_iload_n hx hb d_M_shiftedOnce_32 rfl (lv_at hl 1 rfl) ?_
    refine lv_iconst (v := 1) hx hb d_M_shiftedOnce_33 (by decide) ?_
    refine lv_ishr hx hb d_M_shiftedOnce_34 ?_
    refine lv_ior hx hb d_M_shiftedOnce_35 ?_
    subst hQ
    exact rt_i hx hb hr hlk (by simp only [C_M_shiftedOnce, if_pos h1_0]) rfl hP hS d_M_shiftedOnce_36
  by_cases h1_1 : x0 = 9
  · refine lv_tableIn (off := 36) (tgt := 37) hx hb d_M_shiftedOnce_1 (by rw [h1_1]; decide) (by rw [h1_1]; decide) (by rw [h1_1]; decide +kernel) (by decide) ?_
    refine lv_iload_n hx hb d_M_shiftedOnce_37 rfl (lv_at hl 1 rfl) ?_
    refine lv_iconst (v := 1) hx hb d_M_shiftedOnce_38 (by decide) ?_
    refine lv_ishr hx hb d_M_shiftedOnce_39 ?_
    subst hQ
    exact rt_i hx hb hr hlk (by simp only [C_M_shiftedOnce, if_neg h1_0, if_pos h1_1]) rfl hP hS d_M_shiftedOnce_40
  by_cases h1_2 : x0 = 10
  · refine lv_tableIn (off := 40) (tgt := 41) hx hb d_M_shiftedOnce_1 (by rw [h1_2]; decide) (by rw [h1_2]; decide) (by rw [h1_2]; decide +kernel) (by decide) ?_
    refine lv_iload_n hx hb d_M_shiftedOnce_41 rfl (lv_at hl 1 rfl) ?_
    refine lv_iconst (v := 1) hx hb d_M_shiftedOnce_42 (by decide) ?_
    refine lv_ishl hx hb d_M_shiftedOnce_43 ?_
    refine lv_ldc (v := 65535) hx hb hown (hts _ (wm t_247)) d_M_shiftedOnce_44 ?_
    refine lv_iand hx hb d_M_shiftedOnce_46 ?_
    subst hQ
    exact rt_i hx hb hr hlk (by simp only [C_M_shiftedOnce, if_neg h1_0, if_neg h1_1, if_pos h1_2]) rfl hP hS d_M_shiftedOnce_47
  have n1_0 := lv_neT h1_0 (a := 8) (by decide)
  have n1_1 := lv_neT h1_1 (a := 9) (by decide)
  have n1_2 := lv_neT h1_2 (a := 10) (by decide)
  refine lv_tableOut (tgt := 48) hx hb d_M_shiftedOnce_1 (by omega) (by decide) ?_
  refine lv_iload_n hx hb d_M_shiftedOnce_48 rfl (lv_at hl 1 rfl) ?_
  refine lv_iconst (v := 1) hx hb d_M_shiftedOnce_49 (by decide) ?_
  refine lv_ishr hx hb d_M_shiftedOnce_50 ?_
  refine lv_iload_n hx hb d_M_shiftedOnce_51 rfl (lv_at hl 1 rfl) ?_
  refine lv_iconst (v := 1) hx hb d_M_shiftedOnce_52 (by decide) ?_
  refine lv_iand hx hb d_M_shiftedOnce_53 ?_
  refine lv_bipush (v := 15) hx hb d_M_shiftedOnce_54 (by decide) ?_
  refine lv_ishl hx hb d_M_shiftedOnce_56 ?_
  refine lv_ior hx hb d_M_shiftedOnce_57 ?_
  subst hQ
  exact rt_i hx hb hr hlk (by simp only [C_M_shiftedOnce, if_neg h1_0, if_neg h1_1, if_neg h1_2]) rfl hP hS d_M_shiftedOnce_58
set_option maxHeartbeats 4000000 in
set_option maxRecDepth 100000 in
theorem k_M_runShift (l : Launch) (D : va_G) (a : CAd) (hA : ApC a) (u0 : CSt) (x1 : Int32) : MC kl (cw a) (FA a) (tyC a) l D y_M_runShift b_M_runShift 10 (some .int) rm_M_runShift [.ref a.1, .int x1] u0 (some (.int (C_M_runShift u0 x1).1)) (C_M_runShift u0 x1).2 := by
  refine MC.mk (by decide) (Nat.le_of_ble_eq_true rfl) ?_
  intro p e s m below meth c ls Q args H locs hx hb hr hml hown hts hlk hl hP hK hS hQ
  have hown : s.vm.findClass R_M = some m.cls := hown
  have hl : lv_has ls 10 [(0, .ref a.1), (1, .int x1)] := hl
  refine lv_iload_n hx hb d_M_runShift_0 rfl (lv_at hl 1 rfl) ?_
  refine lv_bipush (v := 8) hx hb d_M_runShift_1 (by decide) ?_
  refine lv_ishr hx hb d_M_runShift_3 ?_
  refine lv_istore_n hx hb d_M_runShift_4 rfl hl (by decide) rfl (fun ls hl => ?_)
  have hl : lv_has ls 10 [(2, .int (x1 >>> ((8 : Int32) &&& 31))), (0, .ref a.1), (1, .int x1)] := hl
  refine lv_iload_n hx hb d_M_runShift_5 rfl (lv_at hl 2 rfl) ?_
  refine lv_bipush (v := 15) hx hb d_M_runShift_6 (by decide) ?_
  refine lv_iand hx hb d_M_runShift_8 ?_
  refine lv_istore_n hx hb d_M_runShift_9 rfl hl (by decide) rfl (fun ls hl => ?_)
  have hl : lv_has ls 10 [(3, .int (x1 &&& 15)), (2, .int (x1 >>> ((8 : Int32) &&& 31))), (0, .ref a.1), (1, .int x1)] := hl
  refine lv_aload_n hx hb d_M_runShift_10 rfl (lv_at hl 2 rfl) ?_
  refine lv_iload_n hx hb d_M_runShift_11 rfl (lv_at hl 3 rfl) ?_
  refine lv_iconst (v := 4) hx hb d_M_runShift_12 (by decide) ?_
  refine lv_ishr hx hb d_M_runShift_13 ?_
  refine lv_bipush (v := 15) hx hb d_M_runShift_14 (by decide) ?_
  refine lv_iand hx hb d_M_runShift_16 ?_
  refine cl_V (C := R_M) (k_M_shiftCount l D a hA u0 ((x1 >>> ((4 : Int32) &&& 31)) &&& 15)) ⟨hx, hb, hml, hown, hts⟩ (cwV 1 hts (gi_V t_324 t_326 t_23 t_62 t_327) rfl rfl rfl (by decide +kernel) ⟨Nat.le_of_ble_eq_true rfl, Nat.le_of_ble_eq_true rfl⟩) (va_recv (q0 := 0) (ci := 3) (q := (R_M, F_M, 7)) hK hP rfl rfl) hP hK hS rfl hl.1 rfl (Nat.le_of_ble_eq_true rfl) d_M_runShift_17 (nm_i (fun r17 e17 H locs hP hS => ?_))
  refine lv_istore hx hb d_M_runShift_20 hl (by decide) rfl (fun ls hl => ?_)
  have hl : lv_has ls 10 [(4, .int r17), (3, .int (x1 &&& 15)), (2, .int (x1 >>> ((8 : Int32) &&& 31))), (0, .ref a.1), (1, .int x1)] := hl
  refine lv_aload_n hx hb d_M_runShift_22 rfl (lv_at hl 3 rfl) ?_
  refine lv_iload_n hx hb d_M_runShift_23 rfl (lv_at hl 1 rfl) ?_
  refine cl_V (C := R_M) (k_M_register l D a hA u0 (x1 &&& 15)) ⟨hx, hb, hml, hown, hts⟩ (cwV 1 hts (gi_V t_189 t_191 t_7 t_62 t_192) rfl rfl rfl (by decide +kernel) ⟨Nat.le_of_ble_eq_true rfl, Nat.le_of_ble_eq_true rfl⟩) (va_recv (q0 := 0) (ci := 3) (q := (R_M, F_M, 7)) hK hP rfl rfl) hP hK hS rfl hl.1 rfl (Nat.le_of_ble_eq_true rfl) d_M_runShift_24 (nm_i (fun r24 e24 H locs hP hS => ?_))
  refine lv_istore hx hb d_M_runShift_27 hl (by decide) rfl (fun ls hl => ?_)
  have hl : lv_has ls 10 [(5, .int r24), (4, .int r17), (3, .int (x1 &&& 15)), (2, .int (x1 >>> ((8 : Int32) &&& 31))), (0, .ref a.1), (1, .int x1)] := hl
  refine lv_iconst (v := 0) hx hb d_M_runShift_29 (by decide) ?_
  refine lv_istore hx hb d_M_runShift_30 hl (by decide) rfl (fun ls hl => ?_)
  have hl : lv_has ls 10 [(6, .int 0), (5, .int r24), (4, .int r17), (3, .int (x1 &&& 15)), (2, .int (x1 >>> ((8 : Int32) &&& 31))), (0, .ref a.1), (1, .int x1)] := hl
  refine lv_iconst (v := 0) hx hb d_M_runShift_32 (by decide) ?_
  refine lv_istore hx hb d_M_runShift_33 hl (by decide) rfl (fun ls hl => ?_)
  have hl : lv_has ls 10 [(7, .int 0), (6, .int 0), (5, .int r24), (4, .int r17), (3, .int (x1 &&& 15)), (2, .int (x1 >>> ((8 : Int32) &&& 31))), (0, .ref a.1), (1, .int x1)] := hl
  refine lv_iconst (v := 0) hx hb d_M_runShift_35 (by decide) ?_
  refine lv_istore hx hb d_M_runShift_36 hl (by decide) rfl (fun ls hl => ?_)
  have hl : lv_has ls 10 [(8, .int 0), (7, .int 0), (6, .int 0), (5, .int r24), (4, .int r17), (3, .int (x1 &&& 15)), (2, .int (x1 >>> ((8 : Int32) &&& 31))), (0, .ref a.1), (1, .int x1)] := hl
  have hX38 : ∀ (i5_38 : Int32) (i6_38 : Int32) (i7_38 : Int32) (i8_38 : Int32) (H : Heap) (locs : List Loc) (ls : Array Slot), (i5_38, i6_38, i7_38, i8_38) = L_M_runShift_38 x1 r17 (((r17 : Int32).toInt - (0 : Int32).toInt).toNat) (r24, 0, 0, 0) → va_P D kl (cw a u0) H → va_S (FA a) s.heap H locs → lv_has ls 10 [(0, .ref a.1), (2, .int (x1 >>> ((8 : Int32) &&& 31))), (3, .int (x1 &&& 15)), (4, .int r17), (5, .int i5_38), (6, .int i6_38), (7, .int i7_38), (8, .int i8_38)] → W p l e rm_M_runShift s m args below meth c H locs 0 0 Q (F0 m 106 ls []) := by
    intro i5_38 i6_38 i7_38 i8_38 H locs ls hq hP hS hl
    have qi5_38 : i5_38 = (L_M_runShift_38 x1 r17 (((r17 : Int32).toInt - (0 : Int32).toInt).toNat) (r24, 0, 0, 0)).1 := by rw [← hq]
    have qi6_38 : i6_38 = (L_M_runShift_38 x1 r17 (((r17 : Int32).toInt - (0 : Int32).toInt).toNat) (r24, 0, 0, 0)).2.1 := by rw [← hq]
    have qi7_38 : i7_38 = (L_M_runShift_38 x1 r17 (((r17 : Int32).toInt - (0 : Int32).toInt).toNat) (r24, 0, 0, 0)).2.2.1 := by rw [← hq]
    have qi8_38 : i8_38 = (L_M_runShift_38 x1 r17 (((r17 : Int32).toInt - (0 : Int32).toInt).toNat) (r24, 0, 0, 0)).2.2.2 := by rw [← hq]
    refine lv_aload_n hx hb d_M_runShift_106 rfl (lv_at hl 0 rfl) ?_
    refine lv_iload_n hx hb d_M_runShift_107 rfl (lv_at hl 2 rfl) ?_
    refine lv_aload_n hx hb d_M_runShift_108 rfl (lv_at hl 0 rfl) ?_
    refine va_get (D := D) (ci := 3) (v := .ref a.2.2.2.2.1) (C := R_M) (T := F_M) (N := 7) hx hb hts (fun w h => wm (ui_M w h)) hown hK hP 0 rfl rfl 2 (by decide) (hts _ (wm t_113)) (fun _ h9 => h9) rfl d_M_runShift_109 ?_
    refine lv_iload hx hb d_M_runShift_112 (lv_at hl 4 rfl) ?_
    refine cl_V (C := R_St) (k_St_tested l D a hA u0 i5_38) ⟨hx, hb, hml, hown, hts⟩ (cwV 1 hts (gi_V t_242 t_243 t_244 t_65 t_245) rfl rfl rfl (by decide +kernel) ⟨Nat.le_of_ble_eq_true rfl, Nat.le_of_ble_eq_true rfl⟩) (va_recv (q0 := 4) (ci := 2) (q := (R_St, F_St, 1)) hK hP rfl rfl) hP hK hS rfl hl.1 rfl (Nat.le_of_ble_eq_true rfl) d_M_runShift_114 (nm_is (fun r114 u114 e114 f114 H locs hP hS => ?_))
    refine cl_V (C := R_M) (k_M_setRegister l D a hA u114 (x1 &&& 15) r114) ⟨hx, hb, hml, hown, hts⟩ (cwV 2 hts (gi_V t_149 t_151 t_2 t_62 t_152) rfl rfl rfl (by decide +kernel) ⟨Nat.le_of_ble_eq_true rfl, Nat.le_of_ble_eq_true rfl⟩) (va_recv (q0 := 0) (ci := 3) (q := (R_M, F_M, 7)) hK hP rfl rfl) hP hK hS rfl hl.1 rfl (Nat.le_of_ble_eq_true rfl) d_M_runShift_117 (nm_s (fun u117 e117 H locs hP hS => ?_))
    refine lv_aload_n hx hb d_M_runShift_120 rfl (lv_at hl 0 rfl) ?_
    refine va_get (D := D) (ci := 3) (v := .ref a.2.2.2.2.1) (C := R_M) (T := F_M) (N := 7) hx hb hts (fun w h => wm (ui_M w h)) hown hK hP 0 rfl rfl 2 (by decide) (hts _ (wm t_113)) (fun _ h9 => h9) rfl d_M_runShift_121 ?_
    refine lv_sipush (v := 4096) hx hb d_M_runShift_124 (by decide) ?_
    refine lv_iload hx hb d_M_runShift_127 (lv_at hl 5 rfl) ?_
    refine lv_iconst (v := 1) hx hb d_M_runShift_129 (by decide) ?_
    have hJ138 : ∀ (z138 : Int32), z138 = J_M_runShift_138 i6_38 → W p l e rm_M_runShift s m args below meth c H locs 0 0 Q (F0 m 138 ls [.int z138, .int 4096, .ref a.2.2.2.2.1]) := by
      intro z138 jz138
      refine cl_V (C := R_St) (k_St_mark l D a hA u117 4096 z138) ⟨hx, hb, hml, hown, hts⟩ (cwV 2 hts (gi_V t_267 t_235 t_236 t_65 t_237) rfl rfl rfl (by decide +kernel) ⟨Nat.le_of_ble_eq_true rfl, Nat.le_of_ble_eq_true rfl⟩) (va_recv (q0 := 4) (ci := 2) (q := (R_St, F_St, 1)) hK hP rfl rfl) hP hK hS rfl hl.1 rfl (Nat.le_of_ble_eq_true rfl) d_M_runShift_138 (nm_s (fun u138 e138 H locs hP hS => ?_))
      refine lv_iload_n hx hb d_M_runShift_141 rfl (lv_at hl 1 rfl) ?_
      refine lv_bipush (v := 10) hx hb d_M_runShift_142 (by decide) ?_
      refine lv_icmp_ne (tgt := 159) hx hb d_M_runShift_144 (by decide) (fun h144 => ?_) (fun h144 => ?_)
      · refine lv_iconst (v := 0) hx hb d_M_runShift_159 (by decide) ?_
        have hc : (0, u138) = C_M_runShift u0 x1 := by simp only [C_M_runShift, ← e17, ← e24, ← qi5_38, ← qi6_38, ← qi7_38, ← qi8_38, ← e114, ← f114, ← e117, ← jz138, ← e138, if_neg h144]
        subst hQ
        exact rt_i hx hb hr hlk (congrArg Prod.fst hc) (congrArg Prod.snd hc) hP hS d_M_runShift_160
      refine lv_aload_n hx hb d_M_runShift_147 rfl (lv_at hl 0 rfl) ?_
      refine va_get (D := D) (ci := 3) (v := .ref a.2.2.2.2.1) (C := R_M) (T := F_M) (N := 7) hx hb hts (fun w h => wm (ui_M w h)) hown hK hP 0 rfl rfl 2 (by decide) (hts _ (wm t_113)) (fun _ h9 => h9) rfl d_M_runShift_148 ?_
      refine lv_sipush (v := 2048) hx hb d_M_runShift_151 (by decide) ?_
      refine lv_iload hx hb d_M_runShift_154 (lv_at hl 6 rfl) ?_
      refine cl_V (C := R_St) (k_St_mark l D a hA u138 2048 i7_38) ⟨hx, hb, hml, hown, hts⟩ (cwV 2 hts (gi_V t_267 t_235 t_236 t_65 t_237) rfl rfl rfl (by decide +kernel) ⟨Nat.le_of_ble_eq_true rfl, Nat.le_of_ble_eq_true rfl⟩) (va_recv (q0 := 4) (ci := 2) (q := (R_St, F_St, 1)) hK hP rfl rfl) hP hK hS rfl hl.1 rfl (Nat.le_of_ble_eq_true rfl) d_M_runShift_156 (nm_s (fun u156 e156 H locs hP hS => ?_))
      refine lv_iconst (v := 0) hx hb d_M_runShift_159 (by decide) ?_
      have hc : (0, u156) = C_M_runShift u0 x1 := by simp only [C_M_runShift, ← e17, ← e24, ← qi5_38, ← qi6_38, ← qi7_38, ← qi8_38, ← e114, ← f114, ← e117, ← jz138, ← e138, if_pos h144, ← e156]
      subst hQ
      exact rt_i hx hb hr hlk (congrArg Prod.fst hc) (congrArg Prod.snd hc) hP hS d_M_runShift_160
    refine lv_icmp_ne (tgt := 137) hx hb d_M_runShift_130 (by decide) (fun h130 => ?_) (fun h130 => ?_)
    · refine lv_iconst (v := 0) hx hb d_M_runShift_137 (by decide) ?_
      exact hJ138 0 (by simp only [J_M_runShift_138, if_neg h130])
    refine lv_iconst (v := 1) hx hb d_M_runShift_133 (by decide) ?_
    refine lv_goto (tgt := 138) hx hb d_M_runShift_134 (by decide) ?_
    exact hJ138 1 (by simp only [J_M_runShift_138, if_pos h130])
  have hL38 : ∀ (f : Nat) (i5_38 : Int32) (i6_38 : Int32) (i7_38 : Int32) (i8_38 : Int32) (H : Heap) (locs : List Loc) (ls : Array Slot), (r17.toInt - i8_38.toInt).toNat ≤ f → L_M_runShift_38 x1 r17 f (i5_38, i6_38, i7_38, i8_38) = L_M_runShift_38 x1 r17 (((r17 : Int32).toInt - (0 : Int32).toInt).toNat) (r24, 0, 0, 0) → va_P D kl (cw a u0) H → va_S (FA a) s.heap H locs → lv_has ls 10 [(0, .ref a.1), (2, .int (x1 >>> ((8 : Int32) &&& 31))), (3, .int (x1 &&& 15)), (4, .int r17), (5, .int i5_38), (6, .int i6_38), (7, .int i7_38), (8, .int i8_38)] → W p l e rm_M_runShift s m args below meth c H locs 0 0 Q (F0 m 38 ls []) := by
    intro f
    induction f with
    | zero =>
      intro i5_38 i6_38 i7_38 i8_38 H locs ls hf hE hP hS hl
      refine lv_iload hx hb d_M_runShift_38 (lv_at hl 7 rfl) ?_
      refine lv_iload hx hb d_M_runShift_40 (lv_at hl 3 rfl) ?_
      refine lv_icmp_ge (tgt := 106) hx hb d_M_runShift_42 (by decide) (fun h42 => ?_) (fun h42 => ?_)
      · exact hX38 _ _ _ _ _ _ _ hE hP hS hl
      · exact (ms_zero hf h42).elim
    | succ f ih =>
      intro i5_38 i6_38 i7_38 i8_38 H locs ls hf hE hP hS hl
      refine lv_iload hx hb d_M_runShift_38 (lv_at hl 7 rfl) ?_
      refine lv_iload hx hb d_M_runShift_40 (lv_at hl 3 rfl) ?_
      refine lv_icmp_ge (tgt := 106) hx hb d_M_runShift_42 (by decide) (fun h42 => ?_) (fun h42 => ?_)
      · exact hX38 _ _ _ _ _ _ _ (by rw [← hE, L_M_runShift_38_s, if_pos h42]) hP hS hl
      · refine lv_iload_n hx hb d_M_runShift_45 rfl (lv_at hl 1 rfl) ?_
        refine lv_bipush (v := 10) hx hb d_M_runShift_46 (by decide) ?_
        have hJ63 : ∀ (z63 : Int32), z63 = J_M_runShift_63 x1 i5_38 → W p l e rm_M_runShift s m args below meth c H locs 0 0 Q (F0 m 63 ls [.int z63]) := by
          intro z63 jz63
          refine lv_istore hx hb d_M_runShift_63 hl (by decide) rfl (fun ls hl => ?_)
          have hl : lv_has ls 10 [(6, .int z63), (0, .ref a.1), (2, .int (x1 >>> ((8 : Int32) &&& 31))), (3, .int (x1 &&& 15)), (4, .int r17), (5, .int i5_38), (7, .int i7_38), (8, .int i8_38)] := hl
          refine lv_iload_n hx hb d_M_runShift_65 rfl (lv_at hl 2 rfl) ?_
          refine lv_iload hx hb d_M_runShift_66 (lv_at hl 5 rfl) ?_
          refine cl_S (k_M_shiftedOnce l D a hA u0 (x1 >>> ((8 : Int32) &&& 31)) i5_38) ⟨hx, hb, hml, hown, hts⟩ (va_cwS 2 hts (gi_S t_328 t_329 t_62 t_330) rfl rfl rfl (by decide +kernel) ⟨Nat.le_of_ble_eq_true rfl, Nat.le_of_ble_eq_true rfl⟩) hP hK hS rfl hl.1 rfl (Nat.le_of_ble_eq_true rfl) d_M_runShift_68 (nm_i (fun r68 e68 H locs hP hS => ?_))
          refine lv_istore hx hb d_M_runShift_71 hl (by decide) rfl (fun ls hl => ?_)
          have hl : lv_has ls 10 [(9, .int r68), (6, .int z63), (0, .ref a.1), (2, .int (x1 >>> ((8 : Int32) &&& 31))), (3, .int (x1 &&& 15)), (4, .int r17), (5, .int i5_38), (7, .int i7_38), (8, .int i8_38)] := hl
          refine lv_iload hx hb d_M_runShift_73 (lv_at hl 7 rfl) ?_
          have hJ94 : ∀ (z94 : Int32), z94 = J_M_runShift_94 i5_38 i7_38 r68 → W p l e rm_M_runShift s m args below meth c H locs 0 0 Q (F0 m 94 ls [.int z94]) := by
            intro z94 jz94
            refine lv_istore hx hb d_M_runShift_94 hl (by decide) rfl (fun ls hl => ?_)
            have hl : lv_has ls 10 [(7, .int z94), (9, .int r68), (6, .int z63), (0, .ref a.1), (2, .int (x1 >>> ((8 : Int32) &&& 31))), (3, .int (x1 &&& 15)), (4, .int r17), (5, .int i5_38), (8, .int i8_38)] := hl
            refine lv_iload hx hb d_M_runShift_96 (lv_at hl 1 rfl) ?_
            refine lv_istore hx hb d_M_runShift_98 hl (by decide) rfl (fun ls hl => ?_)
            have hl : lv_has ls 10 [(5, .int r68), (7, .int z94), (9, .int r68), (6, .int z63), (0, .ref a.1), (2, .int (x1 >>> ((8 : Int32) &&& 31))), (3, .int (x1 &&& 15)), (4, .int r17), (8, .int i8_38)] := hl
            refine lv_iinc (k := 8) (v := (i8_38 + 1)) hx hb d_M_runShift_100 hl rfl rfl (by decide) rfl (fun ls hl => ?_)
            have hl : lv_has ls 10 [(8, .int (i8_38 + 1)), (5, .int r68), (7, .int z94), (9, .int r68), (6, .int z63), (0, .ref a.1), (2, .int (x1 >>> ((8 : Int32) &&& 31))), (3, .int (x1 &&& 15)), (4, .int r17)] := hl
            refine lv_goto (tgt := 38) hx hb d_M_runShift_103 (by decide) ?_
            exact ih r68 z63 z94 (i8_38 + 1) _ _ _ (ms_step h42 hf) ((congrArg (L_M_runShift_38 x1 r17 f) (by simp only [B_M_runShift_38, ← jz63, ← e68, ← jz94])).trans (show L_M_runShift_38 x1 r17 f (B_M_runShift_38 x1 r17 (i5_38, i6_38, i7_38, i8_38)) = _ by rw [← hE, L_M_runShift_38_s, if_neg h42])) hP hS (lv_sub hl [5, 6, 7, 8, 1, 4, 2, 0] rfl)
          refine lv_if_ne (tgt := 89) hx hb d_M_runShift_75 (by decide) (fun h75 => ?_) (fun h75 => ?_)
          · refine lv_iconst (v := 1) hx hb d_M_runShift_89 (by decide) ?_
            refine lv_goto (tgt := 94) hx hb d_M_runShift_90 (by decide) ?_
            exact hJ94 1 (by simp only [J_M_runShift_94, if_neg h75])
          refine lv_iload hx hb d_M_runShift_78 (lv_at hl 6 rfl) ?_
          refine lv_iload hx hb d_M_runShift_80 (lv_at hl 0 rfl) ?_
          refine lv_ixor hx hb d_M_runShift_82 ?_
          refine lv_ldc (v := 32768) hx hb hown (hts _ (wm t_311)) d_M_runShift_83 ?_
          refine lv_iand hx hb d_M_runShift_85 ?_
          refine lv_if_eq (tgt := 93) hx hb d_M_runShift_86 (by decide) (fun h86 => ?_) (fun h86 => ?_)
          · refine lv_iconst (v := 0) hx hb d_M_runShift_93 (by decide) ?_
            exact hJ94 0 (by simp only [J_M_runShift_94, if_pos h75, if_pos h86])
          refine lv_iconst (v := 1) hx hb d_M_runShift_89 (by decide) ?_
          refine lv_goto (tgt := 94) hx hb d_M_runShift_90 (by decide) ?_
          exact hJ94 1 (by simp only [J_M_runShift_94, if_pos h75, if_neg h86])
        refine lv_icmp_ne (tgt := 59) hx hb d_M_runShift_48 (by decide) (fun h48 => ?_) (fun h48 => ?_)
        · refine lv_iload hx hb d_M_runShift_59 (lv_at hl 4 rfl) ?_
          refine lv_iconst (v := 1) hx hb d_M_runShift_61 (by decide) ?_
          refine lv_iand hx hb d_M_runShift_62 ?_
          exact hJ63 (i5_38 &&& 1) (by simp only [J_M_runShift_63, if_neg h48])
        refine lv_iload hx hb d_M_runShift_51 (lv_at hl 4 rfl) ?_
        refine lv_bipush (v := 15) hx hb d_M_runShift_53 (by decide) ?_
        refine lv_ishr hx hb d_M_runShift_55 ?_
        refine lv_goto (tgt := 63) hx hb d_M_runShift_56 (by decide) ?_
        exact hJ63 (i5_38 >>> ((15 : Int32) &&& 31)) (by simp only [J_M_runShift_63, if_pos h48])
  exact hL38 _ r24 0 0 0 _ _ _ (Nat.le_refl _) rfl hP hS (lv_sub hl [7, 6, 5, 4, 3, 2, 1, 0] rfl)
set_option maxHeartbeats 4000000 in
set_option maxRecDepth 100000 in
theorem k_M_negated (l : Launch) (D : va_G) (a : CAd) (hA : ApC a) (u0 : CSt) (x1 : Int32) : MC kl (cw a) (FA a) (tyC a) l D y_M_negated b_M_negated 2 (some .int) rm_M_negated [.ref a.1, .int x1] u0 (some (.int (C_M_negated u0 x1).1)) (C_M_negated u0 x1).2 := by
  refine MC.mk (by decide) (Nat.le_of_ble_eq_true rfl) ?_
  intro p e s m below meth c ls Q args H locs hx hb hr hml hown hts hlk hl hP hK hS hQ
  have hown : s.vm.findClass R_M = some m.cls := hown
  have hl : lv_has ls 2 [(0, .ref a.1), (1, .int x1)] := hl
  refine lv_aload_n hx hb d_M_negated_0 rfl (lv_at hl 0 rfl) ?_
  refine va_get (D := D) (ci := 3) (v := .ref a.2.2.2.2.1) (C := R_M) (T := F_M) (N := 7) hx hb hts (fun w h => wm (ui_M w h)) hown hK hP 0 rfl rfl 2 (by decide) (hts _ (wm t_113)) (fun _ h9 => h9) rfl d_M_negated_1 ?_
  refine lv_sipush (v := 4096) hx hb d_M_negated_4 (by decide) ?_
  refine lv_iload_n hx hb d_M_negated_7 rfl (lv_at hl 1 rfl) ?_
  have hJ16 : ∀ (z16 : Int32), z16 = J_M_negated_16 x1 → W p l e rm_M_negated s m args below meth c H locs 0 0 Q (F0 m 16 ls [.int z16, .int 4096, .ref a.2.2.2.2.1]) := by
    intro z16 jz16
    refine cl_V (C := R_St) (k_St_mark l D a hA u0 4096 z16) ⟨hx, hb, hml, hown, hts⟩ (cwV 2 hts (gi_V t_267 t_235 t_236 t_65 t_237) rfl rfl rfl (by decide +kernel) ⟨Nat.le_of_ble_eq_true rfl, Nat.le_of_ble_eq_true rfl⟩) (va_recv (q0 := 4) (ci := 2) (q := (R_St, F_St, 1)) hK hP rfl rfl) hP hK hS rfl hl.1 rfl (Nat.le_of_ble_eq_true rfl) d_M_negated_16 (nm_s (fun u16 e16 H locs hP hS => ?_))
    refine lv_aload_n hx hb d_M_negated_19 rfl (lv_at hl 0 rfl) ?_
    refine va_get (D := D) (ci := 3) (v := .ref a.2.2.2.2.1) (C := R_M) (T := F_M) (N := 7) hx hb hts (fun w h => wm (ui_M w h)) hown hK hP 0 rfl rfl 2 (by decide) (hts _ (wm t_113)) (fun _ h9 => h9) rfl d_M_negated_20 ?_
    refine lv_sipush (v := 2048) hx hb d_M_negated_23 (by decide) ?_
    refine lv_iload_n hx hb d_M_negated_26 rfl (lv_at hl 1 rfl) ?_
    refine lv_ldc (v := 32768) hx hb hown (hts _ (wm t_311)) d_M_negated_27 ?_
    have hJ37 : ∀ (z37 : Int32), z37 = J_M_negated_37 x1 → W p l e rm_M_negated s m args below meth c H locs 0 0 Q (F0 m 37 ls [.int z37, .int 2048, .ref a.2.2.2.2.1]) := by
      intro z37 jz37
      refine cl_V (C := R_St) (k_St_mark l D a hA u16 2048 z37) ⟨hx, hb, hml, hown, hts⟩ (cwV 2 hts (gi_V t_267 t_235 t_236 t_65 t_237) rfl rfl rfl (by decide +kernel) ⟨Nat.le_of_ble_eq_true rfl, Nat.le_of_ble_eq_true rfl⟩) (va_recv (q0 := 4) (ci := 2) (q := (R_St, F_St, 1)) hK hP rfl rfl) hP hK hS rfl hl.1 rfl (Nat.le_of_ble_eq_true rfl) d_M_negated_37 (nm_s (fun u37 e37 H locs hP hS => ?_))
      refine lv_aload_n hx hb d_M_negated_40 rfl (lv_at hl 0 rfl) ?_
      refine va_get (D := D) (ci := 3) (v := .ref a.2.2.2.2.1) (C := R_M) (T := F_M) (N := 7) hx hb hts (fun w h => wm (ui_M w h)) hown hK hP 0 rfl rfl 2 (by decide) (hts _ (wm t_113)) (fun _ h9 => h9) rfl d_M_negated_41 ?_
      refine lv_iload_n hx hb d_M_negated_44 rfl (lv_at hl 1 rfl) ?_
      refine lv_ineg hx hb d_M_negated_45 ?_
      refine lv_ldc (v := 65535) hx hb hown (hts _ (wm t_247)) d_M_negated_46 ?_
      refine lv_iand hx hb d_M_negated_48 ?_
      refine cl_V (C := R_St) (k_St_tested l D a hA u37 ((-x1) &&& 65535)) ⟨hx, hb, hml, hown, hts⟩ (cwV 1 hts (gi_V t_242 t_243 t_244 t_65 t_245) rfl rfl rfl (by decide +kernel) ⟨Nat.le_of_ble_eq_true rfl, Nat.le_of_ble_eq_true rfl⟩) (va_recv (q0 := 4) (ci := 2) (q := (R_St, F_St, 1)) hK hP rfl rfl) hP hK hS rfl hl.1 rfl (Nat.le_of_ble_eq_true rfl) d_M_negated_49 (nm_is (fun r49 u49 e49 f49 H locs hP hS => ?_))
      have hc : (r49, u49) = C_M_negated u0 x1 := by simp only [C_M_negated, ← jz16, ← e16, ← jz37, ← e37, ← e49, ← f49]
      subst hQ
      exact rt_i hx hb hr hlk (congrArg Prod.fst hc) (congrArg Prod.snd hc) hP hS d_M_negated_52
    refine lv_icmp_ne (tgt := 36) hx hb d_M_negated_29 (by decide) (fun h29 => ?_) (fun h29 => ?_)
    · refine lv_iconst (v := 0) hx hb d_M_negated_36 (by decide) ?_
      exact hJ37 0 (by simp only [J_M_negated_37, if_neg h29])
    refine lv_iconst (v := 1) hx hb d_M_negated_32 (by decide) ?_
    refine lv_goto (tgt := 37) hx hb d_M_negated_33 (by decide) ?_
    exact hJ37 1 (by simp only [J_M_negated_37, if_pos h29])
  refine lv_if_ne (tgt := 15) hx hb d_M_negated_8 (by decide) (fun h8 => ?_) (fun h8 => ?_)
  · refine lv_iconst (v := 0) hx hb d_M_negated_15 (by decide) ?_
    exact hJ16 0 (by simp only [J_M_negated_16, if_neg h8])
  refine lv_iconst (v := 1) hx hb d_M_negated_11 (by decide) ?_
  refine lv_goto (tgt := 16) hx hb d_M_negated_12 (by decide) ?_
  exact hJ16 1 (by simp only [J_M_negated_16, if_pos h8])
set_option maxHeartbeats 4000000 in
set_option maxRecDepth 100000 in
theorem k_M_withoutSign (l : Launch) (D : va_G) (a : CAd) (hA : ApC a) (u0 : CSt) (x1 : Int32) : MC kl (cw a) (FA a) (tyC a) l D y_M_withoutSign b_M_withoutSign 2 (some .int) rm_M_withoutSign [.ref a.1, .int x1] u0 (some (.int (C_M_withoutSign u0 x1).1)) (C_M_withoutSign u0 x1).2 := by
  refine MC.mk (by decide) (Nat.le_of_ble_eq_true rfl) ?_
  intro p e s m below meth c ls Q args H locs hx hb hr hml hown hts hlk hl hP hK hS hQ
  have hown : s.vm.findClass R_M = some m.cls := hown
  have hl : lv_has ls 2 [(0, .ref a.1), (1, .int x1)] := hl
  refine lv_aload_n hx hb d_M_withoutSign_0 rfl (lv_at hl 0 rfl) ?_
  refine va_get (D := D) (ci := 3) (v := .ref a.2.2.2.2.1) (C := R_M) (T := F_M) (N := 7) hx hb hts (fun w h => wm (ui_M w h)) hown hK hP 0 rfl rfl 2 (by decide) (hts _ (wm t_113)) (fun _ h9 => h9) rfl d_M_withoutSign_1 ?_
  refine lv_iload_n hx hb d_M_withoutSign_4 rfl (lv_at hl 1 rfl) ?_
  refine lv_iconst (v := 0) hx hb d_M_withoutSign_5 (by decide) ?_
  refine cl_V (C := R_St) (k_St_compare l D a hA u0 x1 0) ⟨hx, hb, hml, hown, hts⟩ (cwV 2 hts (gi_V t_218 t_219 t_220 t_65 t_221) rfl rfl rfl (by decide +kernel) ⟨Nat.le_of_ble_eq_true rfl, Nat.le_of_ble_eq_true rfl⟩) (va_recv (q0 := 4) (ci := 2) (q := (R_St, F_St, 1)) hK hP rfl rfl) hP hK hS rfl hl.1 rfl (Nat.le_of_ble_eq_true rfl) d_M_withoutSign_6 (nm_s (fun u6 e6 H locs hP hS => ?_))
  refine lv_aload_n hx hb d_M_withoutSign_9 rfl (lv_at hl 0 rfl) ?_
  refine va_get (D := D) (ci := 3) (v := .ref a.2.2.2.2.1) (C := R_M) (T := F_M) (N := 7) hx hb hts (fun w h => wm (ui_M w h)) hown hK hP 0 rfl rfl 2 (by decide) (hts _ (wm t_113)) (fun _ h9 => h9) rfl d_M_withoutSign_10 ?_
  refine lv_sipush (v := 4096) hx hb d_M_withoutSign_13 (by decide) ?_
  refine lv_iconst (v := 0) hx hb d_M_withoutSign_16 (by decide) ?_
  refine cl_V (C := R_St) (k_St_mark l D a hA u6 4096 0) ⟨hx, hb, hml, hown, hts⟩ (cwV 2 hts (gi_V t_267 t_235 t_236 t_65 t_237) rfl rfl rfl (by decide +kernel) ⟨Nat.le_of_ble_eq_true rfl, Nat.le_of_ble_eq_true rfl⟩) (va_recv (q0 := 4) (ci := 2) (q := (R_St, F_St, 1)) hK hP rfl rfl) hP hK hS rfl hl.1 rfl (Nat.le_of_ble_eq_true rfl) d_M_withoutSign_17 (nm_s (fun u17 e17 H locs hP hS => ?_))
  refine lv_aload_n hx hb d_M_withoutSign_20 rfl (lv_at hl 0 rfl) ?_
  refine va_get (D := D) (ci := 3) (v := .ref a.2.2.2.2.1) (C := R_M) (T := F_M) (N := 7) hx hb hts (fun w h => wm (ui_M w h)) hown hK hP 0 rfl rfl 2 (by decide) (hts _ (wm t_113)) (fun _ h9 => h9) rfl d_M_withoutSign_21 ?_
  refine lv_sipush (v := 2048) hx hb d_M_withoutSign_24 (by decide) ?_
  refine lv_iload_n hx hb d_M_withoutSign_27 rfl (lv_at hl 1 rfl) ?_
  refine lv_ldc (v := 32768) hx hb hown (hts _ (wm t_311)) d_M_withoutSign_28 ?_
  have hJ38 : ∀ (z38 : Int32), z38 = J_M_withoutSign_38 x1 → W p l e rm_M_withoutSign s m args below meth c H locs 0 0 Q (F0 m 38 ls [.int z38, .int 2048, .ref a.2.2.2.2.1]) := by
    intro z38 jz38
    refine cl_V (C := R_St) (k_St_mark l D a hA u17 2048 z38) ⟨hx, hb, hml, hown, hts⟩ (cwV 2 hts (gi_V t_267 t_235 t_236 t_65 t_237) rfl rfl rfl (by decide +kernel) ⟨Nat.le_of_ble_eq_true rfl, Nat.le_of_ble_eq_true rfl⟩) (va_recv (q0 := 4) (ci := 2) (q := (R_St, F_St, 1)) hK hP rfl rfl) hP hK hS rfl hl.1 rfl (Nat.le_of_ble_eq_true rfl) d_M_withoutSign_38 (nm_s (fun u38 e38 H locs hP hS => ?_))
    refine lv_iload_n hx hb d_M_withoutSign_41 rfl (lv_at hl 1 rfl) ?_
    refine lv_ldc (v := 32768) hx hb hown (hts _ (wm t_311)) d_M_withoutSign_42 ?_
    refine lv_iand hx hb d_M_withoutSign_44 ?_
    refine lv_if_ne (tgt := 52) hx hb d_M_withoutSign_45 (by decide) (fun h45 => ?_) (fun h45 => ?_)
    · refine lv_iload_n hx hb d_M_withoutSign_52 rfl (lv_at hl 1 rfl) ?_
      refine lv_ineg hx hb d_M_withoutSign_53 ?_
      refine lv_ldc (v := 65535) hx hb hown (hts _ (wm t_247)) d_M_withoutSign_54 ?_
      refine lv_iand hx hb d_M_withoutSign_56 ?_
      have hc : (((-x1) &&& 65535), u38) = C_M_withoutSign u0 x1 := by simp only [C_M_withoutSign, ← e6, ← e17, ← jz38, ← e38, if_neg h45]
      subst hQ
      exact rt_i hx hb hr hlk (congrArg Prod.fst hc) (congrArg Prod.snd hc) hP hS d_M_withoutSign_57
    refine lv_iload_n hx hb d_M_withoutSign_48 rfl (lv_at hl 1 rfl) ?_
    refine lv_goto (tgt := 57) hx hb d_M_withoutSign_49 (by decide) ?_
    have hc : (x1, u38) = C_M_withoutSign u0 x1 := by simp only [C_M_withoutSign, ← e6, ← e17, ← jz38, ← e38, if_pos h45]
    subst hQ
    exact rt_i hx hb hr hlk (congrArg Prod.fst hc) (congrArg Prod.snd hc) hP hS d_M_withoutSign_57
  refine lv_icmp_ne (tgt := 37) hx hb d_M_withoutSign_30 (by decide) (fun h30 => ?_) (fun h30 => ?_)
  · refine lv_iconst (v := 0) hx hb d_M_withoutSign_37 (by decide) ?_
    exact hJ38 0 (by simp only [J_M_withoutSign_38, if_neg h30])
  refine lv_iconst (v := 1) hx hb d_M_withoutSign_33 (by decide) ?_
  refine lv_goto (tgt := 38) hx hb d_M_withoutSign_34 (by decide) ?_
  exact hJ38 1 (by simp only [J_M_withoutSign_38, if_pos h30])
set_option maxHeartbeats 4000000 in
set_option maxRecDepth 100000 in
theorem k_M_changed (l : Launch) (D : va_G) (a : CAd) (hA : ApC a) (u0 : CSt) (x1 : Int32) (x2 : Int32) : MC kl (cw a) (FA a) (tyC a) l D y_M_changed b_M_changed 3 (some .int) rm_M_changed [.ref a.1, .int x1, .int x2] u0 (some (.int (C_M_changed u0 x1 x2).1)) (C_M_changed u0 x1 x2).2 := by
  refine MC.mk (by decide) (Nat.le_of_ble_eq_true rfl) ?_
  intro p e s m below meth c ls Q args H locs hx hb hr hml hown hts hlk hl hP hK hS hQ
  have hown : s.vm.findClass R_M = some m.cls := hown
  have hl : lv_has ls 3 [(0, .ref a.1), (1, .int x1), (2, .int x2)] := hl
  refine lv_iload_n hx hb d_M_changed_0 rfl (lv_at hl 1 rfl) ?_
  by_cases h1_0 : x1 = 3
  · refine lv_tableIn (off := 55) (tgt := 56) hx hb d_M_changed_1 (by rw [h1_0]; decide) (by rw [h1_0]; decide) (by rw [h1_0]; decide +kernel) (by decide) ?_
    refine lv_iconst (v := 0) hx hb d_M_changed_56 (by decide) ?_
    have hc : (0, u0) = C_M_changed u0 x1 x2 := by simp only [C_M_changed, if_pos h1_0]
    subst hQ
    exact rt_i hx hb hr hlk (congrArg Prod.fst hc) (congrArg Prod.snd hc) hP hS d_M_changed_57
  by_cases h1_1 : x1 = 4
  · refine lv_tableIn (off := 57) (tgt := 58) hx hb d_M_changed_1 (by rw [h1_1]; decide) (by rw [h1_1]; decide) (by rw [h1_1]; decide +kernel) (by decide) ?_
    refine lv_aload_n hx hb d_M_changed_58 rfl (lv_at hl 0 rfl) ?_
    refine lv_iload_n hx hb d_M_changed_59 rfl (lv_at hl 2 rfl) ?_
    refine cl_V (C := R_M) (k_M_negated l D a hA u0 x2) ⟨hx, hb, hml, hown, hts⟩ (cwV 1 hts (gi_V t_339 t_341 t_26 t_62 t_342) rfl rfl rfl (by decide +kernel) ⟨Nat.le_of_ble_eq_true rfl, Nat.le_of_ble_eq_true rfl⟩) (va_recv (q0 := 0) (ci := 3) (q := (R_M, F_M, 7)) hK hP rfl rfl) hP hK hS rfl hl.1 rfl (Nat.le_of_ble_eq_true rfl) d_M_changed_60 (nm_is (fun r60 u60 e60 f60 H locs hP hS => ?_))
    have hc : (r60, u60) = C_M_changed u0 x1 x2 := by simp only [C_M_changed, if_neg h1_0, if_pos h1_1, ← e60, ← f60]
    subst hQ
    exact rt_i hx hb hr hlk (congrArg Prod.fst hc) (congrArg Prod.snd hc) hP hS d_M_changed_63
  by_cases h1_2 : x1 = 5
  · refine lv_tableIn (off := 63) (tgt := 64) hx hb d_M_changed_1 (by rw [h1_2]; decide) (by rw [h1_2]; decide) (by rw [h1_2]; decide +kernel) (by decide) ?_
    refine lv_aload_n hx hb d_M_changed_64 rfl (lv_at hl 0 rfl) ?_
    refine va_get (D := D) (ci := 3) (v := .ref a.2.2.2.2.1) (C := R_M) (T := F_M) (N := 7) hx hb hts (fun w h => wm (ui_M w h)) hown hK hP 0 rfl rfl 2 (by decide) (hts _ (wm t_113)) (fun _ h9 => h9) rfl d_M_changed_65 ?_
    refine lv_iload_n hx hb d_M_changed_68 rfl (lv_at hl 2 rfl) ?_
    refine lv_iconst (v := (-1)) hx hb d_M_changed_69 (by decide) ?_
    refine lv_ixor hx hb d_M_changed_70 ?_
    refine lv_ldc (v := 65535) hx hb hown (hts _ (wm t_247)) d_M_changed_71 ?_
    refine lv_iand hx hb d_M_changed_73 ?_
    refine cl_V (C := R_St) (k_St_tested l D a hA u0 ((x2 ^^^ (-1)) &&& 65535)) ⟨hx, hb, hml, hown, hts⟩ (cwV 1 hts (gi_V t_242 t_243 t_244 t_65 t_245) rfl rfl rfl (by decide +kernel) ⟨Nat.le_of_ble_eq_true rfl, Nat.le_of_ble_eq_true rfl⟩) (va_recv (q0 := 4) (ci := 2) (q := (R_St, F_St, 1)) hK hP rfl rfl) hP hK hS rfl hl.1 rfl (Nat.le_of_ble_eq_true rfl) d_M_changed_74 (nm_is (fun r74 u74 e74 f74 H locs hP hS => ?_))
    have hc : (r74, u74) = C_M_changed u0 x1 x2 := by simp only [C_M_changed, if_neg h1_0, if_neg h1_1, if_pos h1_2, ← e74, ← f74]
    subst hQ
    exact rt_i hx hb hr hlk (congrArg Prod.fst hc) (congrArg Prod.snd hc) hP hS d_M_changed_77
  by_cases h1_3 : x1 = 6
  · refine lv_tableIn (off := 77) (tgt := 78) hx hb d_M_changed_1 (by rw [h1_3]; decide) (by rw [h1_3]; decide) (by rw [h1_3]; decide +kernel) (by decide) ?_
    refine lv_aload_n hx hb d_M_changed_78 rfl (lv_at hl 0 rfl) ?_
    refine va_get (D := D) (ci := 3) (v := .ref a.2.2.2.2.1) (C := R_M) (T := F_M) (N := 7) hx hb hts (fun w h => wm (ui_M w h)) hown hK hP 0 rfl rfl 2 (by decide) (hts _ (wm t_113)) (fun _ h9 => h9) rfl d_M_changed_79 ?_
    refine lv_iload_n hx hb d_M_changed_82 rfl (lv_at hl 2 rfl) ?_
    refine lv_iconst (v := 1) hx hb d_M_changed_83 (by decide) ?_
    refine lv_iconst (v := 0) hx hb d_M_changed_84 (by decide) ?_
    refine cl_V (C := R_St) (k_St_sum l D a hA u0 x2 1 0) ⟨hx, hb, hml, hown, hts⟩ (cwV 3 hts (gi_V t_248 t_249 t_250 t_65 t_251) rfl rfl rfl (by decide +kernel) ⟨Nat.le_of_ble_eq_true rfl, Nat.le_of_ble_eq_true rfl⟩) (va_recv (q0 := 4) (ci := 2) (q := (R_St, F_St, 1)) hK hP rfl rfl) hP hK hS rfl hl.1 rfl (Nat.le_of_ble_eq_true rfl) d_M_changed_85 (nm_is (fun r85 u85 e85 f85 H locs hP hS => ?_))
    have hc : (r85, u85) = C_M_changed u0 x1 x2 := by simp only [C_M_changed, if_neg h1_0, if_neg h1_1, if_neg h1_2, if_pos h1_3, ← e85, ← f85]
    subst hQ
    exact rt_i hx hb hr hlk (congrArg Prod.fst hc) (congrArg Prod.snd hc) hP hS d_M_changed_88
  by_cases h1_4 : x1 = 7
  · refine lv_tableIn (off := 88) (tgt := 89) hx hb d_M_changed_1 (by rw [h1_4]; decide) (by rw [h1_4]; decide) (by rw [h1_4]; decide +kernel) (by decide) ?_
    refine lv_aload_n hx hb d_M_changed_89 rfl (lv_at hl 0 rfl) ?_
    refine va_get (D := D) (ci := 3) (v := .ref a.2.2.2.2.1) (C := R_M) (T := F_M) (N := 7) hx hb hts (fun w h => wm (ui_M w h)) hown hK hP 0 rfl rfl 2 (by decide) (hts _ (wm t_113)) (fun _ h9 => h9) rfl d_M_changed_90 ?_
    refine lv_iload_n hx hb d_M_changed_93 rfl (lv_at hl 2 rfl) ?_
    refine lv_iconst (v := 2) hx hb d_M_changed_94 (by decide) ?_
    refine lv_iconst (v := 0) hx hb d_M_changed_95 (by decide) ?_
    refine cl_V (C := R_St) (k_St_sum l D a hA u0 x2 2 0) ⟨hx, hb, hml, hown, hts⟩ (cwV 3 hts (gi_V t_248 t_249 t_250 t_65 t_251) rfl rfl rfl (by decide +kernel) ⟨Nat.le_of_ble_eq_true rfl, Nat.le_of_ble_eq_true rfl⟩) (va_recv (q0 := 4) (ci := 2) (q := (R_St, F_St, 1)) hK hP rfl rfl) hP hK hS rfl hl.1 rfl (Nat.le_of_ble_eq_true rfl) d_M_changed_96 (nm_is (fun r96 u96 e96 f96 H locs hP hS => ?_))
    have hc : (r96, u96) = C_M_changed u0 x1 x2 := by simp only [C_M_changed, if_neg h1_0, if_neg h1_1, if_neg h1_2, if_neg h1_3, if_pos h1_4, ← e96, ← f96]
    subst hQ
    exact rt_i hx hb hr hlk (congrArg Prod.fst hc) (congrArg Prod.snd hc) hP hS d_M_changed_99
  by_cases h1_5 : x1 = 8
  · refine lv_tableIn (off := 99) (tgt := 100) hx hb d_M_changed_1 (by rw [h1_5]; decide) (by rw [h1_5]; decide) (by rw [h1_5]; decide +kernel) (by decide) ?_
    refine lv_aload_n hx hb d_M_changed_100 rfl (lv_at hl 0 rfl) ?_
    refine va_get (D := D) (ci := 3) (v := .ref a.2.2.2.2.1) (C := R_M) (T := F_M) (N := 7) hx hb hts (fun w h => wm (ui_M w h)) hown hK hP 0 rfl rfl 2 (by decide) (hts _ (wm t_113)) (fun _ h9 => h9) rfl d_M_changed_101 ?_
    refine lv_iload_n hx hb d_M_changed_104 rfl (lv_at hl 2 rfl) ?_
    refine lv_ldc (v := 65535) hx hb hown (hts _ (wm t_247)) d_M_changed_105 ?_
    refine lv_iconst (v := 0) hx hb d_M_changed_107 (by decide) ?_
    refine cl_V (C := R_St) (k_St_sum l D a hA u0 x2 65535 0) ⟨hx, hb, hml, hown, hts⟩ (cwV 3 hts (gi_V t_248 t_249 t_250 t_65 t_251) rfl rfl rfl (by decide +kernel) ⟨Nat.le_of_ble_eq_true rfl, Nat.le_of_ble_eq_true rfl⟩) (va_recv (q0 := 4) (ci := 2) (q := (R_St, F_St, 1)) hK hP rfl rfl) hP hK hS rfl hl.1 rfl (Nat.le_of_ble_eq_true rfl) d_M_changed_108 (nm_is (fun r108 u108 e108 f108 H locs hP hS => ?_))
    have hc : (r108, u108) = C_M_changed u0 x1 x2 := by simp only [C_M_changed, if_neg h1_0, if_neg h1_1, if_neg h1_2, if_neg h1_3, if_neg h1_4, if_pos h1_5, ← e108, ← f108]
    subst hQ
    exact rt_i hx hb hr hlk (congrArg Prod.fst hc) (congrArg Prod.snd hc) hP hS d_M_changed_111
  by_cases h1_6 : x1 = 9
  · refine lv_tableIn (off := 111) (tgt := 112) hx hb d_M_changed_1 (by rw [h1_6]; decide) (by rw [h1_6]; decide) (by rw [h1_6]; decide +kernel) (by decide) ?_
    refine lv_aload_n hx hb d_M_changed_112 rfl (lv_at hl 0 rfl) ?_
    refine va_get (D := D) (ci := 3) (v := .ref a.2.2.2.2.1) (C := R_M) (T := F_M) (N := 7) hx hb hts (fun w h => wm (ui_M w h)) hown hK hP 0 rfl rfl 2 (by decide) (hts _ (wm t_113)) (fun _ h9 => h9) rfl d_M_changed_113 ?_
    refine lv_iload_n hx hb d_M_changed_116 rfl (lv_at hl 2 rfl) ?_
    refine lv_ldc (v := 65534) hx hb hown (hts _ (wm t_343)) d_M_changed_117 ?_
    refine lv_iconst (v := 0) hx hb d_M_changed_119 (by decide) ?_
    refine cl_V (C := R_St) (k_St_sum l D a hA u0 x2 65534 0) ⟨hx, hb, hml, hown, hts⟩ (cwV 3 hts (gi_V t_248 t_249 t_250 t_65 t_251) rfl rfl rfl (by decide +kernel) ⟨Nat.le_of_ble_eq_true rfl, Nat.le_of_ble_eq_true rfl⟩) (va_recv (q0 := 4) (ci := 2) (q := (R_St, F_St, 1)) hK hP rfl rfl) hP hK hS rfl hl.1 rfl (Nat.le_of_ble_eq_true rfl) d_M_changed_120 (nm_is (fun r120 u120 e120 f120 H locs hP hS => ?_))
    have hc : (r120, u120) = C_M_changed u0 x1 x2 := by simp only [C_M_changed, if_neg h1_0, if_neg h1_1, if_neg h1_2, if_neg h1_3, if_neg h1_4, if_neg h1_5, if_pos h1_6, ← e120, ← f120]
    subst hQ
    exact rt_i hx hb hr hlk (congrArg Prod.fst hc) (congrArg Prod.snd hc) hP hS d_M_changed_123
  by_cases h1_7 : x1 = 10
  · refine lv_tableIn (off := 140) (tgt := 141) hx hb d_M_changed_1 (by rw [h1_7]; decide) (by rw [h1_7]; decide) (by rw [h1_7]; decide +kernel) (by decide) ?_
    refine lv_aload_n hx hb d_M_changed_141 rfl (lv_at hl 0 rfl) ?_
    refine lv_iload_n hx hb d_M_changed_142 rfl (lv_at hl 2 rfl) ?_
    refine cl_V (C := R_M) (k_M_withoutSign l D a hA u0 x2) ⟨hx, hb, hml, hown, hts⟩ (cwV 1 hts (gi_V t_344 t_346 t_27 t_62 t_347) rfl rfl rfl (by decide +kernel) ⟨Nat.le_of_ble_eq_true rfl, Nat.le_of_ble_eq_true rfl⟩) (va_recv (q0 := 0) (ci := 3) (q := (R_M, F_M, 7)) hK hP rfl rfl) hP hK hS rfl hl.1 rfl (Nat.le_of_ble_eq_true rfl) d_M_changed_143 (nm_is (fun r143 u143 e143 f143 H locs hP hS => ?_))
    have hc : (r143, u143) = C_M_changed u0 x1 x2 := by simp only [C_M_changed, if_neg h1_0, if_neg h1_1, if_neg h1_2, if_neg h1_3, if_neg h1_4, if_neg h1_5, if_neg h1_6, if_pos h1_7, ← e143, ← f143]
    subst hQ
    exact rt_i hx hb hr hlk (congrArg Prod.fst hc) (congrArg Prod.snd hc) hP hS d_M_changed_146
  by_cases h1_8 : x1 = 11
  · refine lv_tableIn (off := 123) (tgt := 124) hx hb d_M_changed_1 (by rw [h1_8]; decide) (by rw [h1_8]; decide) (by rw [h1_8]; decide +kernel) (by decide) ?_
    refine lv_iload_n hx hb d_M_changed_124 rfl (lv_at hl 2 rfl) ?_
    refine lv_bipush (v := 8) hx hb d_M_changed_125 (by decide) ?_
    refine lv_ishr hx hb d_M_changed_127 ?_
    refine lv_iload_n hx hb d_M_changed_128 rfl (lv_at hl 2 rfl) ?_
    refine lv_sipush (v := 255) hx hb d_M_changed_129 (by decide) ?_
    refine lv_iand hx hb d_M_changed_132 ?_
    refine lv_bipush (v := 8) hx hb d_M_changed_133 (by decide) ?_
    refine lv_ishl hx hb d_M_changed_135 ?_
    refine lv_ior hx hb d_M_changed_136 ?_
    have hc : (((x2 >>> ((8 : Int32) &&& 31)) ||| ((x2 &&& 255) <<< ((8 : Int32) &&& 31))), u0) = C_M_changed u0 x1 x2 := by simp only [C_M_changed, if_neg h1_0, if_neg h1_1, if_neg h1_2, if_neg h1_3, if_neg h1_4, if_neg h1_5, if_neg h1_6, if_neg h1_7, if_pos h1_8]
    subst hQ
    exact rt_i hx hb hr hlk (congrArg Prod.fst hc) (congrArg Prod.snd hc) hP hS d_M_changed_137
  by_cases h1_9 : x1 = 12
  · refine lv_tableIn (off := 137) (tgt := 138) hx hb d_M_changed_1 (by rw [h1_9]; decide) (by rw [h1_9]; decide) (by rw [h1_9]; decide +kernel) (by decide) ?_
    refine lv_ldc (v := 65535) hx hb hown (hts _ (wm t_247)) d_M_changed_138 ?_
    have hc : (65535, u0) = C_M_changed u0 x1 x2 := by simp only [C_M_changed, if_neg h1_0, if_neg h1_1, if_neg h1_2, if_neg h1_3, if_neg h1_4, if_neg h1_5, if_neg h1_6, if_neg h1_7, if_neg h1_8, if_pos h1_9]
    subst hQ
    exact rt_i hx hb hr hlk (congrArg Prod.fst hc) (congrArg Prod.snd hc) hP hS d_M_changed_140
  have n1_0 := lv_neT h1_0 (a := 3) (by decide)
  have n1_1 := lv_neT h1_1 (a := 4) (by decide)
  have n1_2 := lv_neT h1_2 (a := 5) (by decide)
  have n1_3 := lv_neT h1_3 (a := 6) (by decide)
  have n1_4 := lv_neT h1_4 (a := 7) (by decide)
  have n1_5 := lv_neT h1_5 (a := 8) (by decide)
  have n1_6 := lv_neT h1_6 (a := 9) (by decide)
  have n1_7 := lv_neT h1_7 (a := 10) (by decide)
  have n1_8 := lv_neT h1_8 (a := 11) (by decide)
  have n1_9 := lv_neT h1_9 (a := 12) (by decide)
  refine lv_tableOut (tgt := 141) hx hb d_M_changed_1 (by omega) (by decide) ?_
  refine lv_aload_n hx hb d_M_changed_141 rfl (lv_at hl 0 rfl) ?_
  refine lv_iload_n hx hb d_M_changed_142 rfl (lv_at hl 2 rfl) ?_
  refine cl_V (C := R_M) (k_M_withoutSign l D a hA u0 x2) ⟨hx, hb, hml, hown, hts⟩ (cwV 1 hts (gi_V t_344 t_346 t_27 t_62 t_347) rfl rfl rfl (by decide +kernel) ⟨Nat.le_of_ble_eq_true rfl, Nat.le_of_ble_eq_true rfl⟩) (va_recv (q0 := 0) (ci := 3) (q := (R_M, F_M, 7)) hK hP rfl rfl) hP hK hS rfl hl.1 rfl (Nat.le_of_ble_eq_true rfl) d_M_changed_143 (nm_is (fun r143 u143 e143 f143 H locs hP hS => ?_))
  have hc : (r143, u143) = C_M_changed u0 x1 x2 := by simp only [C_M_changed, if_neg h1_0, if_neg h1_1, if_neg h1_2, if_neg h1_3, if_neg h1_4, if_neg h1_5, if_neg h1_6, if_neg h1_7, if_neg h1_8, if_neg h1_9, ← e143, ← f143]
  subst hQ
  exact rt_i hx hb hr hlk (congrArg Prod.fst hc) (congrArg Prod.snd hc) hP hS d_M_changed_146
set_option maxHeartbeats 4000000 in
set_option maxRecDepth 100000 in
theorem k_M_runOnOneOperand (l : Launch) (D : va_G) (a : CAd) (hA : ApC a) (u0 : CSt) (x1 : Int32) : MC kl (cw a) (FA a) (tyC a) l D y_M_runOnOneOperand b_M_runOnOneOperand 4 (some .int) rm_M_runOnOneOperand [.ref a.1, .int x1] u0 (some (.int (C_M_runOnOneOperand u0 x1).1)) (C_M_runOnOneOperand u0 x1).2 := by
  refine MC.mk (by decide) (Nat.le_of_ble_eq_true rfl) ?_
  intro p e s m below meth c ls Q args H locs hx hb hr hml hown hts hlk hl hP hK hS hQ
  have hown : s.vm.findClass R_M = some m.cls := hown
  have hl : lv_has ls 4 [(0, .ref a.1), (1, .int x1)] := hl
  refine lv_iload_n hx hb d_M_runOnOneOperand_0 rfl (lv_at hl 1 rfl) ?_
  refine lv_bipush (v := 6) hx hb d_M_runOnOneOperand_1 (by decide) ?_
  refine lv_ishr hx hb d_M_runOnOneOperand_3 ?_
  refine lv_bipush (v := 15) hx hb d_M_runOnOneOperand_4 (by decide) ?_
  refine lv_iand hx hb d_M_runOnOneOperand_6 ?_
  refine lv_istore_n hx hb d_M_runOnOneOperand_7 rfl hl (by decide) rfl (fun ls hl => ?_)
  have hl : lv_has ls 4 [(2, .int ((x1 >>> ((6 : Int32) &&& 31)) &&& 15)), (0, .ref a.1), (1, .int x1)] := hl
  refine lv_aload_n hx hb d_M_runOnOneOperand_8 rfl (lv_at hl 1 rfl) ?_
  refine lv_iload_n hx hb d_M_runOnOneOperand_9 rfl (lv_at hl 2 rfl) ?_
  refine lv_iconst (v := 2) hx hb d_M_runOnOneOperand_10 (by decide) ?_
  refine cl_V (C := R_M) (k_M_operandAddress l D a hA u0 x1 2) ⟨hx, hb, hml, hown, hts⟩ (cwV 2 hts (gi_V t_197 t_199 t_8 t_62 t_200) rfl rfl rfl (by decide +kernel) ⟨Nat.le_of_ble_eq_true rfl, Nat.le_of_ble_eq_true rfl⟩) (va_recv (q0 := 0) (ci := 3) (q := (R_M, F_M, 7)) hK hP rfl rfl) hP hK hS rfl hl.1 rfl (Nat.le_of_ble_eq_true rfl) d_M_runOnOneOperand_11 (nm_is (fun r11 u11 e11 f11 H locs hP hS => ?_))
  refine lv_istore_n hx hb d_M_runOnOneOperand_14 rfl hl (by decide) rfl (fun ls hl => ?_)
  have hl : lv_has ls 4 [(3, .int r11), (2, .int ((x1 >>> ((6 : Int32) &&& 31)) &&& 15)), (0, .ref a.1), (1, .int x1)] := hl
  refine lv_iload_n hx hb d_M_runOnOneOperand_15 rfl (lv_at hl 1 rfl) ?_
  by_cases h16_0 : ((x1 >>> ((6 : Int32) &&& 31)) &&& 15) = 0
  · refine lv_lookup (off := 36) (tgt := 52) hx hb d_M_runOnOneOperand_16 (by decide) (by rw [h16_0]; decide +kernel) (by decide) ?_
    refine lv_aload_n hx hb d_M_runOnOneOperand_52 rfl (lv_at hl 2 rfl) ?_
    refine lv_iload_n hx hb d_M_runOnOneOperand_53 rfl (lv_at hl 0 rfl) ?_
    refine cl_V (C := R_M) (k_M_switchThrough l D a hA u11 r11) ⟨hx, hb, hml, hown, hts⟩ (cwV 1 hts (gi_V t_137 t_139 t_0 t_62 t_140) rfl rfl rfl (by decide +kernel) ⟨Nat.le_of_ble_eq_true rfl, Nat.le_of_ble_eq_true rfl⟩) (va_recv (q0 := 0) (ci := 3) (q := (R_M, F_M, 7)) hK hP rfl rfl) hP hK hS rfl hl.1 rfl (Nat.le_of_ble_eq_true rfl) d_M_runOnOneOperand_54 (nm_s (fun u54 e54 H locs hP hS => ?_))
    refine lv_goto (tgt := 107) hx hb d_M_runOnOneOperand_57 (by decide) ?_
    refine lv_iconst (v := 0) hx hb d_M_runOnOneOperand_107 (by decide) ?_
    have hc : (0, u54) = C_M_runOnOneOperand u0 x1 := by simp only [C_M_runOnOneOperand, ← e11, ← f11, if_pos h16_0, ← e54]
    subst hQ
    exact rt_i hx hb hr hlk (congrArg Prod.fst hc) (congrArg Prod.snd hc) hP hS d_M_runOnOneOperand_108
  by_cases h16_1 : ((x1 >>> ((6 : Int32) &&& 31)) &&& 15) = 1
  · refine lv_lookup (off := 44) (tgt := 60) hx hb d_M_runOnOneOperand_16 (by decide) (by rw [h16_1]; decide +kernel) (by decide) ?_
    refine lv_aload_n hx hb d_M_runOnOneOperand_60 rfl (lv_at hl 2 rfl) ?_
    refine lv_iload_n hx hb d_M_runOnOneOperand_61 rfl (lv_at hl 0 rfl) ?_
    refine cl_V (C := R_M) (k_M_setCounter l D a hA u11 r11) ⟨hx, hb, hml, hown, hts⟩ (cwV 1 hts (gi_V t_165 t_167 t_4 t_62 t_168) rfl rfl rfl (by decide +kernel) ⟨Nat.le_of_ble_eq_true rfl, Nat.le_of_ble_eq_true rfl⟩) (va_recv (q0 := 0) (ci := 3) (q := (R_M, F_M, 7)) hK hP rfl rfl) hP hK hS rfl hl.1 rfl (Nat.le_of_ble_eq_true rfl) d_M_runOnOneOperand_62 (nm_s (fun u62 e62 H locs hP hS => ?_))
    refine lv_goto (tgt := 107) hx hb d_M_runOnOneOperand_65 (by decide) ?_
    refine lv_iconst (v := 0) hx hb d_M_runOnOneOperand_107 (by decide) ?_
    have hc : (0, u62) = C_M_runOnOneOperand u0 x1 := by simp only [C_M_runOnOneOperand, ← e11, ← f11, if_neg h16_0, if_pos h16_1, ← e62]
    subst hQ
    exact rt_i hx hb hr hlk (congrArg Prod.fst hc) (congrArg Prod.snd hc) hP hS d_M_runOnOneOperand_108
  by_cases h16_2 : ((x1 >>> ((6 : Int32) &&& 31)) &&& 15) = 10
  · refine lv_lookup (off := 52) (tgt := 68) hx hb d_M_runOnOneOperand_16 (by decide) (by rw [h16_2]; decide +kernel) (by decide) ?_
    refine lv_aload_n hx hb d_M_runOnOneOperand_68 rfl (lv_at hl 2 rfl) ?_
    refine lv_bipush (v := 11) hx hb d_M_runOnOneOperand_69 (by decide) ?_
    refine lv_aload_n hx hb d_M_runOnOneOperand_71 rfl (lv_at hl 2 rfl) ?_
    refine va_get (D := D) (ci := 3) (v := .int u11.2.2.2.2.1) (C := R_M) (T := F_M) (N := 7) hx hb hts (fun w h => wm (ui_M w h)) hown hK hP 0 rfl rfl 4 (by decide) (hts _ (wm t_115)) (fun _ h9 => h9) rfl d_M_runOnOneOperand_72 ?_
    refine cl_V (C := R_M) (k_M_setRegister l D a hA u11 11 u11.2.2.2.2.1) ⟨hx, hb, hml, hown, hts⟩ (cwV 2 hts (gi_V t_149 t_151 t_2 t_62 t_152) rfl rfl rfl (by decide +kernel) ⟨Nat.le_of_ble_eq_true rfl, Nat.le_of_ble_eq_true rfl⟩) (va_recv (q0 := 0) (ci := 3) (q := (R_M, F_M, 7)) hK hP rfl rfl) hP hK hS rfl hl.1 rfl (Nat.le_of_ble_eq_true rfl) d_M_runOnOneOperand_75 (nm_s (fun u75 e75 H locs hP hS => ?_))
    refine lv_aload_n hx hb d_M_runOnOneOperand_78 rfl (lv_at hl 2 rfl) ?_
    refine lv_iload_n hx hb d_M_runOnOneOperand_79 rfl (lv_at hl 0 rfl) ?_
    refine cl_V (C := R_M) (k_M_setCounter l D a hA u75 r11) ⟨hx, hb, hml, hown, hts⟩ (cwV 1 hts (gi_V t_165 t_167 t_4 t_62 t_168) rfl rfl rfl (by decide +kernel) ⟨Nat.le_of_ble_eq_true rfl, Nat.le_of_ble_eq_true rfl⟩) (va_recv (q0 := 0) (ci := 3) (q := (R_M, F_M, 7)) hK hP rfl rfl) hP hK hS rfl hl.1 rfl (Nat.le_of_ble_eq_true rfl) d_M_runOnOneOperand_80 (nm_s (fun u80 e80 H locs hP hS => ?_))
    refine lv_goto (tgt := 107) hx hb d_M_runOnOneOperand_83 (by decide) ?_
    refine lv_iconst (v := 0) hx hb d_M_runOnOneOperand_107 (by decide) ?_
    have hc : (0, u80) = C_M_runOnOneOperand u0 x1 := by simp only [C_M_runOnOneOperand, ← e11, ← f11, if_neg h16_0, if_neg h16_1, if_pos h16_2, ← e75, ← e80]
    subst hQ
    exact rt_i hx hb hr hlk (congrArg Prod.fst hc) (congrArg Prod.snd hc) hP hS d_M_runOnOneOperand_108
  refine lv_lookup (off := 70) (tgt := 86) hx hb d_M_runOnOneOperand_16 (by decide) ((lv_osw h16_0 (by decide)).trans ((lv_osw h16_1 (by decide)).trans ((lv_osw h16_2 (by decide)).trans (rfl)))) (by decide) ?_
  refine lv_aload_n hx hb d_M_runOnOneOperand_86 rfl (lv_at hl 2 rfl) ?_
  refine va_get (D := D) (ci := 3) (v := .ref a.2.1) (C := R_M) (T := F_M) (N := 7) hx hb hts (fun w h => wm (ui_M w h)) hown hK hP 0 rfl rfl 0 (by decide) (hts _ (wm t_111)) (fun _ h9 => h9) rfl d_M_runOnOneOperand_87 ?_
  refine lv_iload_n hx hb d_M_runOnOneOperand_90 rfl (lv_at hl 0 rfl) ?_
  refine lv_aload_n hx hb d_M_runOnOneOperand_91 rfl (lv_at hl 2 rfl) ?_
  refine lv_iload_n hx hb d_M_runOnOneOperand_92 rfl (lv_at hl 1 rfl) ?_
  refine lv_aload_n hx hb d_M_runOnOneOperand_93 rfl (lv_at hl 2 rfl) ?_
  refine va_get (D := D) (ci := 3) (v := .ref a.2.1) (C := R_M) (T := F_M) (N := 7) hx hb hts (fun w h => wm (ui_M w h)) hown hK hP 0 rfl rfl 0 (by decide) (hts _ (wm t_111)) (fun _ h9 => h9) rfl d_M_runOnOneOperand_94 ?_
  refine lv_iload_n hx hb d_M_runOnOneOperand_97 rfl (lv_at hl 0 rfl) ?_
  refine cl_V (C := R_Me) (k_Me_word l D a hA u11 r11) ⟨hx, hb, hml, hown, hts⟩ (cwV 1 hts (gi_V t_141 t_142 t_143 t_63 t_144) rfl rfl rfl (by decide +kernel) ⟨Nat.le_of_ble_eq_true rfl, Nat.le_of_ble_eq_true rfl⟩) (va_recv (q0 := 1) (ci := 1) (q := (R_Me, F_Me, 1)) hK hP rfl rfl) hP hK hS rfl hl.1 rfl (Nat.le_of_ble_eq_true rfl) d_M_runOnOneOperand_98 (nm_i (fun r98 e98 H locs hP hS => ?_))
  refine cl_V (C := R_M) (k_M_changed l D a hA u11 ((x1 >>> ((6 : Int32) &&& 31)) &&& 15) r98) ⟨hx, hb, hml, hown, hts⟩ (cwV 2 hts (gi_V t_335 t_337 t_25 t_62 t_338) rfl rfl rfl (by decide +kernel) ⟨Nat.le_of_ble_eq_true rfl, Nat.le_of_ble_eq_true rfl⟩) (va_recv (q0 := 0) (ci := 3) (q := (R_M, F_M, 7)) hK hP rfl rfl) hP hK hS rfl hl.1 rfl (Nat.le_of_ble_eq_true rfl) d_M_runOnOneOperand_101 (nm_is (fun r101 u101 e101 f101 H locs hP hS => ?_))
  refine cl_V (C := R_Me) (k_Me_setWord l D a hA u101 r11 r101) ⟨hx, hb, hml, hown, hts⟩ (cwV 2 hts (gi_V t_157 t_158 t_159 t_63 t_160) rfl rfl rfl (by decide +kernel) ⟨Nat.le_of_ble_eq_true rfl, Nat.le_of_ble_eq_true rfl⟩) (va_recv (q0 := 1) (ci := 1) (q := (R_Me, F_Me, 1)) hK hP rfl rfl) hP hK hS rfl hl.1 rfl (Nat.le_of_ble_eq_true rfl) d_M_runOnOneOperand_104 (nm_s (fun u104 e104 H locs hP hS => ?_))
  refine lv_iconst (v := 0) hx hb d_M_runOnOneOperand_107 (by decide) ?_
  have hc : (0, u104) = C_M_runOnOneOperand u0 x1 := by simp only [C_M_runOnOneOperand, ← e11, ← f11, if_neg h16_0, if_neg h16_1, if_neg h16_2, ← e98, ← e101, ← f101, ← e104]
  subst hQ
  exact rt_i hx hb hr hlk (congrArg Prod.fst hc) (congrArg Prod.snd hc) hP hS d_M_runOnOneOperand_108
set_option maxHeartbeats 4000000 in
set_option maxRecDepth 100000 in
theorem k_M_runImmediate (l : Launch) (D : va_G) (a : CAd) (hA : ApC a) (u0 : CSt) (x1 : Int32) (x2 : Int32) (x3 : Int32) : MC kl (cw a) (FA a) (tyC a) l D y_M_runImmediate b_M_runImmediate 4 none rm_M_runImmediate [.ref a.1, .int x1, .int x2, .int x3] u0 none (C_M_runImmediate u0 x1 x2 x3) := by
  refine MC.mk (by decide) (Nat.le_of_ble_eq_true rfl) ?_
  intro p e s m below meth c ls Q args H locs hx hb hr hml hown hts hlk hl hP hK hS hQ
  have hown : s.vm.findClass R_M = some m.cls := hown
  have hl : lv_has ls 4 [(0, .ref a.1), (1, .int x1), (2, .int x2), (3, .int x3)] := hl
  refine lv_iload_n hx hb d_M_runImmediate_0 rfl (lv_at hl 1 rfl) ?_
  by_cases h1_0 : x1 = 0
  · refine lv_tableIn (off := 31) (tgt := 32) hx hb d_M_runImmediate_1 (by rw [h1_0]; decide) (by rw [h1_0]; decide) (by rw [h1_0]; decide +kernel) (by decide) ?_
    refine lv_aload_n hx hb d_M_runImmediate_32 rfl (lv_at hl 0 rfl) ?_
    refine lv_iload_n hx hb d_M_runImmediate_33 rfl (lv_at hl 2 rfl) ?_
    refine lv_aload_n hx hb d_M_runImmediate_34 rfl (lv_at hl 0 rfl) ?_
    refine va_get (D := D) (ci := 3) (v := .ref a.2.2.2.2.1) (C := R_M) (T := F_M) (N := 7) hx hb hts (fun w h => wm (ui_M w h)) hown hK hP 0 rfl rfl 2 (by decide) (hts _ (wm t_113)) (fun _ h9 => h9) rfl d_M_runImmediate_35 ?_
    refine lv_iload_n hx hb d_M_runImmediate_38 rfl (lv_at hl 3 rfl) ?_
    refine cl_V (C := R_St) (k_St_tested l D a hA u0 x3) ⟨hx, hb, hml, hown, hts⟩ (cwV 1 hts (gi_V t_242 t_243 t_244 t_65 t_245) rfl rfl rfl (by decide +kernel) ⟨Nat.le_of_ble_eq_true rfl, Nat.le_of_ble_eq_true rfl⟩) (va_recv (q0 := 4) (ci := 2) (q := (R_St, F_St, 1)) hK hP rfl rfl) hP hK hS rfl hl.1 rfl (Nat.le_of_ble_eq_true rfl) d_M_runImmediate_39 (nm_is (fun r39 u39 e39 f39 H locs hP hS => ?_))
    refine cl_V (C := R_M) (k_M_setRegister l D a hA u39 x2 r39) ⟨hx, hb, hml, hown, hts⟩ (cwV 2 hts (gi_V t_149 t_151 t_2 t_62 t_152) rfl rfl rfl (by decide +kernel) ⟨Nat.le_of_ble_eq_true rfl, Nat.le_of_ble_eq_true rfl⟩) (va_recv (q0 := 0) (ci := 3) (q := (R_M, F_M, 7)) hK hP rfl rfl) hP hK hS rfl hl.1 rfl (Nat.le_of_ble_eq_true rfl) d_M_runImmediate_42 (nm_s (fun u42 e42 H locs hP hS => ?_))
    refine lv_goto (tgt := 127) hx hb d_M_runImmediate_45 (by decide) ?_
    subst hQ
    exact rt_v hx hb hr hlk (by simp only [C_M_runImmediate, if_pos h1_0, ← e39, ← f39, ← e42]) hP hS d_M_runImmediate_127
  by_cases h1_1 : x1 = 1
  · refine lv_tableIn (off := 47) (tgt := 48) hx hb d_M_runImmediate_1 (by rw [h1_1]; decide) (by rw [h1_1]; decide) (by rw [h1_1]; decide +kernel) (by decide) ?_
    refine lv_aload_n hx hb d_M_runImmediate_48 rfl (lv_at hl 0 rfl) ?_
    refine lv_iload_n hx hb d_M_runImmediate_49 rfl (lv_at hl 2 rfl) ?_
    refine lv_aload_n hx hb d_M_runImmediate_50 rfl (lv_at hl 0 rfl) ?_
    refine va_get (D := D) (ci := 3) (v := .ref a.2.2.2.2.1) (C := R_M) (T := F_M) (N := 7) hx hb hts (fun w h => wm (ui_M w h)) hown hK hP 0 rfl rfl 2 (by decide) (hts _ (wm t_113)) (fun _ h9 => h9) rfl d_M_runImmediate_51 ?_
    refine lv_aload_n hx hb d_M_runImmediate_54 rfl (lv_at hl 0 rfl) ?_
    refine lv_iload_n hx hb d_M_runImmediate_55 rfl (lv_at hl 2 rfl) ?_
    refine cl_V (C := R_M) (k_M_register l D a hA u0 x2) ⟨hx, hb, hml, hown, hts⟩ (cwV 1 hts (gi_V t_189 t_191 t_7 t_62 t_192) rfl rfl rfl (by decide +kernel) ⟨Nat.le_of_ble_eq_true rfl, Nat.le_of_ble_eq_true rfl⟩) (va_recv (q0 := 0) (ci := 3) (q := (R_M, F_M, 7)) hK hP rfl rfl) hP hK hS rfl hl.1 rfl (Nat.le_of_ble_eq_true rfl) d_M_runImmediate_56 (nm_i (fun r56 e56 H locs hP hS => ?_))
    refine lv_iload_n hx hb d_M_runImmediate_59 rfl (lv_at hl 3 rfl) ?_
    refine lv_iconst (v := 0) hx hb d_M_runImmediate_60 (by decide) ?_
    refine cl_V (C := R_St) (k_St_sum l D a hA u0 r56 x3 0) ⟨hx, hb, hml, hown, hts⟩ (cwV 3 hts (gi_V t_248 t_249 t_250 t_65 t_251) rfl rfl rfl (by decide +kernel) ⟨Nat.le_of_ble_eq_true rfl, Nat.le_of_ble_eq_true rfl⟩) (va_recv (q0 := 4) (ci := 2) (q := (R_St, F_St, 1)) hK hP rfl rfl) hP hK hS rfl hl.1 rfl (Nat.le_of_ble_eq_true rfl) d_M_runImmediate_61 (nm_is (fun r61 u61 e61 f61 H locs hP hS => ?_))
    refine cl_V (C := R_M) (k_M_setRegister l D a hA u61 x2 r61) ⟨hx, hb, hml, hown, hts⟩ (cwV 2 hts (gi_V t_149 t_151 t_2 t_62 t_152) rfl rfl rfl (by decide +kernel) ⟨Nat.le_of_ble_eq_true rfl, Nat.le_of_ble_eq_true rfl⟩) (va_recv (q0 := 0) (ci := 3) (q := (R_M, F_M, 7)) hK hP rfl rfl) hP hK hS rfl hl.1 rfl (Nat.le_of_ble_eq_true rfl) d_M_runImmediate_64 (nm_s (fun u64 e64 H locs hP hS => ?_))
    refine lv_goto (tgt := 127) hx hb d_M_runImmediate_67 (by decide) ?_
    subst hQ
    exact rt_v hx hb hr hlk (by simp only [C_M_runImmediate, if_neg h1_0, if_pos h1_1, ← e56, ← e61, ← f61, ← e64]) hP hS d_M_runImmediate_127
  by_cases h1_2 : x1 = 2
  · refine lv_tableIn (off := 69) (tgt := 70) hx hb d_M_runImmediate_1 (by rw [h1_2]; decide) (by rw [h1_2]; decide) (by rw [h1_2]; decide +kernel) (by decide) ?_
    refine lv_aload_n hx hb d_M_runImmediate_70 rfl (lv_at hl 0 rfl) ?_
    refine lv_iload_n hx hb d_M_runImmediate_71 rfl (lv_at hl 2 rfl) ?_
    refine lv_aload_n hx hb d_M_runImmediate_72 rfl (lv_at hl 0 rfl) ?_
    refine va_get (D := D) (ci := 3) (v := .ref a.2.2.2.2.1) (C := R_M) (T := F_M) (N := 7) hx hb hts (fun w h => wm (ui_M w h)) hown hK hP 0 rfl rfl 2 (by decide) (hts _ (wm t_113)) (fun _ h9 => h9) rfl d_M_runImmediate_73 ?_
    refine lv_aload_n hx hb d_M_runImmediate_76 rfl (lv_at hl 0 rfl) ?_
    refine lv_iload_n hx hb d_M_runImmediate_77 rfl (lv_at hl 2 rfl) ?_
    refine cl_V (C := R_M) (k_M_register l D a hA u0 x2) ⟨hx, hb, hml, hown, hts⟩ (cwV 1 hts (gi_V t_189 t_191 t_7 t_62 t_192) rfl rfl rfl (by decide +kernel) ⟨Nat.le_of_ble_eq_true rfl, Nat.le_of_ble_eq_true rfl⟩) (va_recv (q0 := 0) (ci := 3) (q := (R_M, F_M, 7)) hK hP rfl rfl) hP hK hS rfl hl.1 rfl (Nat.le_of_ble_eq_true rfl) d_M_runImmediate_78 (nm_i (fun r78 e78 H locs hP hS => ?_))
    refine lv_iload_n hx hb d_M_runImmediate_81 rfl (lv_at hl 3 rfl) ?_
    refine lv_iand hx hb d_M_runImmediate_82 ?_
    refine cl_V (C := R_St) (k_St_tested l D a hA u0 (r78 &&& x3)) ⟨hx, hb, hml, hown, hts⟩ (cwV 1 hts (gi_V t_242 t_243 t_244 t_65 t_245) rfl rfl rfl (by decide +kernel) ⟨Nat.le_of_ble_eq_true rfl, Nat.le_of_ble_eq_true rfl⟩) (va_recv (q0 := 4) (ci := 2) (q := (R_St, F_St, 1)) hK hP rfl rfl) hP hK hS rfl hl.1 rfl (Nat.le_of_ble_eq_true rfl) d_M_runImmediate_83 (nm_is (fun r83 u83 e83 f83 H locs hP hS => ?_))
    refine cl_V (C := R_M) (k_M_setRegister l D a hA u83 x2 r83) ⟨hx, hb, hml, hown, hts⟩ (cwV 2 hts (gi_V t_149 t_151 t_2 t_62 t_152) rfl rfl rfl (by decide +kernel) ⟨Nat.le_of_ble_eq_true rfl, Nat.le_of_ble_eq_true rfl⟩) (va_recv (q0 := 0) (ci := 3) (q := (R_M, F_M, 7)) hK hP rfl rfl) hP hK hS rfl hl.1 rfl (Nat.le_of_ble_eq_true rfl) d_M_runImmediate_86 (nm_s (fun u86 e86 H locs hP hS => ?_))
    refine lv_goto (tgt := 127) hx hb d_M_runImmediate_89 (by decide) ?_
    subst hQ
    exact rt_v hx hb hr hlk (by simp only [C_M_runImmediate, if_neg h1_0, if_neg h1_1, if_pos h1_2, ← e78, ← e83, ← f83, ← e86]) hP hS d_M_runImmediate_127
  by_cases h1_3 : x1 = 3
  · refine lv_tableIn (off := 91) (tgt := 92) hx hb d_M_runImmediate_1 (by rw [h1_3]; decide) (by rw [h1_3]; decide) (by rw [h1_3]; decide +kernel) (by decide) ?_
    refine lv_aload_n hx hb d_M_runImmediate_92 rfl (lv_at hl 0 rfl) ?_
    refine lv_iload_n hx hb d_M_runImmediate_93 rfl (lv_at hl 2 rfl) ?_
    refine lv_aload_n hx hb d_M_runImmediate_94 rfl (lv_at hl 0 rfl) ?_
    refine va_get (D := D) (ci := 3) (v := .ref a.2.2.2.2.1) (C := R_M) (T := F_M) (N := 7) hx hb hts (fun w h => wm (ui_M w h)) hown hK hP 0 rfl rfl 2 (by decide) (hts _ (wm t_113)) (fun _ h9 => h9) rfl d_M_runImmediate_95 ?_
    refine lv_aload_n hx hb d_M_runImmediate_98 rfl (lv_at hl 0 rfl) ?_
    refine lv_iload_n hx hb d_M_runImmediate_99 rfl (lv_at hl 2 rfl) ?_
    refine cl_V (C := R_M) (k_M_register l D a hA u0 x2) ⟨hx, hb, hml, hown, hts⟩ (cwV 1 hts (gi_V t_189 t_191 t_7 t_62 t_192) rfl rfl rfl (by decide +kernel) ⟨Nat.le_of_ble_eq_true rfl, Nat.le_of_ble_eq_true rfl⟩) (va_recv (q0 := 0) (ci := 3) (q := (R_M, F_M, 7)) hK hP rfl rfl) hP hK hS rfl hl.1 rfl (Nat.le_of_ble_eq_true rfl) d_M_runImmediate_100 (nm_i (fun r100 e100 H locs hP hS => ?_))
    refine lv_iload_n hx hb d_M_runImmediate_103 rfl (lv_at hl 3 rfl) ?_
    refine lv_ior hx hb d_M_runImmediate_104 ?_
    refine cl_V (C := R_St) (k_St_tested l D a hA u0 (r100 ||| x3)) ⟨hx, hb, hml, hown, hts⟩ (cwV 1 hts (gi_V t_242 t_243 t_244 t_65 t_245) rfl rfl rfl (by decide +kernel) ⟨Nat.le_of_ble_eq_true rfl, Nat.le_of_ble_eq_true rfl⟩) (va_recv (q0 := 4) (ci := 2) (q := (R_St, F_St, 1)) hK hP rfl rfl) hP hK hS rfl hl.1 rfl (Nat.le_of_ble_eq_true rfl) d_M_runImmediate_105 (nm_is (fun r105 u105 e105 f105 H locs hP hS => ?_))
    refine cl_V (C := R_M) (k_M_setRegister l D a hA u105 x2 r105) ⟨hx, hb, hml, hown, hts⟩ (cwV 2 hts (gi_V t_149 t_151 t_2 t_62 t_152) rfl rfl rfl (by decide +kernel) ⟨Nat.le_of_ble_eq_true rfl, Nat.le_of_ble_eq_true rfl⟩) (va_recv (q0 := 0) (ci := 3) (q := (R_M, F_M, 7)) hK hP rfl rfl) hP hK hS rfl hl.1 rfl (Nat.le_of_ble_eq_true rfl) d_M_runImmediate_108 (nm_s (fun u108 e108 H locs hP hS => ?_))
    refine lv_goto (tgt := 127) hx hb d_M_runImmediate_111 (by decide) ?_
    subst hQ
    exact rt_v hx hb hr hlk (by simp only [C_M_runImmediate, if_neg h1_0, if_neg h1_1, if_neg h1_2, if_pos h1_3, ← e100, ← e105, ← f105, ← e108]) hP hS d_M_runImmediate_127
  have n1_0 := lv_neT h1_0 (a := 0) (by decide)
  have n1_1 := lv_neT h1_1 (a := 1) (by decide)
  have n1_2 := lv_neT h1_2 (a := 2) (by decide)
  have n1_3 := lv_neT h1_3 (a := 3) (by decide)
  refine lv_tableOut (tgt := 114) hx hb d_M_runImmediate_1 (by omega) (by decide) ?_
  refine lv_aload_n hx hb d_M_runImmediate_114 rfl (lv_at hl 0 rfl) ?_
  refine va_get (D := D) (ci := 3) (v := .ref a.2.2.2.2.1) (C := R_M) (T := F_M) (N := 7) hx hb hts (fun w h => wm (ui_M w h)) hown hK hP 0 rfl rfl 2 (by decide) (hts _ (wm t_113)) (fun _ h9 => h9) rfl d_M_runImmediate_115 ?_
  refine lv_aload_n hx hb d_M_runImmediate_118 rfl (lv_at hl 0 rfl) ?_
  refine lv_iload_n hx hb d_M_runImmediate_119 rfl (lv_at hl 2 rfl) ?_
  refine cl_V (C := R_M) (k_M_register l D a hA u0 x2) ⟨hx, hb, hml, hown, hts⟩ (cwV 1 hts (gi_V t_189 t_191 t_7 t_62 t_192) rfl rfl rfl (by decide +kernel) ⟨Nat.le_of_ble_eq_true rfl, Nat.le_of_ble_eq_true rfl⟩) (va_recv (q0 := 0) (ci := 3) (q := (R_M, F_M, 7)) hK hP rfl rfl) hP hK hS rfl hl.1 rfl (Nat.le_of_ble_eq_true rfl) d_M_runImmediate_120 (nm_i (fun r120 e120 H locs hP hS => ?_))
  refine lv_iload_n hx hb d_M_runImmediate_123 rfl (lv_at hl 3 rfl) ?_
  refine cl_V (C := R_St) (k_St_compare l D a hA u0 r120 x3) ⟨hx, hb, hml, hown, hts⟩ (cwV 2 hts (gi_V t_218 t_219 t_220 t_65 t_221) rfl rfl rfl (by decide +kernel) ⟨Nat.le_of_ble_eq_true rfl, Nat.le_of_ble_eq_true rfl⟩) (va_recv (q0 := 4) (ci := 2) (q := (R_St, F_St, 1)) hK hP rfl rfl) hP hK hS rfl hl.1 rfl (Nat.le_of_ble_eq_true rfl) d_M_runImmediate_124 (nm_s (fun u124 e124 H locs hP hS => ?_))
  subst hQ
  exact rt_v hx hb hr hlk (by simp only [C_M_runImmediate, if_neg h1_0, if_neg h1_1, if_neg h1_2, if_neg h1_3, ← e120, ← e124]) hP hS d_M_runImmediate_127
set_option maxHeartbeats 4000000 in
set_option maxRecDepth 100000 in
theorem k_St_setBits (l : Launch) (D : va_G) (a : CAd) (hA : ApC a) (u0 : CSt) (x1 : Int32) : MC kl (cw a) (FA a) (tyC a) l D y_St_setBits b_St_setBits 2 none rm_St_setBits [.ref a.2.2.2.2.1, .int x1] u0 none (C_St_setBits u0 x1) := by
  refine MC.mk (by decide) (Nat.le_of_ble_eq_true rfl) ?_
  intro p e s m below meth c ls Q args H locs hx hb hr hml hown hts hlk hl hP hK hS hQ
  have hown : s.vm.findClass R_St = some m.cls := hown
  have hl : lv_has ls 2 [(0, .ref a.2.2.2.2.1), (1, .int x1)] := hl
  refine lv_aload_n hx hb d_St_setBits_0 rfl (lv_at hl 0 rfl) ?_
  refine lv_iload_n hx hb d_St_setBits_1 rfl (lv_at hl 1 rfl) ?_
  refine va_put (D := D) (ci := 2) (v := .int x1) (ty := .int) (C := R_St) (T := F_St) (N := 1) hx hb hts (fun w h => wm (ui_St w h)) ft_St ft_St_ok fn_St hown hK hP (dd_C hA _) hS 4 rfl rfl 0 (by decide) (hts _ (wm t_107)) (fun _ h9 => h9) rfl (by decide +kernel) rfl rfl (Nat.le_of_ble_eq_true rfl) d_St_setBits_2 (fun H locs hP _ hS => ?_)
  have hP : va_P D kl (cw a (u0.1, u0.2.1, x1, u0.2.2.2.1, u0.2.2.2.2.1, u0.2.2.2.2.2.1, u0.2.2.2.2.2.2)) H := hP
  subst hQ
  exact rt_v hx hb hr hlk (by simp only [C_St_setBits]) hP hS d_St_setBits_5
set_option maxHeartbeats 4000000 in
set_option maxRecDepth 100000 in
theorem k_M_switchBack (l : Launch) (D : va_G) (a : CAd) (hA : ApC a) (u0 : CSt) : MC kl (cw a) (FA a) (tyC a) l D y_M_switchBack b_M_switchBack 1 none rm_M_switchBack [.ref a.1] u0 none (C_M_switchBack u0) := by
  refine MC.mk (by decide) (Nat.le_of_ble_eq_true rfl) ?_
  intro p e s m below meth c ls Q args H locs hx hb hr hml hown hts hlk hl hP hK hS hQ
  have hown : s.vm.findClass R_M = some m.cls := hown
  have hl : lv_has ls 1 [(0, .ref a.1)] := hl
  refine lv_aload_n hx hb d_M_switchBack_0 rfl (lv_at hl 0 rfl) ?_
  refine va_get (D := D) (ci := 3) (v := .ref a.2.2.2.2.1) (C := R_M) (T := F_M) (N := 7) hx hb hts (fun w h => wm (ui_M w h)) hown hK hP 0 rfl rfl 2 (by decide) (hts _ (wm t_113)) (fun _ h9 => h9) rfl d_M_switchBack_1 ?_
  refine lv_aload_n hx hb d_M_switchBack_4 rfl (lv_at hl 0 rfl) ?_
  refine lv_bipush (v := 15) hx hb d_M_switchBack_5 (by decide) ?_
  refine cl_V (C := R_M) (k_M_register l D a hA u0 15) ⟨hx, hb, hml, hown, hts⟩ (cwV 1 hts (gi_V t_189 t_191 t_7 t_62 t_192) rfl rfl rfl (by decide +kernel) ⟨Nat.le_of_ble_eq_true rfl, Nat.le_of_ble_eq_true rfl⟩) (va_recv (q0 := 0) (ci := 3) (q := (R_M, F_M, 7)) hK hP rfl rfl) hP hK hS rfl hl.1 rfl (Nat.le_of_ble_eq_true rfl) d_M_switchBack_7 (nm_i (fun r7 e7 H locs hP hS => ?_))
  refine cl_V (C := R_St) (k_St_setBits l D a hA u0 r7) ⟨hx, hb, hml, hown, hts⟩ (cwV 1 hts (gi_V t_360 t_361 t_362 t_65 t_363) rfl rfl rfl (by decide +kernel) ⟨Nat.le_of_ble_eq_true rfl, Nat.le_of_ble_eq_true rfl⟩) (va_recv (q0 := 4) (ci := 2) (q := (R_St, F_St, 1)) hK hP rfl rfl) hP hK hS rfl hl.1 rfl (Nat.le_of_ble_eq_true rfl) d_M_switchBack_10 (nm_s (fun u10 e10 H locs hP hS => ?_))
  refine lv_aload_n hx hb d_M_switchBack_13 rfl (lv_at hl 0 rfl) ?_
  refine lv_aload_n hx hb d_M_switchBack_14 rfl (lv_at hl 0 rfl) ?_
  refine lv_bipush (v := 14) hx hb d_M_switchBack_15 (by decide) ?_
  refine cl_V (C := R_M) (k_M_register l D a hA u10 14) ⟨hx, hb, hml, hown, hts⟩ (cwV 1 hts (gi_V t_189 t_191 t_7 t_62 t_192) rfl rfl rfl (by decide +kernel) ⟨Nat.le_of_ble_eq_true rfl, Nat.le_of_ble_eq_true rfl⟩) (va_recv (q0 := 0) (ci := 3) (q := (R_M, F_M, 7)) hK hP rfl rfl) hP hK hS rfl hl.1 rfl (Nat.le_of_ble_eq_true rfl) d_M_switchBack_17 (nm_i (fun r17 e17 H locs hP hS => ?_))
  refine cl_V (C := R_M) (k_M_setCounter l D a hA u10 r17) ⟨hx, hb, hml, hown, hts⟩ (cwV 1 hts (gi_V t_165 t_167 t_4 t_62 t_168) rfl rfl rfl (by decide +kernel) ⟨Nat.le_of_ble_eq_true rfl, Nat.le_of_ble_eq_true rfl⟩) (va_recv (q0 := 0) (ci := 3) (q := (R_M, F_M, 7)) hK hP rfl rfl) hP hK hS rfl hl.1 rfl (Nat.le_of_ble_eq_true rfl) d_M_switchBack_20 (nm_s (fun u20 e20 H locs hP hS => ?_))
  refine lv_aload_n hx hb d_M_switchBack_23 rfl (lv_at hl 0 rfl) ?_
  refine lv_aload_n hx hb d_M_switchBack_24 rfl (lv_at hl 0 rfl) ?_
  refine lv_bipush (v := 13) hx hb d_M_switchBack_25 (by decide) ?_
  refine cl_V (C := R_M) (k_M_register l D a hA u20 13) ⟨hx, hb, hml, hown, hts⟩ (cwV 1 hts (gi_V t_189 t_191 t_7 t_62 t_192) rfl rfl rfl (by decide +kernel) ⟨Nat.le_of_ble_eq_true rfl, Nat.le_of_ble_eq_true rfl⟩) (va_recv (q0 := 0) (ci := 3) (q := (R_M, F_M, 7)) hK hP rfl rfl) hP hK hS rfl hl.1 rfl (Nat.le_of_ble_eq_true rfl) d_M_switchBack_27 (nm_i (fun r27 e27 H locs hP hS => ?_))
  refine cl_V (C := R_M) (k_M_setWorkspace l D a hA u20 r27) ⟨hx, hb, hml, hown, hts⟩ (cwV 1 hts (gi_V t_145 t_147 t_1 t_62 t_148) rfl rfl rfl (by decide +kernel) ⟨Nat.le_of_ble_eq_true rfl, Nat.le_of_ble_eq_true rfl⟩) (va_recv (q0 := 0) (ci := 3) (q := (R_M, F_M, 7)) hK hP rfl rfl) hP hK hS rfl hl.1 rfl (Nat.le_of_ble_eq_true rfl) d_M_switchBack_30 (nm_s (fun u30 e30 H locs hP hS => ?_))
  subst hQ
  exact rt_v hx hb hr hlk (by simp only [C_M_switchBack, ← e7, ← e10, ← e17, ← e20, ← e27, ← e30]) hP hS d_M_switchBack_33
set_option maxHeartbeats 4000000 in
set_option maxRecDepth 100000 in
theorem k_M_runImmediateOrControl (l : Launch) (D : va_G) (a : CAd) (hA : ApC a) (u0 : CSt) (x1 : Int32) : MC kl (cw a) (FA a) (tyC a) l D y_M_runImmediateOrControl b_M_runImmediateOrControl 4 (some .int) rm_M_runImmediateOrControl [.ref a.1, .int x1] u0 (some (.int (C_M_runImmediateOrControl u0 x1).1)) (C_M_runImmediateOrControl u0 x1).2 := by
  refine MC.mk (by decide) (Nat.le_of_ble_eq_true rfl) ?_
  intro p e s m below meth c ls Q args H locs hx hb hr hml hown hts hlk hl hP hK hS hQ
  have hown : s.vm.findClass R_M = some m.cls := hown
  have hl : lv_has ls 4 [(0, .ref a.1), (1, .int x1)] := hl
  refine lv_iload_n hx hb d_M_runImmediateOrControl_0 rfl (lv_at hl 1 rfl) ?_
  refine lv_iconst (v := 5) hx hb d_M_runImmediateOrControl_1 (by decide) ?_
  refine lv_ishr hx hb d_M_runImmediateOrControl_2 ?_
  refine lv_bipush (v := 15) hx hb d_M_runImmediateOrControl_3 (by decide) ?_
  refine lv_iand hx hb d_M_runImmediateOrControl_5 ?_
  refine lv_istore_n hx hb d_M_runImmediateOrControl_6 rfl hl (by decide) rfl (fun ls hl => ?_)
  have hl : lv_has ls 4 [(2, .int ((x1 >>> ((5 : Int32) &&& 31)) &&& 15)), (0, .ref a.1), (1, .int x1)] := hl
  refine lv_iload_n hx hb d_M_runImmediateOrControl_7 rfl (lv_at hl 2 rfl) ?_
  refine lv_bipush (v := 15) hx hb d_M_runImmediateOrControl_8 (by decide) ?_
  refine lv_iand hx hb d_M_runImmediateOrControl_10 ?_
  refine lv_istore_n hx hb d_M_runImmediateOrControl_11 rfl hl (by decide) rfl (fun ls hl => ?_)
  have hl : lv_has ls 4 [(3, .int (x1 &&& 15)), (2, .int ((x1 >>> ((5 : Int32) &&& 31)) &&& 15)), (0, .ref a.1), (1, .int x1)] := hl
  refine lv_iload_n hx hb d_M_runImmediateOrControl_12 rfl (lv_at hl 1 rfl) ?_
  refine lv_iconst (v := 4) hx hb d_M_runImmediateOrControl_13 (by decide) ?_
  refine lv_icmp_gt (tgt := 29) hx hb d_M_runImmediateOrControl_14 (by decide) (fun h14 => ?_) (fun h14 => ?_)
  · refine lv_iload_n hx hb d_M_runImmediateOrControl_29 rfl (lv_at hl 1 rfl) ?_
    by_cases h30_0 : ((x1 >>> ((5 : Int32) &&& 31)) &&& 15) = 5
    · refine lv_tableIn (off := 46) (tgt := 76) hx hb d_M_runImmediateOrControl_30 (by rw [h30_0]; decide) (by rw [h30_0]; decide) (by rw [h30_0]; decide +kernel) (by decide) ?_
      refine lv_aload_n hx hb d_M_runImmediateOrControl_76 rfl (lv_at hl 2 rfl) ?_
      refine lv_iload_n hx hb d_M_runImmediateOrControl_77 rfl (lv_at hl 0 rfl) ?_
      refine lv_aload_n hx hb d_M_runImmediateOrControl_78 rfl (lv_at hl 2 rfl) ?_
      refine va_get (D := D) (ci := 3) (v := .int u0.2.2.2.1) (C := R_M) (T := F_M) (N := 7) hx hb hts (fun w h => wm (ui_M w h)) hown hK hP 0 rfl rfl 3 (by decide) (hts _ (wm t_114)) (fun _ h9 => h9) rfl d_M_runImmediateOrControl_79 ?_
      refine cl_V (C := R_M) (k_M_setRegister l D a hA u0 (x1 &&& 15) u0.2.2.2.1) ⟨hx, hb, hml, hown, hts⟩ (cwV 2 hts (gi_V t_149 t_151 t_2 t_62 t_152) rfl rfl rfl (by decide +kernel) ⟨Nat.le_of_ble_eq_true rfl, Nat.le_of_ble_eq_true rfl⟩) (va_recv (q0 := 0) (ci := 3) (q := (R_M, F_M, 7)) hK hP rfl rfl) hP hK hS rfl hl.1 rfl (Nat.le_of_ble_eq_true rfl) d_M_runImmediateOrControl_82 (nm_s (fun u82 e82 H locs hP hS => ?_))
      refine lv_iconst (v := 0) hx hb d_M_runImmediateOrControl_85 (by decide) ?_
      have hc : (0, u82) = C_M_runImmediateOrControl u0 x1 := by simp only [C_M_runImmediateOrControl, if_pos h14, if_pos h30_0, ← e82]
      subst hQ
      exact rt_i hx hb hr hlk (congrArg Prod.fst hc) (congrArg Prod.snd hc) hP hS d_M_runImmediateOrControl_86
    by_cases h30_1 : ((x1 >>> ((5 : Int32) &&& 31)) &&& 15) = 6
    · refine lv_tableIn (off := 57) (tgt := 87) hx hb d_M_runImmediateOrControl_30 (by rw [h30_1]; decide) (by rw [h30_1]; decide) (by rw [h30_1]; decide +kernel) (by decide) ?_
      refine lv_aload_n hx hb d_M_runImmediateOrControl_87 rfl (lv_at hl 2 rfl) ?_
      refine lv_iload_n hx hb d_M_runImmediateOrControl_88 rfl (lv_at hl 0 rfl) ?_
      refine lv_aload_n hx hb d_M_runImmediateOrControl_89 rfl (lv_at hl 2 rfl) ?_
      refine va_get (D := D) (ci := 3) (v := .ref a.2.2.2.2.1) (C := R_M) (T := F_M) (N := 7) hx hb hts (fun w h => wm (ui_M w h)) hown hK hP 0 rfl rfl 2 (by decide) (hts _ (wm t_113)) (fun _ h9 => h9) rfl d_M_runImmediateOrControl_90 ?_
      refine cl_V (C := R_St) (k_St_bits l D a hA u0) ⟨hx, hb, hml, hown, hts⟩ (cwV 0 hts (gi_V t_161 t_162 t_163 t_65 t_164) rfl rfl rfl (by decide +kernel) ⟨Nat.le_of_ble_eq_true rfl, Nat.le_of_ble_eq_true rfl⟩) (va_recv (q0 := 4) (ci := 2) (q := (R_St, F_St, 1)) hK hP rfl rfl) hP hK hS rfl hl.1 rfl (Nat.le_of_ble_eq_true rfl) d_M_runImmediateOrControl_93 (nm_i (fun r93 e93 H locs hP hS => ?_))
      refine cl_V (C := R_M) (k_M_setRegister l D a hA u0 (x1 &&& 15) r93) ⟨hx, hb, hml, hown, hts⟩ (cwV 2 hts (gi_V t_149 t_151 t_2 t_62 t_152) rfl rfl rfl (by decide +kernel) ⟨Nat.le_of_ble_eq_true rfl, Nat.le_of_ble_eq_true rfl⟩) (va_recv (q0 := 0) (ci := 3) (q := (R_M, F_M, 7)) hK hP rfl rfl) hP hK hS rfl hl.1 rfl (Nat.le_of_ble_eq_true rfl) d_M_runImmediateOrControl_96 (nm_s (fun u96 e96 H locs hP hS => ?_))
      refine lv_iconst (v := 0) hx hb d_M_runImmediateOrControl_99 (by decide) ?_
      have hc : (0, u96) = C_M_runImmediateOrControl u0 x1 := by simp only [C_M_runImmediateOrControl, if_pos h14, if_neg h30_0, if_pos h30_1, ← e93, ← e96]
      subst hQ
      exact rt_i hx hb hr hlk (congrArg Prod.fst hc) (congrArg Prod.snd hc) hP hS d_M_runImmediateOrControl_100
    by_cases h30_2 : ((x1 >>> ((5 : Int32) &&& 31)) &&& 15) = 7
    · refine lv_tableIn (off := 71) (tgt := 101) hx hb d_M_runImmediateOrControl_30 (by rw [h30_2]; decide) (by rw [h30_2]; decide) (by rw [h30_2]; decide +kernel) (by decide) ?_
      refine lv_aload_n hx hb d_M_runImmediateOrControl_101 rfl (lv_at hl 2 rfl) ?_
      refine lv_aload_n hx hb d_M_runImmediateOrControl_102 rfl (lv_at hl 2 rfl) ?_
      refine cl_V (C := R_M) (k_M_fetch l D a hA u0) ⟨hx, hb, hml, hown, hts⟩ (cwV 0 hts (gi_V t_185 t_187 t_6 t_62 t_188) rfl rfl rfl (by decide +kernel) ⟨Nat.le_of_ble_eq_true rfl, Nat.le_of_ble_eq_true rfl⟩) (va_recv (q0 := 0) (ci := 3) (q := (R_M, F_M, 7)) hK hP rfl rfl) hP hK hS rfl hl.1 rfl (Nat.le_of_ble_eq_true rfl) d_M_runImmediateOrControl_103 (nm_is (fun r103 u103 e103 f103 H locs hP hS => ?_))
      refine cl_V (C := R_M) (k_M_setWorkspace l D a hA u103 r103) ⟨hx, hb, hml, hown, hts⟩ (cwV 1 hts (gi_V t_145 t_147 t_1 t_62 t_148) rfl rfl rfl (by decide +kernel) ⟨Nat.le_of_ble_eq_true rfl, Nat.le_of_ble_eq_true rfl⟩) (va_recv (q0 := 0) (ci := 3) (q := (R_M, F_M, 7)) hK hP rfl rfl) hP hK hS rfl hl.1 rfl (Nat.le_of_ble_eq_true rfl) d_M_runImmediateOrControl_106 (nm_s (fun u106 e106 H locs hP hS => ?_))
      refine lv_iconst (v := 0) hx hb d_M_runImmediateOrControl_109 (by decide) ?_
      have hc : (0, u106) = C_M_runImmediateOrControl u0 x1 := by simp only [C_M_runImmediateOrControl, if_pos h14, if_neg h30_0, if_neg h30_1, if_pos h30_2, ← e103, ← f103, ← e106]
      subst hQ
      exact rt_i hx hb hr hlk (congrArg Prod.fst hc) (congrArg Prod.snd hc) hP hS d_M_runImmediateOrControl_110
    by_cases h30_3 : ((x1 >>> ((5 : Int32) &&& 31)) &&& 15) = 8
    · refine lv_tableIn (off := 81) (tgt := 111) hx hb d_M_runImmediateOrControl_30 (by rw [h30_3]; decide) (by rw [h30_3]; decide) (by rw [h30_3]; decide +kernel) (by decide) ?_
      refine lv_aload_n hx hb d_M_runImmediateOrControl_111 rfl (lv_at hl 2 rfl) ?_
      refine va_get (D := D) (ci := 3) (v := .ref a.2.2.2.2.1) (C := R_M) (T := F_M) (N := 7) hx hb hts (fun w h => wm (ui_M w h)) hown hK hP 0 rfl rfl 2 (by decide) (hts _ (wm t_113)) (fun _ h9 => h9) rfl d_M_runImmediateOrControl_112 ?_
      refine lv_aload_n hx hb d_M_runImmediateOrControl_115 rfl (lv_at hl 2 rfl) ?_
      refine cl_V (C := R_M) (k_M_fetch l D a hA u0) ⟨hx, hb, hml, hown, hts⟩ (cwV 0 hts (gi_V t_185 t_187 t_6 t_62 t_188) rfl rfl rfl (by decide +kernel) ⟨Nat.le_of_ble_eq_true rfl, Nat.le_of_ble_eq_true rfl⟩) (va_recv (q0 := 0) (ci := 3) (q := (R_M, F_M, 7)) hK hP rfl rfl) hP hK hS rfl hl.1 rfl (Nat.le_of_ble_eq_true rfl) d_M_runImmediateOrControl_116 (nm_is (fun r116 u116 e116 f116 H locs hP hS => ?_))
      refine cl_V (C := R_St) (k_St_setMask l D a hA u116 r116) ⟨hx, hb, hml, hown, hts⟩ (cwV 1 hts (gi_V t_169 t_170 t_171 t_65 t_172) rfl rfl rfl (by decide +kernel) ⟨Nat.le_of_ble_eq_true rfl, Nat.le_of_ble_eq_true rfl⟩) (va_recv (q0 := 4) (ci := 2) (q := (R_St, F_St, 1)) hK hP rfl rfl) hP hK hS rfl hl.1 rfl (Nat.le_of_ble_eq_true rfl) d_M_runImmediateOrControl_119 (nm_s (fun u119 e119 H locs hP hS => ?_))
      refine lv_iconst (v := 0) hx hb d_M_runImmediateOrControl_122 (by decide) ?_
      have hc : (0, u119) = C_M_runImmediateOrControl u0 x1 := by simp only [C_M_runImmediateOrControl, if_pos h14, if_neg h30_0, if_neg h30_1, if_neg h30_2, if_pos h30_3, ← e116, ← f116, ← e119]
      subst hQ
      exact rt_i hx hb hr hlk (congrArg Prod.fst hc) (congrArg Prod.snd hc) hP hS d_M_runImmediateOrControl_123
    by_cases h30_4 : ((x1 >>> ((5 : Int32) &&& 31)) &&& 15) = 9
    · refine lv_tableIn (off := 94) (tgt := 124) hx hb d_M_runImmediateOrControl_30 (by rw [h30_4]; decide) (by rw [h30_4]; decide) (by rw [h30_4]; decide +kernel) (by decide) ?_
      refine lv_iconst (v := 2) hx hb d_M_runImmediateOrControl_124 (by decide) ?_
      have hc : (2, u0) = C_M_runImmediateOrControl u0 x1 := by simp only [C_M_runImmediateOrControl, if_pos h14, if_neg h30_0, if_neg h30_1, if_neg h30_2, if_neg h30_3, if_pos h30_4]
      subst hQ
      exact rt_i hx hb hr hlk (congrArg Prod.fst hc) (congrArg Prod.snd hc) hP hS d_M_runImmediateOrControl_125
    by_cases h30_5 : ((x1 >>> ((5 : Int32) &&& 31)) &&& 15) = 10
    · refine lv_tableIn (off := 96) (tgt := 126) hx hb d_M_runImmediateOrControl_30 (by rw [h30_5]; decide) (by rw [h30_5]; decide) (by rw [h30_5]; decide +kernel) (by decide) ?_
      refine lv_aload_n hx hb d_M_runImmediateOrControl_126 rfl (lv_at hl 2 rfl) ?_
      refine lv_iconst (v := 1) hx hb d_M_runImmediateOrControl_127 (by decide) ?_
      refine va_put (D := D) (ci := 3) (v := .int 1) (ty := .boolean) (C := R_M) (T := F_M) (N := 7) hx hb hts (fun w h => wm (ui_M w h)) ft_M ft_M_ok fn_M hown hK hP (dd_C hA _) hS 0 rfl rfl 6 (by decide) (hts _ (wm t_117)) (fun _ h9 => h9) rfl (by decide +kernel) rfl rfl (Nat.le_of_ble_eq_true rfl) d_M_runImmediateOrControl_128 (fun H locs hP _ hS => ?_)
      have hP : va_P D kl (cw a (u0.1, u0.2.1, u0.2.2.1, u0.2.2.2.1, u0.2.2.2.2.1, u0.2.2.2.2.2.1, 1)) H := hP
      refine lv_iconst (v := 1) hx hb d_M_runImmediateOrControl_131 (by decide) ?_
      have hc : (1, (u0.1, u0.2.1, u0.2.2.1, u0.2.2.2.1, u0.2.2.2.2.1, u0.2.2.2.2.2.1, 1)) = C_M_runImmediateOrControl u0 x1 := by simp only [C_M_runImmediateOrControl, if_pos h14, if_neg h30_0, if_neg h30_1, if_neg h30_2, if_neg h30_3, if_neg h30_4, if_pos h30_5]
      subst hQ
      exact rt_i hx hb hr hlk (congrArg Prod.fst hc) (congrArg Prod.snd hc) hP hS d_M_runImmediateOrControl_132
    by_cases h30_6 : ((x1 >>> ((5 : Int32) &&& 31)) &&& 15) = 11
    · refine lv_tableIn (off := 103) (tgt := 133) hx hb d_M_runImmediateOrControl_30 (by rw [h30_6]; decide) (by rw [h30_6]; decide) (by rw [h30_6]; decide +kernel) (by decide) ?_
      refine lv_aload_n hx hb d_M_runImmediateOrControl_133 rfl (lv_at hl 2 rfl) ?_
      refine va_get (D := D) (ci := 3) (v := .ref a.2.2.2.2.1) (C := R_M) (T := F_M) (N := 7) hx hb hts (fun w h => wm (ui_M w h)) hown hK hP 0 rfl rfl 2 (by decide) (hts _ (wm t_113)) (fun _ h9 => h9) rfl d_M_runImmediateOrControl_134 ?_
      refine lv_iconst (v := 0) hx hb d_M_runImmediateOrControl_137 (by decide) ?_
      refine cl_V (C := R_St) (k_St_setMask l D a hA u0 0) ⟨hx, hb, hml, hown, hts⟩ (cwV 1 hts (gi_V t_169 t_170 t_171 t_65 t_172) rfl rfl rfl (by decide +kernel) ⟨Nat.le_of_ble_eq_true rfl, Nat.le_of_ble_eq_true rfl⟩) (va_recv (q0 := 4) (ci := 2) (q := (R_St, F_St, 1)) hK hP rfl rfl) hP hK hS rfl hl.1 rfl (Nat.le_of_ble_eq_true rfl) d_M_runImmediateOrControl_138 (nm_s (fun u138 e138 H locs hP hS => ?_))
      refine lv_iconst (v := 0) hx hb d_M_runImmediateOrControl_141 (by decide) ?_
      have hc : (0, u138) = C_M_runImmediateOrControl u0 x1 := by simp only [C_M_runImmediateOrControl, if_pos h14, if_neg h30_0, if_neg h30_1, if_neg h30_2, if_neg h30_3, if_neg h30_4, if_neg h30_5, if_pos h30_6, ← e138]
      subst hQ
      exact rt_i hx hb hr hlk (congrArg Prod.fst hc) (congrArg Prod.snd hc) hP hS d_M_runImmediateOrControl_142
    by_cases h30_7 : ((x1 >>> ((5 : Int32) &&& 31)) &&& 15) = 12
    · refine lv_tableIn (off := 113) (tgt := 143) hx hb d_M_runImmediateOrControl_30 (by rw [h30_7]; decide) (by rw [h30_7]; decide) (by rw [h30_7]; decide +kernel) (by decide) ?_
      refine lv_aload_n hx hb d_M_runImmediateOrControl_143 rfl (lv_at hl 2 rfl) ?_
      refine cl_V (C := R_M) (k_M_switchBack l D a hA u0) ⟨hx, hb, hml, hown, hts⟩ (cwV 0 hts (gi_V t_356 t_358 t_30 t_62 t_359) rfl rfl rfl (by decide +kernel) ⟨Nat.le_of_ble_eq_true rfl, Nat.le_of_ble_eq_true rfl⟩) (va_recv (q0 := 0) (ci := 3) (q := (R_M, F_M, 7)) hK hP rfl rfl) hP hK hS rfl hl.1 rfl (Nat.le_of_ble_eq_true rfl) d_M_runImmediateOrControl_144 (nm_s (fun u144 e144 H locs hP hS => ?_))
      refine lv_iconst (v := 0) hx hb d_M_runImmediateOrControl_147 (by decide) ?_
      have hc : (0, u144) = C_M_runImmediateOrControl u0 x1 := by simp only [C_M_runImmediateOrControl, if_pos h14, if_neg h30_0, if_neg h30_1, if_neg h30_2, if_neg h30_3, if_neg h30_4, if_neg h30_5, if_neg h30_6, if_pos h30_7, ← e144]
      subst hQ
      exact rt_i hx hb hr hlk (congrArg Prod.fst hc) (congrArg Prod.snd hc) hP hS d_M_runImmediateOrControl_148
    have n30_0 := lv_neT h30_0 (a := 5) (by decide)
    have n30_1 := lv_neT h30_1 (a := 6) (by decide)
    have n30_2 := lv_neT h30_2 (a := 7) (by decide)
    have n30_3 := lv_neT h30_3 (a := 8) (by decide)
    have n30_4 := lv_neT h30_4 (a := 9) (by decide)
    have n30_5 := lv_neT h30_5 (a := 10) (by decide)
    have n30_6 := lv_neT h30_6 (a := 11) (by decide)
    have n30_7 := lv_neT h30_7 (a := 12) (by decide)
    refine lv_tableOut (tgt := 149) hx hb d_M_runImmediateOrControl_30 (by omega) (by decide) ?_
    refine lv_iconst (v := 0) hx hb d_M_runImmediateOrControl_149 (by decide) ?_
    have hc : (0, u0) = C_M_runImmediateOrControl u0 x1 := by simp only [C_M_runImmediateOrControl, if_pos h14, if_neg h30_0, if_neg h30_1, if_neg h30_2, if_neg h30_3, if_neg h30_4, if_neg h30_5, if_neg h30_6, if_neg h30_7]
    subst hQ
    exact rt_i hx hb hr hlk (congrArg Prod.fst hc) (congrArg Prod.snd hc) hP hS d_M_runImmediateOrControl_150
  refine lv_aload_n hx hb d_M_runImmediateOrControl_17 rfl (lv_at hl 2 rfl) ?_
  refine lv_iload_n hx hb d_M_runImmediateOrControl_18 rfl (lv_at hl 1 rfl) ?_
  refine lv_iload_n hx hb d_M_runImmediateOrControl_19 rfl (lv_at hl 0 rfl) ?_
  refine lv_aload_n hx hb d_M_runImmediateOrControl_20 rfl (lv_at hl 2 rfl) ?_
  refine cl_V (C := R_M) (k_M_fetch l D a hA u0) ⟨hx, hb, hml, hown, hts⟩ (cwV 0 hts (gi_V t_185 t_187 t_6 t_62 t_188) rfl rfl rfl (by decide +kernel) ⟨Nat.le_of_ble_eq_true rfl, Nat.le_of_ble_eq_true rfl⟩) (va_recv (q0 := 0) (ci := 3) (q := (R_M, F_M, 7)) hK hP rfl rfl) hP hK hS rfl hl.1 rfl (Nat.le_of_ble_eq_true rfl) d_M_runImmediateOrControl_21 (nm_is (fun r21 u21 e21 f21 H locs hP hS => ?_))
  refine cl_V (C := R_M) (k_M_runImmediate l D a hA u21 ((x1 >>> ((5 : Int32) &&& 31)) &&& 15) (x1 &&& 15) r21) ⟨hx, hb, hml, hown, hts⟩ (cwV 3 hts (gi_V t_352 t_354 t_29 t_62 t_355) rfl rfl rfl (by decide +kernel) ⟨Nat.le_of_ble_eq_true rfl, Nat.le_of_ble_eq_true rfl⟩) (va_recv (q0 := 0) (ci := 3) (q := (R_M, F_M, 7)) hK hP rfl rfl) hP hK hS rfl hl.1 rfl (Nat.le_of_ble_eq_true rfl) d_M_runImmediateOrControl_24 (nm_s (fun u24 e24 H locs hP hS => ?_))
  refine lv_iconst (v := 0) hx hb d_M_runImmediateOrControl_27 (by decide) ?_
  have hc : (0, u24) = C_M_runImmediateOrControl u0 x1 := by simp only [C_M_runImmediateOrControl, if_neg h14, ← e21, ← f21, ← e24]
  subst hQ
  exact rt_i hx hb hr hlk (congrArg Prod.fst hc) (congrArg Prod.snd hc) hP hS d_M_runImmediateOrControl_28
set_option maxHeartbeats 4000000 in
set_option maxRecDepth 100000 in
theorem k_M_run (l : Launch) (D : va_G) (a : CAd) (hA : ApC a) (u0 : CSt) (x1 : Int32) (hI : ∀ j, 0 ≤ u0.1 j) : MC kl (cw a) (FA a) (tyC a) l D y_M_run b_M_run 2 (some .int) rm_M_run [.ref a.1, .int x1] u0 (some (.int (C_M_run u0 x1).1)) (C_M_run u0 x1).2 := by
  refine MC.mk (by decide) (Nat.le_of_ble_eq_true rfl) ?_
  intro p e s m below meth c ls Q args H locs hx hb hr hml hown hts hlk hl hP hK hS hQ
  have hown : s.vm.findClass R_M = some m.cls := hown
  have hl : lv_has ls 2 [(0, .ref a.1), (1, .int x1)] := hl
  refine lv_iload_n hx hb d_M_run_0 rfl (lv_at hl 1 rfl) ?_
  refine lv_sipush (v := 16384) hx hb d_M_run_1 (by decide) ?_
  refine lv_icmp_lt (tgt := 13) hx hb d_M_run_4 (by decide) (fun h4 => ?_) (fun h4 => ?_)
  · refine lv_iload_n hx hb d_M_run_13 rfl (lv_at hl 1 rfl) ?_
    refine lv_sipush (v := 8192) hx hb d_M_run_14 (by decide) ?_
    refine lv_icmp_lt (tgt := 26) hx hb d_M_run_17 (by decide) (fun h17 => ?_) (fun h17 => ?_)
    · refine lv_iload_n hx hb d_M_run_26 rfl (lv_at hl 1 rfl) ?_
      refine lv_sipush (v := 4096) hx hb d_M_run_27 (by decide) ?_
      refine lv_icmp_lt (tgt := 54) hx hb d_M_run_30 (by decide) (fun h30 => ?_) (fun h30 => ?_)
      · refine lv_iload_n hx hb d_M_run_54 rfl (lv_at hl 1 rfl) ?_
        refine lv_sipush (v := 2048) hx hb d_M_run_55 (by decide) ?_
        refine lv_icmp_lt (tgt := 78) hx hb d_M_run_58 (by decide) (fun h58 => ?_) (fun h58 => ?_)
        · refine lv_iload_n hx hb d_M_run_78 rfl (lv_at hl 1 rfl) ?_
          refine cl_S (k_M_isExecute l D a hA u0 x1) ⟨hx, hb, hml, hown, hts⟩ (va_cwS 1 hts (gi_S t_193 t_194 t_62 t_195) rfl rfl rfl (by decide +kernel) ⟨Nat.le_of_ble_eq_true rfl, Nat.le_of_ble_eq_true rfl⟩) hP hK hS rfl hl.1 rfl (Nat.le_of_ble_eq_true rfl) d_M_run_79 (nm_i (fun r79 e79 H locs hP hS => ?_))
          refine lv_if_eq (tgt := 87) hx hb d_M_run_82 (by decide) (fun h82 => ?_) (fun h82 => ?_)
          · refine lv_iload_n hx hb d_M_run_87 rfl (lv_at hl 1 rfl) ?_
            refine lv_sipush (v := 1024) hx hb d_M_run_88 (by decide) ?_
            refine lv_icmp_lt (tgt := 111) hx hb d_M_run_91 (by decide) (fun h91 => ?_) (fun h91 => ?_)
            · refine lv_iload_n hx hb d_M_run_111 rfl (lv_at hl 1 rfl) ?_
              refine lv_sipush (v := 512) hx hb d_M_run_112 (by decide) ?_
              refine lv_icmp_lt (tgt := 133) hx hb d_M_run_115 (by decide) (fun h115 => ?_) (fun h115 => ?_)
              · refine lv_iconst (v := 2) hx hb d_M_run_133 (by decide) ?_
                have hc : (2, u0) = C_M_run u0 x1 := by simp only [C_M_run, if_pos h4, if_pos h17, if_pos h30, if_pos h58, ← e79, if_pos h82, if_pos h91, if_pos h115]
                subst hQ
                exact rt_i hx hb hr hlk (congrArg Prod.fst hc) (congrArg Prod.snd hc) hP hS d_M_run_134
              refine lv_iload_n hx hb d_M_run_118 rfl (lv_at hl 1 rfl) ?_
              refine lv_bipush (v := 16) hx hb d_M_run_119 (by decide) ?_
              refine lv_iand hx hb d_M_run_121 ?_
              refine lv_if_ne (tgt := 133) hx hb d_M_run_122 (by decide) (fun h122 => ?_) (fun h122 => ?_)
              · refine lv_iconst (v := 2) hx hb d_M_run_133 (by decide) ?_
                have hc : (2, u0) = C_M_run u0 x1 := by simp only [C_M_run, if_pos h4, if_pos h17, if_pos h30, if_pos h58, ← e79, if_pos h82, if_pos h91, if_neg h115, if_neg h122]
                subst hQ
                exact rt_i hx hb hr hlk (congrArg Prod.fst hc) (congrArg Prod.snd hc) hP hS d_M_run_134
              refine lv_aload_n hx hb d_M_run_125 rfl (lv_at hl 0 rfl) ?_
              refine lv_iload_n hx hb d_M_run_126 rfl (lv_at hl 1 rfl) ?_
              refine cl_V (C := R_M) (k_M_runImmediateOrControl l D a hA u0 x1) ⟨hx, hb, hml, hown, hts⟩ (cwV 1 hts (gi_V t_348 t_350 t_28 t_62 t_351) rfl rfl rfl (by decide +kernel) ⟨Nat.le_of_ble_eq_true rfl, Nat.le_of_ble_eq_true rfl⟩) (va_recv (q0 := 0) (ci := 3) (q := (R_M, F_M, 7)) hK hP rfl rfl) hP hK hS rfl hl.1 rfl (Nat.le_of_ble_eq_true rfl) d_M_run_127 (nm_is (fun r127 u127 e127 f127 H locs hP hS => ?_))
              refine lv_goto (tgt := 134) hx hb d_M_run_130 (by decide) ?_
              have hc : (r127, u127) = C_M_run u0 x1 := by simp only [C_M_run, if_pos h4, if_pos h17, if_pos h30, if_pos h58, ← e79, if_pos h82, if_pos h91, if_neg h115, if_pos h122, ← e127, ← f127]
              subst hQ
              exact rt_i hx hb hr hlk (congrArg Prod.fst hc) (congrArg Prod.snd hc) hP hS d_M_run_134
            refine lv_iload_n hx hb d_M_run_94 rfl (lv_at hl 1 rfl) ?_
            refine lv_sipush (v := 1920) hx hb d_M_run_95 (by decide) ?_
            refine lv_icmp_ge (tgt := 109) hx hb d_M_run_98 (by decide) (fun h98 => ?_) (fun h98 => ?_)
            · refine lv_iconst (v := 2) hx hb d_M_run_109 (by decide) ?_
              have hc : (2, u0) = C_M_run u0 x1 := by simp only [C_M_run, if_pos h4, if_pos h17, if_pos h30, if_pos h58, ← e79, if_pos h82, if_neg h91, if_pos h98]
              subst hQ
              exact rt_i hx hb hr hlk (congrArg Prod.fst hc) (congrArg Prod.snd hc) hP hS d_M_run_110
            refine lv_aload_n hx hb d_M_run_101 rfl (lv_at hl 0 rfl) ?_
            refine lv_iload_n hx hb d_M_run_102 rfl (lv_at hl 1 rfl) ?_
            refine cl_V (C := R_M) (k_M_runOnOneOperand l D a hA u0 x1) ⟨hx, hb, hml, hown, hts⟩ (cwV 1 hts (gi_V t_331 t_333 t_24 t_62 t_334) rfl rfl rfl (by decide +kernel) ⟨Nat.le_of_ble_eq_true rfl, Nat.le_of_ble_eq_true rfl⟩) (va_recv (q0 := 0) (ci := 3) (q := (R_M, F_M, 7)) hK hP rfl rfl) hP hK hS rfl hl.1 rfl (Nat.le_of_ble_eq_true rfl) d_M_run_103 (nm_is (fun r103 u103 e103 f103 H locs hP hS => ?_))
            refine lv_goto (tgt := 110) hx hb d_M_run_106 (by decide) ?_
            have hc : (r103, u103) = C_M_run u0 x1 := by simp only [C_M_run, if_pos h4, if_pos h17, if_pos h30, if_pos h58, ← e79, if_pos h82, if_neg h91, if_neg h98, ← e103, ← f103]
            subst hQ
            exact rt_i hx hb hr hlk (congrArg Prod.fst hc) (congrArg Prod.snd hc) hP hS d_M_run_110
          refine lv_iconst (v := 3) hx hb d_M_run_85 (by decide) ?_
          have hc : (3, u0) = C_M_run u0 x1 := by simp only [C_M_run, if_pos h4, if_pos h17, if_pos h30, if_pos h58, ← e79, if_neg h82]
          subst hQ
          exact rt_i hx hb hr hlk (congrArg Prod.fst hc) (congrArg Prod.snd hc) hP hS d_M_run_86
        refine lv_iload_n hx hb d_M_run_61 rfl (lv_at hl 1 rfl) ?_
        refine lv_sipush (v := 3072) hx hb d_M_run_62 (by decide) ?_
        refine lv_icmp_ge (tgt := 76) hx hb d_M_run_65 (by decide) (fun h65 => ?_) (fun h65 => ?_)
        · refine lv_iconst (v := 2) hx hb d_M_run_76 (by decide) ?_
          have hc : (2, u0) = C_M_run u0 x1 := by simp only [C_M_run, if_pos h4, if_pos h17, if_pos h30, if_neg h58, if_pos h65]
          subst hQ
          exact rt_i hx hb hr hlk (congrArg Prod.fst hc) (congrArg Prod.snd hc) hP hS d_M_run_77
        refine lv_aload_n hx hb d_M_run_68 rfl (lv_at hl 0 rfl) ?_
        refine lv_iload_n hx hb d_M_run_69 rfl (lv_at hl 1 rfl) ?_
        refine cl_V (C := R_M) (k_M_runShift l D a hA u0 x1) ⟨hx, hb, hml, hown, hts⟩ (cwV 1 hts (gi_V t_320 t_322 t_22 t_62 t_323) rfl rfl rfl (by decide +kernel) ⟨Nat.le_of_ble_eq_true rfl, Nat.le_of_ble_eq_true rfl⟩) (va_recv (q0 := 0) (ci := 3) (q := (R_M, F_M, 7)) hK hP rfl rfl) hP hK hS rfl hl.1 rfl (Nat.le_of_ble_eq_true rfl) d_M_run_70 (nm_is (fun r70 u70 e70 f70 H locs hP hS => ?_))
        refine lv_goto (tgt := 77) hx hb d_M_run_73 (by decide) ?_
        have hc : (r70, u70) = C_M_run u0 x1 := by simp only [C_M_run, if_pos h4, if_pos h17, if_pos h30, if_neg h58, if_neg h65, ← e70, ← f70]
        subst hQ
        exact rt_i hx hb hr hlk (congrArg Prod.fst hc) (congrArg Prod.snd hc) hP hS d_M_run_77
      refine lv_iload_n hx hb d_M_run_33 rfl (lv_at hl 1 rfl) ?_
      refine lv_sipush (v := 7424) hx hb d_M_run_34 (by decide) ?_
      refine lv_icmp_ge (tgt := 48) hx hb d_M_run_37 (by decide) (fun h37 => ?_) (fun h37 => ?_)
      · refine lv_aload_n hx hb d_M_run_48 rfl (lv_at hl 0 rfl) ?_
        refine lv_iload_n hx hb d_M_run_49 rfl (lv_at hl 1 rfl) ?_
        refine cl_V (C := R_M) (k_M_runOnLine l D a hA u0 x1) ⟨hx, hb, hml, hown, hts⟩ (cwV 1 hts (gi_V t_316 t_318 t_21 t_62 t_319) rfl rfl rfl (by decide +kernel) ⟨Nat.le_of_ble_eq_true rfl, Nat.le_of_ble_eq_true rfl⟩) (va_recv (q0 := 0) (ci := 3) (q := (R_M, F_M, 7)) hK hP rfl rfl) hP hK hS rfl hl.1 rfl (Nat.le_of_ble_eq_true rfl) d_M_run_50 (nm_is (fun r50 u50 e50 f50 H locs hP hS => ?_))
        have hc : (r50, u50) = C_M_run u0 x1 := by simp only [C_M_run, if_pos h4, if_pos h17, if_neg h30, if_pos h37, ← e50, ← f50]
        subst hQ
        exact rt_i hx hb hr hlk (congrArg Prod.fst hc) (congrArg Prod.snd hc) hP hS d_M_run_53
      refine lv_aload_n hx hb d_M_run_40 rfl (lv_at hl 0 rfl) ?_
      refine lv_iload_n hx hb d_M_run_41 rfl (lv_at hl 1 rfl) ?_
      refine cl_V (C := R_M) (k_M_runJump l D a hA u0 x1) ⟨hx, hb, hml, hown, hts⟩ (cwV 1 hts (gi_V t_303 t_305 t_19 t_62 t_306) rfl rfl rfl (by decide +kernel) ⟨Nat.le_of_ble_eq_true rfl, Nat.le_of_ble_eq_true rfl⟩) (va_recv (q0 := 0) (ci := 3) (q := (R_M, F_M, 7)) hK hP rfl rfl) hP hK hS rfl hl.1 rfl (Nat.le_of_ble_eq_true rfl) d_M_run_42 (nm_is (fun r42 u42 e42 f42 H locs hP hS => ?_))
      refine lv_goto (tgt := 53) hx hb d_M_run_45 (by decide) ?_
      have hc : (r42, u42) = C_M_run u0 x1 := by simp only [C_M_run, if_pos h4, if_pos h17, if_neg h30, if_neg h37, ← e42, ← f42]
      subst hQ
      exact rt_i hx hb hr hlk (congrArg Prod.fst hc) (congrArg Prod.snd hc) hP hS d_M_run_53
    refine lv_aload_n hx hb d_M_run_20 rfl (lv_at hl 0 rfl) ?_
    refine lv_iload_n hx hb d_M_run_21 rfl (lv_at hl 1 rfl) ?_
    refine cl_V (C := R_M) (k_M_runOnRegisterAndOperand l D a hA u0 x1 hI) ⟨hx, hb, hml, hown, hts⟩ (cwV 1 hts (gi_V t_259 t_261 t_12 t_62 t_262) rfl rfl rfl (by decide +kernel) ⟨Nat.le_of_ble_eq_true rfl, Nat.le_of_ble_eq_true rfl⟩) (va_recv (q0 := 0) (ci := 3) (q := (R_M, F_M, 7)) hK hP rfl rfl) hP hK hS rfl hl.1 rfl (Nat.le_of_ble_eq_true rfl) d_M_run_22 (nm_is (fun r22 u22 e22 f22 H locs hP hS => ?_))
    have hc : (r22, u22) = C_M_run u0 x1 := by simp only [C_M_run, if_pos h4, if_neg h17, ← e22, ← f22]
    subst hQ
    exact rt_i hx hb hr hlk (congrArg Prod.fst hc) (congrArg Prod.snd hc) hP hS d_M_run_25
  refine lv_aload_n hx hb d_M_run_7 rfl (lv_at hl 0 rfl) ?_
  refine lv_iload_n hx hb d_M_run_8 rfl (lv_at hl 1 rfl) ?_
  refine cl_V (C := R_M) (k_M_runOnTwoOperands l D a hA u0 x1) ⟨hx, hb, hml, hown, hts⟩ (cwV 1 hts (gi_V t_205 t_207 t_10 t_62 t_208) rfl rfl rfl (by decide +kernel) ⟨Nat.le_of_ble_eq_true rfl, Nat.le_of_ble_eq_true rfl⟩) (va_recv (q0 := 0) (ci := 3) (q := (R_M, F_M, 7)) hK hP rfl rfl) hP hK hS rfl hl.1 rfl (Nat.le_of_ble_eq_true rfl) d_M_run_9 (nm_is (fun r9 u9 e9 f9 H locs hP hS => ?_))
  have hc : (r9, u9) = C_M_run u0 x1 := by simp only [C_M_run, if_neg h4, ← e9, ← f9]
  subst hQ
  exact rt_i hx hb hr hlk (congrArg Prod.fst hc) (congrArg Prod.snd hc) hP hS d_M_run_12
set_option maxHeartbeats 4000000 in
set_option maxRecDepth 100000 in
theorem k_M_step (l : Launch) (D : va_G) (a : CAd) (hA : ApC a) (u0 : CSt) (hI : ∀ j, 0 ≤ u0.1 j) : MC kl (cw a) (FA a) (tyC a) l D y_M_step b_M_step 6 (some .int) rm_M_step [.ref a.1] u0 (some (.int (C_M_step u0).1)) (C_M_step u0).2 := by
  refine MC.mk (by decide) (Nat.le_of_ble_eq_true rfl) ?_
  intro p e s m below meth c ls Q args H locs hx hb hr hml hown hts hlk hl hP hK hS hQ
  have hown : s.vm.findClass R_M = some m.cls := hown
  have hl : lv_has ls 6 [(0, .ref a.1)] := hl
  refine lv_aload_n hx hb d_M_step_0 rfl (lv_at hl 0 rfl) ?_
  refine va_get (D := D) (ci := 3) (v := .int u0.2.2.2.2.2.1) (C := R_M) (T := F_M) (N := 7) hx hb hts (fun w h => wm (ui_M w h)) hown hK hP 0 rfl rfl 5 (by decide) (hts _ (wm t_116)) (fun _ h9 => h9) rfl d_M_step_1 ?_
  refine lv_aload_n hx hb d_M_step_4 rfl (lv_at hl 0 rfl) ?_
  refine va_get (D := D) (ci := 3) (v := .ref a.2.2.2.2.1) (C := R_M) (T := F_M) (N := 7) hx hb hts (fun w h => wm (ui_M w h)) hown hK hP 0 rfl rfl 2 (by decide) (hts _ (wm t_113)) (fun _ h9 => h9) rfl d_M_step_5 ?_
  refine cl_V (C := R_St) (k_St_mask l D a hA u0) ⟨hx, hb, hml, hown, hts⟩ (cwV 0 hts (gi_V t_177 t_178 t_179 t_65 t_180) rfl rfl rfl (by decide +kernel) ⟨Nat.le_of_ble_eq_true rfl, Nat.le_of_ble_eq_true rfl⟩) (va_recv (q0 := 4) (ci := 2) (q := (R_St, F_St, 1)) hK hP rfl rfl) hP hK hS rfl hl.1 rfl (Nat.le_of_ble_eq_true rfl) d_M_step_8 (nm_i (fun r8 e8 H locs hP hS => ?_))
  refine lv_icmp_gt (tgt := 20) hx hb d_M_step_11 (by decide) (fun h11 => ?_) (fun h11 => ?_)
  · refine lv_aload_n hx hb d_M_step_20 rfl (lv_at hl 0 rfl) ?_
    refine va_get (D := D) (ci := 3) (v := .int u0.2.2.2.2.2.2) (C := R_M) (T := F_M) (N := 7) hx hb hts (fun w h => wm (ui_M w h)) hown hK hP 0 rfl rfl 6 (by decide) (hts _ (wm t_117)) (fun _ h9 => h9) rfl d_M_step_21 ?_
    refine lv_if_eq (tgt := 29) hx hb d_M_step_24 (by decide) (fun h24 => ?_) (fun h24 => ?_)
    · refine lv_aload_n hx hb d_M_step_29 rfl (lv_at hl 0 rfl) ?_
      refine va_get (D := D) (ci := 3) (v := .int u0.2.2.2.2.1) (C := R_M) (T := F_M) (N := 7) hx hb hts (fun w h => wm (ui_M w h)) hown hK hP 0 rfl rfl 4 (by decide) (hts _ (wm t_115)) (fun _ h9 => h9) rfl d_M_step_30 ?_
      refine lv_istore_n hx hb d_M_step_33 rfl hl (by decide) rfl (fun ls hl => ?_)
      have hl : lv_has ls 6 [(1, .int u0.2.2.2.2.1), (0, .ref a.1)] := hl
      refine lv_aload_n hx hb d_M_step_34 rfl (lv_at hl 1 rfl) ?_
      refine cl_V (C := R_M) (k_M_fetch l D a hA u0) ⟨hx, hb, hml, hown, hts⟩ (cwV 0 hts (gi_V t_185 t_187 t_6 t_62 t_188) rfl rfl rfl (by decide +kernel) ⟨Nat.le_of_ble_eq_true rfl, Nat.le_of_ble_eq_true rfl⟩) (va_recv (q0 := 0) (ci := 3) (q := (R_M, F_M, 7)) hK hP rfl rfl) hP hK hS rfl hl.1 rfl (Nat.le_of_ble_eq_true rfl) d_M_step_35 (nm_is (fun r35 u35 e35 f35 H locs hP hS => ?_))
      refine lv_istore_n hx hb d_M_step_38 rfl hl (by decide) rfl (fun ls hl => ?_)
      have hl : lv_has ls 6 [(2, .int r35), (1, .int u0.2.2.2.2.1), (0, .ref a.1)] := hl
      refine lv_iload_n hx hb d_M_step_39 rfl (lv_at hl 0 rfl) ?_
      refine lv_bipush (v := 15) hx hb d_M_step_40 (by decide) ?_
      refine lv_iand hx hb d_M_step_42 ?_
      refine lv_istore_n hx hb d_M_step_43 rfl hl (by decide) rfl (fun ls hl => ?_)
      have hl : lv_has ls 6 [(3, .int (r35 &&& 15)), (2, .int r35), (1, .int u0.2.2.2.2.1), (0, .ref a.1)] := hl
      refine lv_aload_n hx hb d_M_step_44 rfl (lv_at hl 3 rfl) ?_
      refine lv_iload_n hx hb d_M_step_45 rfl (lv_at hl 0 rfl) ?_
      refine cl_V (C := R_M) (k_M_register l D a hA u35 (r35 &&& 15)) ⟨hx, hb, hml, hown, hts⟩ (cwV 1 hts (gi_V t_189 t_191 t_7 t_62 t_192) rfl rfl rfl (by decide +kernel) ⟨Nat.le_of_ble_eq_true rfl, Nat.le_of_ble_eq_true rfl⟩) (va_recv (q0 := 0) (ci := 3) (q := (R_M, F_M, 7)) hK hP rfl rfl) hP hK hS rfl hl.1 rfl (Nat.le_of_ble_eq_true rfl) d_M_step_46 (nm_i (fun r46 e46 H locs hP hS => ?_))
      refine lv_istore hx hb d_M_step_49 hl (by decide) rfl (fun ls hl => ?_)
      have hl : lv_has ls 6 [(4, .int r46), (3, .int (r35 &&& 15)), (2, .int r35), (1, .int u0.2.2.2.2.1), (0, .ref a.1)] := hl
      refine lv_aload_n hx hb d_M_step_51 rfl (lv_at hl 4 rfl) ?_
      refine lv_iload_n hx hb d_M_step_52 rfl (lv_at hl 2 rfl) ?_
      refine cl_S (k_M_isExecute l D a hA u35 r35) ⟨hx, hb, hml, hown, hts⟩ (va_cwS 1 hts (gi_S t_193 t_194 t_62 t_195) rfl rfl rfl (by decide +kernel) ⟨Nat.le_of_ble_eq_true rfl, Nat.le_of_ble_eq_true rfl⟩) hP hK hS rfl hl.1 rfl (Nat.le_of_ble_eq_true rfl) d_M_step_53 (nm_i (fun r53 e53 H locs hP hS => ?_))
      have hJ76 : ∀ (z76 : Int32) (v76 : CSt) (H : Heap) (locs : List Loc), z76 = (J_M_step_76 r35 u35 r53).1 → v76 = (J_M_step_76 r35 u35 r53).2 → va_P D kl (cw a v76) H → va_S (FA a) s.heap H locs → W p l e rm_M_step s m args below meth c H locs 0 0 Q (F0 m 76 ls [.int z76, .ref a.1]) := by
        intro z76 v76 H locs jz76 jv76 hP hS
        refine cl_V (C := R_M) (k_M_run l D a hA v76 z76 (by rw [jv76]; exact iv_J_M_step_76 (by rw [f35]; exact iv_M_fetch hI) _ _)) ⟨hx, hb, hml, hown, hts⟩ (cwV 1 hts (gi_V t_201 t_203 t_9 t_62 t_204) rfl rfl rfl (by decide +kernel) ⟨Nat.le_of_ble_eq_true rfl, Nat.le_of_ble_eq_true rfl⟩) (va_recv (q0 := 0) (ci := 3) (q := (R_M, F_M, 7)) hK hP rfl rfl) hP hK hS rfl hl.1 rfl (Nat.le_of_ble_eq_true rfl) d_M_step_76 (nm_is (fun r76 u76 e76 f76 H locs hP hS => ?_))
        refine lv_istore hx hb d_M_step_79 hl (by decide) rfl (fun ls hl => ?_)
        have hl : lv_has ls 6 [(5, .int r76), (4, .int r46), (3, .int (r35 &&& 15)), (2, .int r35), (1, .int u0.2.2.2.2.1), (0, .ref a.1)] := hl
        refine lv_iload hx hb d_M_step_81 (lv_at hl 0 rfl) ?_
        refine lv_iconst (v := 2) hx hb d_M_step_83 (by decide) ?_
        refine lv_icmp_eq (tgt := 93) hx hb d_M_step_84 (by decide) (fun h84 => ?_) (fun h84 => ?_)
        · refine lv_aload_n hx hb d_M_step_93 rfl (lv_at hl 5 rfl) ?_
          refine lv_iload_n hx hb d_M_step_94 rfl (lv_at hl 4 rfl) ?_
          refine va_put (D := D) (ci := 3) (v := .int u0.2.2.2.2.1) (ty := .int) (C := R_M) (T := F_M) (N := 7) hx hb hts (fun w h => wm (ui_M w h)) ft_M ft_M_ok fn_M hown hK hP (dd_C hA _) hS 0 rfl rfl 4 (by decide) (hts _ (wm t_115)) (fun _ h9 => h9) rfl (by decide +kernel) rfl rfl (Nat.le_of_ble_eq_true rfl) d_M_step_95 (fun H locs hP _ hS => ?_)
          have hP : va_P D kl (cw a (u76.1, u76.2.1, u76.2.2.1, u76.2.2.2.1, u0.2.2.2.2.1, u76.2.2.2.2.2.1, u76.2.2.2.2.2.2)) H := hP
          refine lv_aload_n hx hb d_M_step_98 rfl (lv_at hl 5 rfl) ?_
          refine lv_iload_n hx hb d_M_step_99 rfl (lv_at hl 2 rfl) ?_
          refine lv_iload hx hb d_M_step_100 (lv_at hl 1 rfl) ?_
          refine cl_V (C := R_M) (k_M_setRegister l D a hA (u76.1, u76.2.1, u76.2.2.1, u76.2.2.2.1, u0.2.2.2.2.1, u76.2.2.2.2.2.1, u76.2.2.2.2.2.2) (r35 &&& 15) r46) ⟨hx, hb, hml, hown, hts⟩ (cwV 2 hts (gi_V t_149 t_151 t_2 t_62 t_152) rfl rfl rfl (by decide +kernel) ⟨Nat.le_of_ble_eq_true rfl, Nat.le_of_ble_eq_true rfl⟩) (va_recv (q0 := 0) (ci := 3) (q := (R_M, F_M, 7)) hK hP rfl rfl) hP hK hS rfl hl.1 rfl (Nat.le_of_ble_eq_true rfl) d_M_step_102 (nm_s (fun u102 e102 H locs hP hS => ?_))
          refine lv_iload hx hb d_M_step_105 (lv_at hl 0 rfl) ?_
          have hc : (r76, u102) = C_M_step u0 := by simp only [C_M_step, ← e8, if_pos h11, if_pos h24, ← e35, ← f35, ← e46, ← e53, ← jz76, ← jv76, ← e76, ← f76, if_pos h84, ← e102]
          subst hQ
          exact rt_i hx hb hr hlk (congrArg Prod.fst hc) (congrArg Prod.snd hc) hP hS d_M_step_107
        refine lv_iload hx hb d_M_step_87 (lv_at hl 0 rfl) ?_
        refine lv_iconst (v := 3) hx hb d_M_step_89 (by decide) ?_
        refine lv_icmp_ne (tgt := 105) hx hb d_M_step_90 (by decide) (fun h90 => ?_) (fun h90 => ?_)
        · refine lv_iload hx hb d_M_step_105 (lv_at hl 0 rfl) ?_
          have hc : (r76, u76) = C_M_step u0 := by simp only [C_M_step, ← e8, if_pos h11, if_pos h24, ← e35, ← f35, ← e46, ← e53, ← jz76, ← jv76, ← e76, ← f76, if_neg h84, if_neg h90]
          subst hQ
          exact rt_i hx hb hr hlk (congrArg Prod.fst hc) (congrArg Prod.snd hc) hP hS d_M_step_107
        refine lv_aload_n hx hb d_M_step_93 rfl (lv_at hl 5 rfl) ?_
        refine lv_iload_n hx hb d_M_step_94 rfl (lv_at hl 4 rfl) ?_
        refine va_put (D := D) (ci := 3) (v := .int u0.2.2.2.2.1) (ty := .int) (C := R_M) (T := F_M) (N := 7) hx hb hts (fun w h => wm (ui_M w h)) ft_M ft_M_ok fn_M hown hK hP (dd_C hA _) hS 0 rfl rfl 4 (by decide) (hts _ (wm t_115)) (fun _ h9 => h9) rfl (by decide +kernel) rfl rfl (Nat.le_of_ble_eq_true rfl) d_M_step_95 (fun H locs hP _ hS => ?_)
        have hP : va_P D kl (cw a (u76.1, u76.2.1, u76.2.2.1, u76.2.2.2.1, u0.2.2.2.2.1, u76.2.2.2.2.2.1, u76.2.2.2.2.2.2)) H := hP
        refine lv_aload_n hx hb d_M_step_98 rfl (lv_at hl 5 rfl) ?_
        refine lv_iload_n hx hb d_M_step_99 rfl (lv_at hl 2 rfl) ?_
        refine lv_iload hx hb d_M_step_100 (lv_at hl 1 rfl) ?_
        refine cl_V (C := R_M) (k_M_setRegister l D a hA (u76.1, u76.2.1, u76.2.2.1, u76.2.2.2.1, u0.2.2.2.2.1, u76.2.2.2.2.2.1, u76.2.2.2.2.2.2) (r35 &&& 15) r46) ⟨hx, hb, hml, hown, hts⟩ (cwV 2 hts (gi_V t_149 t_151 t_2 t_62 t_152) rfl rfl rfl (by decide +kernel) ⟨Nat.le_of_ble_eq_true rfl, Nat.le_of_ble_eq_true rfl⟩) (va_recv (q0 := 0) (ci := 3) (q := (R_M, F_M, 7)) hK hP rfl rfl) hP hK hS rfl hl.1 rfl (Nat.le_of_ble_eq_true rfl) d_M_step_102 (nm_s (fun u102 e102 H locs hP hS => ?_))
        refine lv_iload hx hb d_M_step_105 (lv_at hl 0 rfl) ?_
        have hc : (r76, u102) = C_M_step u0 := by simp only [C_M_step, ← e8, if_pos h11, if_pos h24, ← e35, ← f35, ← e46, ← e53, ← jz76, ← jv76, ← e76, ← f76, if_neg h84, if_pos h90, ← e102]
        subst hQ
        exact rt_i hx hb hr hlk (congrArg Prod.fst hc) (congrArg Prod.snd hc) hP hS d_M_step_107
      refine lv_if_eq (tgt := 75) hx hb d_M_step_56 (by decide) (fun h56 => ?_) (fun h56 => ?_)
      · refine lv_iload_n hx hb d_M_step_75 rfl (lv_at hl 2 rfl) ?_
        exact hJ76 r35 u35 _ _ (by simp only [J_M_step_76, if_pos h56]) (by simp only [J_M_step_76, if_pos h56]) hP hS
      refine lv_aload_n hx hb d_M_step_59 rfl (lv_at hl 4 rfl) ?_
      refine va_get (D := D) (ci := 3) (v := .ref a.2.1) (C := R_M) (T := F_M) (N := 7) hx hb hts (fun w h => wm (ui_M w h)) hown hK hP 0 rfl rfl 0 (by decide) (hts _ (wm t_111)) (fun _ h9 => h9) rfl d_M_step_60 ?_
      refine lv_aload_n hx hb d_M_step_63 rfl (lv_at hl 4 rfl) ?_
      refine lv_iload_n hx hb d_M_step_64 rfl (lv_at hl 2 rfl) ?_
      refine lv_iconst (v := 2) hx hb d_M_step_65 (by decide) ?_
      refine cl_V (C := R_M) (k_M_operandAddress l D a hA u35 r35 2) ⟨hx, hb, hml, hown, hts⟩ (cwV 2 hts (gi_V t_197 t_199 t_8 t_62 t_200) rfl rfl rfl (by decide +kernel) ⟨Nat.le_of_ble_eq_true rfl, Nat.le_of_ble_eq_true rfl⟩) (va_recv (q0 := 0) (ci := 3) (q := (R_M, F_M, 7)) hK hP rfl rfl) hP hK hS rfl hl.1 rfl (Nat.le_of_ble_eq_true rfl) d_M_step_66 (nm_is (fun r66 u66 e66 f66 H locs hP hS => ?_))
      refine cl_V (C := R_Me) (k_Me_word l D a hA u66 r66) ⟨hx, hb, hml, hown, hts⟩ (cwV 1 hts (gi_V t_141 t_142 t_143 t_63 t_144) rfl rfl rfl (by decide +kernel) ⟨Nat.le_of_ble_eq_true rfl, Nat.le_of_ble_eq_true rfl⟩) (va_recv (q0 := 1) (ci := 1) (q := (R_Me, F_Me, 1)) hK hP rfl rfl) hP hK hS rfl hl.1 rfl (Nat.le_of_ble_eq_true rfl) d_M_step_69 (nm_i (fun r69 e69 H locs hP hS => ?_))
      refine lv_goto (tgt := 76) hx hb d_M_step_72 (by decide) ?_
      exact hJ76 r69 u66 _ _ (by simp only [J_M_step_76, if_neg h56, ← e66, ← f66, ← e69]) (by simp only [J_M_step_76, if_neg h56, ← e66, ← f66, ← e69]) hP hS
    refine lv_iconst (v := 1) hx hb d_M_step_27 (by decide) ?_
    have hc : (1, u0) = C_M_step u0 := by simp only [C_M_step, ← e8, if_pos h11, if_neg h24]
    subst hQ
    exact rt_i hx hb hr hlk (congrArg Prod.fst hc) (congrArg Prod.snd hc) hP hS d_M_step_28
  refine lv_aload_n hx hb d_M_step_14 rfl (lv_at hl 0 rfl) ?_
  refine cl_V (C := R_M) (k_M_interrupt l D a hA u0) ⟨hx, hb, hml, hown, hts⟩ (cwV 0 hts (gi_V t_181 t_183 t_5 t_62 t_184) rfl rfl rfl (by decide +kernel) ⟨Nat.le_of_ble_eq_true rfl, Nat.le_of_ble_eq_true rfl⟩) (va_recv (q0 := 0) (ci := 3) (q := (R_M, F_M, 7)) hK hP rfl rfl) hP hK hS rfl hl.1 rfl (Nat.le_of_ble_eq_true rfl) d_M_step_15 (nm_s (fun u15 e15 H locs hP hS => ?_))
  refine lv_iconst (v := 0) hx hb d_M_step_18 (by decide) ?_
  have hc : (0, u15) = C_M_step u0 := by simp only [C_M_step, ← e8, if_neg h11, ← e15]
  subst hQ
  exact rt_i hx hb hr hlk (congrArg Prod.fst hc) (congrArg Prod.snd hc) hP hS d_M_step_19
