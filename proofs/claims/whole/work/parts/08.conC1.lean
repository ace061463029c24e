/-! contracts, laid by gen.py -/
set_option maxHeartbeats 4000000 in
set_option maxRecDepth 100000 in
theorem k_M_callExtended (l : Launch) (D : va_G) (a : CAd) (hA : ApC a) (u0 : CSt) (x1 : Int32) (x2 : Int32) : MC kl (cw a) (FA a) (tyC a) l D y_M_callExtended b_M_callExtended 3 none rm_M_callExtended [.ref a.1, .int x1, .int x2] u0 none (C_M_callExtended u0 x1 x2) := by
  refine MC.mk (by decide) (Nat.le_of_ble_eq_true rfl) ?_
  intro p e s m below meth c ls Q args H locs hx hb hr hml hown hts hlk hl hP hK hS hQ
  have hown : s.vm.findClass R_M = some m.cls := hown
  have hl : lv_has ls 3 [(0, .ref a.1), (1, .int x1), (2, .int x2)] := hl
  refine lv_aload_n hx hb d_M_callExtended_0 rfl (lv_at hl 0 rfl) ?_
  refine lv_bipush (v := 64) hx hb d_M_callExtended_1 (by decide) ?_
  refine lv_iconst (v := 4) hx hb d_M_callExtended_3 (by decide) ?_
  refine lv_iload_n hx hb d_M_callExtended_4 rfl (lv_at hl 1 rfl) ?_
  refine lv_imul hx hb d_M_callExtended_5 ?_
  refine lv_iadd hx hb d_M_callExtended_6 ?_
  refine cl_V (C := R_M) (k_M_switchThrough l D a hA u0 (64 + (4 * x1))) ⟨hx, hb, hml, hown, hts⟩ (cwV 1 hts (gi_V t_137 t_139 t_0 t_62 t_140) rfl rfl rfl (by decide +kernel) ⟨Nat.le_of_ble_eq_true rfl, Nat.le_of_ble_eq_true rfl⟩) (va_recv (q0 := 0) (ci := 3) (q := (R_M, F_M, 7)) hK hP rfl rfl) hP hK hS rfl hl.1 rfl (Nat.le_of_ble_eq_true rfl) d_M_callExtended_7 (nm_s (fun u7 e7 H locs hP hS => ?_))
  refine lv_aload_n hx hb d_M_callExtended_10 rfl (lv_at hl 0 rfl) ?_
  refine lv_bipush (v := 11) hx hb d_M_callExtended_11 (by decide) ?_
  refine lv_iload_n hx hb d_M_callExtended_13 rfl (lv_at hl 2 rfl) ?_
  refine cl_V (C := R_M) (k_M_setRegister l D a hA u7 11 x2) ⟨hx, hb, hml, hown, hts⟩ (cwV 2 hts (gi_V t_149 t_151 t_2 t_62 t_152) rfl rfl rfl (by decide +kernel) ⟨Nat.le_of_ble_eq_true rfl, Nat.le_of_ble_eq_true rfl⟩) (va_recv (q0 := 0) (ci := 3) (q := (R_M, F_M, 7)) hK hP rfl rfl) hP hK hS rfl hl.1 rfl (Nat.le_of_ble_eq_true rfl) d_M_callExtended_14 (nm_s (fun u14 e14 H locs hP hS => ?_))
  refine lv_aload_n hx hb d_M_callExtended_17 rfl (lv_at hl 0 rfl) ?_
  refine va_get (D := D) (ci := 3) (v := .ref a.2.2.2.2.1) (C := R_M) (T := F_M) (N := 7) hx hb hts (fun w h => wm (ui_M w h)) hown hK hP 0 rfl rfl 2 (by decide) (hts _ (wm t_113)) (fun _ h9 => h9) rfl d_M_callExtended_18 ?_
  refine lv_sipush (v := 512) hx hb d_M_callExtended_21 (by decide) ?_
  refine lv_iconst (v := 1) hx hb d_M_callExtended_24 (by decide) ?_
  refine cl_V (C := R_St) (k_St_mark l D a hA u14 512 1) ⟨hx, hb, hml, hown, hts⟩ (cwV 2 hts (gi_V t_267 t_235 t_236 t_65 t_237) rfl rfl rfl (by decide +kernel) ⟨Nat.le_of_ble_eq_true rfl, Nat.le_of_ble_eq_true rfl⟩) (va_recv (q0 := 4) (ci := 2) (q := (R_St, F_St, 1)) hK hP rfl rfl) hP hK hS rfl hl.1 rfl (Nat.le_of_ble_eq_true rfl) d_M_callExtended_25 (nm_s (fun u25 e25 H locs hP hS => ?_))
  subst hQ
  exact rt_v hx hb hr hlk (by simp only [C_M_callExtended, ← e7, ← e14, ← e25]) hP hS d_M_callExtended_28
set_option maxHeartbeats 4000000 in
set_option maxRecDepth 100000 in
theorem k_M_sizeForLines (l : Launch) (D : va_G) (a : CAd) (hA : ApC a) (u0 : CSt) (x0 : Int32) : MC kl (cw a) (FA a) (tyC a) l D y_M_sizeForLines b_M_sizeForLines 1 (some .int) rm_M_sizeForLines [.int x0] u0 (some (.int (C_M_sizeForLines x0))) u0 := by
  refine MC.mk (by decide) (Nat.le_of_ble_eq_true rfl) ?_
  intro p e s m below meth c ls Q args H locs hx hb hr hml hown hts hlk hl hP hK hS hQ
  have hown : s.vm.findClass R_M = some m.cls := hown
  have hl : lv_has ls 1 [(0, .int x0)] := hl
  refine lv_iload_n hx hb d_M_sizeForLines_0 rfl (lv_at hl 0 rfl) ?_
  refine lv_bipush (v := 8) hx hb d_M_sizeForLines_1 (by decide) ?_
  refine lv_icmp_gt (tgt := 10) hx hb d_M_sizeForLines_3 (by decide) (fun h3 => ?_) (fun h3 => ?_)
  · refine lv_iconst (v := 2) hx hb d_M_sizeForLines_10 (by decide) ?_
    subst hQ
    exact rt_i hx hb hr hlk (by simp only [C_M_sizeForLines, if_pos h3]) rfl hP hS d_M_sizeForLines_11
  refine lv_iconst (v := 1) hx hb d_M_sizeForLines_6 (by decide) ?_
  refine lv_goto (tgt := 11) hx hb d_M_sizeForLines_7 (by decide) ?_
  subst hQ
  exact rt_i hx hb hr hlk (by simp only [C_M_sizeForLines, if_neg h3]) rfl hP hS d_M_sizeForLines_11
set_option maxHeartbeats 4000000 in
set_option maxRecDepth 100000 in
theorem k_Li_bitOf (l : Launch) (D : va_G) (a : CAd) (hA : ApC a) (u0 : CSt) (x0 : Int32) : MC kl (cw a) (FA a) (tyC a) l D y_Li_bitOf b_Li_bitOf 1 (some .long) rm_Li_bitOf [.int x0] u0 (some (.long (C_Li_bitOf x0))) u0 := by
  refine MC.mk (by decide) (Nat.le_of_ble_eq_true rfl) ?_
  intro p e s m below meth c ls Q args H locs hx hb hr hml hown hts hlk hl hP hK hS hQ
  have hown : s.vm.findClass R_Li = some m.cls := hown
  have hl : lv_has ls 1 [(0, .int x0)] := hl
  refine lv_lconst (v := 1) hx hb d_Li_bitOf_0 (by decide) ?_
  refine lv_iload_n hx hb d_Li_bitOf_1 rfl (lv_at hl 0 rfl) ?_
  refine lv_bipush (v := 63) hx hb d_Li_bitOf_2 (by decide) ?_
  refine lv_iand hx hb d_Li_bitOf_4 ?_
  refine lv_lshl hx hb d_Li_bitOf_5 rfl ?_
  subst hQ
  exact rt_l hx hb hr hlk (by simp only [C_Li_bitOf]) rfl hP hS d_Li_bitOf_6
set_option maxHeartbeats 4000000 in
set_option maxRecDepth 100000 in
theorem k_Li_set (l : Launch) (D : va_G) (a : CAd) (hA : ApC a) (u0 : CSt) (x1 : Int32) (x2 : Int32) : MC kl (cw a) (FA a) (tyC a) l D y_Li_set b_Li_set 3 none rm_Li_set [.ref a.2.2.2.1, .int x1, .int x2] u0 none (C_Li_set u0 x1 x2) := by
  refine MC.mk (by decide) (Nat.le_of_ble_eq_true rfl) ?_
  intro p e s m below meth c ls Q args H locs hx hb hr hml hown hts hlk hl hP hK hS hQ
  have hown : s.vm.findClass R_Li = some m.cls := hown
  have hl : lv_has ls 3 [(0, .ref a.2.2.2.1), (1, .int x1), (2, .int x2)] := hl
  refine lv_aload_n hx hb d_Li_set_0 rfl (lv_at hl 0 rfl) ?_
  refine lv_iload_n hx hb d_Li_set_1 rfl (lv_at hl 2 rfl) ?_
  have hJ30 : ∀ (z30 : Int64) (H : Heap) (locs : List Loc), z30 = J_Li_set_30 u0 x1 x2 → va_P D kl (cw a u0) H → va_S (FA a) s.heap H locs → W p l e rm_Li_set s m args below meth c H locs 0 0 Q (F0 m 30 ls [.long z30, .ref a.2.2.2.1]) := by
    intro z30 H locs jz30 hP hS
    refine va_put (D := D) (ci := 0) (v := .long z30) (ty := .long) (C := R_Li) (T := F_Li) (N := 1) hx hb hts (fun w h => wm (ui_Li w h)) ft_Li ft_Li_ok fn_Li hown hK hP (dd_C hA _) hS 3 rfl rfl 0 (by decide) (hts _ (wm t_97)) (fun _ h9 => h9) rfl (by decide +kernel) rfl rfl (Nat.le_of_ble_eq_true rfl) d_Li_set_30 (fun H locs hP _ hS => ?_)
    have hP : va_P D kl (cw a (u0.1, z30, u0.2.2.1, u0.2.2.2.1, u0.2.2.2.2.1, u0.2.2.2.2.2.1, u0.2.2.2.2.2.2)) H := hP
    subst hQ
    exact rt_v hx hb hr hlk (by simp only [C_Li_set, ← jz30]) hP hS d_Li_set_33
  refine lv_if_eq (tgt := 17) hx hb d_Li_set_2 (by decide) (fun h2 => ?_) (fun h2 => ?_)
  · refine lv_aload_n hx hb d_Li_set_17 rfl (lv_at hl 0 rfl) ?_
    refine va_get (D := D) (ci := 0) (v := .long u0.2.1) (C := R_Li) (T := F_Li) (N := 1) hx hb hts (fun w h => wm (ui_Li w h)) hown hK hP 3 rfl rfl 0 (by decide) (hts _ (wm t_97)) (fun _ h9 => h9) rfl d_Li_set_18 ?_
    refine lv_iload_n hx hb d_Li_set_21 rfl (lv_at hl 1 rfl) ?_
    refine cl_S (k_Li_bitOf l D a hA u0 x1) ⟨hx, hb, hml, hown, hts⟩ (va_cwS 1 hts (gi_S t_279 t_280 t_64 t_281) rfl rfl rfl (by decide +kernel) ⟨Nat.le_of_ble_eq_true rfl, Nat.le_of_ble_eq_true rfl⟩) hP hK hS rfl hl.1 rfl (Nat.le_of_ble_eq_true rfl) d_Li_set_22 (nm_l (fun r22 e22 H locs hP hS => ?_))
    refine lv_ldc2 (v := (-1)) hx hb hown (hts _ (wm t_282)) d_Li_set_25 ?_
    refine lv_lxor hx hb d_Li_set_28 ?_
    refine lv_land hx hb d_Li_set_29 ?_
    exact hJ30 (u0.2.1 &&& (r22 ^^^ (-1))) _ _ (by simp only [J_Li_set_30, if_pos h2, ← e22]) hP hS
  refine lv_aload_n hx hb d_Li_set_5 rfl (lv_at hl 0 rfl) ?_
  refine va_get (D := D) (ci := 0) (v := .long u0.2.1) (C := R_Li) (T := F_Li) (N := 1) hx hb hts (fun w h => wm (ui_Li w h)) hown hK hP 3 rfl rfl 0 (by decide) (hts _ (wm t_97)) (fun _ h9 => h9) rfl d_Li_set_6 ?_
  refine lv_iload_n hx hb d_Li_set_9 rfl (lv_at hl 1 rfl) ?_
  refine cl_S (k_Li_bitOf l D a hA u0 x1) ⟨hx, hb, hml, hown, hts⟩ (va_cwS 1 hts (gi_S t_279 t_280 t_64 t_281) rfl rfl rfl (by decide +kernel) ⟨Nat.le_of_ble_eq_true rfl, Nat.le_of_ble_eq_true rfl⟩) hP hK hS rfl hl.1 rfl (Nat.le_of_ble_eq_true rfl) d_Li_set_10 (nm_l (fun r10 e10 H locs hP hS => ?_))
  refine lv_lor hx hb d_Li_set_13 ?_
  refine lv_goto (tgt := 30) hx hb d_Li_set_14 (by decide) ?_
  exact hJ30 (u0.2.1 ||| r10) _ _ (by simp only [J_Li_set_30, if_neg h2, ← e10]) hP hS
set_option maxHeartbeats 4000000 in
set_option maxRecDepth 100000 in
theorem k_M_sendLines (l : Launch) (D : va_G) (a : CAd) (hA : ApC a) (u0 : CSt) (x1 : Int32) (x2 : Int32) : MC kl (cw a) (FA a) (tyC a) l D y_M_sendLines b_M_sendLines 8 none rm_M_sendLines [.ref a.1, .int x1, .int x2] u0 none (C_M_sendLines u0 x1 x2) := by
  refine MC.mk (by decide) (Nat.le_of_ble_eq_true rfl) ?_
  intro p e s m below meth c ls Q args H locs hx hb hr hml hown hts hlk hl hP hK hS hQ
  have hown : s.vm.findClass R_M = some m.cls := hown
  have hl : lv_has ls 8 [(0, .ref a.1), (1, .int x1), (2, .int x2)] := hl
  refine lv_iload_n hx hb d_M_sendLines_0 rfl (lv_at hl 2 rfl) ?_
  refine cl_S (k_M_sizeForLines l D a hA u0 x2) ⟨hx, hb, hml, hown, hts⟩ (va_cwS 1 hts (gi_S t_272 t_273 t_62 t_274) rfl rfl rfl (by decide +kernel) ⟨Nat.le_of_ble_eq_true rfl, Nat.le_of_ble_eq_true rfl⟩) hP hK hS rfl hl.1 rfl (Nat.le_of_ble_eq_true rfl) d_M_sendLines_1 (nm_i (fun r1 e1 H locs hP hS => ?_))
  refine lv_istore_n hx hb d_M_sendLines_4 rfl hl (by decide) rfl (fun ls hl => ?_)
  have hl : lv_has ls 8 [(3, .int r1), (0, .ref a.1), (1, .int x1), (2, .int x2)] := hl
  refine lv_aload_n hx hb d_M_sendLines_5 rfl (lv_at hl 1 rfl) ?_
  refine va_get (D := D) (ci := 3) (v := .ref a.2.1) (C := R_M) (T := F_M) (N := 7) hx hb hts (fun w h => wm (ui_M w h)) hown hK hP 0 rfl rfl 0 (by decide) (hts _ (wm t_111)) (fun _ h9 => h9) rfl d_M_sendLines_6 ?_
  refine lv_aload_n hx hb d_M_sendLines_9 rfl (lv_at hl 1 rfl) ?_
  refine lv_iload_n hx hb d_M_sendLines_10 rfl (lv_at hl 2 rfl) ?_
  refine lv_iload_n hx hb d_M_sendLines_11 rfl (lv_at hl 0 rfl) ?_
  refine cl_V (C := R_M) (k_M_operandAddress l D a hA u0 x1 r1) ⟨hx, hb, hml, hown, hts⟩ (cwV 2 hts (gi_V t_197 t_199 t_8 t_62 t_200) rfl rfl rfl (by decide +kernel) ⟨Nat.le_of_ble_eq_true rfl, Nat.le_of_ble_eq_true rfl⟩) (va_recv (q0 := 0) (ci := 3) (q := (R_M, F_M, 7)) hK hP rfl rfl) hP hK hS rfl hl.1 rfl (Nat.le_of_ble_eq_true rfl) d_M_sendLines_12 (nm_is (fun r12 u12 e12 f12 H locs hP hS => ?_))
  refine lv_iload_n hx hb d_M_sendLines_15 rfl (lv_at hl 0 rfl) ?_
  refine cl_V (C := R_Me) (k_Me_load l D a hA u12 r12 r1) ⟨hx, hb, hml, hown, hts⟩ (cwV 2 hts (gi_V t_209 t_210 t_211 t_63 t_212) rfl rfl rfl (by decide +kernel) ⟨Nat.le_of_ble_eq_true rfl, Nat.le_of_ble_eq_true rfl⟩) (va_recv (q0 := 1) (ci := 1) (q := (R_Me, F_Me, 1)) hK hP rfl rfl) hP hK hS rfl hl.1 rfl (Nat.le_of_ble_eq_true rfl) d_M_sendLines_16 (nm_i (fun r16 e16 H locs hP hS => ?_))
  refine lv_istore hx hb d_M_sendLines_19 hl (by decide) rfl (fun ls hl => ?_)
  have hl : lv_has ls 8 [(4, .int r16), (3, .int r1), (0, .ref a.1), (1, .int x1), (2, .int x2)] := hl
  refine lv_iload_n hx hb d_M_sendLines_21 rfl (lv_at hl 1 rfl) ?_
  refine lv_iconst (v := 1) hx hb d_M_sendLines_22 (by decide) ?_
  have hJ36 : ∀ (z36 : Int32), z36 = J_M_sendLines_36 r1 r16 → W p l e rm_M_sendLines s m args below meth c H locs 0 0 Q (F0 m 36 ls [.int z36]) := by
    intro z36 jz36
    refine lv_istore hx hb d_M_sendLines_36 hl (by decide) rfl (fun ls hl => ?_)
    have hl : lv_has ls 8 [(5, .int z36), (4, .int r16), (3, .int r1), (0, .ref a.1), (1, .int x1), (2, .int x2)] := hl
    refine lv_aload_n hx hb d_M_sendLines_38 rfl (lv_at hl 3 rfl) ?_
    refine lv_bipush (v := 12) hx hb d_M_sendLines_39 (by decide) ?_
    refine cl_V (C := R_M) (k_M_register l D a hA u12 12) ⟨hx, hb, hml, hown, hts⟩ (cwV 1 hts (gi_V t_189 t_191 t_7 t_62 t_192) rfl rfl rfl (by decide +kernel) ⟨Nat.le_of_ble_eq_true rfl, Nat.le_of_ble_eq_true rfl⟩) (va_recv (q0 := 0) (ci := 3) (q := (R_M, F_M, 7)) hK hP rfl rfl) hP hK hS rfl hl.1 rfl (Nat.le_of_ble_eq_true rfl) d_M_sendLines_41 (nm_i (fun r41 e41 H locs hP hS => ?_))
    refine lv_iconst (v := 2) hx hb d_M_sendLines_44 (by decide) ?_
    refine lv_idiv hx hb d_M_sendLines_45 (by decide) ?_
    refine lv_istore hx hb d_M_sendLines_46 hl (by decide) rfl (fun ls hl => ?_)
    have hl : lv_has ls 8 [(6, .int (r41 / 2)), (5, .int z36), (4, .int r16), (3, .int r1), (0, .ref a.1), (1, .int x1), (2, .int x2)] := hl
    refine lv_iconst (v := 0) hx hb d_M_sendLines_48 (by decide) ?_
    refine lv_istore hx hb d_M_sendLines_49 hl (by decide) rfl (fun ls hl => ?_)
    have hl : lv_has ls 8 [(7, .int 0), (6, .int (r41 / 2)), (5, .int z36), (4, .int r16), (3, .int r1), (0, .ref a.1), (1, .int x1), (2, .int x2)] := hl
    have hX51 : ∀ (i7_51 : Int32) (w51 : CSt) (H : Heap) (locs : List Loc) (ls : Array Slot), (i7_51, w51) = L_M_sendLines_51 x2 z36 r41 (((x2 : Int32).toInt - (0 : Int32).toInt).toNat) (0, u12) → va_P D kl (cw a w51) H → va_S (FA a) s.heap H locs → lv_has ls 8 [(0, .ref a.1), (2, .int x2), (3, .int r1), (4, .int r16), (5, .int z36), (6, .int (r41 / 2)), (7, .int i7_51)] → W p l e rm_M_sendLines s m args below meth c H locs 0 0 Q (F0 m 91 ls []) := by
      intro i7_51 w51 H locs ls hq hP hS hl
      have qi7_51 : i7_51 = (L_M_sendLines_51 x2 z36 r41 (((x2 : Int32).toInt - (0 : Int32).toInt).toNat) (0, u12)).1 := by rw [← hq]
      have qw51 : w51 = (L_M_sendLines_51 x2 z36 r41 (((x2 : Int32).toInt - (0 : Int32).toInt).toNat) (0, u12)).2 := by rw [← hq]
      refine lv_aload_n hx hb d_M_sendLines_91 rfl (lv_at hl 0 rfl) ?_
      refine va_get (D := D) (ci := 3) (v := .ref a.2.2.2.2.1) (C := R_M) (T := F_M) (N := 7) hx hb hts (fun w h => wm (ui_M w h)) hown hK hP 0 rfl rfl 2 (by decide) (hts _ (wm t_113)) (fun _ h9 => h9) rfl d_M_sendLines_92 ?_
      refine lv_iload hx hb d_M_sendLines_95 (lv_at hl 3 rfl) ?_
      refine lv_iconst (v := 0) hx hb d_M_sendLines_97 (by decide) ?_
      refine cl_V (C := R_St) (k_St_compare l D a hA w51 r16 0) ⟨hx, hb, hml, hown, hts⟩ (cwV 2 hts (gi_V t_218 t_219 t_220 t_65 t_221) rfl rfl rfl (by decide +kernel) ⟨Nat.le_of_ble_eq_true rfl, Nat.le_of_ble_eq_true rfl⟩) (va_recv (q0 := 4) (ci := 2) (q := (R_St, F_St, 1)) hK hP rfl rfl) hP hK hS rfl hl.1 rfl (Nat.le_of_ble_eq_true rfl) d_M_sendLines_98 (nm_s (fun u98 e98 H locs hP hS => ?_))
      refine lv_aload_n hx hb d_M_sendLines_101 rfl (lv_at hl 0 rfl) ?_
      refine va_get (D := D) (ci := 3) (v := .ref a.2.2.2.2.1) (C := R_M) (T := F_M) (N := 7) hx hb hts (fun w h => wm (ui_M w h)) hown hK hP 0 rfl rfl 2 (by decide) (hts _ (wm t_113)) (fun _ h9 => h9) rfl d_M_sendLines_102 ?_
      refine lv_iload hx hb d_M_sendLines_105 (lv_at hl 3 rfl) ?_
      refine lv_iload_n hx hb d_M_sendLines_107 rfl (lv_at hl 2 rfl) ?_
      refine cl_V (C := R_St) (k_St_markParity l D a hA u98 r16 r1) ⟨hx, hb, hml, hown, hts⟩ (cwV 2 hts (gi_V t_224 t_225 t_226 t_65 t_227) rfl rfl rfl (by decide +kernel) ⟨Nat.le_of_ble_eq_true rfl, Nat.le_of_ble_eq_true rfl⟩) (va_recv (q0 := 4) (ci := 2) (q := (R_St, F_St, 1)) hK hP rfl rfl) hP hK hS rfl hl.1 rfl (Nat.le_of_ble_eq_true rfl) d_M_sendLines_108 (nm_s (fun u108 e108 H locs hP hS => ?_))
      subst hQ
      exact rt_v hx hb hr hlk (by simp only [C_M_sendLines, ← e1, ← e12, ← f12, ← e16, ← jz36, ← e41, ← qi7_51, ← qw51, ← e98, ← e108]) hP hS d_M_sendLines_111
    have hL51 : ∀ (f : Nat) (i7_51 : Int32) (w51 : CSt) (H : Heap) (locs : List Loc) (ls : Array Slot), (x2.toInt - i7_51.toInt).toNat ≤ f → L_M_sendLines_51 x2 z36 r41 f (i7_51, w51) = L_M_sendLines_51 x2 z36 r41 (((x2 : Int32).toInt - (0 : Int32).toInt).toNat) (0, u12) → va_P D kl (cw a w51) H → va_S (FA a) s.heap H locs → lv_has ls 8 [(0, .ref a.1), (2, .int x2), (3, .int r1), (4, .int r16), (5, .int z36), (6, .int (r41 / 2)), (7, .int i7_51)] → W p l e rm_M_sendLines s m args below meth c H locs 0 0 Q (F0 m 51 ls []) := by
      intro f
      induction f with
      | zero =>
        intro i7_51 w51 H locs ls hf hE hP hS hl
        refine lv_iload hx hb d_M_sendLines_51 (lv_at hl 6 rfl) ?_
        refine lv_iload_n hx hb d_M_sendLines_53 rfl (lv_at hl 1 rfl) ?_
        refine lv_icmp_ge (tgt := 91) hx hb d_M_sendLines_54 (by decide) (fun h54 => ?_) (fun h54 => ?_)
        · exact hX51 _ _ _ _ _ hE hP hS hl
        · exact (ms_zero hf h54).elim
      | succ f ih =>
        intro i7_51 w51 H locs ls hf hE hP hS hl
        refine lv_iload hx hb d_M_sendLines_51 (lv_at hl 6 rfl) ?_
        refine lv_iload_n hx hb d_M_sendLines_53 rfl (lv_at hl 1 rfl) ?_
        refine lv_icmp_ge (tgt := 91) hx hb d_M_sendLines_54 (by decide) (fun h54 => ?_) (fun h54 => ?_)
        · exact hX51 _ _ _ _ _ (by rw [← hE, L_M_sendLines_51_s, if_pos h54]) hP hS hl
        · refine lv_aload_n hx hb d_M_sendLines_57 rfl (lv_at hl 0 rfl) ?_
          refine va_get (D := D) (ci := 3) (v := .ref a.2.2.2.1) (C := R_M) (T := F_M) (N := 7) hx hb hts (fun w h => wm (ui_M w h)) hown hK hP 0 rfl rfl 1 (by decide) (hts _ (wm t_112)) (fun _ h9 => h9) rfl d_M_sendLines_58 ?_
          refine lv_iload hx hb d_M_sendLines_61 (lv_at hl 5 rfl) ?_
          refine lv_iload hx hb d_M_sendLines_63 (lv_at hl 6 rfl) ?_
          refine lv_iadd hx hb d_M_sendLines_65 ?_
          refine lv_iload hx hb d_M_sendLines_66 (lv_at hl 4 rfl) ?_
          refine lv_iload hx hb d_M_sendLines_68 (lv_at hl 6 rfl) ?_
          refine lv_ishr hx hb d_M_sendLines_70 ?_
          refine lv_iconst (v := 1) hx hb d_M_sendLines_71 (by decide) ?_
          refine lv_iand hx hb d_M_sendLines_72 ?_
          refine lv_iconst (v := 1) hx hb d_M_sendLines_73 (by decide) ?_
          have hJ82 : ∀ (z82 : Int32), z82 = J_M_sendLines_82 z36 i7_51 → W p l e rm_M_sendLines s m args below meth c H locs 0 0 Q (F0 m 82 ls [.int z82, .int ((r41 / 2) + i7_51), .ref a.2.2.2.1]) := by
            intro z82 jz82
            refine cl_V (C := R_Li) (k_Li_set l D a hA w51 ((r41 / 2) + i7_51) z82) ⟨hx, hb, hml, hown, hts⟩ (cwV 2 hts (gi_V t_275 t_276 t_277 t_64 t_278) rfl rfl rfl (by decide +kernel) ⟨Nat.le_of_ble_eq_true rfl, Nat.le_of_ble_eq_true rfl⟩) (va_recv (q0 := 3) (ci := 0) (q := (R_Li, F_Li, 1)) hK hP rfl rfl) hP hK hS rfl hl.1 rfl (Nat.le_of_ble_eq_true rfl) d_M_sendLines_82 (nm_s (fun u82 e82 H locs hP hS => ?_))
            refine lv_iinc (k := 6) (v := (i7_51 + 1)) hx hb d_M_sendLines_85 hl rfl rfl (by decide) rfl (fun ls hl => ?_)
            have hl : lv_has ls 8 [(7, .int (i7_51 + 1)), (0, .ref a.1), (2, .int x2), (3, .int r1), (4, .int r16), (5, .int z36), (6, .int (r41 / 2))] := hl
            refine lv_goto (tgt := 51) hx hb d_M_sendLines_88 (by decide) ?_
            exact ih (i7_51 + 1) u82 _ _ _ (ms_step h54 hf) ((congrArg (L_M_sendLines_51 x2 z36 r41 f) (by simp only [B_M_sendLines_51, ← jz82, ← e82])).trans (show L_M_sendLines_51 x2 z36 r41 f (B_M_sendLines_51 x2 z36 r41 (i7_51, w51)) = _ by rw [← hE, L_M_sendLines_51_s, if_neg h54])) hP hS (lv_sub hl [1, 2, 3, 4, 5, 6, 0] rfl)
          refine lv_icmp_ne (tgt := 81) hx hb d_M_sendLines_74 (by decide) (fun h74 => ?_) (fun h74 => ?_)
          · refine lv_iconst (v := 0) hx hb d_M_sendLines_81 (by decide) ?_
            exact hJ82 0 (by simp only [J_M_sendLines_82, if_neg h74])
          refine lv_iconst (v := 1) hx hb d_M_sendLines_77 (by decide) ?_
          refine lv_goto (tgt := 82) hx hb d_M_sendLines_78 (by decide) ?_
          exact hJ82 1 (by simp only [J_M_sendLines_82, if_pos h74])
    exact hL51 _ 0 u12 _ _ _ (Nat.le_refl _) rfl hP hS (lv_sub hl [5, 7, 4, 3, 2, 1, 0] rfl)
  refine lv_icmp_ne (tgt := 34) hx hb d_M_sendLines_23 (by decide) (fun h23 => ?_) (fun h23 => ?_)
  · refine lv_iload hx hb d_M_sendLines_34 (lv_at hl 0 rfl) ?_
    exact hJ36 r16 (by simp only [J_M_sendLines_36, if_neg h23])
  refine lv_iload hx hb d_M_sendLines_26 (lv_at hl 0 rfl) ?_
  refine lv_bipush (v := 8) hx hb d_M_sendLines_28 (by decide) ?_
  refine lv_ishr hx hb d_M_sendLines_30 ?_
  refine lv_goto (tgt := 36) hx hb d_M_sendLines_31 (by decide) ?_
  exact hJ36 (r16 >>> ((8 : Int32) &&& 31)) (by simp only [J_M_sendLines_36, if_pos h23])
set_option maxHeartbeats 4000000 in
set_option maxRecDepth 100000 in
theorem k_Li_isOn (l : Launch) (D : va_G) (a : CAd) (hA : ApC a) (u0 : CSt) (x1 : Int32) : MC kl (cw a) (FA a) (tyC a) l D y_Li_isOn b_Li_isOn 2 (some .boolean) rm_Li_isOn [.ref a.2.2.2.1, .int x1] u0 (some (.int (C_Li_isOn u0 x1))) u0 := by
  refine MC.mk (by decide) (Nat.le_of_ble_eq_true rfl) ?_
  intro p e s m below meth c ls Q args H locs hx hb hr hml hown hts hlk hl hP hK hS hQ
  have hown : s.vm.findClass R_Li = some m.cls := hown
  have hl : lv_has ls 2 [(0, .ref a.2.2.2.1), (1, .int x1)] := hl
  refine lv_aload_n hx hb d_Li_isOn_0 rfl (lv_at hl 0 rfl) ?_
  refine va_get (D := D) (ci := 0) (v := .long u0.2.1) (C := R_Li) (T := F_Li) (N := 1) hx hb hts (fun w h => wm (ui_Li w h)) hown hK hP 3 rfl rfl 0 (by decide) (hts _ (wm t_97)) (fun _ h9 => h9) rfl d_Li_isOn_1 ?_
  refine lv_iload_n hx hb d_Li_isOn_4 rfl (lv_at hl 1 rfl) ?_
  refine cl_S (k_Li_bitOf l D a hA u0 x1) ⟨hx, hb, hml, hown, hts⟩ (va_cwS 1 hts (gi_S t_279 t_280 t_64 t_281) rfl rfl rfl (by decide +kernel) ⟨Nat.le_of_ble_eq_true rfl, Nat.le_of_ble_eq_true rfl⟩) hP hK hS rfl hl.1 rfl (Nat.le_of_ble_eq_true rfl) d_Li_isOn_5 (nm_l (fun r5 e5 H locs hP hS => ?_))
  refine lv_land hx hb d_Li_isOn_8 ?_
  refine lv_lconst (v := 0) hx hb d_Li_isOn_9 (by decide) ?_
  refine W.lcmp hx hb d_Li_isOn_10 ?_
  refine lv_if_eq (tgt := 18) hx hb d_Li_isOn_11 (by decide) (fun h11 => ?_) (fun h11 => ?_)
  · refine lv_iconst (v := 0) hx hb d_Li_isOn_18 (by decide) ?_
    subst hQ
    exact rt_z hx hb hr hlk rfl (by simp only [C_Li_isOn, ← e5, if_pos h11]) rfl hP hS d_Li_isOn_19
  refine lv_iconst (v := 1) hx hb d_Li_isOn_14 (by decide) ?_
  refine lv_goto (tgt := 19) hx hb d_Li_isOn_15 (by decide) ?_
  subst hQ
  exact rt_z hx hb hr hlk rfl (by simp only [C_Li_isOn, ← e5, if_neg h11]) rfl hP hS d_Li_isOn_19
set_option maxHeartbeats 4000000 in
set_option maxRecDepth 100000 in
theorem k_M_receiveLines (l : Launch) (D : va_G) (a : CAd) (hA : ApC a) (u0 : CSt) (x1 : Int32) (x2 : Int32) : MC kl (cw a) (FA a) (tyC a) l D y_M_receiveLines b_M_receiveLines 8 none rm_M_receiveLines [.ref a.1, .int x1, .int x2] u0 none (C_M_receiveLines u0 x1 x2) := by
  refine MC.mk (by decide) (Nat.le_of_ble_eq_true rfl) ?_
  intro p e s m below meth c ls Q args H locs hx hb hr hml hown hts hlk hl hP hK hS hQ
  have hown : s.vm.findClass R_M = some m.cls := hown
  have hl : lv_has ls 8 [(0, .ref a.1), (1, .int x1), (2, .int x2)] := hl
  refine lv_iload_n hx hb d_M_receiveLines_0 rfl (lv_at hl 2 rfl) ?_
  refine cl_S (k_M_sizeForLines l D a hA u0 x2) ⟨hx, hb, hml, hown, hts⟩ (va_cwS 1 hts (gi_S t_272 t_273 t_62 t_274) rfl rfl rfl (by decide +kernel) ⟨Nat.le_of_ble_eq_true rfl, Nat.le_of_ble_eq_true rfl⟩) hP hK hS rfl hl.1 rfl (Nat.le_of_ble_eq_true rfl) d_M_receiveLines_1 (nm_i (fun r1 e1 H locs hP hS => ?_))
  refine lv_istore_n hx hb d_M_receiveLines_4 rfl hl (by decide) rfl (fun ls hl => ?_)
  have hl : lv_has ls 8 [(3, .int r1), (0, .ref a.1), (1, .int x1), (2, .int x2)] := hl
  refine lv_aload_n hx hb d_M_receiveLines_5 rfl (lv_at hl 1 rfl) ?_
  refine lv_iload_n hx hb d_M_receiveLines_6 rfl (lv_at hl 2 rfl) ?_
  refine lv_iload_n hx hb d_M_receiveLines_7 rfl (lv_at hl 0 rfl) ?_
  refine cl_V (C := R_M) (k_M_operandAddress l D a hA u0 x1 r1) ⟨hx, hb, hml, hown, hts⟩ (cwV 2 hts (gi_V t_197 t_199 t_8 t_62 t_200) rfl rfl rfl (by decide +kernel) ⟨Nat.le_of_ble_eq_true rfl, Nat.le_of_ble_eq_true rfl⟩) (va_recv (q0 := 0) (ci := 3) (q := (R_M, F_M, 7)) hK hP rfl rfl) hP hK hS rfl hl.1 rfl (Nat.le_of_ble_eq_true rfl) d_M_receiveLines_8 (nm_is (fun r8 u8 e8 f8 H locs hP hS => ?_))
  refine lv_istore hx hb d_M_receiveLines_11 hl (by decide) rfl (fun ls hl => ?_)
  have hl : lv_has ls 8 [(4, .int r8), (3, .int r1), (0, .ref a.1), (1, .int x1), (2, .int x2)] := hl
  refine lv_aload_n hx hb d_M_receiveLines_13 rfl (lv_at hl 2 rfl) ?_
  refine lv_bipush (v := 12) hx hb d_M_receiveLines_14 (by decide) ?_
  refine cl_V (C := R_M) (k_M_register l D a hA u8 12) ⟨hx, hb, hml, hown, hts⟩ (cwV 1 hts (gi_V t_189 t_191 t_7 t_62 t_192) rfl rfl rfl (by decide +kernel) ⟨Nat.le_of_ble_eq_true rfl, Nat.le_of_ble_eq_true rfl⟩) (va_recv (q0 := 0) (ci := 3) (q := (R_M, F_M, 7)) hK hP rfl rfl) hP hK hS rfl hl.1 rfl (Nat.le_of_ble_eq_true rfl) d_M_receiveLines_16 (nm_i (fun r16 e16 H locs hP hS => ?_))
  refine lv_iconst (v := 2) hx hb d_M_receiveLines_19 (by decide) ?_
  refine lv_idiv hx hb d_M_receiveLines_20 (by decide) ?_
  refine lv_istore hx hb d_M_receiveLines_21 hl (by decide) rfl (fun ls hl => ?_)
  have hl : lv_has ls 8 [(5, .int (r16 / 2)), (4, .int r8), (3, .int r1), (0, .ref a.1), (1, .int x1), (2, .int x2)] := hl
  refine lv_iconst (v := 0) hx hb d_M_receiveLines_23 (by decide) ?_
  refine lv_istore hx hb d_M_receiveLines_24 hl (by decide) rfl (fun ls hl => ?_)
  have hl : lv_has ls 8 [(6, .int 0), (5, .int (r16 / 2)), (4, .int r8), (3, .int r1), (0, .ref a.1), (1, .int x1), (2, .int x2)] := hl
  refine lv_iconst (v := 0) hx hb d_M_receiveLines_26 (by decide) ?_
  refine lv_istore hx hb d_M_receiveLines_27 hl (by decide) rfl (fun ls hl => ?_)
  have hl : lv_has ls 8 [(7, .int 0), (6, .int 0), (5, .int (r16 / 2)), (4, .int r8), (3, .int r1), (0, .ref a.1), (1, .int x1), (2, .int x2)] := hl
  have hX29 : ∀ (i6_29 : Int32) (i7_29 : Int32) (H : Heap) (locs : List Loc) (ls : Array Slot), (i6_29, i7_29) = L_M_receiveLines_29 x2 u8 r16 (((x2 : Int32).toInt - (0 : Int32).toInt).toNat) (0, 0) → va_P D kl (cw a u8) H → va_S (FA a) s.heap H locs → lv_has ls 8 [(0, .ref a.1), (2, .int x2), (3, .int r1), (4, .int r8), (5, .int (r16 / 2)), (6, .int i6_29), (7, .int i7_29)] → W p l e rm_M_receiveLines s m args below meth c H locs 0 0 Q (F0 m 69 ls []) := by
    intro i6_29 i7_29 H locs ls hq hP hS hl
    have qi6_29 : i6_29 = (L_M_receiveLines_29 x2 u8 r16 (((x2 : Int32).toInt - (0 : Int32).toInt).toNat) (0, 0)).1 := by rw [← hq]
    have qi7_29 : i7_29 = (L_M_receiveLines_29 x2 u8 r16 (((x2 : Int32).toInt - (0 : Int32).toInt).toNat) (0, 0)).2 := by rw [← hq]
    refine lv_aload_n hx hb d_M_receiveLines_69 rfl (lv_at hl 0 rfl) ?_
    refine va_get (D := D) (ci := 3) (v := .ref a.2.2.2.2.1) (C := R_M) (T := F_M) (N := 7) hx hb hts (fun w h => wm (ui_M w h)) hown hK hP 0 rfl rfl 2 (by decide) (hts _ (wm t_113)) (fun _ h9 => h9) rfl d_M_receiveLines_70 ?_
    refine lv_iload_n hx hb d_M_receiveLines_73 rfl (lv_at hl 2 rfl) ?_
    refine lv_iconst (v := 1) hx hb d_M_receiveLines_74 (by decide) ?_
    have hJ88 : ∀ (z88 : Int32), z88 = J_M_receiveLines_88 r1 i6_29 → W p l e rm_M_receiveLines s m args below meth c H locs 0 0 Q (F0 m 88 ls [.int z88, .ref a.2.2.2.2.1]) := by
      intro z88 jz88
      refine cl_V (C := R_St) (k_St_tested l D a hA u8 z88) ⟨hx, hb, hml, hown, hts⟩ (cwV 1 hts (gi_V t_242 t_243 t_244 t_65 t_245) rfl rfl rfl (by decide +kernel) ⟨Nat.le_of_ble_eq_true rfl, Nat.le_of_ble_eq_true rfl⟩) (va_recv (q0 := 4) (ci := 2) (q := (R_St, F_St, 1)) hK hP rfl rfl) hP hK hS rfl hl.1 rfl (Nat.le_of_ble_eq_true rfl) d_M_receiveLines_88 (nm_is (fun r88 u88 e88 f88 H locs hP hS => ?_))
      refine lv_istore hx hb d_M_receiveLines_91 hl (by decide) rfl (fun ls hl => ?_)
      have hl : lv_has ls 8 [(7, .int r88), (0, .ref a.1), (2, .int x2), (3, .int r1), (4, .int r8), (5, .int (r16 / 2)), (6, .int i6_29)] := hl
      refine lv_aload_n hx hb d_M_receiveLines_93 rfl (lv_at hl 1 rfl) ?_
      refine va_get (D := D) (ci := 3) (v := .ref a.2.1) (C := R_M) (T := F_M) (N := 7) hx hb hts (fun w h => wm (ui_M w h)) hown hK hP 0 rfl rfl 0 (by decide) (hts _ (wm t_111)) (fun _ h9 => h9) rfl d_M_receiveLines_94 ?_
      refine lv_iload hx hb d_M_receiveLines_97 (lv_at hl 4 rfl) ?_
      refine lv_iload hx hb d_M_receiveLines_99 (lv_at hl 0 rfl) ?_
      refine lv_iload_n hx hb d_M_receiveLines_101 rfl (lv_at hl 3 rfl) ?_
      refine cl_V (C := R_Me) (k_Me_store l D a hA u88 r8 r88 r1) ⟨hx, hb, hml, hown, hts⟩ (cwV 3 hts (gi_V t_254 t_255 t_256 t_63 t_257) rfl rfl rfl (by decide +kernel) ⟨Nat.le_of_ble_eq_true rfl, Nat.le_of_ble_eq_true rfl⟩) (va_recv (q0 := 1) (ci := 1) (q := (R_Me, F_Me, 1)) hK hP rfl rfl) hP hK hS rfl hl.1 rfl (Nat.le_of_ble_eq_true rfl) d_M_receiveLines_102 (nm_s (fun u102 e102 H locs hP hS => ?_))
      refine lv_aload_n hx hb d_M_receiveLines_105 rfl (lv_at hl 1 rfl) ?_
      refine va_get (D := D) (ci := 3) (v := .ref a.2.2.2.2.1) (C := R_M) (T := F_M) (N := 7) hx hb hts (fun w h => wm (ui_M w h)) hown hK hP 0 rfl rfl 2 (by decide) (hts _ (wm t_113)) (fun _ h9 => h9) rfl d_M_receiveLines_106 ?_
      refine lv_iload hx hb d_M_receiveLines_109 (lv_at hl 0 rfl) ?_
      refine lv_iload_n hx hb d_M_receiveLines_111 rfl (lv_at hl 3 rfl) ?_
      refine cl_V (C := R_St) (k_St_markParity l D a hA u102 r88 r1) ⟨hx, hb, hml, hown, hts⟩ (cwV 2 hts (gi_V t_224 t_225 t_226 t_65 t_227) rfl rfl rfl (by decide +kernel) ⟨Nat.le_of_ble_eq_true rfl, Nat.le_of_ble_eq_true rfl⟩) (va_recv (q0 := 4) (ci := 2) (q := (R_St, F_St, 1)) hK hP rfl rfl) hP hK hS rfl hl.1 rfl (Nat.le_of_ble_eq_true rfl) d_M_receiveLines_112 (nm_s (fun u112 e112 H locs hP hS => ?_))
      subst hQ
      exact rt_v hx hb hr hlk (by simp only [C_M_receiveLines, ← e1, ← e8, ← f8, ← e16, ← qi6_29, ← qi7_29, ← jz88, ← e88, ← f88, ← e102, ← e112]) hP hS d_M_receiveLines_115
    refine lv_icmp_ne (tgt := 86) hx hb d_M_receiveLines_75 (by decide) (fun h75 => ?_) (fun h75 => ?_)
    · refine lv_iload hx hb d_M_receiveLines_86 (lv_at hl 5 rfl) ?_
      exact hJ88 i6_29 (by simp only [J_M_receiveLines_88, if_neg h75])
    refine lv_iload hx hb d_M_receiveLines_78 (lv_at hl 5 rfl) ?_
    refine lv_bipush (v := 8) hx hb d_M_receiveLines_80 (by decide) ?_
    refine lv_ishl hx hb d_M_receiveLines_82 ?_
    refine lv_goto (tgt := 88) hx hb d_M_receiveLines_83 (by decide) ?_
    exact hJ88 (i6_29 <<< ((8 : Int32) &&& 31)) (by simp only [J_M_receiveLines_88, if_pos h75])
  have hL29 : ∀ (f : Nat) (i6_29 : Int32) (i7_29 : Int32) (H : Heap) (locs : List Loc) (ls : Array Slot), (x2.toInt - i7_29.toInt).toNat ≤ f → L_M_receiveLines_29 x2 u8 r16 f (i6_29, i7_29) = L_M_receiveLines_29 x2 u8 r16 (((x2 : Int32).toInt - (0 : Int32).toInt).toNat) (0, 0) → va_P D kl (cw a u8) H → va_S (FA a) s.heap H locs → lv_has ls 8 [(0, .ref a.1), (2, .int x2), (3, .int r1), (4, .int r8), (5, .int (r16 / 2)), (6, .int i6_29), (7, .int i7_29)] → W p l e rm_M_receiveLines s m args below meth c H locs 0 0 Q (F0 m 29 ls []) := by
    intro f
    induction f with
    | zero =>
      intro i6_29 i7_29 H locs ls hf hE hP hS hl
      refine lv_iload hx hb d_M_receiveLines_29 (lv_at hl 6 rfl) ?_
      refine lv_iload_n hx hb d_M_receiveLines_31 rfl (lv_at hl 1 rfl) ?_
      refine lv_icmp_ge (tgt := 69) hx hb d_M_receiveLines_32 (by decide) (fun h32 => ?_) (fun h32 => ?_)
      · exact hX29 _ _ _ _ _ hE hP hS hl
      · exact (ms_zero hf h32).elim
    | succ f ih =>
      intro i6_29 i7_29 H locs ls hf hE hP hS hl
      refine lv_iload hx hb d_M_receiveLines_29 (lv_at hl 6 rfl) ?_
      refine lv_iload_n hx hb d_M_receiveLines_31 rfl (lv_at hl 1 rfl) ?_
      refine lv_icmp_ge (tgt := 69) hx hb d_M_receiveLines_32 (by decide) (fun h32 => ?_) (fun h32 => ?_)
      · exact hX29 _ _ _ _ _ (by rw [← hE, L_M_receiveLines_29_s, if_pos h32]) hP hS hl
      · refine lv_iload hx hb d_M_receiveLines_35 (lv_at hl 5 rfl) ?_
        refine lv_aload_n hx hb d_M_receiveLines_37 rfl (lv_at hl 0 rfl) ?_
        refine va_get (D := D) (ci := 3) (v := .ref a.2.2.2.1) (C := R_M) (T := F_M) (N := 7) hx hb hts (fun w h => wm (ui_M w h)) hown hK hP 0 rfl rfl 1 (by decide) (hts _ (wm t_112)) (fun _ h9 => h9) rfl d_M_receiveLines_38 ?_
        refine lv_iload hx hb d_M_receiveLines_41 (lv_at hl 4 rfl) ?_
        refine lv_iload hx hb d_M_receiveLines_43 (lv_at hl 6 rfl) ?_
        refine lv_iadd hx hb d_M_receiveLines_45 ?_
        refine cl_V (C := R_Li) (k_Li_isOn l D a hA u8 ((r16 / 2) + i7_29)) ⟨hx, hb, hml, hown, hts⟩ (cwV 1 hts (gi_V t_287 t_288 t_289 t_64 t_290) rfl rfl rfl (by decide +kernel) ⟨Nat.le_of_ble_eq_true rfl, Nat.le_of_ble_eq_true rfl⟩) (va_recv (q0 := 3) (ci := 0) (q := (R_Li, F_Li, 1)) hK hP rfl rfl) hP hK hS rfl hl.1 rfl (Nat.le_of_ble_eq_true rfl) d_M_receiveLines_46 (nm_i (fun r46 e46 H locs hP hS => ?_))
        have hJ60 : ∀ (z60 : Int32), z60 = J_M_receiveLines_60 i7_29 r46 → W p l e rm_M_receiveLines s m args below meth c H locs 0 0 Q (F0 m 60 ls [.int z60, .int i6_29]) := by
          intro z60 jz60
          refine lv_ior hx hb d_M_receiveLines_60 ?_
          refine lv_istore hx hb d_M_receiveLines_61 hl (by decide) rfl (fun ls hl => ?_)
          have hl : lv_has ls 8 [(6, .int (i6_29 ||| z60)), (0, .ref a.1), (2, .int x2), (3, .int r1), (4, .int r8), (5, .int (r16 / 2)), (7, .int i7_29)] := hl
          refine lv_iinc (k := 6) (v := (i7_29 + 1)) hx hb d_M_receiveLines_63 hl rfl rfl (by decide) rfl (fun ls hl => ?_)
          have hl : lv_has ls 8 [(7, .int (i7_29 + 1)), (6, .int (i6_29 ||| z60)), (0, .ref a.1), (2, .int x2), (3, .int r1), (4, .int r8), (5, .int (r16 / 2))] := hl
          refine lv_goto (tgt := 29) hx hb d_M_receiveLines_66 (by decide) ?_
          exact ih (i6_29 ||| z60) (i7_29 + 1) _ _ _ (ms_step h32 hf) ((congrArg (L_M_receiveLines_29 x2 u8 r16 f) (by simp only [B_M_receiveLines_29, ← e46, ← jz60])).trans (show L_M_receiveLines_29 x2 u8 r16 f (B_M_receiveLines_29 x2 u8 r16 (i6_29, i7_29)) = _ by rw [← hE, L_M_receiveLines_29_s, if_neg h32])) hP hS (lv_sub hl [2, 3, 4, 5, 6, 1, 0] rfl)
        refine lv_if_eq (tgt := 59) hx hb d_M_receiveLines_49 (by decide) (fun h49 => ?_) (fun h49 => ?_)
        · refine lv_iconst (v := 0) hx hb d_M_receiveLines_59 (by decide) ?_
          exact hJ60 0 (by simp only [J_M_receiveLines_60, if_pos h49])
        refine lv_iconst (v := 1) hx hb d_M_receiveLines_52 (by decide) ?_
        refine lv_iload hx hb d_M_receiveLines_53 (lv_at hl 6 rfl) ?_
        refine lv_ishl hx hb d_M_receiveLines_55 ?_
        refine lv_goto (tgt := 60) hx hb d_M_receiveLines_56 (by decide) ?_
        exact hJ60 (1 <<< (i7_29 &&& 31)) (by simp only [J_M_receiveLines_60, if_neg h49])
  exact hL29 _ 0 0 _ _ _ (Nat.le_refl _) rfl hP hS (lv_sub hl [5, 7, 4, 3, 2, 1, 0] rfl)
set_option maxHeartbeats 4000000 in
set_option maxRecDepth 100000 in
theorem k_M_multiply (l : Launch) (D : va_G) (a : CAd) (hA : ApC a) (u0 : CSt) (x1 : Int32) (x2 : Int32) (x3 : Int32) : MC kl (cw a) (FA a) (tyC a) l D y_M_multiply b_M_multiply 6 none rm_M_multiply [.ref a.1, .int x1, .int x2, .int x3] u0 none (C_M_multiply u0 x1 x2 x3) := by
  refine MC.mk (by decide) (Nat.le_of_ble_eq_true rfl) ?_
  intro p e s m below meth c ls Q args H locs hx hb hr hml hown hts hlk hl hP hK hS hQ
  have hown : s.vm.findClass R_M = some m.cls := hown
  have hl : lv_has ls 6 [(0, .ref a.1), (1, .int x1), (2, .int x2), (3, .int x3)] := hl
  refine lv_iload_n hx hb d_M_multiply_0 rfl (lv_at hl 2 rfl) ?_
  refine lv_i2l hx hb d_M_multiply_1 rfl ?_
  refine lv_iload_n hx hb d_M_multiply_2 rfl (lv_at hl 3 rfl) ?_
  refine lv_i2l hx hb d_M_multiply_3 rfl ?_
  refine lv_lmul hx hb d_M_multiply_4 ?_
  refine lv_lstore hx hb d_M_multiply_5 hl (by decide) rfl (fun ls hl => ?_)
  have hl : lv_has ls 6 [(4, .long ((x2.toInt64) * (x3.toInt64))), (0, .ref a.1), (1, .int x1), (2, .int x2), (3, .int x3)] := hl
  refine lv_aload_n hx hb d_M_multiply_7 rfl (lv_at hl 1 rfl) ?_
  refine lv_iload_n hx hb d_M_multiply_8 rfl (lv_at hl 2 rfl) ?_
  refine lv_lload hx hb d_M_multiply_9 (lv_at hl 0 rfl) ?_
  refine lv_bipush (v := 16) hx hb d_M_multiply_11 (by decide) ?_
  refine lv_lshr hx hb d_M_multiply_13 rfl ?_
  refine lv_l2i hx hb d_M_multiply_14 rfl ?_
  refine cl_V (C := R_M) (k_M_setRegister l D a hA u0 x1 ((((x2.toInt64) * (x3.toInt64)) >>> ((16 : Int32).toInt64 &&& 63)).toInt32)) ⟨hx, hb, hml, hown, hts⟩ (cwV 2 hts (gi_V t_149 t_151 t_2 t_62 t_152) rfl rfl rfl (by decide +kernel) ⟨Nat.le_of_ble_eq_true rfl, Nat.le_of_ble_eq_true rfl⟩) (va_recv (q0 := 0) (ci := 3) (q := (R_M, F_M, 7)) hK hP rfl rfl) hP hK hS rfl hl.1 rfl (Nat.le_of_ble_eq_true rfl) d_M_multiply_15 (nm_s (fun u15 e15 H locs hP hS => ?_))
  refine lv_aload_n hx hb d_M_multiply_18 rfl (lv_at hl 1 rfl) ?_
  refine lv_iload_n hx hb d_M_multiply_19 rfl (lv_at hl 2 rfl) ?_
  refine lv_iconst (v := 1) hx hb d_M_multiply_20 (by decide) ?_
  refine lv_iadd hx hb d_M_multiply_21 ?_
  refine lv_lload hx hb d_M_multiply_22 (lv_at hl 0 rfl) ?_
  refine lv_l2i hx hb d_M_multiply_24 rfl ?_
  refine cl_V (C := R_M) (k_M_setRegister l D a hA u15 (x1 + 1) (((x2.toInt64) * (x3.toInt64)).toInt32)) ⟨hx, hb, hml, hown, hts⟩ (cwV 2 hts (gi_V t_149 t_151 t_2 t_62 t_152) rfl rfl rfl (by decide +kernel) ⟨Nat.le_of_ble_eq_true rfl, Nat.le_of_ble_eq_true rfl⟩) (va_recv (q0 := 0) (ci := 3) (q := (R_M, F_M, 7)) hK hP rfl rfl) hP hK hS rfl hl.1 rfl (Nat.le_of_ble_eq_true rfl) d_M_multiply_25 (nm_s (fun u25 e25 H locs hP hS => ?_))
  subst hQ
  exact rt_v hx hb hr hlk (by simp only [C_M_multiply, ← e15, ← e25]) hP hS d_M_multiply_28
set_option maxHeartbeats 4000000 in
set_option maxRecDepth 100000 in
theorem k_M_divide (l : Launch) (D : va_G) (a : CAd) (hA : ApC a) (u0 : CSt) (x1 : Int32) (x2 : Int32) (x3 : Int32) (h0 : 0 ≤ x2) : MC kl (cw a) (FA a) (tyC a) l D y_M_divide b_M_divide 7 none rm_M_divide [.ref a.1, .int x1, .int x2, .int x3] u0 none (C_M_divide u0 x1 x2 x3) := by
  refine MC.mk (by decide) (Nat.le_of_ble_eq_true rfl) ?_
  intro p e s m below meth c ls Q args H locs hx hb hr hml hown hts hlk hl hP hK hS hQ
  have hown : s.vm.findClass R_M = some m.cls := hown
  have hl : lv_has ls 7 [(0, .ref a.1), (1, .int x1), (2, .int x2), (3, .int x3)] := hl
  refine lv_iload_n hx hb d_M_divide_0 rfl (lv_at hl 3 rfl) ?_
  refine lv_iload_n hx hb d_M_divide_1 rfl (lv_at hl 2 rfl) ?_
  have hJ10 : ∀ (z10 : Int32), z10 = J_M_divide_10 x2 x3 → W p l e rm_M_divide s m args below meth c H locs 0 0 Q (F0 m 10 ls [.int z10]) := by
    intro z10 jz10
    refine lv_istore hx hb d_M_divide_10 hl (by decide) rfl (fun ls hl => ?_)
    have hl : lv_has ls 7 [(4, .int z10), (0, .ref a.1), (1, .int x1), (2, .int x2), (3, .int x3)] := hl
    refine lv_aload_n hx hb d_M_divide_12 rfl (lv_at hl 1 rfl) ?_
    refine va_get (D := D) (ci := 3) (v := .ref a.2.2.2.2.1) (C := R_M) (T := F_M) (N := 7) hx hb hts (fun w h => wm (ui_M w h)) hown hK hP 0 rfl rfl 2 (by decide) (hts _ (wm t_113)) (fun _ h9 => h9) rfl d_M_divide_13 ?_
    refine lv_sipush (v := 2048) hx hb d_M_divide_16 (by decide) ?_
    refine lv_iload hx hb d_M_divide_19 (lv_at hl 0 rfl) ?_
    have hJ29 : ∀ (z29 : Int32), z29 = J_M_divide_29 z10 → W p l e rm_M_divide s m args below meth c H locs 0 0 Q (F0 m 29 ls [.int z29, .int 2048, .ref a.2.2.2.2.1]) := by
      intro z29 jz29
      refine cl_V (C := R_St) (k_St_mark l D a hA u0 2048 z29) ⟨hx, hb, hml, hown, hts⟩ (cwV 2 hts (gi_V t_267 t_235 t_236 t_65 t_237) rfl rfl rfl (by decide +kernel) ⟨Nat.le_of_ble_eq_true rfl, Nat.le_of_ble_eq_true rfl⟩) (va_recv (q0 := 4) (ci := 2) (q := (R_St, F_St, 1)) hK hP rfl rfl) hP hK hS rfl hl.1 rfl (Nat.le_of_ble_eq_true rfl) d_M_divide_29 (nm_s (fun u29 e29 H locs hP hS => ?_))
      refine lv_iload hx hb d_M_divide_32 (lv_at hl 0 rfl) ?_
      refine lv_if_eq (tgt := 77) hx hb d_M_divide_34 (by decide) (fun h34 => ?_) (fun h34 => ?_)
      · subst hQ
        exact rt_v hx hb hr hlk (by simp only [C_M_divide, ← jz10, ← jz29, ← e29, if_pos h34]) hP hS d_M_divide_77
      refine lv_iload_n hx hb d_M_divide_37 rfl (lv_at hl 3 rfl) ?_
      refine lv_i2l hx hb d_M_divide_38 rfl ?_
      refine lv_bipush (v := 16) hx hb d_M_divide_39 (by decide) ?_
      refine lv_lshl hx hb d_M_divide_41 rfl ?_
      refine lv_aload_n hx hb d_M_divide_42 rfl (lv_at hl 1 rfl) ?_
      refine lv_iload_n hx hb d_M_divide_43 rfl (lv_at hl 2 rfl) ?_
      refine lv_iconst (v := 1) hx hb d_M_divide_44 (by decide) ?_
      refine lv_iadd hx hb d_M_divide_45 ?_
      refine cl_V (C := R_M) (k_M_register l D a hA u29 (x1 + 1)) ⟨hx, hb, hml, hown, hts⟩ (cwV 1 hts (gi_V t_189 t_191 t_7 t_62 t_192) rfl rfl rfl (by decide +kernel) ⟨Nat.le_of_ble_eq_true rfl, Nat.le_of_ble_eq_true rfl⟩) (va_recv (q0 := 0) (ci := 3) (q := (R_M, F_M, 7)) hK hP rfl rfl) hP hK hS rfl hl.1 rfl (Nat.le_of_ble_eq_true rfl) d_M_divide_46 (nm_i (fun r46 e46 H locs hP hS => ?_))
      refine lv_i2l hx hb d_M_divide_49 rfl ?_
      refine lv_lor hx hb d_M_divide_50 ?_
      refine lv_lstore hx hb d_M_divide_51 hl (by decide) rfl (fun ls hl => ?_)
      have hl : lv_has ls 7 [(5, .long (((x2.toInt64) <<< ((16 : Int32).toInt64 &&& 63)) ||| (r46.toInt64))), (4, .int z10), (0, .ref a.1), (1, .int x1), (2, .int x2), (3, .int x3)] := hl
      refine lv_aload_n hx hb d_M_divide_53 rfl (lv_at hl 2 rfl) ?_
      refine lv_iload_n hx hb d_M_divide_54 rfl (lv_at hl 3 rfl) ?_
      refine lv_lload hx hb d_M_divide_55 (lv_at hl 0 rfl) ?_
      refine lv_iload_n hx hb d_M_divide_57 rfl (lv_at hl 5 rfl) ?_
      refine lv_i2l hx hb d_M_divide_58 rfl ?_
      refine lv_ldiv hx hb d_M_divide_59 (dv_C h0 jz10 h34) ?_
      refine lv_l2i hx hb d_M_divide_60 rfl ?_
      refine cl_V (C := R_M) (k_M_setRegister l D a hA u29 x1 (((((x2.toInt64) <<< ((16 : Int32).toInt64 &&& 63)) ||| (r46.toInt64)) / (x3.toInt64)).toInt32)) ⟨hx, hb, hml, hown, hts⟩ (cwV 2 hts (gi_V t_149 t_151 t_2 t_62 t_152) rfl rfl rfl (by decide +kernel) ⟨Nat.le_of_ble_eq_true rfl, Nat.le_of_ble_eq_true rfl⟩) (va_recv (q0 := 0) (ci := 3) (q := (R_M, F_M, 7)) hK hP rfl rfl) hP hK hS rfl hl.1 rfl (Nat.le_of_ble_eq_true rfl) d_M_divide_61 (nm_s (fun u61 e61 H locs hP hS => ?_))
      refine lv_aload_n hx hb d_M_divide_64 rfl (lv_at hl 2 rfl) ?_
      refine lv_iload_n hx hb d_M_divide_65 rfl (lv_at hl 3 rfl) ?_
      refine lv_iconst (v := 1) hx hb d_M_divide_66 (by decide) ?_
      refine lv_iadd hx hb d_M_divide_67 ?_
      refine lv_lload hx hb d_M_divide_68 (lv_at hl 0 rfl) ?_
      refine lv_iload_n hx hb d_M_divide_70 rfl (lv_at hl 5 rfl) ?_
      refine lv_i2l hx hb d_M_divide_71 rfl ?_
      refine lv_lrem hx hb d_M_divide_72 (dv_C h0 jz10 h34) ?_
      refine lv_l2i hx hb d_M_divide_73 rfl ?_
      refine cl_V (C := R_M) (k_M_setRegister l D a hA u61 (x1 + 1) (((((x2.toInt64) <<< ((16 : Int32).toInt64 &&& 63)) ||| (r46.toInt64)) - (((x2.toInt64) <<< ((16 : Int32).toInt64 &&& 63)) ||| (r46.toInt64)) / (x3.toInt64) * (x3.toInt64)).toInt32)) ⟨hx, hb, hml, hown, hts⟩ (cwV 2 hts (gi_V t_149 t_151 t_2 t_62 t_152) rfl rfl rfl (by decide +kernel) ⟨Nat.le_of_ble_eq_true rfl, Nat.le_of_ble_eq_true rfl⟩) (va_recv (q0 := 0) (ci := 3) (q := (R_M, F_M, 7)) hK hP rfl rfl) hP hK hS rfl hl.1 rfl (Nat.le_of_ble_eq_true rfl) d_M_divide_74 (nm_s (fun u74 e74 H locs hP hS => ?_))
      subst hQ
      exact rt_v hx hb hr hlk (by simp only [C_M_divide, ← jz10, ← jz29, ← e29, if_neg h34, ← e46, ← e61, ← e74]) hP hS d_M_divide_77
    refine lv_if_ne (tgt := 28) hx hb d_M_divide_21 (by decide) (fun h21 => ?_) (fun h21 => ?_)
    · refine lv_iconst (v := 0) hx hb d_M_divide_28 (by decide) ?_
      exact hJ29 0 (by simp only [J_M_divide_29, if_neg h21])
    refine lv_iconst (v := 1) hx hb d_M_divide_24 (by decide) ?_
    refine lv_goto (tgt := 29) hx hb d_M_divide_25 (by decide) ?_
    exact hJ29 1 (by simp only [J_M_divide_29, if_pos h21])
  refine lv_icmp_le (tgt := 9) hx hb d_M_divide_2 (by decide) (fun h2 => ?_) (fun h2 => ?_)
  · refine lv_iconst (v := 0) hx hb d_M_divide_9 (by decide) ?_
    exact hJ10 0 (by simp only [J_M_divide_10, if_pos h2])
  refine lv_iconst (v := 1) hx hb d_M_divide_5 (by decide) ?_
  refine lv_goto (tgt := 10) hx hb d_M_divide_6 (by decide) ?_
  exact hJ10 1 (by simp only [J_M_divide_10, if_neg h2])
set_option maxHeartbeats 4000000 in
set_option maxRecDepth 100000 in
theorem k_M_combineIntoRegister (l : Launch) (D : va_G) (a : CAd) (hA : ApC a) (u0 : CSt) (x1 : Int32) (x2 : Int32) (x3 : Int32) (hI : ∀ j, 0 ≤ u0.1 j) : MC kl (cw a) (FA a) (tyC a) l D y_M_combineIntoRegister b_M_combineIntoRegister 5 none rm_M_combineIntoRegister [.ref a.1, .int x1, .int x2, .int x3] u0 none (C_M_combineIntoRegister u0 x1 x2 x3) := by
  refine MC.mk (by decide) (Nat.le_of_ble_eq_true rfl) ?_
  intro p e s m below meth c ls Q args H locs hx hb hr hml hown hts hlk hl hP hK hS hQ
  have hown : s.vm.findClass R_M = some m.cls := hown
  have hl : lv_has ls 5 [(0, .ref a.1), (1, .int x1), (2, .int x2), (3, .int x3)] := hl
  refine lv_aload_n hx hb d_M_combineIntoRegister_0 rfl (lv_at hl 0 rfl) ?_
  refine lv_iload_n hx hb d_M_combineIntoRegister_1 rfl (lv_at hl 2 rfl) ?_
  refine cl_V (C := R_M) (k_M_register l D a hA u0 x2) ⟨hx, hb, hml, hown, hts⟩ (cwV 1 hts (gi_V t_189 t_191 t_7 t_62 t_192) rfl rfl rfl (by decide +kernel) ⟨Nat.le_of_ble_eq_true rfl, Nat.le_of_ble_eq_true rfl⟩) (va_recv (q0 := 0) (ci := 3) (q := (R_M, F_M, 7)) hK hP rfl rfl) hP hK hS rfl hl.1 rfl (Nat.le_of_ble_eq_true rfl) d_M_combineIntoRegister_2 (nm_i (fun r2 e2 H locs hP hS => ?_))
  refine lv_istore hx hb d_M_combineIntoRegister_5 hl (by decide) rfl (fun ls hl => ?_)
  have hl : lv_has ls 5 [(4, .int r2), (0, .ref a.1), (1, .int x1), (2, .int x2), (3, .int x3)] := hl
  refine lv_iload_n hx hb d_M_combineIntoRegister_7 rfl (lv_at hl 2 rfl) ?_
  by_cases h8_0 : x1 = 8
  · refine lv_tableIn (off := 44) (tgt := 52) hx hb d_M_combineIntoRegister_8 (by rw [h8_0]; decide) (by rw [h8_0]; decide) (by rw [h8_0]; decide +kernel) (by decide) ?_
    refine lv_aload_n hx hb d_M_combineIntoRegister_52 rfl (lv_at hl 1 rfl) ?_
    refine va_get (D := D) (ci := 3) (v := .ref a.2.2.2.2.1) (C := R_M) (T := F_M) (N := 7) hx hb hts (fun w h => wm (ui_M w h)) hown hK hP 0 rfl rfl 2 (by decide) (hts _ (wm t_113)) (fun _ h9 => h9) rfl d_M_combineIntoRegister_53 ?_
    refine lv_sipush (v := 8192) hx hb d_M_combineIntoRegister_56 (by decide) ?_
    refine lv_iload_n hx hb d_M_combineIntoRegister_59 rfl (lv_at hl 4 rfl) ?_
    refine lv_iload hx hb d_M_combineIntoRegister_60 (lv_at hl 0 rfl) ?_
    refine lv_iconst (v := (-1)) hx hb d_M_combineIntoRegister_62 (by decide) ?_
    refine lv_ixor hx hb d_M_combineIntoRegister_63 ?_
    refine lv_iand hx hb d_M_combineIntoRegister_64 ?_
    have hJ73 : ∀ (z73 : Int32), z73 = J_M_combineIntoRegister_73 x3 r2 → W p l e rm_M_combineIntoRegister s m args below meth c H locs 0 0 Q (F0 m 73 ls [.int z73, .int 8192, .ref a.2.2.2.2.1]) := by
      intro z73 jz73
      refine cl_V (C := R_St) (k_St_mark l D a hA u0 8192 z73) ⟨hx, hb, hml, hown, hts⟩ (cwV 2 hts (gi_V t_267 t_235 t_236 t_65 t_237) rfl rfl rfl (by decide +kernel) ⟨Nat.le_of_ble_eq_true rfl, Nat.le_of_ble_eq_true rfl⟩) (va_recv (q0 := 4) (ci := 2) (q := (R_St, F_St, 1)) hK hP rfl rfl) hP hK hS rfl hl.1 rfl (Nat.le_of_ble_eq_true rfl) d_M_combineIntoRegister_73 (nm_s (fun u73 e73 H locs hP hS => ?_))
      refine lv_goto (tgt := 142) hx hb d_M_combineIntoRegister_76 (by decide) ?_
      subst hQ
      exact rt_v hx hb hr hlk (by simp only [C_M_combineIntoRegister, ← e2, if_pos h8_0, ← jz73, ← e73]) hP hS d_M_combineIntoRegister_142
    refine lv_if_ne (tgt := 72) hx hb d_M_combineIntoRegister_65 (by decide) (fun h65 => ?_) (fun h65 => ?_)
    · refine lv_iconst (v := 0) hx hb d_M_combineIntoRegister_72 (by decide) ?_
      exact hJ73 0 (by simp only [J_M_combineIntoRegister_73, if_neg h65])
    refine lv_iconst (v := 1) hx hb d_M_combineIntoRegister_68 (by decide) ?_
    refine lv_goto (tgt := 73) hx hb d_M_combineIntoRegister_69 (by decide) ?_
    exact hJ73 1 (by simp only [J_M_combineIntoRegister_73, if_pos h65])
  by_cases h8_1 : x1 = 9
  · refine lv_tableIn (off := 71) (tgt := 79) hx hb d_M_combineIntoRegister_8 (by rw [h8_1]; decide) (by rw [h8_1]; decide) (by rw [h8_1]; decide +kernel) (by decide) ?_
    refine lv_aload_n hx hb d_M_combineIntoRegister_79 rfl (lv_at hl 1 rfl) ?_
    refine va_get (D := D) (ci := 3) (v := .ref a.2.2.2.2.1) (C := R_M) (T := F_M) (N := 7) hx hb hts (fun w h => wm (ui_M w h)) hown hK hP 0 rfl rfl 2 (by decide) (hts _ (wm t_113)) (fun _ h9 => h9) rfl d_M_combineIntoRegister_80 ?_
    refine lv_sipush (v := 8192) hx hb d_M_combineIntoRegister_83 (by decide) ?_
    refine lv_iload_n hx hb d_M_combineIntoRegister_86 rfl (lv_at hl 4 rfl) ?_
    refine lv_iload hx hb d_M_combineIntoRegister_87 (lv_at hl 0 rfl) ?_
    refine lv_iand hx hb d_M_combineIntoRegister_89 ?_
    have hJ98 : ∀ (z98 : Int32), z98 = J_M_combineIntoRegister_98 x3 r2 → W p l e rm_M_combineIntoRegister s m args below meth c H locs 0 0 Q (F0 m 98 ls [.int z98, .int 8192, .ref a.2.2.2.2.1]) := by
      intro z98 jz98
      refine cl_V (C := R_St) (k_St_mark l D a hA u0 8192 z98) ⟨hx, hb, hml, hown, hts⟩ (cwV 2 hts (gi_V t_267 t_235 t_236 t_65 t_237) rfl rfl rfl (by decide +kernel) ⟨Nat.le_of_ble_eq_true rfl, Nat.le_of_ble_eq_true rfl⟩) (va_recv (q0 := 4) (ci := 2) (q := (R_St, F_St, 1)) hK hP rfl rfl) hP hK hS rfl hl.1 rfl (Nat.le_of_ble_eq_true rfl) d_M_combineIntoRegister_98 (nm_s (fun u98 e98 H locs hP hS => ?_))
      refine lv_goto (tgt := 142) hx hb d_M_combineIntoRegister_101 (by decide) ?_
      subst hQ
      exact rt_v hx hb hr hlk (by simp only [C_M_combineIntoRegister, ← e2, if_neg h8_0, if_pos h8_1, ← jz98, ← e98]) hP hS d_M_combineIntoRegister_142
    refine lv_if_ne (tgt := 97) hx hb d_M_combineIntoRegister_90 (by decide) (fun h90 => ?_) (fun h90 => ?_)
    · refine lv_iconst (v := 0) hx hb d_M_combineIntoRegister_97 (by decide) ?_
      exact hJ98 0 (by simp only [J_M_combineIntoRegister_98, if_neg h90])
    refine lv_iconst (v := 1) hx hb d_M_combineIntoRegister_93 (by decide) ?_
    refine lv_goto (tgt := 98) hx hb d_M_combineIntoRegister_94 (by decide) ?_
    exact hJ98 1 (by simp only [J_M_combineIntoRegister_98, if_pos h90])
  by_cases h8_2 : x1 = 10
  · refine lv_tableIn (off := 96) (tgt := 104) hx hb d_M_combineIntoRegister_8 (by rw [h8_2]; decide) (by rw [h8_2]; decide) (by rw [h8_2]; decide +kernel) (by decide) ?_
    refine lv_aload_n hx hb d_M_combineIntoRegister_104 rfl (lv_at hl 1 rfl) ?_
    refine lv_iload_n hx hb d_M_combineIntoRegister_105 rfl (lv_at hl 3 rfl) ?_
    refine lv_aload_n hx hb d_M_combineIntoRegister_106 rfl (lv_at hl 1 rfl) ?_
    refine va_get (D := D) (ci := 3) (v := .ref a.2.2.2.2.1) (C := R_M) (T := F_M) (N := 7) hx hb hts (fun w h => wm (ui_M w h)) hown hK hP 0 rfl rfl 2 (by decide) (hts _ (wm t_113)) (fun _ h9 => h9) rfl d_M_combineIntoRegister_107 ?_
    refine lv_iload hx hb d_M_combineIntoRegister_110 (lv_at hl 0 rfl) ?_
    refine lv_iload_n hx hb d_M_combineIntoRegister_112 rfl (lv_at hl 4 rfl) ?_
    refine lv_ixor hx hb d_M_combineIntoRegister_113 ?_
    refine cl_V (C := R_St) (k_St_tested l D a hA u0 (r2 ^^^ x3)) ⟨hx, hb, hml, hown, hts⟩ (cwV 1 hts (gi_V t_242 t_243 t_244 t_65 t_245) rfl rfl rfl (by decide +kernel) ⟨Nat.le_of_ble_eq_true rfl, Nat.le_of_ble_eq_true rfl⟩) (va_recv (q0 := 4) (ci := 2) (q := (R_St, F_St, 1)) hK hP rfl rfl) hP hK hS rfl hl.1 rfl (Nat.le_of_ble_eq_true rfl) d_M_combineIntoRegister_114 (nm_is (fun r114 u114 e114 f114 H locs hP hS => ?_))
    refine cl_V (C := R_M) (k_M_setRegister l D a hA u114 x2 r114) ⟨hx, hb, hml, hown, hts⟩ (cwV 2 hts (gi_V t_149 t_151 t_2 t_62 t_152) rfl rfl rfl (by decide +kernel) ⟨Nat.le_of_ble_eq_true rfl, Nat.le_of_ble_eq_true rfl⟩) (va_recv (q0 := 0) (ci := 3) (q := (R_M, F_M, 7)) hK hP rfl rfl) hP hK hS rfl hl.1 rfl (Nat.le_of_ble_eq_true rfl) d_M_combineIntoRegister_117 (nm_s (fun u117 e117 H locs hP hS => ?_))
    refine lv_goto (tgt := 142) hx hb d_M_combineIntoRegister_120 (by decide) ?_
    subst hQ
    exact rt_v hx hb hr hlk (by simp only [C_M_combineIntoRegister, ← e2, if_neg h8_0, if_neg h8_1, if_pos h8_2, ← e114, ← f114, ← e117]) hP hS d_M_combineIntoRegister_142
  by_cases h8_3 : x1 = 11
  · refine lv_tableIn (off := 126) (tgt := 134) hx hb d_M_combineIntoRegister_8 (by rw [h8_3]; decide) (by rw [h8_3]; decide) (by rw [h8_3]; decide +kernel) (by decide) ?_
    refine lv_aload_n hx hb d_M_combineIntoRegister_134 rfl (lv_at hl 1 rfl) ?_
    refine lv_iload_n hx hb d_M_combineIntoRegister_135 rfl (lv_at hl 3 rfl) ?_
    refine lv_iload hx hb d_M_combineIntoRegister_136 (lv_at hl 0 rfl) ?_
    refine lv_iload_n hx hb d_M_combineIntoRegister_138 rfl (lv_at hl 4 rfl) ?_
    refine cl_V (C := R_M) (k_M_divide l D a hA u0 x2 r2 x3 (by rw [e2]; exact ge_M_register hI _)) ⟨hx, hb, hml, hown, hts⟩ (cwV 3 hts (gi_V t_299 t_301 t_18 t_62 t_302) rfl rfl rfl (by decide +kernel) ⟨Nat.le_of_ble_eq_true rfl, Nat.le_of_ble_eq_true rfl⟩) (va_recv (q0 := 0) (ci := 3) (q := (R_M, F_M, 7)) hK hP rfl rfl) hP hK hS rfl hl.1 rfl (Nat.le_of_ble_eq_true rfl) d_M_combineIntoRegister_139 (nm_s (fun u139 e139 H locs hP hS => ?_))
    subst hQ
    exact rt_v hx hb hr hlk (by simp only [C_M_combineIntoRegister, ← e2, if_neg h8_0, if_neg h8_1, if_neg h8_2, if_pos h8_3, ← e139]) hP hS d_M_combineIntoRegister_142
  by_cases h8_4 : x1 = 12
  · refine lv_tableIn (off := 126) (tgt := 134) hx hb d_M_combineIntoRegister_8 (by rw [h8_4]; decide) (by rw [h8_4]; decide) (by rw [h8_4]; decide +kernel) (by decide) ?_
    refine lv_aload_n hx hb d_M_combineIntoRegister_134 rfl (lv_at hl 1 rfl) ?_
    refine lv_iload_n hx hb d_M_combineIntoRegister_135 rfl (lv_at hl 3 rfl) ?_
    refine lv_iload hx hb d_M_combineIntoRegister_136 (lv_at hl 0 rfl) ?_
    refine lv_iload_n hx hb d_M_combineIntoRegister_138 rfl (lv_at hl 4 rfl) ?_
    refine cl_V (C := R_M) (k_M_divide l D a hA u0 x2 r2 x3 (by rw [e2]; exact ge_M_register hI _)) ⟨hx, hb, hml, hown, hts⟩ (cwV 3 hts (gi_V t_299 t_301 t_18 t_62 t_302) rfl rfl rfl (by decide +kernel) ⟨Nat.le_of_ble_eq_true rfl, Nat.le_of_ble_eq_true rfl⟩) (va_recv (q0 := 0) (ci := 3) (q := (R_M, F_M, 7)) hK hP rfl rfl) hP hK hS rfl hl.1 rfl (Nat.le_of_ble_eq_true rfl) d_M_combineIntoRegister_139 (nm_s (fun u139 e139 H locs hP hS => ?_))
    subst hQ
    exact rt_v hx hb hr hlk (by simp only [C_M_combineIntoRegister, ← e2, if_neg h8_0, if_neg h8_1, if_neg h8_2, if_neg h8_3, if_pos h8_4, ← e139]) hP hS d_M_combineIntoRegister_142
  by_cases h8_5 : x1 = 13
  · refine lv_tableIn (off := 126) (tgt := 134) hx hb d_M_combineIntoRegister_8 (by rw [h8_5]; decide) (by rw [h8_5]; decide) (by rw [h8_5]; decide +kernel) (by decide) ?_
    refine lv_aload_n hx hb d_M_combineIntoRegister_134 rfl (lv_at hl 1 rfl) ?_
    refine lv_iload_n hx hb d_M_combineIntoRegister_135 rfl (lv_at hl 3 rfl) ?_
    refine lv_iload hx hb d_M_combineIntoRegister_136 (lv_at hl 0 rfl) ?_
    refine lv_iload_n hx hb d_M_combineIntoRegister_138 rfl (lv_at hl 4 rfl) ?_
    refine cl_V (C := R_M) (k_M_divide l D a hA u0 x2 r2 x3 (by rw [e2]; exact ge_M_register hI _)) ⟨hx, hb, hml, hown, hts⟩ (cwV 3 hts (gi_V t_299 t_301 t_18 t_62 t_302) rfl rfl rfl (by decide +kernel) ⟨Nat.le_of_ble_eq_true rfl, Nat.le_of_ble_eq_true rfl⟩) (va_recv (q0 := 0) (ci := 3) (q := (R_M, F_M, 7)) hK hP rfl rfl) hP hK hS rfl hl.1 rfl (Nat.le_of_ble_eq_true rfl) d_M_combineIntoRegister_139 (nm_s (fun u139 e139 H locs hP hS => ?_))
    subst hQ
    exact rt_v hx hb hr hlk (by simp only [C_M_combineIntoRegister, ← e2, if_neg h8_0, if_neg h8_1, if_neg h8_2, if_neg h8_3, if_neg h8_4, if_pos h8_5, ← e139]) hP hS d_M_combineIntoRegister_142
  by_cases h8_6 : x1 = 14
  · refine lv_tableIn (off := 115) (tgt := 123) hx hb d_M_combineIntoRegister_8 (by rw [h8_6]; decide) (by rw [h8_6]; decide) (by rw [h8_6]; decide +kernel) (by decide) ?_
    refine lv_aload_n hx hb d_M_combineIntoRegister_123 rfl (lv_at hl 1 rfl) ?_
    refine lv_iload_n hx hb d_M_combineIntoRegister_124 rfl (lv_at hl 3 rfl) ?_
    refine lv_iload hx hb d_M_combineIntoRegister_125 (lv_at hl 0 rfl) ?_
    refine lv_iload_n hx hb d_M_combineIntoRegister_127 rfl (lv_at hl 4 rfl) ?_
    refine cl_V (C := R_M) (k_M_multiply l D a hA u0 x2 r2 x3) ⟨hx, hb, hml, hown, hts⟩ (cwV 3 hts (gi_V t_295 t_297 t_17 t_62 t_298) rfl rfl rfl (by decide +kernel) ⟨Nat.le_of_ble_eq_true rfl, Nat.le_of_ble_eq_true rfl⟩) (va_recv (q0 := 0) (ci := 3) (q := (R_M, F_M, 7)) hK hP rfl rfl) hP hK hS rfl hl.1 rfl (Nat.le_of_ble_eq_true rfl) d_M_combineIntoRegister_128 (nm_s (fun u128 e128 H locs hP hS => ?_))
    refine lv_goto (tgt := 142) hx hb d_M_combineIntoRegister_131 (by decide) ?_
    subst hQ
    exact rt_v hx hb hr hlk (by simp only [C_M_combineIntoRegister, ← e2, if_neg h8_0, if_neg h8_1, if_neg h8_2, if_neg h8_3, if_neg h8_4, if_neg h8_5, if_pos h8_6, ← e128]) hP hS d_M_combineIntoRegister_142
  have n8_0 := lv_neT h8_0 (a := 8) (by decide)
  have n8_1 := lv_neT h8_1 (a := 9) (by decide)
  have n8_2 := lv_neT h8_2 (a := 10) (by decide)
  have n8_3 := lv_neT h8_3 (a := 11) (by decide)
  have n8_4 := lv_neT h8_4 (a := 12) (by decide)
  have n8_5 := lv_neT h8_5 (a := 13) (by decide)
  have n8_6 := lv_neT h8_6 (a := 14) (by decide)
  refine lv_tableOut (tgt := 134) hx hb d_M_combineIntoRegister_8 (by omega) (by decide) ?_
  refine lv_aload_n hx hb d_M_combineIntoRegister_134 rfl (lv_at hl 1 rfl) ?_
  refine lv_iload_n hx hb d_M_combineIntoRegister_135 rfl (lv_at hl 3 rfl) ?_
  refine lv_iload hx hb d_M_combineIntoRegister_136 (lv_at hl 0 rfl) ?_
  refine lv_iload_n hx hb d_M_combineIntoRegister_138 rfl (lv_at hl 4 rfl) ?_
  refine cl_V (C := R_M) (k_M_divide l D a hA u0 x2 r2 x3 (by rw [e2]; exact ge_M_register hI _)) ⟨hx, hb, hml, hown, hts⟩ (cwV 3 hts (gi_V t_299 t_301 t_18 t_62 t_302) rfl rfl rfl (by decide +kernel) ⟨Nat.le_of_ble_eq_true rfl, Nat.le_of_ble_eq_true rfl⟩) (va_recv (q0 := 0) (ci := 3) (q := (R_M, F_M, 7)) hK hP rfl rfl) hP hK hS rfl hl.1 rfl (Nat.le_of_ble_eq_true rfl) d_M_combineIntoRegister_139 (nm_s (fun u139 e139 H locs hP hS => ?_))
  subst hQ
  exact rt_v hx hb hr hlk (by simp only [C_M_combineIntoRegister, ← e2, if_neg h8_0, if_neg h8_1, if_neg h8_2, if_neg h8_3, if_neg h8_4, if_neg h8_5, if_neg h8_6, ← e139]) hP hS d_M_combineIntoRegister_142
set_option maxHeartbeats 4000000 in
set_option maxRecDepth 100000 in
theorem k_M_runOnRegisterAndOperand (l : Launch) (D : va_G) (a : CAd) (hA : ApC a) (u0 : CSt) (x1 : Int32) (hI : ∀ j, 0 ≤ u0.1 j) : MC kl (cw a) (FA a) (tyC a) l D y_M_runOnRegisterAndOperand b_M_runOnRegisterAndOperand 4 (some .int) rm_M_runOnRegisterAndOperand [.ref a.1, .int x1] u0 (some (.int (C_M_runOnRegisterAndOperand u0 x1).1)) (C_M_runOnRegisterAndOperand u0 x1).2 := by
  refine MC.mk (by decide) (Nat.le_of_ble_eq_true rfl) ?_
  intro p e s m below meth c ls Q args H locs hx hb hr hml hown hts hlk hl hP hK hS hQ
  have hown : s.vm.findClass R_M = some m.cls := hown
  have hl : lv_has ls 4 [(0, .ref a.1), (1, .int x1)] := hl
  refine lv_iload_n hx hb d_M_runOnRegisterAndOperand_0 rfl (lv_at hl 1 rfl) ?_
  refine lv_bipush (v := 6) hx hb d_M_runOnRegisterAndOperand_1 (by decide) ?_
  refine lv_ishr hx hb d_M_runOnRegisterAndOperand_3 ?_
  refine lv_bipush (v := 15) hx hb d_M_runOnRegisterAndOperand_4 (by decide) ?_
  refine lv_iand hx hb d_M_runOnRegisterAndOperand_6 ?_
  refine lv_istore_n hx hb d_M_runOnRegisterAndOperand_7 rfl hl (by decide) rfl (fun ls hl => ?_)
  have hl : lv_has ls 4 [(2, .int ((x1 >>> ((6 : Int32) &&& 31)) &&& 15)), (0, .ref a.1), (1, .int x1)] := hl
  refine lv_iload_n hx hb d_M_runOnRegisterAndOperand_8 rfl (lv_at hl 2 rfl) ?_
  refine lv_bipush (v := 10) hx hb d_M_runOnRegisterAndOperand_9 (by decide) ?_
  refine lv_ishr hx hb d_M_runOnRegisterAndOperand_11 ?_
  refine lv_istore_n hx hb d_M_runOnRegisterAndOperand_12 rfl hl (by decide) rfl (fun ls hl => ?_)
  have hl : lv_has ls 4 [(3, .int (x1 >>> ((10 : Int32) &&& 31))), (2, .int ((x1 >>> ((6 : Int32) &&& 31)) &&& 15)), (0, .ref a.1), (1, .int x1)] := hl
  refine lv_iload_n hx hb d_M_runOnRegisterAndOperand_13 rfl (lv_at hl 0 rfl) ?_
  by_cases h14_0 : (x1 >>> ((10 : Int32) &&& 31)) = 11
  · refine lv_tableIn (off := 26) (tgt := 40) hx hb d_M_runOnRegisterAndOperand_14 (by rw [h14_0]; decide) (by rw [h14_0]; decide) (by rw [h14_0]; decide +kernel) (by decide) ?_
    refine lv_aload_n hx hb d_M_runOnRegisterAndOperand_40 rfl (lv_at hl 2 rfl) ?_
    refine lv_iload_n hx hb d_M_runOnRegisterAndOperand_41 rfl (lv_at hl 1 rfl) ?_
    refine lv_aload_n hx hb d_M_runOnRegisterAndOperand_42 rfl (lv_at hl 2 rfl) ?_
    refine lv_iload_n hx hb d_M_runOnRegisterAndOperand_43 rfl (lv_at hl 3 rfl) ?_
    refine lv_iconst (v := 2) hx hb d_M_runOnRegisterAndOperand_44 (by decide) ?_
    refine cl_V (C := R_M) (k_M_operandAddress l D a hA u0 x1 2) ⟨hx, hb, hml, hown, hts⟩ (cwV 2 hts (gi_V t_197 t_199 t_8 t_62 t_200) rfl rfl rfl (by decide +kernel) ⟨Nat.le_of_ble_eq_true rfl, Nat.le_of_ble_eq_true rfl⟩) (va_recv (q0 := 0) (ci := 3) (q := (R_M, F_M, 7)) hK hP rfl rfl) hP hK hS rfl hl.1 rfl (Nat.le_of_ble_eq_true rfl) d_M_runOnRegisterAndOperand_45 (nm_is (fun r45 u45 e45 f45 H locs hP hS => ?_))
    refine cl_V (C := R_M) (k_M_callExtended l D a hA u45 ((x1 >>> ((6 : Int32) &&& 31)) &&& 15) r45) ⟨hx, hb, hml, hown, hts⟩ (cwV 2 hts (gi_V t_263 t_265 t_13 t_62 t_266) rfl rfl rfl (by decide +kernel) ⟨Nat.le_of_ble_eq_true rfl, Nat.le_of_ble_eq_true rfl⟩) (va_recv (q0 := 0) (ci := 3) (q := (R_M, F_M, 7)) hK hP rfl rfl) hP hK hS rfl hl.1 rfl (Nat.le_of_ble_eq_true rfl) d_M_runOnRegisterAndOperand_48 (nm_s (fun u48 e48 H locs hP hS => ?_))
    refine lv_goto (tgt := 109) hx hb d_M_runOnRegisterAndOperand_51 (by decide) ?_
    refine lv_iconst (v := 0) hx hb d_M_runOnRegisterAndOperand_109 (by decide) ?_
    have hc : (0, u48) = C_M_runOnRegisterAndOperand u0 x1 := by simp only [C_M_runOnRegisterAndOperand, if_pos h14_0, ← e45, ← f45, ← e48]
    subst hQ
    exact rt_i hx hb hr hlk (congrArg Prod.fst hc) (congrArg Prod.snd hc) hP hS d_M_runOnRegisterAndOperand_110
  by_cases h14_1 : (x1 >>> ((10 : Int32) &&& 31)) = 12
  · refine lv_tableIn (off := 40) (tgt := 54) hx hb d_M_runOnRegisterAndOperand_14 (by rw [h14_1]; decide) (by rw [h14_1]; decide) (by rw [h14_1]; decide +kernel) (by decide) ?_
    refine lv_aload_n hx hb d_M_runOnRegisterAndOperand_54 rfl (lv_at hl 2 rfl) ?_
    refine lv_iload_n hx hb d_M_runOnRegisterAndOperand_55 rfl (lv_at hl 3 rfl) ?_
    refine lv_iload_n hx hb d_M_runOnRegisterAndOperand_56 rfl (lv_at hl 1 rfl) ?_
    have hJ66 : ∀ (z66 : Int32), z66 = J_M_runOnRegisterAndOperand_66 x1 → W p l e rm_M_runOnRegisterAndOperand s m args below meth c H locs 0 0 Q (F0 m 66 ls [.int z66, .int x1, .ref a.1]) := by
      intro z66 jz66
      refine cl_V (C := R_M) (k_M_sendLines l D a hA u0 x1 z66) ⟨hx, hb, hml, hown, hts⟩ (cwV 2 hts (gi_V t_268 t_270 t_14 t_62 t_271) rfl rfl rfl (by decide +kernel) ⟨Nat.le_of_ble_eq_true rfl, Nat.le_of_ble_eq_true rfl⟩) (va_recv (q0 := 0) (ci := 3) (q := (R_M, F_M, 7)) hK hP rfl rfl) hP hK hS rfl hl.1 rfl (Nat.le_of_ble_eq_true rfl) d_M_runOnRegisterAndOperand_66 (nm_s (fun u66 e66 H locs hP hS => ?_))
      refine lv_goto (tgt := 109) hx hb d_M_runOnRegisterAndOperand_69 (by decide) ?_
      refine lv_iconst (v := 0) hx hb d_M_runOnRegisterAndOperand_109 (by decide) ?_
      have hc : (0, u66) = C_M_runOnRegisterAndOperand u0 x1 := by simp only [C_M_runOnRegisterAndOperand, if_neg h14_0, if_pos h14_1, ← jz66, ← e66]
      subst hQ
      exact rt_i hx hb hr hlk (congrArg Prod.fst hc) (congrArg Prod.snd hc) hP hS d_M_runOnRegisterAndOperand_110
    refine lv_if_ne (tgt := 65) hx hb d_M_runOnRegisterAndOperand_57 (by decide) (fun h57 => ?_) (fun h57 => ?_)
    · refine lv_iload_n hx hb d_M_runOnRegisterAndOperand_65 rfl (lv_at hl 1 rfl) ?_
      exact hJ66 ((x1 >>> ((6 : Int32) &&& 31)) &&& 15) (by simp only [J_M_runOnRegisterAndOperand_66, if_neg h57])
    refine lv_bipush (v := 16) hx hb d_M_runOnRegisterAndOperand_60 (by decide) ?_
    refine lv_goto (tgt := 66) hx hb d_M_runOnRegisterAndOperand_62 (by decide) ?_
    exact hJ66 16 (by simp only [J_M_runOnRegisterAndOperand_66, if_pos h57])
  by_cases h14_2 : (x1 >>> ((10 : Int32) &&& 31)) = 13
  · refine lv_tableIn (off := 58) (tgt := 72) hx hb d_M_runOnRegisterAndOperand_14 (by rw [h14_2]; decide) (by rw [h14_2]; decide) (by rw [h14_2]; decide +kernel) (by decide) ?_
    refine lv_aload_n hx hb d_M_runOnRegisterAndOperand_72 rfl (lv_at hl 2 rfl) ?_
    refine lv_iload_n hx hb d_M_runOnRegisterAndOperand_73 rfl (lv_at hl 3 rfl) ?_
    refine lv_iload_n hx hb d_M_runOnRegisterAndOperand_74 rfl (lv_at hl 1 rfl) ?_
    have hJ84 : ∀ (z84 : Int32), z84 = J_M_runOnRegisterAndOperand_84 x1 → W p l e rm_M_runOnRegisterAndOperand s m args below meth c H locs 0 0 Q (F0 m 84 ls [.int z84, .int x1, .ref a.1]) := by
      intro z84 jz84
      refine cl_V (C := R_M) (k_M_receiveLines l D a hA u0 x1 z84) ⟨hx, hb, hml, hown, hts⟩ (cwV 2 hts (gi_V t_283 t_285 t_15 t_62 t_286) rfl rfl rfl (by decide +kernel) ⟨Nat.le_of_ble_eq_true rfl, Nat.le_of_ble_eq_true rfl⟩) (va_recv (q0 := 0) (ci := 3) (q := (R_M, F_M, 7)) hK hP rfl rfl) hP hK hS rfl hl.1 rfl (Nat.le_of_ble_eq_true rfl) d_M_runOnRegisterAndOperand_84 (nm_s (fun u84 e84 H locs hP hS => ?_))
      refine lv_goto (tgt := 109) hx hb d_M_runOnRegisterAndOperand_87 (by decide) ?_
      refine lv_iconst (v := 0) hx hb d_M_runOnRegisterAndOperand_109 (by decide) ?_
      have hc : (0, u84) = C_M_runOnRegisterAndOperand u0 x1 := by simp only [C_M_runOnRegisterAndOperand, if_neg h14_0, if_neg h14_1, if_pos h14_2, ← jz84, ← e84]
      subst hQ
      exact rt_i hx hb hr hlk (congrArg Prod.fst hc) (congrArg Prod.snd hc) hP hS d_M_runOnRegisterAndOperand_110
    refine lv_if_ne (tgt := 83) hx hb d_M_runOnRegisterAndOperand_75 (by decide) (fun h75 => ?_) (fun h75 => ?_)
    · refine lv_iload_n hx hb d_M_runOnRegisterAndOperand_83 rfl (lv_at hl 1 rfl) ?_
      exact hJ84 ((x1 >>> ((6 : Int32) &&& 31)) &&& 15) (by simp only [J_M_runOnRegisterAndOperand_84, if_neg h75])
    refine lv_bipush (v := 16) hx hb d_M_runOnRegisterAndOperand_78 (by decide) ?_
    refine lv_goto (tgt := 84) hx hb d_M_runOnRegisterAndOperand_80 (by decide) ?_
    exact hJ84 16 (by simp only [J_M_runOnRegisterAndOperand_84, if_pos h75])
  have n14_0 := lv_neT h14_0 (a := 11) (by decide)
  have n14_1 := lv_neT h14_1 (a := 12) (by decide)
  have n14_2 := lv_neT h14_2 (a := 13) (by decide)
  refine lv_tableOut (tgt := 90) hx hb d_M_runOnRegisterAndOperand_14 (by omega) (by decide) ?_
  refine lv_aload_n hx hb d_M_runOnRegisterAndOperand_90 rfl (lv_at hl 2 rfl) ?_
  refine lv_iload_n hx hb d_M_runOnRegisterAndOperand_91 rfl (lv_at hl 0 rfl) ?_
  refine lv_iload_n hx hb d_M_runOnRegisterAndOperand_92 rfl (lv_at hl 1 rfl) ?_
  refine lv_aload_n hx hb d_M_runOnRegisterAndOperand_93 rfl (lv_at hl 2 rfl) ?_
  refine va_get (D := D) (ci := 3) (v := .ref a.2.1) (C := R_M) (T := F_M) (N := 7) hx hb hts (fun w h => wm (ui_M w h)) hown hK hP 0 rfl rfl 0 (by decide) (hts _ (wm t_111)) (fun _ h9 => h9) rfl d_M_runOnRegisterAndOperand_94 ?_
  refine lv_aload_n hx hb d_M_runOnRegisterAndOperand_97 rfl (lv_at hl 2 rfl) ?_
  refine lv_iload_n hx hb d_M_runOnRegisterAndOperand_98 rfl (lv_at hl 3 rfl) ?_
  refine lv_iconst (v := 2) hx hb d_M_runOnRegisterAndOperand_99 (by decide) ?_
  refine cl_V (C := R_M) (k_M_operandAddress l D a hA u0 x1 2) ⟨hx, hb, hml, hown, hts⟩ (cwV 2 hts (gi_V t_197 t_199 t_8 t_62 t_200) rfl rfl rfl (by decide +kernel) ⟨Nat.le_of_ble_eq_true rfl, Nat.le_of_ble_eq_true rfl⟩) (va_recv (q0 := 0) (ci := 3) (q := (R_M, F_M, 7)) hK hP rfl rfl) hP hK hS rfl hl.1 rfl (Nat.le_of_ble_eq_true rfl) d_M_runOnRegisterAndOperand_100 (nm_is (fun r100 u100 e100 f100 H locs hP hS => ?_))
  refine cl_V (C := R_Me) (k_Me_word l D a hA u100 r100) ⟨hx, hb, hml, hown, hts⟩ (cwV 1 hts (gi_V t_141 t_142 t_143 t_63 t_144) rfl rfl rfl (by decide +kernel) ⟨Nat.le_of_ble_eq_true rfl, Nat.le_of_ble_eq_true rfl⟩) (va_recv (q0 := 1) (ci := 1) (q := (R_Me, F_Me, 1)) hK hP rfl rfl) hP hK hS rfl hl.1 rfl (Nat.le_of_ble_eq_true rfl) d_M_runOnRegisterAndOperand_103 (nm_i (fun r103 e103 H locs hP hS => ?_))
  refine cl_V (C := R_M) (k_M_combineIntoRegister l D a hA u100 (x1 >>> ((10 : Int32) &&& 31)) ((x1 >>> ((6 : Int32) &&& 31)) &&& 15) r103 (by rw [f100]; exact iv_M_operandAddress hI _ _)) ⟨hx, hb, hml, hown, hts⟩ (cwV 3 hts (gi_V t_291 t_293 t_16 t_62 t_294) rfl rfl rfl (by decide +kernel) ⟨Nat.le_of_ble_eq_true rfl, Nat.le_of_ble_eq_true rfl⟩) (va_recv (q0 := 0) (ci := 3) (q := (R_M, F_M, 7)) hK hP rfl rfl) hP hK hS rfl hl.1 rfl (Nat.le_of_ble_eq_true rfl) d_M_runOnRegisterAndOperand_106 (nm_s (fun u106 e106 H locs hP hS => ?_))
  refine lv_iconst (v := 0) hx hb d_M_runOnRegisterAndOperand_109 (by decide) ?_
  have hc : (0, u106) = C_M_runOnRegisterAndOperand u0 x1 := by simp only [C_M_runOnRegisterAndOperand, if_neg h14_0, if_neg h14_1, if_neg h14_2, ← e100, ← f100, ← e103, ← e106]
  subst hQ
  exact rt_i hx hb hr hlk (congrArg Prod.fst hc) (congrArg Prod.snd hc) hP hS d_M_runOnRegisterAndOperand_110
set_option maxHeartbeats 4000000 in
set_option maxRecDepth 100000 in
theorem k_St_has (l : Launch) (D : va_G) (a : CAd) (hA : ApC a) (u0 : CSt) (x1 : Int32) : MC kl (cw a) (FA a) (tyC a) l D y_St_has b_St_has 2 (some .boolean) rm_St_has [.ref a.2.2.2.2.1, .int x1] u0 (some (.int (C_St_has u0 x1))) u0 := by
  refine MC.mk (by decide) (Nat.le_of_ble_eq_true rfl) ?_
  intro p e s m below meth c ls Q args H locs hx hb hr hml hown hts hlk hl hP hK hS hQ
  have hown : s.vm.findClass R_St = some m.cls := hown
  have hl : lv_has ls 2 [(0, .ref a.2.2.2.2.1), (1, .int x1)] := hl
  refine lv_aload_n hx hb d_St_has_0 rfl (lv_at hl 0 rfl) ?_
  refine va_get (D := D) (ci := 2) (v := .int u0.2.2.1) (C := R_St) (T := F_St) (N := 1) hx hb hts (fun w h => wm (ui_St w h)) hown hK hP 4 rfl rfl 0 (by decide) (hts _ (wm t_107)) (fun _ h9 => h9) rfl d_St_has_1 ?_
  refine lv_iload_n hx hb d_St_has_4 rfl (lv_at hl 1 rfl) ?_
  refine lv_iand hx hb d_St_has_5 ?_
  refine lv_if_eq (tgt := 13) hx hb d_St_has_6 (by decide) (fun h6 => ?_) (fun h6 => ?_)
  · refine lv_iconst (v := 0) hx hb d_St_has_13 (by decide) ?_
    subst hQ
    exact rt_z hx hb hr hlk rfl (by simp only [C_St_has, if_pos h6]) rfl hP hS d_St_has_14
  refine lv_iconst (v := 1) hx hb d_St_has_9 (by decide) ?_
  refine lv_goto (tgt := 14) hx hb d_St_has_10 (by decide) ?_
  subst hQ
  exact rt_z hx hb hr hlk rfl (by simp only [C_St_has, if_neg h6]) rfl hP hS d_St_has_14
set_option maxHeartbeats 4000000 in
set_option maxRecDepth 100000 in
theorem k_M_isJumpTaken (l : Launch) (D : va_G) (a : CAd) (hA : ApC a) (u0 : CSt) (x1 : Int32) : MC kl (cw a) (FA a) (tyC a) l D y_M_isJumpTaken b_M_isJumpTaken 5 (some .boolean) rm_M_isJumpTaken [.ref a.1, .int x1] u0 (some (.int (C_M_isJumpTaken u0 x1))) u0 := by
  refine MC.mk (by decide) (Nat.le_of_ble_eq_true rfl) ?_
  intro p e s m below meth c ls Q args H locs hx hb hr hml hown hts hlk hl hP hK hS hQ
  have hown : s.vm.findClass R_M = some m.cls := hown
  have hl : lv_has ls 5 [(0, .ref a.1), (1, .int x1)] := hl
  refine lv_aload_n hx hb d_M_isJumpTaken_0 rfl (lv_at hl 0 rfl) ?_
  refine va_get (D := D) (ci := 3) (v := .ref a.2.2.2.2.1) (C := R_M) (T := F_M) (N := 7) hx hb hts (fun w h => wm (ui_M w h)) hown hK hP 0 rfl rfl 2 (by decide) (hts _ (wm t_113)) (fun _ h9 => h9) rfl d_M_isJumpTaken_1 ?_
  refine lv_ldc (v := 32768) hx hb hown (hts _ (wm t_311)) d_M_isJumpTaken_4 ?_
  refine cl_V (C := R_St) (k_St_has l D a hA u0 32768) ⟨hx, hb, hml, hown, hts⟩ (cwV 1 hts (gi_V t_312 t_313 t_314 t_65 t_315) rfl rfl rfl (by decide +kernel) ⟨Nat.le_of_ble_eq_true rfl, Nat.le_of_ble_eq_true rfl⟩) (va_recv (q0 := 4) (ci := 2) (q := (R_St, F_St, 1)) hK hP rfl rfl) hP hK hS rfl hl.1 rfl (Nat.le_of_ble_eq_true rfl) d_M_isJumpTaken_6 (nm_i (fun r6 e6 H locs hP hS => ?_))
  refine lv_istore_n hx hb d_M_isJumpTaken_9 rfl hl (by decide) rfl (fun ls hl => ?_)
  have hl : lv_has ls 5 [(2, .int r6), (0, .ref a.1), (1, .int x1)] := hl
  refine lv_aload_n hx hb d_M_isJumpTaken_10 rfl (lv_at hl 1 rfl) ?_
  refine va_get (D := D) (ci := 3) (v := .ref a.2.2.2.2.1) (C := R_M) (T := F_M) (N := 7) hx hb hts (fun w h => wm (ui_M w h)) hown hK hP 0 rfl rfl 2 (by decide) (hts _ (wm t_113)) (fun _ h9 => h9) rfl d_M_isJumpTaken_11 ?_
  refine lv_sipush (v := 16384) hx hb d_M_isJumpTaken_14 (by decide) ?_
  refine cl_V (C := R_St) (k_St_has l D a hA u0 16384) ⟨hx, hb, hml, hown, hts⟩ (cwV 1 hts (gi_V t_312 t_313 t_314 t_65 t_315) rfl rfl rfl (by decide +kernel) ⟨Nat.le_of_ble_eq_true rfl, Nat.le_of_ble_eq_true rfl⟩) (va_recv (q0 := 4) (ci := 2) (q := (R_St, F_St, 1)) hK hP rfl rfl) hP hK hS rfl hl.1 rfl (Nat.le_of_ble_eq_true rfl) d_M_isJumpTaken_17 (nm_i (fun r17 e17 H locs hP hS => ?_))
  refine lv_istore_n hx hb d_M_isJumpTaken_20 rfl hl (by decide) rfl (fun ls hl => ?_)
  have hl : lv_has ls 5 [(3, .int r17), (2, .int r6), (0, .ref a.1), (1, .int x1)] := hl
  refine lv_aload_n hx hb d_M_isJumpTaken_21 rfl (lv_at hl 2 rfl) ?_
  refine va_get (D := D) (ci := 3) (v := .ref a.2.2.2.2.1) (C := R_M) (T := F_M) (N := 7) hx hb hts (fun w h => wm (ui_M w h)) hown hK hP 0 rfl rfl 2 (by decide) (hts _ (wm t_113)) (fun _ h9 => h9) rfl d_M_isJumpTaken_22 ?_
  refine lv_sipush (v := 8192) hx hb d_M_isJumpTaken_25 (by decide) ?_
  refine cl_V (C := R_St) (k_St_has l D a hA u0 8192) ⟨hx, hb, hml, hown, hts⟩ (cwV 1 hts (gi_V t_312 t_313 t_314 t_65 t_315) rfl rfl rfl (by decide +kernel) ⟨Nat.le_of_ble_eq_true rfl, Nat.le_of_ble_eq_true rfl⟩) (va_recv (q0 := 4) (ci := 2) (q := (R_St, F_St, 1)) hK hP rfl rfl) hP hK hS rfl hl.1 rfl (Nat.le_of_ble_eq_true rfl) d_M_isJumpTaken_28 (nm_i (fun r28 e28 H locs hP hS => ?_))
  refine lv_istore hx hb d_M_isJumpTaken_31 hl (by decide) rfl (fun ls hl => ?_)
  have hl : lv_has ls 5 [(4, .int r28), (3, .int r17), (2, .int r6), (0, .ref a.1), (1, .int x1)] := hl
  refine lv_iload_n hx hb d_M_isJumpTaken_33 rfl (lv_at hl 4 rfl) ?_
  by_cases h34_0 : x1 = 16
  · refine lv_tableIn (off := 62) (tgt := 96) hx hb d_M_isJumpTaken_34 (by rw [h34_0]; decide) (by rw [h34_0]; decide) (by rw [h34_0]; decide +kernel) (by decide) ?_
    refine lv_iconst (v := 1) hx hb d_M_isJumpTaken_96 (by decide) ?_
    subst hQ
    exact rt_z hx hb hr hlk rfl (by simp only [C_M_isJumpTaken, ← e6, ← e17, ← e28, if_pos h34_0]) rfl hP hS d_M_isJumpTaken_97
  by_cases h34_1 : x1 = 17
  · refine lv_tableIn (off := 64) (tgt := 98) hx hb d_M_isJumpTaken_34 (by rw [h34_1]; decide) (by rw [h34_1]; decide) (by rw [h34_1]; decide +kernel) (by decide) ?_
    refine lv_iload_n hx hb d_M_isJumpTaken_98 rfl (lv_at hl 1 rfl) ?_
    refine lv_if_ne (tgt := 111) hx hb d_M_isJumpTaken_99 (by decide) (fun h99 => ?_) (fun h99 => ?_)
    · refine lv_iconst (v := 0) hx hb d_M_isJumpTaken_111 (by decide) ?_
      subst hQ
      exact rt_z hx hb hr hlk rfl (by simp only [C_M_isJumpTaken, ← e6, ← e17, ← e28, if_neg h34_0, if_pos h34_1, if_neg h99]) rfl hP hS d_M_isJumpTaken_112
    refine lv_iload hx hb d_M_isJumpTaken_102 (lv_at hl 0 rfl) ?_
    refine lv_if_ne (tgt := 111) hx hb d_M_isJumpTaken_104 (by decide) (fun h104 => ?_) (fun h104 => ?_)
    · refine lv_iconst (v := 0) hx hb d_M_isJumpTaken_111 (by decide) ?_
      subst hQ
      exact rt_z hx hb hr hlk rfl (by simp only [C_M_isJumpTaken, ← e6, ← e17, ← e28, if_neg h34_0, if_pos h34_1, if_pos h99, if_neg h104]) rfl hP hS d_M_isJumpTaken_112
    refine lv_iconst (v := 1) hx hb d_M_isJumpTaken_107 (by decide) ?_
    refine lv_goto (tgt := 112) hx hb d_M_isJumpTaken_108 (by decide) ?_
    subst hQ
    exact rt_z hx hb hr hlk rfl (by simp only [C_M_isJumpTaken, ← e6, ← e17, ← e28, if_neg h34_0, if_pos h34_1, if_pos h99, if_pos h104]) rfl hP hS d_M_isJumpTaken_112
  by_cases h34_2 : x1 = 18
  · refine lv_tableIn (off := 79) (tgt := 113) hx hb d_M_isJumpTaken_34 (by rw [h34_2]; decide) (by rw [h34_2]; decide) (by rw [h34_2]; decide +kernel) (by decide) ?_
    refine lv_iload_n hx hb d_M_isJumpTaken_113 rfl (lv_at hl 2 rfl) ?_
    refine lv_if_eq (tgt := 122) hx hb d_M_isJumpTaken_114 (by decide) (fun h114 => ?_) (fun h114 => ?_)
    · refine lv_iconst (v := 1) hx hb d_M_isJumpTaken_122 (by decide) ?_
      refine lv_goto (tgt := 127) hx hb d_M_isJumpTaken_123 (by decide) ?_
      subst hQ
      exact rt_z hx hb hr hlk rfl (by simp only [C_M_isJumpTaken, ← e6, ← e17, ← e28, if_neg h34_0, if_neg h34_1, if_pos h34_2, if_pos h114]) rfl hP hS d_M_isJumpTaken_127
    refine lv_iload hx hb d_M_isJumpTaken_117 (lv_at hl 0 rfl) ?_
    refine lv_if_eq (tgt := 126) hx hb d_M_isJumpTaken_119 (by decide) (fun h119 => ?_) (fun h119 => ?_)
    · refine lv_iconst (v := 0) hx hb d_M_isJumpTaken_126 (by decide) ?_
      subst hQ
      exact rt_z hx hb hr hlk rfl (by simp only [C_M_isJumpTaken, ← e6, ← e17, ← e28, if_neg h34_0, if_neg h34_1, if_pos h34_2, if_neg h114, if_pos h119]) rfl hP hS d_M_isJumpTaken_127
    refine lv_iconst (v := 1) hx hb d_M_isJumpTaken_122 (by decide) ?_
    refine lv_goto (tgt := 127) hx hb d_M_isJumpTaken_123 (by decide) ?_
    subst hQ
    exact rt_z hx hb hr hlk rfl (by simp only [C_M_isJumpTaken, ← e6, ← e17, ← e28, if_neg h34_0, if_neg h34_1, if_pos h34_2, if_neg h114, if_neg h119]) rfl hP hS d_M_isJumpTaken_127
  by_cases h34_3 : x1 = 19
  · refine lv_tableIn (off := 94) (tgt := 128) hx hb d_M_isJumpTaken_34 (by rw [h34_3]; decide) (by rw [h34_3]; decide) (by rw [h34_3]; decide +kernel) (by decide) ?_
    refine lv_iload hx hb d_M_isJumpTaken_128 (lv_at hl 0 rfl) ?_
    subst hQ
    exact rt_z hx hb hr hlk (nb_z (by rw [e28]; exact zb_St_has _ _)) (by simp only [C_M_isJumpTaken, ← e6, ← e17, ← e28, if_neg h34_0, if_neg h34_1, if_neg h34_2, if_pos h34_3]) rfl hP hS d_M_isJumpTaken_130
  by_cases h34_4 : x1 = 20
  · refine lv_tableIn (off := 97) (tgt := 131) hx hb d_M_isJumpTaken_34 (by rw [h34_4]; decide) (by rw [h34_4]; decide) (by rw [h34_4]; decide +kernel) (by decide) ?_
    refine lv_iload_n hx hb d_M_isJumpTaken_131 rfl (lv_at hl 2 rfl) ?_
    refine lv_if_ne (tgt := 140) hx hb d_M_isJumpTaken_132 (by decide) (fun h132 => ?_) (fun h132 => ?_)
    · refine lv_iconst (v := 1) hx hb d_M_isJumpTaken_140 (by decide) ?_
      refine lv_goto (tgt := 145) hx hb d_M_isJumpTaken_141 (by decide) ?_
      subst hQ
      exact rt_z hx hb hr hlk rfl (by simp only [C_M_isJumpTaken, ← e6, ← e17, ← e28, if_neg h34_0, if_neg h34_1, if_neg h34_2, if_neg h34_3, if_pos h34_4, if_neg h132]) rfl hP hS d_M_isJumpTaken_145
    refine lv_iload hx hb d_M_isJumpTaken_135 (lv_at hl 0 rfl) ?_
    refine lv_if_eq (tgt := 144) hx hb d_M_isJumpTaken_137 (by decide) (fun h137 => ?_) (fun h137 => ?_)
    · refine lv_iconst (v := 0) hx hb d_M_isJumpTaken_144 (by decide) ?_
      subst hQ
      exact rt_z hx hb hr hlk rfl (by simp only [C_M_isJumpTaken, ← e6, ← e17, ← e28, if_neg h34_0, if_neg h34_1, if_neg h34_2, if_neg h34_3, if_pos h34_4, if_pos h132, if_pos h137]) rfl hP hS d_M_isJumpTaken_145
    refine lv_iconst (v := 1) hx hb d_M_isJumpTaken_140 (by decide) ?_
    refine lv_goto (tgt := 145) hx hb d_M_isJumpTaken_141 (by decide) ?_
    subst hQ
    exact rt_z hx hb hr hlk rfl (by simp only [C_M_isJumpTaken, ← e6, ← e17, ← e28, if_neg h34_0, if_neg h34_1, if_neg h34_2, if_neg h34_3, if_pos h34_4, if_pos h132, if_neg h137]) rfl hP hS d_M_isJumpTaken_145
  by_cases h34_5 : x1 = 21
  · refine lv_tableIn (off := 112) (tgt := 146) hx hb d_M_isJumpTaken_34 (by rw [h34_5]; decide) (by rw [h34_5]; decide) (by rw [h34_5]; decide +kernel) (by decide) ?_
    refine lv_iload_n hx hb d_M_isJumpTaken_146 rfl (lv_at hl 1 rfl) ?_
    subst hQ
    exact rt_z hx hb hr hlk (nb_z (by rw [e17]; exact zb_St_has _ _)) (by simp only [C_M_isJumpTaken, ← e6, ← e17, ← e28, if_neg h34_0, if_neg h34_1, if_neg h34_2, if_neg h34_3, if_neg h34_4, if_pos h34_5]) rfl hP hS d_M_isJumpTaken_147
  by_cases h34_6 : x1 = 22
  · refine lv_tableIn (off := 114) (tgt := 148) hx hb d_M_isJumpTaken_34 (by rw [h34_6]; decide) (by rw [h34_6]; decide) (by rw [h34_6]; decide +kernel) (by decide) ?_
    refine lv_iload hx hb d_M_isJumpTaken_148 (lv_at hl 0 rfl) ?_
    refine lv_if_ne (tgt := 157) hx hb d_M_isJumpTaken_150 (by decide) (fun h150 => ?_) (fun h150 => ?_)
    · refine lv_iconst (v := 0) hx hb d_M_isJumpTaken_157 (by decide) ?_
      subst hQ
      exact rt_z hx hb hr hlk rfl (by simp only [C_M_isJumpTaken, ← e6, ← e17, ← e28, if_neg h34_0, if_neg h34_1, if_neg h34_2, if_neg h34_3, if_neg h34_4, if_neg h34_5, if_pos h34_6, if_neg h150]) rfl hP hS d_M_isJumpTaken_158
    refine lv_iconst (v := 1) hx hb d_M_isJumpTaken_153 (by decide) ?_
    refine lv_goto (tgt := 158) hx hb d_M_isJumpTaken_154 (by decide) ?_
    subst hQ
    exact rt_z hx hb hr hlk rfl (by simp only [C_M_isJumpTaken, ← e6, ← e17, ← e28, if_neg h34_0, if_neg h34_1, if_neg h34_2, if_neg h34_3, if_neg h34_4, if_neg h34_5, if_pos h34_6, if_pos h150]) rfl hP hS d_M_isJumpTaken_158
  by_cases h34_7 : x1 = 23
  · refine lv_tableIn (off := 125) (tgt := 159) hx hb d_M_isJumpTaken_34 (by rw [h34_7]; decide) (by rw [h34_7]; decide) (by rw [h34_7]; decide +kernel) (by decide) ?_
    refine lv_aload_n hx hb d_M_isJumpTaken_159 rfl (lv_at hl 3 rfl) ?_
    refine va_get (D := D) (ci := 3) (v := .ref a.2.2.2.2.1) (C := R_M) (T := F_M) (N := 7) hx hb hts (fun w h => wm (ui_M w h)) hown hK hP 0 rfl rfl 2 (by decide) (hts _ (wm t_113)) (fun _ h9 => h9) rfl d_M_isJumpTaken_160 ?_
    refine lv_sipush (v := 4096) hx hb d_M_isJumpTaken_163 (by decide) ?_
    refine cl_V (C := R_St) (k_St_has l D a hA u0 4096) ⟨hx, hb, hml, hown, hts⟩ (cwV 1 hts (gi_V t_312 t_313 t_314 t_65 t_315) rfl rfl rfl (by decide +kernel) ⟨Nat.le_of_ble_eq_true rfl, Nat.le_of_ble_eq_true rfl⟩) (va_recv (q0 := 4) (ci := 2) (q := (R_St, F_St, 1)) hK hP rfl rfl) hP hK hS rfl hl.1 rfl (Nat.le_of_ble_eq_true rfl) d_M_isJumpTaken_166 (nm_i (fun r166 e166 H locs hP hS => ?_))
    refine lv_if_ne (tgt := 176) hx hb d_M_isJumpTaken_169 (by decide) (fun h169 => ?_) (fun h169 => ?_)
    · refine lv_iconst (v := 0) hx hb d_M_isJumpTaken_176 (by decide) ?_
      subst hQ
      exact rt_z hx hb hr hlk rfl (by simp only [C_M_isJumpTaken, ← e6, ← e17, ← e28, if_neg h34_0, if_neg h34_1, if_neg h34_2, if_neg h34_3, if_neg h34_4, if_neg h34_5, if_neg h34_6, if_pos h34_7, ← e166, if_neg h169]) rfl hP hS d_M_isJumpTaken_177
    refine lv_iconst (v := 1) hx hb d_M_isJumpTaken_172 (by decide) ?_
    refine lv_goto (tgt := 177) hx hb d_M_isJumpTaken_173 (by decide) ?_
    subst hQ
    exact rt_z hx hb hr hlk rfl (by simp only [C_M_isJumpTaken, ← e6, ← e17, ← e28, if_neg h34_0, if_neg h34_1, if_neg h34_2, if_neg h34_3, if_neg h34_4, if_neg h34_5, if_neg h34_6, if_pos h34_7, ← e166, if_pos h169]) rfl hP hS d_M_isJumpTaken_177
  by_cases h34_8 : x1 = 24
  · refine lv_tableIn (off := 144) (tgt := 178) hx hb d_M_isJumpTaken_34 (by rw [h34_8]; decide) (by rw [h34_8]; decide) (by rw [h34_8]; decide +kernel) (by decide) ?_
    refine lv_aload_n hx hb d_M_isJumpTaken_178 rfl (lv_at hl 3 rfl) ?_
    refine va_get (D := D) (ci := 3) (v := .ref a.2.2.2.2.1) (C := R_M) (T := F_M) (N := 7) hx hb hts (fun w h => wm (ui_M w h)) hown hK hP 0 rfl rfl 2 (by decide) (hts _ (wm t_113)) (fun _ h9 => h9) rfl d_M_isJumpTaken_179 ?_
    refine lv_sipush (v := 4096) hx hb d_M_isJumpTaken_182 (by decide) ?_
    refine cl_V (C := R_St) (k_St_has l D a hA u0 4096) ⟨hx, hb, hml, hown, hts⟩ (cwV 1 hts (gi_V t_312 t_313 t_314 t_65 t_315) rfl rfl rfl (by decide +kernel) ⟨Nat.le_of_ble_eq_true rfl, Nat.le_of_ble_eq_true rfl⟩) (va_recv (q0 := 4) (ci := 2) (q := (R_St, F_St, 1)) hK hP rfl rfl) hP hK hS rfl hl.1 rfl (Nat.le_of_ble_eq_true rfl) d_M_isJumpTaken_185 (nm_i (fun r185 e185 H locs hP hS => ?_))
    subst hQ
    exact rt_z hx hb hr hlk (nb_z (by rw [e185]; exact zb_St_has _ _)) (by simp only [C_M_isJumpTaken, ← e6, ← e17, ← e28, if_neg h34_0, if_neg h34_1, if_neg h34_2, if_neg h34_3, if_neg h34_4, if_neg h34_5, if_neg h34_6, if_neg h34_7, if_pos h34_8, ← e185]) rfl hP hS d_M_isJumpTaken_188
  by_cases h34_9 : x1 = 25
  · refine lv_tableIn (off := 155) (tgt := 189) hx hb d_M_isJumpTaken_34 (by rw [h34_9]; decide) (by rw [h34_9]; decide) (by rw [h34_9]; decide +kernel) (by decide) ?_
    refine lv_aload_n hx hb d_M_isJumpTaken_189 rfl (lv_at hl 3 rfl) ?_
    refine va_get (D := D) (ci := 3) (v := .ref a.2.2.2.2.1) (C := R_M) (T := F_M) (N := 7) hx hb hts (fun w h => wm (ui_M w h)) hown hK hP 0 rfl rfl 2 (by decide) (hts _ (wm t_113)) (fun _ h9 => h9) rfl d_M_isJumpTaken_190 ?_
    refine lv_sipush (v := 2048) hx hb d_M_isJumpTaken_193 (by decide) ?_
    refine cl_V (C := R_St) (k_St_has l D a hA u0 2048) ⟨hx, hb, hml, hown, hts⟩ (cwV 1 hts (gi_V t_312 t_313 t_314 t_65 t_315) rfl rfl rfl (by decide +kernel) ⟨Nat.le_of_ble_eq_true rfl, Nat.le_of_ble_eq_true rfl⟩) (va_recv (q0 := 4) (ci := 2) (q := (R_St, F_St, 1)) hK hP rfl rfl) hP hK hS rfl hl.1 rfl (Nat.le_of_ble_eq_true rfl) d_M_isJumpTaken_196 (nm_i (fun r196 e196 H locs hP hS => ?_))
    refine lv_if_ne (tgt := 206) hx hb d_M_isJumpTaken_199 (by decide) (fun h199 => ?_) (fun h199 => ?_)
    · refine lv_iconst (v := 0) hx hb d_M_isJumpTaken_206 (by decide) ?_
      subst hQ
      exact rt_z hx hb hr hlk rfl (by simp only [C_M_isJumpTaken, ← e6, ← e17, ← e28, if_neg h34_0, if_neg h34_1, if_neg h34_2, if_neg h34_3, if_neg h34_4, if_neg h34_5, if_neg h34_6, if_neg h34_7, if_neg h34_8, if_pos h34_9, ← e196, if_neg h199]) rfl hP hS d_M_isJumpTaken_207
    refine lv_iconst (v := 1) hx hb d_M_isJumpTaken_202 (by decide) ?_
    refine lv_goto (tgt := 207) hx hb d_M_isJumpTaken_203 (by decide) ?_
    subst hQ
    exact rt_z hx hb hr hlk rfl (by simp only [C_M_isJumpTaken, ← e6, ← e17, ← e28, if_neg h34_0, if_neg h34_1, if_neg h34_2, if_neg h34_3, if_neg h34_4, if_neg h34_5, if_neg h34_6, if_neg h34_7, if_neg h34_8, if_pos h34_9, ← e196, if_pos h199]) rfl hP hS d_M_isJumpTaken_207
  by_cases h34_10 : x1 = 26
  · refine lv_tableIn (off := 174) (tgt := 208) hx hb d_M_isJumpTaken_34 (by rw [h34_10]; decide) (by rw [h34_10]; decide) (by rw [h34_10]; decide +kernel) (by decide) ?_
    refine lv_iload_n hx hb d_M_isJumpTaken_208 rfl (lv_at hl 2 rfl) ?_
    refine lv_if_ne (tgt := 221) hx hb d_M_isJumpTaken_209 (by decide) (fun h209 => ?_) (fun h209 => ?_)
    · refine lv_iconst (v := 0) hx hb d_M_isJumpTaken_221 (by decide) ?_
      subst hQ
      exact rt_z hx hb hr hlk rfl (by simp only [C_M_isJumpTaken, ← e6, ← e17, ← e28, if_neg h34_0, if_neg h34_1, if_neg h34_2, if_neg h34_3, if_neg h34_4, if_neg h34_5, if_neg h34_6, if_neg h34_7, if_neg h34_8, if_neg h34_9, if_pos h34_10, if_neg h209]) rfl hP hS d_M_isJumpTaken_222
    refine lv_iload hx hb d_M_isJumpTaken_212 (lv_at hl 0 rfl) ?_
    refine lv_if_ne (tgt := 221) hx hb d_M_isJumpTaken_214 (by decide) (fun h214 => ?_) (fun h214 => ?_)
    · refine lv_iconst (v := 0) hx hb d_M_isJumpTaken_221 (by decide) ?_
      subst hQ
      exact rt_z hx hb hr hlk rfl (by simp only [C_M_isJumpTaken, ← e6, ← e17, ← e28, if_neg h34_0, if_neg h34_1, if_neg h34_2, if_neg h34_3, if_neg h34_4, if_neg h34_5, if_neg h34_6, if_neg h34_7, if_neg h34_8, if_neg h34_9, if_pos h34_10, if_pos h209, if_neg h214]) rfl hP hS d_M_isJumpTaken_222
    refine lv_iconst (v := 1) hx hb d_M_isJumpTaken_217 (by decide) ?_
    refine lv_goto (tgt := 222) hx hb d_M_isJumpTaken_218 (by decide) ?_
    subst hQ
    exact rt_z hx hb hr hlk rfl (by simp only [C_M_isJumpTaken, ← e6, ← e17, ← e28, if_neg h34_0, if_neg h34_1, if_neg h34_2, if_neg h34_3, if_neg h34_4, if_neg h34_5, if_neg h34_6, if_neg h34_7, if_neg h34_8, if_neg h34_9, if_pos h34_10, if_pos h209, if_pos h214]) rfl hP hS d_M_isJumpTaken_222
  by_cases h34_11 : x1 = 27
  · refine lv_tableIn (off := 189) (tgt := 223) hx hb d_M_isJumpTaken_34 (by rw [h34_11]; decide) (by rw [h34_11]; decide) (by rw [h34_11]; decide +kernel) (by decide) ?_
    refine lv_iload_n hx hb d_M_isJumpTaken_223 rfl (lv_at hl 2 rfl) ?_
    refine lv_if_eq (tgt := 236) hx hb d_M_isJumpTaken_224 (by decide) (fun h224 => ?_) (fun h224 => ?_)
    · refine lv_iconst (v := 0) hx hb d_M_isJumpTaken_236 (by decide) ?_
      subst hQ
      exact rt_z hx hb hr hlk rfl (by simp only [C_M_isJumpTaken, ← e6, ← e17, ← e28, if_neg h34_0, if_neg h34_1, if_neg h34_2, if_neg h34_3, if_neg h34_4, if_neg h34_5, if_neg h34_6, if_neg h34_7, if_neg h34_8, if_neg h34_9, if_neg h34_10, if_pos h34_11, if_pos h224]) rfl hP hS d_M_isJumpTaken_237
    refine lv_iload hx hb d_M_isJumpTaken_227 (lv_at hl 0 rfl) ?_
    refine lv_if_ne (tgt := 236) hx hb d_M_isJumpTaken_229 (by decide) (fun h229 => ?_) (fun h229 => ?_)
    · refine lv_iconst (v := 0) hx hb d_M_isJumpTaken_236 (by decide) ?_
      subst hQ
      exact rt_z hx hb hr hlk rfl (by simp only [C_M_isJumpTaken, ← e6, ← e17, ← e28, if_neg h34_0, if_neg h34_1, if_neg h34_2, if_neg h34_3, if_neg h34_4, if_neg h34_5, if_neg h34_6, if_neg h34_7, if_neg h34_8, if_neg h34_9, if_neg h34_10, if_pos h34_11, if_neg h224, if_neg h229]) rfl hP hS d_M_isJumpTaken_237
    refine lv_iconst (v := 1) hx hb d_M_isJumpTaken_232 (by decide) ?_
    refine lv_goto (tgt := 237) hx hb d_M_isJumpTaken_233 (by decide) ?_
    subst hQ
    exact rt_z hx hb hr hlk rfl (by simp only [C_M_isJumpTaken, ← e6, ← e17, ← e28, if_neg h34_0, if_neg h34_1, if_neg h34_2, if_neg h34_3, if_neg h34_4, if_neg h34_5, if_neg h34_6, if_neg h34_7, if_neg h34_8, if_neg h34_9, if_neg h34_10, if_pos h34_11, if_neg h224, if_pos h229]) rfl hP hS d_M_isJumpTaken_237
  have n34_0 := lv_neT h34_0 (a := 16) (by decide)
  have n34_1 := lv_neT h34_1 (a := 17) (by decide)
  have n34_2 := lv_neT h34_2 (a := 18) (by decide)
  have n34_3 := lv_neT h34_3 (a := 19) (by decide)
  have n34_4 := lv_neT h34_4 (a := 20) (by decide)
  have n34_5 := lv_neT h34_5 (a := 21) (by decide)
  have n34_6 := lv_neT h34_6 (a := 22) (by decide)
  have n34_7 := lv_neT h34_7 (a := 23) (by decide)
  have n34_8 := lv_neT h34_8 (a := 24) (by decide)
  have n34_9 := lv_neT h34_9 (a := 25) (by decide)
  have n34_10 := lv_neT h34_10 (a := 26) (by decide)
  have n34_11 := lv_neT h34_11 (a := 27) (by decide)
  refine lv_tableOut (tgt := 238) hx hb d_M_isJumpTaken_34 (by omega) (by decide) ?_
  refine lv_aload_n hx hb d_M_isJumpTaken_238 rfl (lv_at hl 3 rfl) ?_
  refine va_get (D := D) (ci := 3) (v := .ref a.2.2.2.2.1) (C := R_M) (T := F_M) (N := 7) hx hb hts (fun w h => wm (ui_M w h)) hown hK hP 0 rfl rfl 2 (by decide) (hts _ (wm t_113)) (fun _ h9 => h9) rfl d_M_isJumpTaken_239 ?_
  refine lv_sipush (v := 1024) hx hb d_M_isJumpTaken_242 (by decide) ?_
  refine cl_V (C := R_St) (k_St_has l D a hA u0 1024) ⟨hx, hb, hml, hown, hts⟩ (cwV 1 hts (gi_V t_312 t_313 t_314 t_65 t_315) rfl rfl rfl (by decide +kernel) ⟨Nat.le_of_ble_eq_true rfl, Nat.le_of_ble_eq_true rfl⟩) (va_recv (q0 := 4) (ci := 2) (q := (R_St, F_St, 1)) hK hP rfl rfl) hP hK hS rfl hl.1 rfl (Nat.le_of_ble_eq_true rfl) d_M_isJumpTaken_245 (nm_i (fun r245 e245 H locs hP hS => ?_))
  subst hQ
  exact rt_z hx hb hr hlk (nb_z (by rw [e245]; exact zb_St_has _ _)) (by simp only [C_M_isJumpTaken, ← e6, ← e17, ← e28, if_neg h34_0, if_neg h34_1, if_neg h34_2, if_neg h34_3, if_neg h34_4, if_neg h34_5, if_neg h34_6, if_neg h34_7, if_neg h34_8, if_neg h34_9, if_neg h34_10, if_neg h34_11, ← e245]) rfl hP hS d_M_isJumpTaken_248
set_option maxHeartbeats 4000000 in
set_option maxRecDepth 100000 in
theorem k_M_runJump (l : Launch) (D : va_G) (a : CAd) (hA : ApC a) (u0 : CSt) (x1 : Int32) : MC kl (cw a) (FA a) (tyC a) l D y_M_runJump b_M_runJump 2 (some .int) rm_M_runJump [.ref a.1, .int x1] u0 (some (.int (C_M_runJump u0 x1).1)) (C_M_runJump u0 x1).2 := by
  refine MC.mk (by decide) (Nat.le_of_ble_eq_true rfl) ?_
  intro p e s m below meth c ls Q args H locs hx hb hr hml hown hts hlk hl hP hK hS hQ
  have hown : s.vm.findClass R_M = some m.cls := hown
  have hl : lv_has ls 2 [(0, .ref a.1), (1, .int x1)] := hl
  refine lv_aload_n hx hb d_M_runJump_0 rfl (lv_at hl 0 rfl) ?_
  refine lv_iload_n hx hb d_M_runJump_1 rfl (lv_at hl 1 rfl) ?_
  refine lv_bipush (v := 8) hx hb d_M_runJump_2 (by decide) ?_
  refine lv_ishr hx hb d_M_runJump_4 ?_
  refine cl_V (C := R_M) (k_M_isJumpTaken l D a hA u0 (x1 >>> ((8 : Int32) &&& 31))) ⟨hx, hb, hml, hown, hts⟩ (cwV 1 hts (gi_V t_307 t_309 t_20 t_62 t_310) rfl rfl rfl (by decide +kernel) ⟨Nat.le_of_ble_eq_true rfl, Nat.le_of_ble_eq_true rfl⟩) (va_recv (q0 := 0) (ci := 3) (q := (R_M, F_M, 7)) hK hP rfl rfl) hP hK hS rfl hl.1 rfl (Nat.le_of_ble_eq_true rfl) d_M_runJump_5 (nm_i (fun r5 e5 H locs hP hS => ?_))
  refine lv_if_eq (tgt := 24) hx hb d_M_runJump_8 (by decide) (fun h8 => ?_) (fun h8 => ?_)
  · refine lv_iconst (v := 0) hx hb d_M_runJump_24 (by decide) ?_
    have hc : (0, u0) = C_M_runJump u0 x1 := by simp only [C_M_runJump, ← e5, if_pos h8]
    subst hQ
    exact rt_i hx hb hr hlk (congrArg Prod.fst hc) (congrArg Prod.snd hc) hP hS d_M_runJump_25
  refine lv_aload_n hx hb d_M_runJump_11 rfl (lv_at hl 0 rfl) ?_
  refine lv_aload_n hx hb d_M_runJump_12 rfl (lv_at hl 0 rfl) ?_
  refine va_get (D := D) (ci := 3) (v := .int u0.2.2.2.2.1) (C := R_M) (T := F_M) (N := 7) hx hb hts (fun w h => wm (ui_M w h)) hown hK hP 0 rfl rfl 4 (by decide) (hts _ (wm t_115)) (fun _ h9 => h9) rfl d_M_runJump_13 ?_
  refine lv_iconst (v := 2) hx hb d_M_runJump_16 (by decide) ?_
  refine lv_iload_n hx hb d_M_runJump_17 rfl (lv_at hl 1 rfl) ?_
  refine lv_i2b hx hb d_M_runJump_18 rfl ?_
  refine lv_imul hx hb d_M_runJump_19 ?_
  refine lv_iadd hx hb d_M_runJump_20 ?_
  refine cl_V (C := R_M) (k_M_setCounter l D a hA u0 (u0.2.2.2.2.1 + (2 * (x1.toInt8.toInt32)))) ⟨hx, hb, hml, hown, hts⟩ (cwV 1 hts (gi_V t_165 t_167 t_4 t_62 t_168) rfl rfl rfl (by decide +kernel) ⟨Nat.le_of_ble_eq_true rfl, Nat.le_of_ble_eq_true rfl⟩) (va_recv (q0 := 0) (ci := 3) (q := (R_M, F_M, 7)) hK hP rfl rfl) hP hK hS rfl hl.1 rfl (Nat.le_of_ble_eq_true rfl) d_M_runJump_21 (nm_s (fun u21 e21 H locs hP hS => ?_))
  refine lv_iconst (v := 0) hx hb d_M_runJump_24 (by decide) ?_
  have hc : (0, u21) = C_M_runJump u0 x1 := by simp only [C_M_runJump, ← e5, if_neg h8, ← e21]
  subst hQ
  exact rt_i hx hb hr hlk (congrArg Prod.fst hc) (congrArg Prod.snd hc) hP hS d_M_runJump_25
set_option maxHeartbeats 4000000 in
set_option maxRecDepth 100000 in
theorem k_M_runOnLine (l : Launch) (D : va_G) (a : CAd) (hA : ApC a) (u0 : CSt) (x1 : Int32) : MC kl (cw a) (FA a) (tyC a) l D y_M_runOnLine b_M_runOnLine 3 (some .int) rm_M_runOnLine [.ref a.1, .int x1] u0 (some (.int (C_M_runOnLine u0 x1).1)) (C_M_runOnLine u0 x1).2 := by
  refine MC.mk (by decide) (Nat.le_of_ble_eq_true rfl) ?_
  intro p e s m below meth c ls Q args H locs hx hb hr hml hown hts hlk hl hP hK hS hQ
  have hown : s.vm.findClass R_M = some m.cls := hown
  have hl : lv_has ls 3 [(0, .ref a.1), (1, .int x1)] := hl
  refine lv_aload_n hx hb d_M_runOnLine_0 rfl (lv_at hl 0 rfl) ?_
  refine lv_bipush (v := 12) hx hb d_M_runOnLine_1 (by decide) ?_
  refine cl_V (C := R_M) (k_M_register l D a hA u0 12) ⟨hx, hb, hml, hown, hts⟩ (cwV 1 hts (gi_V t_189 t_191 t_7 t_62 t_192) rfl rfl rfl (by decide +kernel) ⟨Nat.le_of_ble_eq_true rfl, Nat.le_of_ble_eq_true rfl⟩) (va_recv (q0 := 0) (ci := 3) (q := (R_M, F_M, 7)) hK hP rfl rfl) hP hK hS rfl hl.1 rfl (Nat.le_of_ble_eq_true rfl) d_M_runOnLine_3 (nm_i (fun r3 e3 H locs hP hS => ?_))
  refine lv_iconst (v := 2) hx hb d_M_runOnLine_6 (by decide) ?_
  refine lv_idiv hx hb d_M_runOnLine_7 (by decide) ?_
  refine lv_iload_n hx hb d_M_runOnLine_8 rfl (lv_at hl 1 rfl) ?_
  refine lv_i2b hx hb d_M_runOnLine_9 rfl ?_
  refine lv_iadd hx hb d_M_runOnLine_10 ?_
  refine lv_istore_n hx hb d_M_runOnLine_11 rfl hl (by decide) rfl (fun ls hl => ?_)
  have hl : lv_has ls 3 [(2, .int ((r3 / 2) + (x1.toInt8.toInt32))), (0, .ref a.1), (1, .int x1)] := hl
  refine lv_iload_n hx hb d_M_runOnLine_12 rfl (lv_at hl 2 rfl) ?_
  refine lv_bipush (v := 8) hx hb d_M_runOnLine_13 (by decide) ?_
  refine lv_ishr hx hb d_M_runOnLine_15 ?_
  by_cases h16_0 : (x1 >>> ((8 : Int32) &&& 31)) = 29
  · refine lv_lookup (off := 28) (tgt := 44) hx hb d_M_runOnLine_16 (by decide) (by rw [h16_0]; decide +kernel) (by decide) ?_
    refine lv_aload_n hx hb d_M_runOnLine_44 rfl (lv_at hl 1 rfl) ?_
    refine va_get (D := D) (ci := 3) (v := .ref a.2.2.2.1) (C := R_M) (T := F_M) (N := 7) hx hb hts (fun w h => wm (ui_M w h)) hown hK hP 0 rfl rfl 1 (by decide) (hts _ (wm t_112)) (fun _ h9 => h9) rfl d_M_runOnLine_45 ?_
    refine lv_iload_n hx hb d_M_runOnLine_48 rfl (lv_at hl 0 rfl) ?_
    refine lv_iconst (v := 1) hx hb d_M_runOnLine_49 (by decide) ?_
    refine cl_V (C := R_Li) (k_Li_set l D a hA u0 ((r3 / 2) + (x1.toInt8.toInt32)) 1) ⟨hx, hb, hml, hown, hts⟩ (cwV 2 hts (gi_V t_275 t_276 t_277 t_64 t_278) rfl rfl rfl (by decide +kernel) ⟨Nat.le_of_ble_eq_true rfl, Nat.le_of_ble_eq_true rfl⟩) (va_recv (q0 := 3) (ci := 0) (q := (R_Li, F_Li, 1)) hK hP rfl rfl) hP hK hS rfl hl.1 rfl (Nat.le_of_ble_eq_true rfl) d_M_runOnLine_50 (nm_s (fun u50 e50 H locs hP hS => ?_))
    refine lv_goto (tgt := 86) hx hb d_M_runOnLine_53 (by decide) ?_
    refine lv_iconst (v := 0) hx hb d_M_runOnLine_86 (by decide) ?_
    have hc : (0, u50) = C_M_runOnLine u0 x1 := by simp only [C_M_runOnLine, ← e3, if_pos h16_0, ← e50]
    subst hQ
    exact rt_i hx hb hr hlk (congrArg Prod.fst hc) (congrArg Prod.snd hc) hP hS d_M_runOnLine_87
  by_cases h16_1 : (x1 >>> ((8 : Int32) &&& 31)) = 30
  · refine lv_lookup (off := 40) (tgt := 56) hx hb d_M_runOnLine_16 (by decide) (by rw [h16_1]; decide +kernel) (by decide) ?_
    refine lv_aload_n hx hb d_M_runOnLine_56 rfl (lv_at hl 1 rfl) ?_
    refine va_get (D := D) (ci := 3) (v := .ref a.2.2.2.1) (C := R_M) (T := F_M) (N := 7) hx hb hts (fun w h => wm (ui_M w h)) hown hK hP 0 rfl rfl 1 (by decide) (hts _ (wm t_112)) (fun _ h9 => h9) rfl d_M_runOnLine_57 ?_
    refine lv_iload_n hx hb d_M_runOnLine_60 rfl (lv_at hl 0 rfl) ?_
    refine lv_iconst (v := 0) hx hb d_M_runOnLine_61 (by decide) ?_
    refine cl_V (C := R_Li) (k_Li_set l D a hA u0 ((r3 / 2) + (x1.toInt8.toInt32)) 0) ⟨hx, hb, hml, hown, hts⟩ (cwV 2 hts (gi_V t_275 t_276 t_277 t_64 t_278) rfl rfl rfl (by decide +kernel) ⟨Nat.le_of_ble_eq_true rfl, Nat.le_of_ble_eq_true rfl⟩) (va_recv (q0 := 3) (ci := 0) (q := (R_Li, F_Li, 1)) hK hP rfl rfl) hP hK hS rfl hl.1 rfl (Nat.le_of_ble_eq_true rfl) d_M_runOnLine_62 (nm_s (fun u62 e62 H locs hP hS => ?_))
    refine lv_goto (tgt := 86) hx hb d_M_runOnLine_65 (by decide) ?_
    refine lv_iconst (v := 0) hx hb d_M_runOnLine_86 (by decide) ?_
    have hc : (0, u62) = C_M_runOnLine u0 x1 := by simp only [C_M_runOnLine, ← e3, if_neg h16_0, if_pos h16_1, ← e62]
    subst hQ
    exact rt_i hx hb hr hlk (congrArg Prod.fst hc) (congrArg Prod.snd hc) hP hS d_M_runOnLine_87
  refine lv_lookup (off := 52) (tgt := 68) hx hb d_M_runOnLine_16 (by decide) ((lv_osw h16_0 (by decide)).trans ((lv_osw h16_1 (by decide)).trans (rfl))) (by decide) ?_
  refine lv_aload_n hx hb d_M_runOnLine_68 rfl (lv_at hl 1 rfl) ?_
  refine va_get (D := D) (ci := 3) (v := .ref a.2.2.2.2.1) (C := R_M) (T := F_M) (N := 7) hx hb hts (fun w h => wm (ui_M w h)) hown hK hP 0 rfl rfl 2 (by decide) (hts _ (wm t_113)) (fun _ h9 => h9) rfl d_M_runOnLine_69 ?_
  refine lv_sipush (v := 8192) hx hb d_M_runOnLine_72 (by decide) ?_
  refine lv_aload_n hx hb d_M_runOnLine_75 rfl (lv_at hl 1 rfl) ?_
  refine va_get (D := D) (ci := 3) (v := .ref a.2.2.2.1) (C := R_M) (T := F_M) (N := 7) hx hb hts (fun w h => wm (ui_M w h)) hown hK hP 0 rfl rfl 1 (by decide) (hts _ (wm t_112)) (fun _ h9 => h9) rfl d_M_runOnLine_76 ?_
  refine lv_iload_n hx hb d_M_runOnLine_79 rfl (lv_at hl 0 rfl) ?_
  refine cl_V (C := R_Li) (k_Li_isOn l D a hA u0 ((r3 / 2) + (x1.toInt8.toInt32))) ⟨hx, hb, hml, hown, hts⟩ (cwV 1 hts (gi_V t_287 t_288 t_289 t_64 t_290) rfl rfl rfl (by decide +kernel) ⟨Nat.le_of_ble_eq_true rfl, Nat.le_of_ble_eq_true rfl⟩) (va_recv (q0 := 3) (ci := 0) (q := (R_Li, F_Li, 1)) hK hP rfl rfl) hP hK hS rfl hl.1 rfl (Nat.le_of_ble_eq_true rfl) d_M_runOnLine_80 (nm_i (fun r80 e80 H locs hP hS => ?_))
  refine cl_V (C := R_St) (k_St_mark l D a hA u0 8192 r80) ⟨hx, hb, hml, hown, hts⟩ (cwV 2 hts (gi_V t_267 t_235 t_236 t_65 t_237) rfl rfl rfl (by decide +kernel) ⟨Nat.le_of_ble_eq_true rfl, Nat.le_of_ble_eq_true rfl⟩) (va_recv (q0 := 4) (ci := 2) (q := (R_St, F_St, 1)) hK hP rfl rfl) hP hK hS rfl hl.1 rfl (Nat.le_of_ble_eq_true rfl) d_M_runOnLine_83 (nm_s (fun u83 e83 H locs hP hS => ?_))
  refine lv_iconst (v := 0) hx hb d_M_runOnLine_86 (by decide) ?_
  have hc : (0, u83) = C_M_runOnLine u0 x1 := by simp only [C_M_runOnLine, ← e3, if_neg h16_0, if_neg h16_1, ← e80, ← e83]
  subst hQ
  exact rt_i hx hb hr hlk (congrArg Prod.fst hc) (congrArg Prod.snd hc) hP hS d_M_runOnLine_87
