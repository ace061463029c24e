/-! contracts, laid by gen.py -/
set_option maxHeartbeats 4000000 in
set_option maxRecDepth 100000 in
theorem k_Me_word (l : Launch) (D : va_G) (a : CAd) (hA : ApC a) (u0 : CSt) (x1 : Int32) : MC kl (cw a) (FA a) (tyC a) l D y_Me_word b_Me_word 2 (some .int) rm_Me_word [.ref a.2.1, .int x1] u0 (some (.int (C_Me_word u0 x1))) u0 := by
  refine MC.mk (by decide) (Nat.le_of_ble_eq_true rfl) ?_
  intro p e s m below meth c ls Q args H locs hx hb hr hml hown hts hlk hl hP hK hS hQ
  have hown : s.vm.findClass R_Me = some m.cls := hown
  have hl : lv_has ls 2 [(0, .ref a.2.1), (1, .int x1)] := hl
  refine lv_aload_n hx hb d_Me_word_0 rfl (lv_at hl 0 rfl) ?_
  refine va_get (D := D) (ci := 1) (v := .ref a.2.2.1) (C := R_Me) (T := F_Me) (N := 1) hx hb hts (fun w h => wm (ui_Me w h)) hown hK hP 1 rfl rfl 0 (by decide) (hts _ (wm t_86)) (fun _ h9 => h9) rfl d_Me_word_1 ?_
  refine lv_iload_n hx hb d_Me_word_4 rfl (lv_at hl 1 rfl) ?_
  refine lv_sipush (v := 1023) hx hb d_Me_word_5 (by decide) ?_
  refine lv_iand hx hb d_Me_word_8 ?_
  refine lv_iconst (v := 1) hx hb d_Me_word_9 (by decide) ?_
  refine lv_ishr hx hb d_Me_word_10 ?_
  refine va_cald hx hb hK hP 2 0 rfl rfl (ix_C _) d_Me_word_11 ?_
  subst hQ
  exact rt_i hx hb hr hlk (by simp only [C_Me_word]) rfl hP hS d_Me_word_12
set_option maxHeartbeats 4000000 in
set_option maxRecDepth 100000 in
theorem k_M_setWorkspace (l : Launch) (D : va_G) (a : CAd) (hA : ApC a) (u0 : CSt) (x1 : Int32) : MC kl (cw a) (FA a) (tyC a) l D y_M_setWorkspace b_M_setWorkspace 2 none rm_M_setWorkspace [.ref a.1, .int x1] u0 none (C_M_setWorkspace u0 x1) := by
  refine MC.mk (by decide) (Nat.le_of_ble_eq_true rfl) ?_
  intro p e s m below meth c ls Q args H locs hx hb hr hml hown hts hlk hl hP hK hS hQ
  have hown : s.vm.findClass R_M = some m.cls := hown
  have hl : lv_has ls 2 [(0, .ref a.1), (1, .int x1)] := hl
  refine lv_aload_n hx hb d_M_setWorkspace_0 rfl (lv_at hl 0 rfl) ?_
  refine lv_iload_n hx hb d_M_setWorkspace_1 rfl (lv_at hl 1 rfl) ?_
  refine lv_sipush (v := 1022) hx hb d_M_setWorkspace_2 (by decide) ?_
  refine lv_iand hx hb d_M_setWorkspace_5 ?_
  refine va_put (D := D) (ci := 3) (v := .int (x1 &&& 1022)) (ty := .int) (C := R_M) (T := F_M) (N := 7) hx hb hts (fun w h => wm (ui_M w h)) ft_M ft_M_ok fn_M hown hK hP (dd_C hA _) hS 0 rfl rfl 3 (by decide) (hts _ (wm t_114)) (fun _ h9 => h9) rfl (by decide +kernel) rfl rfl (Nat.le_of_ble_eq_true rfl) d_M_setWorkspace_6 (fun H locs hP _ hS => ?_)
  have hP : va_P D kl (cw a (u0.1, u0.2.1, u0.2.2.1, (x1 &&& 1022), u0.2.2.2.2.1, u0.2.2.2.2.2.1, u0.2.2.2.2.2.2)) H := hP
  subst hQ
  exact rt_v hx hb hr hlk (by simp only [C_M_setWorkspace]) hP hS d_M_setWorkspace_9
set_option maxHeartbeats 4000000 in
set_option maxRecDepth 100000 in
theorem k_M_registerAddress (l : Launch) (D : va_G) (a : CAd) (hA : ApC a) (u0 : CSt) (x1 : Int32) : MC kl (cw a) (FA a) (tyC a) l D y_M_registerAddress b_M_registerAddress 2 (some .int) rm_M_registerAddress [.ref a.1, .int x1] u0 (some (.int (C_M_registerAddress u0 x1))) u0 := by
  refine MC.mk (by decide) (Nat.le_of_ble_eq_true rfl) ?_
  intro p e s m below meth c ls Q args H locs hx hb hr hml hown hts hlk hl hP hK hS hQ
  have hown : s.vm.findClass R_M = some m.cls := hown
  have hl : lv_has ls 2 [(0, .ref a.1), (1, .int x1)] := hl
  refine lv_aload_n hx hb d_M_registerAddress_0 rfl (lv_at hl 0 rfl) ?_
  refine va_get (D := D) (ci := 3) (v := .int u0.2.2.2.1) (C := R_M) (T := F_M) (N := 7) hx hb hts (fun w h => wm (ui_M w h)) hown hK hP 0 rfl rfl 3 (by decide) (hts _ (wm t_114)) (fun _ h9 => h9) rfl d_M_registerAddress_1 ?_
  refine lv_iconst (v := 2) hx hb d_M_registerAddress_4 (by decide) ?_
  refine lv_iload_n hx hb d_M_registerAddress_5 rfl (lv_at hl 1 rfl) ?_
  refine lv_imul hx hb d_M_registerAddress_6 ?_
  refine lv_iadd hx hb d_M_registerAddress_7 ?_
  subst hQ
  exact rt_i hx hb hr hlk (by simp only [C_M_registerAddress]) rfl hP hS d_M_registerAddress_8
set_option maxHeartbeats 4000000 in
set_option maxRecDepth 100000 in
theorem k_Me_setWord (l : Launch) (D : va_G) (a : CAd) (hA : ApC a) (u0 : CSt) (x1 : Int32) (x2 : Int32) : MC kl (cw a) (FA a) (tyC a) l D y_Me_setWord b_Me_setWord 3 none rm_Me_setWord [.ref a.2.1, .int x1, .int x2] u0 none (C_Me_setWord u0 x1 x2) := by
  refine MC.mk (by decide) (Nat.le_of_ble_eq_true rfl) ?_
  intro p e s m below meth c ls Q args H locs hx hb hr hml hown hts hlk hl hP hK hS hQ
  have hown : s.vm.findClass R_Me = some m.cls := hown
  have hl : lv_has ls 3 [(0, .ref a.2.1), (1, .int x1), (2, .int x2)] := hl
  refine lv_aload_n hx hb d_Me_setWord_0 rfl (lv_at hl 0 rfl) ?_
  refine va_get (D := D) (ci := 1) (v := .ref a.2.2.1) (C := R_Me) (T := F_Me) (N := 1) hx hb hts (fun w h => wm (ui_Me w h)) hown hK hP 1 rfl rfl 0 (by decide) (hts _ (wm t_86)) (fun _ h9 => h9) rfl d_Me_setWord_1 ?_
  refine lv_iload_n hx hb d_Me_setWord_4 rfl (lv_at hl 1 rfl) ?_
  refine lv_sipush (v := 1023) hx hb d_Me_setWord_5 (by decide) ?_
  refine lv_iand hx hb d_Me_setWord_8 ?_
  refine lv_iconst (v := 1) hx hb d_Me_setWord_9 (by decide) ?_
  refine lv_ishr hx hb d_Me_setWord_10 ?_
  refine lv_iload_n hx hb d_Me_setWord_11 rfl (lv_at hl 2 rfl) ?_
  refine lv_i2c hx hb d_Me_setWord_12 rfl ?_
  refine va_cast hx hb hK hP (dd_C hA _) hS 2 0 rfl rfl (ix_C _) d_Me_setWord_13 (fun H locs hP _ hS => ?_)
  have hP : va_P D kl (cw a ((upd u0.1 ((x1 &&& 1023) >>> ((1 : Int32) &&& 31)).toNatClampNeg (vp_nar .char ((x2.toUInt32 % 65536).toInt32))), u0.2.1, u0.2.2.1, u0.2.2.2.1, u0.2.2.2.2.1, u0.2.2.2.2.2.1, u0.2.2.2.2.2.2)) H := hP
  subst hQ
  exact rt_v hx hb hr hlk (by simp only [C_Me_setWord]) hP hS d_Me_setWord_14
set_option maxHeartbeats 4000000 in
set_option maxRecDepth 100000 in
theorem k_M_setRegister (l : Launch) (D : va_G) (a : CAd) (hA : ApC a) (u0 : CSt) (x1 : Int32) (x2 : Int32) : MC kl (cw a) (FA a) (tyC a) l D y_M_setRegister b_M_setRegister 3 none rm_M_setRegister [.ref a.1, .int x1, .int x2] u0 none (C_M_setRegister u0 x1 x2) := by
  refine MC.mk (by decide) (Nat.le_of_ble_eq_true rfl) ?_
  intro p e s m below meth c ls Q args H locs hx hb hr hml hown hts hlk hl hP hK hS hQ
  have hown : s.vm.findClass R_M = some m.cls := hown
  have hl : lv_has ls 3 [(0, .ref a.1), (1, .int x1), (2, .int x2)] := hl
  refine lv_aload_n hx hb d_M_setRegister_0 rfl (lv_at hl 0 rfl) ?_
  refine va_get (D := D) (ci := 3) (v := .ref a.2.1) (C := R_M) (T := F_M) (N := 7) hx hb hts (fun w h => wm (ui_M w h)) hown hK hP 0 rfl rfl 0 (by decide) (hts _ (wm t_111)) (fun _ h9 => h9) rfl d_M_setRegister_1 ?_
  refine lv_aload_n hx hb d_M_setRegister_4 rfl (lv_at hl 0 rfl) ?_
  refine lv_iload_n hx hb d_M_setRegister_5 rfl (lv_at hl 1 rfl) ?_
  refine cl_V (C := R_M) (k_M_registerAddress l D a hA u0 x1) ⟨hx, hb, hml, hown, hts⟩ (cwV 1 hts (gi_V t_153 t_155 t_3 t_62 t_156) rfl rfl rfl (by decide +kernel) ⟨Nat.le_of_ble_eq_true rfl, Nat.le_of_ble_eq_true rfl⟩) (va_recv (q0 := 0) (ci := 3) (q := (R_M, F_M, 7)) hK hP rfl rfl) hP hK hS rfl hl.1 rfl (Nat.le_of_ble_eq_true rfl) d_M_setRegister_6 (nm_i (fun r6 e6 H locs hP hS => ?_))
  refine lv_iload_n hx hb d_M_setRegister_9 rfl (lv_at hl 2 rfl) ?_
  refine cl_V (C := R_Me) (k_Me_setWord l D a hA u0 r6 x2) ⟨hx, hb, hml, hown, hts⟩ (cwV 2 hts (gi_V t_157 t_158 t_159 t_63 t_160) rfl rfl rfl (by decide +kernel) ⟨Nat.le_of_ble_eq_true rfl, Nat.le_of_ble_eq_true rfl⟩) (va_recv (q0 := 1) (ci := 1) (q := (R_Me, F_Me, 1)) hK hP rfl rfl) hP hK hS rfl hl.1 rfl (Nat.le_of_ble_eq_true rfl) d_M_setRegister_10 (nm_s (fun u10 e10 H locs hP hS => ?_))
  subst hQ
  exact rt_v hx hb hr hlk (by simp only [C_M_setRegister, ← e6, ← e10]) hP hS d_M_setRegister_13
set_option maxHeartbeats 4000000 in
set_option maxRecDepth 100000 in
theorem k_St_bits (l : Launch) (D : va_G) (a : CAd) (hA : ApC a) (u0 : CSt) : MC kl (cw a) (FA a) (tyC a) l D y_St_bits b_St_bits 1 (some .int) rm_St_bits [.ref a.2.2.2.2.1] u0 (some (.int (C_St_bits u0))) u0 := by
  refine MC.mk (by decide) (Nat.le_of_ble_eq_true rfl) ?_
  intro p e s m below meth c ls Q args H locs hx hb hr hml hown hts hlk hl hP hK hS hQ
  have hown : s.vm.findClass R_St = some m.cls := hown
  have hl : lv_has ls 1 [(0, .ref a.2.2.2.2.1)] := hl
  refine lv_aload_n hx hb d_St_bits_0 rfl (lv_at hl 0 rfl) ?_
  refine va_get (D := D) (ci := 2) (v := .int u0.2.2.1) (C := R_St) (T := F_St) (N := 1) hx hb hts (fun w h => wm (ui_St w h)) hown hK hP 4 rfl rfl 0 (by decide) (hts _ (wm t_107)) (fun _ h9 => h9) rfl d_St_bits_1 ?_
  subst hQ
  exact rt_i hx hb hr hlk (by simp only [C_St_bits]) rfl hP hS d_St_bits_4
set_option maxHeartbeats 4000000 in
set_option maxRecDepth 100000 in
theorem k_M_setCounter (l : Launch) (D : va_G) (a : CAd) (hA : ApC a) (u0 : CSt) (x1 : Int32) : MC kl (cw a) (FA a) (tyC a) l D y_M_setCounter b_M_setCounter 2 none rm_M_setCounter [.ref a.1, .int x1] u0 none (C_M_setCounter u0 x1) := by
  refine MC.mk (by decide) (Nat.le_of_ble_eq_true rfl) ?_
  intro p e s m below meth c ls Q args H locs hx hb hr hml hown hts hlk hl hP hK hS hQ
  have hown : s.vm.findClass R_M = some m.cls := hown
  have hl : lv_has ls 2 [(0, .ref a.1), (1, .int x1)] := hl
  refine lv_aload_n hx hb d_M_setCounter_0 rfl (lv_at hl 0 rfl) ?_
  refine lv_iload_n hx hb d_M_setCounter_1 rfl (lv_at hl 1 rfl) ?_
  refine lv_sipush (v := 1022) hx hb d_M_setCounter_2 (by decide) ?_
  refine lv_iand hx hb d_M_setCounter_5 ?_
  refine va_put (D := D) (ci := 3) (v := .int (x1 &&& 1022)) (ty := .int) (C := R_M) (T := F_M) (N := 7) hx hb hts (fun w h => wm (ui_M w h)) ft_M ft_M_ok fn_M hown hK hP (dd_C hA _) hS 0 rfl rfl 4 (by decide) (hts _ (wm t_115)) (fun _ h9 => h9) rfl (by decide +kernel) rfl rfl (Nat.le_of_ble_eq_true rfl) d_M_setCounter_6 (fun H locs hP _ hS => ?_)
  have hP : va_P D kl (cw a (u0.1, u0.2.1, u0.2.2.1, u0.2.2.2.1, (x1 &&& 1022), u0.2.2.2.2.2.1, u0.2.2.2.2.2.2)) H := hP
  subst hQ
  exact rt_v hx hb hr hlk (by simp only [C_M_setCounter]) hP hS d_M_setCounter_9
set_option maxHeartbeats 4000000 in
set_option maxRecDepth 100000 in
theorem k_M_switchThrough (l : Launch) (D : va_G) (a : CAd) (hA : ApC a) (u0 : CSt) (x1 : Int32) : MC kl (cw a) (FA a) (tyC a) l D y_M_switchThrough b_M_switchThrough 5 none rm_M_switchThrough [.ref a.1, .int x1] u0 none (C_M_switchThrough u0 x1) := by
  refine MC.mk (by decide) (Nat.le_of_ble_eq_true rfl) ?_
  intro p e s m below meth c ls Q args H locs hx hb hr hml hown hts hlk hl hP hK hS hQ
  have hown : s.vm.findClass R_M = some m.cls := hown
  have hl : lv_has ls 5 [(0, .ref a.1), (1, .int x1)] := hl
  refine lv_aload_n hx hb d_M_switchThrough_0 rfl (lv_at hl 0 rfl) ?_
  refine va_get (D := D) (ci := 3) (v := .int u0.2.2.2.1) (C := R_M) (T := F_M) (N := 7) hx hb hts (fun w h => wm (ui_M w h)) hown hK hP 0 rfl rfl 3 (by decide) (hts _ (wm t_114)) (fun _ h9 => h9) rfl d_M_switchThrough_1 ?_
  refine lv_istore_n hx hb d_M_switchThrough_4 rfl hl (by decide) rfl (fun ls hl => ?_)
  have hl : lv_has ls 5 [(2, .int u0.2.2.2.1), (0, .ref a.1), (1, .int x1)] := hl
  refine lv_aload_n hx hb d_M_switchThrough_5 rfl (lv_at hl 1 rfl) ?_
  refine va_get (D := D) (ci := 3) (v := .ref a.2.1) (C := R_M) (T := F_M) (N := 7) hx hb hts (fun w h => wm (ui_M w h)) hown hK hP 0 rfl rfl 0 (by decide) (hts _ (wm t_111)) (fun _ h9 => h9) rfl d_M_switchThrough_6 ?_
  refine lv_iload_n hx hb d_M_switchThrough_9 rfl (lv_at hl 2 rfl) ?_
  refine cl_V (C := R_Me) (k_Me_word l D a hA u0 x1) ⟨hx, hb, hml, hown, hts⟩ (cwV 1 hts (gi_V t_141 t_142 t_143 t_63 t_144) rfl rfl rfl (by decide +kernel) ⟨Nat.le_of_ble_eq_true rfl, Nat.le_of_ble_eq_true rfl⟩) (va_recv (q0 := 1) (ci := 1) (q := (R_Me, F_Me, 1)) hK hP rfl rfl) hP hK hS rfl hl.1 rfl (Nat.le_of_ble_eq_true rfl) d_M_switchThrough_10 (nm_i (fun r10 e10 H locs hP hS => ?_))
  refine lv_istore_n hx hb d_M_switchThrough_13 rfl hl (by decide) rfl (fun ls hl => ?_)
  have hl : lv_has ls 5 [(3, .int r10), (2, .int u0.2.2.2.1), (0, .ref a.1), (1, .int x1)] := hl
  refine lv_aload_n hx hb d_M_switchThrough_14 rfl (lv_at hl 2 rfl) ?_
  refine va_get (D := D) (ci := 3) (v := .ref a.2.1) (C := R_M) (T := F_M) (N := 7) hx hb hts (fun w h => wm (ui_M w h)) hown hK hP 0 rfl rfl 0 (by decide) (hts _ (wm t_111)) (fun _ h9 => h9) rfl d_M_switchThrough_15 ?_
  refine lv_iload_n hx hb d_M_switchThrough_18 rfl (lv_at hl 3 rfl) ?_
  refine lv_iconst (v := 2) hx hb d_M_switchThrough_19 (by decide) ?_
  refine lv_iadd hx hb d_M_switchThrough_20 ?_
  refine cl_V (C := R_Me) (k_Me_word l D a hA u0 (x1 + 2)) ⟨hx, hb, hml, hown, hts⟩ (cwV 1 hts (gi_V t_141 t_142 t_143 t_63 t_144) rfl rfl rfl (by decide +kernel) ⟨Nat.le_of_ble_eq_true rfl, Nat.le_of_ble_eq_true rfl⟩) (va_recv (q0 := 1) (ci := 1) (q := (R_Me, F_Me, 1)) hK hP rfl rfl) hP hK hS rfl hl.1 rfl (Nat.le_of_ble_eq_true rfl) d_M_switchThrough_21 (nm_i (fun r21 e21 H locs hP hS => ?_))
  refine lv_istore hx hb d_M_switchThrough_24 hl (by decide) rfl (fun ls hl => ?_)
  have hl : lv_has ls 5 [(4, .int r21), (3, .int r10), (2, .int u0.2.2.2.1), (0, .ref a.1), (1, .int x1)] := hl
  refine lv_aload_n hx hb d_M_switchThrough_26 rfl (lv_at hl 3 rfl) ?_
  refine lv_iload_n hx hb d_M_switchThrough_27 rfl (lv_at hl 1 rfl) ?_
  refine cl_V (C := R_M) (k_M_setWorkspace l D a hA u0 r10) ⟨hx, hb, hml, hown, hts⟩ (cwV 1 hts (gi_V t_145 t_147 t_1 t_62 t_148) rfl rfl rfl (by decide +kernel) ⟨Nat.le_of_ble_eq_true rfl, Nat.le_of_ble_eq_true rfl⟩) (va_recv (q0 := 0) (ci := 3) (q := (R_M, F_M, 7)) hK hP rfl rfl) hP hK hS rfl hl.1 rfl (Nat.le_of_ble_eq_true rfl) d_M_switchThrough_28 (nm_s (fun u28 e28 H locs hP hS => ?_))
  refine lv_aload_n hx hb d_M_switchThrough_31 rfl (lv_at hl 3 rfl) ?_
  refine lv_bipush (v := 13) hx hb d_M_switchThrough_32 (by decide) ?_
  refine lv_iload_n hx hb d_M_switchThrough_34 rfl (lv_at hl 2 rfl) ?_
  refine cl_V (C := R_M) (k_M_setRegister l D a hA u28 13 u0.2.2.2.1) ⟨hx, hb, hml, hown, hts⟩ (cwV 2 hts (gi_V t_149 t_151 t_2 t_62 t_152) rfl rfl rfl (by decide +kernel) ⟨Nat.le_of_ble_eq_true rfl, Nat.le_of_ble_eq_true rfl⟩) (va_recv (q0 := 0) (ci := 3) (q := (R_M, F_M, 7)) hK hP rfl rfl) hP hK hS rfl hl.1 rfl (Nat.le_of_ble_eq_true rfl) d_M_switchThrough_35 (nm_s (fun u35 e35 H locs hP hS => ?_))
  refine lv_aload_n hx hb d_M_switchThrough_38 rfl (lv_at hl 3 rfl) ?_
  refine lv_bipush (v := 14) hx hb d_M_switchThrough_39 (by decide) ?_
  refine lv_aload_n hx hb d_M_switchThrough_41 rfl (lv_at hl 3 rfl) ?_
  refine va_get (D := D) (ci := 3) (v := .int u35.2.2.2.2.1) (C := R_M) (T := F_M) (N := 7) hx hb hts (fun w h => wm (ui_M w h)) hown hK hP 0 rfl rfl 4 (by decide) (hts _ (wm t_115)) (fun _ h9 => h9) rfl d_M_switchThrough_42 ?_
  refine cl_V (C := R_M) (k_M_setRegister l D a hA u35 14 u35.2.2.2.2.1) ⟨hx, hb, hml, hown, hts⟩ (cwV 2 hts (gi_V t_149 t_151 t_2 t_62 t_152) rfl rfl rfl (by decide +kernel) ⟨Nat.le_of_ble_eq_true rfl, Nat.le_of_ble_eq_true rfl⟩) (va_recv (q0 := 0) (ci := 3) (q := (R_M, F_M, 7)) hK hP rfl rfl) hP hK hS rfl hl.1 rfl (Nat.le_of_ble_eq_true rfl) d_M_switchThrough_45 (nm_s (fun u45 e45 H locs hP hS => ?_))
  refine lv_aload_n hx hb d_M_switchThrough_48 rfl (lv_at hl 3 rfl) ?_
  refine lv_bipush (v := 15) hx hb d_M_switchThrough_49 (by decide) ?_
  refine lv_aload_n hx hb d_M_switchThrough_51 rfl (lv_at hl 3 rfl) ?_
  refine va_get (D := D) (ci := 3) (v := .ref a.2.2.2.2.1) (C := R_M) (T := F_M) (N := 7) hx hb hts (fun w h => wm (ui_M w h)) hown hK hP 0 rfl rfl 2 (by decide) (hts _ (wm t_113)) (fun _ h9 => h9) rfl d_M_switchThrough_52 ?_
  refine cl_V (C := R_St) (k_St_bits l D a hA u45) ⟨hx, hb, hml, hown, hts⟩ (cwV 0 hts (gi_V t_161 t_162 t_163 t_65 t_164) rfl rfl rfl (by decide +kernel) ⟨Nat.le_of_ble_eq_true rfl, Nat.le_of_ble_eq_true rfl⟩) (va_recv (q0 := 4) (ci := 2) (q := (R_St, F_St, 1)) hK hP rfl rfl) hP hK hS rfl hl.1 rfl (Nat.le_of_ble_eq_true rfl) d_M_switchThrough_55 (nm_i (fun r55 e55 H locs hP hS => ?_))
  refine cl_V (C := R_M) (k_M_setRegister l D a hA u45 15 r55) ⟨hx, hb, hml, hown, hts⟩ (cwV 2 hts (gi_V t_149 t_151 t_2 t_62 t_152) rfl rfl rfl (by decide +kernel) ⟨Nat.le_of_ble_eq_true rfl, Nat.le_of_ble_eq_true rfl⟩) (va_recv (q0 := 0) (ci := 3) (q := (R_M, F_M, 7)) hK hP rfl rfl) hP hK hS rfl hl.1 rfl (Nat.le_of_ble_eq_true rfl) d_M_switchThrough_58 (nm_s (fun u58 e58 H locs hP hS => ?_))
  refine lv_aload_n hx hb d_M_switchThrough_61 rfl (lv_at hl 3 rfl) ?_
  refine lv_iload hx hb d_M_switchThrough_62 (lv_at hl 0 rfl) ?_
  refine cl_V (C := R_M) (k_M_setCounter l D a hA u58 r21) ⟨hx, hb, hml, hown, hts⟩ (cwV 1 hts (gi_V t_165 t_167 t_4 t_62 t_168) rfl rfl rfl (by decide +kernel) ⟨Nat.le_of_ble_eq_true rfl, Nat.le_of_ble_eq_true rfl⟩) (va_recv (q0 := 0) (ci := 3) (q := (R_M, F_M, 7)) hK hP rfl rfl) hP hK hS rfl hl.1 rfl (Nat.le_of_ble_eq_true rfl) d_M_switchThrough_64 (nm_s (fun u64 e64 H locs hP hS => ?_))
  subst hQ
  exact rt_v hx hb hr hlk (by simp only [C_M_switchThrough, ← e10, ← e21, ← e28, ← e35, ← e45, ← e55, ← e58, ← e64]) hP hS d_M_switchThrough_67
set_option maxHeartbeats 4000000 in
set_option maxRecDepth 100000 in
theorem k_St_setMask (l : Launch) (D : va_G) (a : CAd) (hA : ApC a) (u0 : CSt) (x1 : Int32) : MC kl (cw a) (FA a) (tyC a) l D y_St_setMask b_St_setMask 2 none rm_St_setMask [.ref a.2.2.2.2.1, .int x1] u0 none (C_St_setMask u0 x1) := by
  refine MC.mk (by decide) (Nat.le_of_ble_eq_true rfl) ?_
  intro p e s m below meth c ls Q args H locs hx hb hr hml hown hts hlk hl hP hK hS hQ
  have hown : s.vm.findClass R_St = some m.cls := hown
  have hl : lv_has ls 2 [(0, .ref a.2.2.2.2.1), (1, .int x1)] := hl
  refine lv_aload_n hx hb d_St_setMask_0 rfl (lv_at hl 0 rfl) ?_
  refine lv_aload_n hx hb d_St_setMask_1 rfl (lv_at hl 0 rfl) ?_
  refine va_get (D := D) (ci := 2) (v := .int u0.2.2.1) (C := R_St) (T := F_St) (N := 1) hx hb hts (fun w h => wm (ui_St w h)) hown hK hP 4 rfl rfl 0 (by decide) (hts _ (wm t_107)) (fun _ h9 => h9) rfl d_St_setMask_2 ?_
  refine lv_bipush (v := (-16)) hx hb d_St_setMask_5 (by decide) ?_
  refine lv_iand hx hb d_St_setMask_7 ?_
  refine lv_iload_n hx hb d_St_setMask_8 rfl (lv_at hl 1 rfl) ?_
  refine lv_bipush (v := 15) hx hb d_St_setMask_9 (by decide) ?_
  refine lv_iand hx hb d_St_setMask_11 ?_
  refine lv_ior hx hb d_St_setMask_12 ?_
  refine va_put (D := D) (ci := 2) (v := .int ((u0.2.2.1 &&& (-16)) ||| (x1 &&& 15))) (ty := .int) (C := R_St) (T := F_St) (N := 1) hx hb hts (fun w h => wm (ui_St w h)) ft_St ft_St_ok fn_St hown hK hP (dd_C hA _) hS 4 rfl rfl 0 (by decide) (hts _ (wm t_107)) (fun _ h9 => h9) rfl (by decide +kernel) rfl rfl (Nat.le_of_ble_eq_true rfl) d_St_setMask_13 (fun H locs hP _ hS => ?_)
  have hP : va_P D kl (cw a (u0.1, u0.2.1, ((u0.2.2.1 &&& (-16)) ||| (x1 &&& 15)), u0.2.2.2.1, u0.2.2.2.2.1, u0.2.2.2.2.2.1, u0.2.2.2.2.2.2)) H := hP
  subst hQ
  exact rt_v hx hb hr hlk (by simp only [C_St_setMask]) hP hS d_St_setMask_16
set_option maxHeartbeats 4000000 in
set_option maxRecDepth 100000 in
theorem k_M_reset (l : Launch) (D : va_G) (a : CAd) (hA : ApC a) (u0 : CSt) : MC kl (cw a) (FA a) (tyC a) l D y_M_reset b_M_reset 1 none rm_M_reset [.ref a.1] u0 none (C_M_reset u0) := by
  refine MC.mk (by decide) (Nat.le_of_ble_eq_true rfl) ?_
  intro p e s m below meth c ls Q args H locs hx hb hr hml hown hts hlk hl hP hK hS hQ
  have hown : s.vm.findClass R_M = some m.cls := hown
  have hl : lv_has ls 1 [(0, .ref a.1)] := hl
  refine lv_aload_n hx hb d_M_reset_0 rfl (lv_at hl 0 rfl) ?_
  refine lv_iconst (v := 0) hx hb d_M_reset_1 (by decide) ?_
  refine cl_V (C := R_M) (k_M_switchThrough l D a hA u0 0) ⟨hx, hb, hml, hown, hts⟩ (cwV 1 hts (gi_V t_137 t_139 t_0 t_62 t_140) rfl rfl rfl (by decide +kernel) ⟨Nat.le_of_ble_eq_true rfl, Nat.le_of_ble_eq_true rfl⟩) (va_recv (q0 := 0) (ci := 3) (q := (R_M, F_M, 7)) hK hP rfl rfl) hP hK hS rfl hl.1 rfl (Nat.le_of_ble_eq_true rfl) d_M_reset_2 (nm_s (fun u2 e2 H locs hP hS => ?_))
  refine lv_aload_n hx hb d_M_reset_5 rfl (lv_at hl 0 rfl) ?_
  refine va_get (D := D) (ci := 3) (v := .ref a.2.2.2.2.1) (C := R_M) (T := F_M) (N := 7) hx hb hts (fun w h => wm (ui_M w h)) hown hK hP 0 rfl rfl 2 (by decide) (hts _ (wm t_113)) (fun _ h9 => h9) rfl d_M_reset_6 ?_
  refine lv_iconst (v := 0) hx hb d_M_reset_9 (by decide) ?_
  refine cl_V (C := R_St) (k_St_setMask l D a hA u2 0) ⟨hx, hb, hml, hown, hts⟩ (cwV 1 hts (gi_V t_169 t_170 t_171 t_65 t_172) rfl rfl rfl (by decide +kernel) ⟨Nat.le_of_ble_eq_true rfl, Nat.le_of_ble_eq_true rfl⟩) (va_recv (q0 := 4) (ci := 2) (q := (R_St, F_St, 1)) hK hP rfl rfl) hP hK hS rfl hl.1 rfl (Nat.le_of_ble_eq_true rfl) d_M_reset_10 (nm_s (fun u10 e10 H locs hP hS => ?_))
  refine lv_aload_n hx hb d_M_reset_13 rfl (lv_at hl 0 rfl) ?_
  refine lv_iconst (v := 0) hx hb d_M_reset_14 (by decide) ?_
  refine va_put (D := D) (ci := 3) (v := .int 0) (ty := .boolean) (C := R_M) (T := F_M) (N := 7) hx hb hts (fun w h => wm (ui_M w h)) ft_M ft_M_ok fn_M hown hK hP (dd_C hA _) hS 0 rfl rfl 6 (by decide) (hts _ (wm t_117)) (fun _ h9 => h9) rfl (by decide +kernel) rfl rfl (Nat.le_of_ble_eq_true rfl) d_M_reset_15 (fun H locs hP _ hS => ?_)
  have hP : va_P D kl (cw a (u10.1, u10.2.1, u10.2.2.1, u10.2.2.2.1, u10.2.2.2.2.1, u10.2.2.2.2.2.1, 0)) H := hP
  subst hQ
  exact rt_v hx hb hr hlk (by simp only [C_M_reset, ← e2, ← e10]) hP hS d_M_reset_18
set_option maxHeartbeats 4000000 in
set_option maxRecDepth 100000 in
theorem k_M_isWordAddress (l : Launch) (D : va_G) (a : CAd) (hA : ApC a) (u0 : CSt) (x0 : Int32) : MC kl (cw a) (FA a) (tyC a) l D y_M_isWordAddress b_M_isWordAddress 1 (some .boolean) rm_M_isWordAddress [.int x0] u0 (some (.int (C_M_isWordAddress x0))) u0 := by
  refine MC.mk (by decide) (Nat.le_of_ble_eq_true rfl) ?_
  intro p e s m below meth c ls Q args H locs hx hb hr hml hown hts hlk hl hP hK hS hQ
  have hown : s.vm.findClass R_M = some m.cls := hown
  have hl : lv_has ls 1 [(0, .int x0)] := hl
  refine lv_iload_n hx hb d_M_isWordAddress_0 rfl (lv_at hl 0 rfl) ?_
  refine lv_sipush (v := 1022) hx hb d_M_isWordAddress_1 (by decide) ?_
  refine lv_iand hx hb d_M_isWordAddress_4 ?_
  refine lv_iload_n hx hb d_M_isWordAddress_5 rfl (lv_at hl 0 rfl) ?_
  refine lv_icmp_ne (tgt := 13) hx hb d_M_isWordAddress_6 (by decide) (fun h6 => ?_) (fun h6 => ?_)
  · refine lv_iconst (v := 0) hx hb d_M_isWordAddress_13 (by decide) ?_
    subst hQ
    exact rt_z hx hb hr hlk rfl (by simp only [C_M_isWordAddress, if_neg h6]) rfl hP hS d_M_isWordAddress_14
  refine lv_iconst (v := 1) hx hb d_M_isWordAddress_9 (by decide) ?_
  refine lv_goto (tgt := 14) hx hb d_M_isWordAddress_10 (by decide) ?_
  subst hQ
  exact rt_z hx hb hr hlk rfl (by simp only [C_M_isWordAddress, if_pos h6]) rfl hP hS d_M_isWordAddress_14
set_option maxHeartbeats 4000000 in
set_option maxRecDepth 100000 in
theorem k_M_poke (l : Launch) (D : va_G) (a : CAd) (hA : ApC a) (u0 : CSt) (x1 : Int32) (x2 : Int32) (hg : ¬ C_M_isWordAddress x1 = 0) : MC kl (cw a) (FA a) (tyC a) l D y_M_poke b_M_poke 3 none rm_M_poke [.ref a.1, .int x1, .int x2] u0 none (C_M_poke u0 x1 x2) := by
  refine MC.mk (by decide) (Nat.le_of_ble_eq_true rfl) ?_
  intro p e s m below meth c ls Q args H locs hx hb hr hml hown hts hlk hl hP hK hS hQ
  have hown : s.vm.findClass R_M = some m.cls := hown
  have hl : lv_has ls 3 [(0, .ref a.1), (1, .int x1), (2, .int x2)] := hl
  refine lv_iload_n hx hb d_M_poke_0 rfl (lv_at hl 1 rfl) ?_
  refine cl_S (k_M_isWordAddress l D a hA u0 x1) ⟨hx, hb, hml, hown, hts⟩ (va_cwS 1 hts (gi_S t_372 t_373 t_62 t_374) rfl rfl rfl (by decide +kernel) ⟨Nat.le_of_ble_eq_true rfl, Nat.le_of_ble_eq_true rfl⟩) hP hK hS rfl hl.1 rfl (Nat.le_of_ble_eq_true rfl) d_M_poke_1 (nm_i (fun r1 e1 H locs hP hS => ?_))
  refine lv_if_ne (tgt := 17) hx hb d_M_poke_4 (by decide) (fun h4 => ?_) (fun h4 => ?_)
  · refine lv_aload_n hx hb d_M_poke_17 rfl (lv_at hl 0 rfl) ?_
    refine va_get (D := D) (ci := 3) (v := .ref a.2.1) (C := R_M) (T := F_M) (N := 7) hx hb hts (fun w h => wm (ui_M w h)) hown hK hP 0 rfl rfl 0 (by decide) (hts _ (wm t_111)) (fun _ h9 => h9) rfl d_M_poke_18 ?_
    refine lv_iload_n hx hb d_M_poke_21 rfl (lv_at hl 1 rfl) ?_
    refine lv_iload_n hx hb d_M_poke_22 rfl (lv_at hl 2 rfl) ?_
    refine cl_V (C := R_Me) (k_Me_setWord l D a hA u0 x1 x2) ⟨hx, hb, hml, hown, hts⟩ (cwV 2 hts (gi_V t_157 t_158 t_159 t_63 t_160) rfl rfl rfl (by decide +kernel) ⟨Nat.le_of_ble_eq_true rfl, Nat.le_of_ble_eq_true rfl⟩) (va_recv (q0 := 1) (ci := 1) (q := (R_Me, F_Me, 1)) hK hP rfl rfl) hP hK hS rfl hl.1 rfl (Nat.le_of_ble_eq_true rfl) d_M_poke_23 (nm_s (fun u23 e23 H locs hP hS => ?_))
    subst hQ
    exact rt_v hx hb hr hlk (by simp only [C_M_poke, ← e1, if_neg h4, ← e23]) hP hS d_M_poke_26
  exact (hg (by rw [← e1]; exact h4)).elim
set_option maxHeartbeats 4000000 in
set_option maxRecDepth 100000 in
theorem k_M_peek (l : Launch) (D : va_G) (a : CAd) (hA : ApC a) (u0 : CSt) (x1 : Int32) (hg : ¬ C_M_isWordAddress x1 = 0) : MC kl (cw a) (FA a) (tyC a) l D y_M_peek b_M_peek 2 (some .char) rm_M_peek [.ref a.1, .int x1] u0 (some (.int (C_M_peek u0 x1))) u0 := by
  refine MC.mk (by decide) (Nat.le_of_ble_eq_true rfl) ?_
  intro p e s m below meth c ls Q args H locs hx hb hr hml hown hts hlk hl hP hK hS hQ
  have hown : s.vm.findClass R_M = some m.cls := hown
  have hl : lv_has ls 2 [(0, .ref a.1), (1, .int x1)] := hl
  refine lv_iload_n hx hb d_M_peek_0 rfl (lv_at hl 1 rfl) ?_
  refine cl_S (k_M_isWordAddress l D a hA u0 x1) ⟨hx, hb, hml, hown, hts⟩ (va_cwS 1 hts (gi_S t_372 t_373 t_62 t_374) rfl rfl rfl (by decide +kernel) ⟨Nat.le_of_ble_eq_true rfl, Nat.le_of_ble_eq_true rfl⟩) hP hK hS rfl hl.1 rfl (Nat.le_of_ble_eq_true rfl) d_M_peek_1 (nm_i (fun r1 e1 H locs hP hS => ?_))
  refine lv_if_ne (tgt := 17) hx hb d_M_peek_4 (by decide) (fun h4 => ?_) (fun h4 => ?_)
  · refine lv_aload_n hx hb d_M_peek_17 rfl (lv_at hl 0 rfl) ?_
    refine va_get (D := D) (ci := 3) (v := .ref a.2.1) (C := R_M) (T := F_M) (N := 7) hx hb hts (fun w h => wm (ui_M w h)) hown hK hP 0 rfl rfl 0 (by decide) (hts _ (wm t_111)) (fun _ h9 => h9) rfl d_M_peek_18 ?_
    refine lv_iload_n hx hb d_M_peek_21 rfl (lv_at hl 1 rfl) ?_
    refine cl_V (C := R_Me) (k_Me_word l D a hA u0 x1) ⟨hx, hb, hml, hown, hts⟩ (cwV 1 hts (gi_V t_141 t_142 t_143 t_63 t_144) rfl rfl rfl (by decide +kernel) ⟨Nat.le_of_ble_eq_true rfl, Nat.le_of_ble_eq_true rfl⟩) (va_recv (q0 := 1) (ci := 1) (q := (R_Me, F_Me, 1)) hK hP rfl rfl) hP hK hS rfl hl.1 rfl (Nat.le_of_ble_eq_true rfl) d_M_peek_22 (nm_i (fun r22 e22 H locs hP hS => ?_))
    refine lv_i2c hx hb d_M_peek_25 rfl ?_
    subst hQ
    exact rt_z hx hb hr hlk (pk_nc _) (by simp only [C_M_peek, ← e1, if_neg h4, ← e22]) rfl hP hS d_M_peek_26
  exact (hg (by rw [← e1]; exact h4)).elim
set_option maxHeartbeats 4000000 in
set_option maxRecDepth 100000 in
theorem k_St_mask (l : Launch) (D : va_G) (a : CAd) (hA : ApC a) (u0 : CSt) : MC kl (cw a) (FA a) (tyC a) l D y_St_mask b_St_mask 1 (some .int) rm_St_mask [.ref a.2.2.2.2.1] u0 (some (.int (C_St_mask u0))) u0 := by
  refine MC.mk (by decide) (Nat.le_of_ble_eq_true rfl) ?_
  intro p e s m below meth c ls Q args H locs hx hb hr hml hown hts hlk hl hP hK hS hQ
  have hown : s.vm.findClass R_St = some m.cls := hown
  have hl : lv_has ls 1 [(0, .ref a.2.2.2.2.1)] := hl
  refine lv_aload_n hx hb d_St_mask_0 rfl (lv_at hl 0 rfl) ?_
  refine va_get (D := D) (ci := 2) (v := .int u0.2.2.1) (C := R_St) (T := F_St) (N := 1) hx hb hts (fun w h => wm (ui_St w h)) hown hK hP 4 rfl rfl 0 (by decide) (hts _ (wm t_107)) (fun _ h9 => h9) rfl d_St_mask_1 ?_
  refine lv_bipush (v := 15) hx hb d_St_mask_4 (by decide) ?_
  refine lv_iand hx hb d_St_mask_6 ?_
  subst hQ
  exact rt_i hx hb hr hlk (by simp only [C_St_mask]) rfl hP hS d_St_mask_7
set_option maxHeartbeats 4000000 in
set_option maxRecDepth 100000 in
theorem k_M_interrupt (l : Launch) (D : va_G) (a : CAd) (hA : ApC a) (u0 : CSt) : MC kl (cw a) (FA a) (tyC a) l D y_M_interrupt b_M_interrupt 1 none rm_M_interrupt [.ref a.1] u0 none (C_M_interrupt u0) := by
  refine MC.mk (by decide) (Nat.le_of_ble_eq_true rfl) ?_
  intro p e s m below meth c ls Q args H locs hx hb hr hml hown hts hlk hl hP hK hS hQ
  have hown : s.vm.findClass R_M = some m.cls := hown
  have hl : lv_has ls 1 [(0, .ref a.1)] := hl
  refine lv_aload_n hx hb d_M_interrupt_0 rfl (lv_at hl 0 rfl) ?_
  refine lv_iconst (v := 4) hx hb d_M_interrupt_1 (by decide) ?_
  refine lv_aload_n hx hb d_M_interrupt_2 rfl (lv_at hl 0 rfl) ?_
  refine va_get (D := D) (ci := 3) (v := .int u0.2.2.2.2.2.1) (C := R_M) (T := F_M) (N := 7) hx hb hts (fun w h => wm (ui_M w h)) hown hK hP 0 rfl rfl 5 (by decide) (hts _ (wm t_116)) (fun _ h9 => h9) rfl d_M_interrupt_3 ?_
  refine lv_imul hx hb d_M_interrupt_6 ?_
  refine cl_V (C := R_M) (k_M_switchThrough l D a hA u0 (4 * u0.2.2.2.2.2.1)) ⟨hx, hb, hml, hown, hts⟩ (cwV 1 hts (gi_V t_137 t_139 t_0 t_62 t_140) rfl rfl rfl (by decide +kernel) ⟨Nat.le_of_ble_eq_true rfl, Nat.le_of_ble_eq_true rfl⟩) (va_recv (q0 := 0) (ci := 3) (q := (R_M, F_M, 7)) hK hP rfl rfl) hP hK hS rfl hl.1 rfl (Nat.le_of_ble_eq_true rfl) d_M_interrupt_7 (nm_s (fun u7 e7 H locs hP hS => ?_))
  refine lv_aload_n hx hb d_M_interrupt_10 rfl (lv_at hl 0 rfl) ?_
  refine va_get (D := D) (ci := 3) (v := .ref a.2.2.2.2.1) (C := R_M) (T := F_M) (N := 7) hx hb hts (fun w h => wm (ui_M w h)) hown hK hP 0 rfl rfl 2 (by decide) (hts _ (wm t_113)) (fun _ h9 => h9) rfl d_M_interrupt_11 ?_
  refine lv_aload_n hx hb d_M_interrupt_14 rfl (lv_at hl 0 rfl) ?_
  refine va_get (D := D) (ci := 3) (v := .int u7.2.2.2.2.2.1) (C := R_M) (T := F_M) (N := 7) hx hb hts (fun w h => wm (ui_M w h)) hown hK hP 0 rfl rfl 5 (by decide) (hts _ (wm t_116)) (fun _ h9 => h9) rfl d_M_interrupt_15 ?_
  have hJ31 : ∀ (z31 : Int32), z31 = J_M_interrupt_31 u7 → W p l e rm_M_interrupt s m args below meth c H locs 0 0 Q (F0 m 31 ls [.int z31, .ref a.2.2.2.2.1]) := by
    intro z31 jz31
    refine cl_V (C := R_St) (k_St_setMask l D a hA u7 z31) ⟨hx, hb, hml, hown, hts⟩ (cwV 1 hts (gi_V t_169 t_170 t_171 t_65 t_172) rfl rfl rfl (by decide +kernel) ⟨Nat.le_of_ble_eq_true rfl, Nat.le_of_ble_eq_true rfl⟩) (va_recv (q0 := 4) (ci := 2) (q := (R_St, F_St, 1)) hK hP rfl rfl) hP hK hS rfl hl.1 rfl (Nat.le_of_ble_eq_true rfl) d_M_interrupt_31 (nm_s (fun u31 e31 H locs hP hS => ?_))
    refine lv_aload_n hx hb d_M_interrupt_34 rfl (lv_at hl 0 rfl) ?_
    refine lv_iconst (v := 0) hx hb d_M_interrupt_35 (by decide) ?_
    refine va_put (D := D) (ci := 3) (v := .int 0) (ty := .boolean) (C := R_M) (T := F_M) (N := 7) hx hb hts (fun w h => wm (ui_M w h)) ft_M ft_M_ok fn_M hown hK hP (dd_C hA _) hS 0 rfl rfl 6 (by decide) (hts _ (wm t_117)) (fun _ h9 => h9) rfl (by decide +kernel) rfl rfl (Nat.le_of_ble_eq_true rfl) d_M_interrupt_36 (fun H locs hP _ hS => ?_)
    have hP : va_P D kl (cw a (u31.1, u31.2.1, u31.2.2.1, u31.2.2.2.1, u31.2.2.2.2.1, u31.2.2.2.2.2.1, 0)) H := hP
    subst hQ
    exact rt_v hx hb hr hlk (by simp only [C_M_interrupt, ← e7, ← jz31, ← e31]) hP hS d_M_interrupt_39
  refine lv_if_ne (tgt := 25) hx hb d_M_interrupt_18 (by decide) (fun h18 => ?_) (fun h18 => ?_)
  · refine lv_aload_n hx hb d_M_interrupt_25 rfl (lv_at hl 0 rfl) ?_
    refine va_get (D := D) (ci := 3) (v := .int u7.2.2.2.2.2.1) (C := R_M) (T := F_M) (N := 7) hx hb hts (fun w h => wm (ui_M w h)) hown hK hP 0 rfl rfl 5 (by decide) (hts _ (wm t_116)) (fun _ h9 => h9) rfl d_M_interrupt_26 ?_
    refine lv_iconst (v := 1) hx hb d_M_interrupt_29 (by decide) ?_
    refine lv_isub hx hb d_M_interrupt_30 ?_
    exact hJ31 (u7.2.2.2.2.2.1 - 1) (by simp only [J_M_interrupt_31, if_neg h18])
  refine lv_iconst (v := 0) hx hb d_M_interrupt_21 (by decide) ?_
  refine lv_goto (tgt := 31) hx hb d_M_interrupt_22 (by decide) ?_
  exact hJ31 0 (by simp only [J_M_interrupt_31, if_pos h18])
set_option maxHeartbeats 4000000 in
set_option maxRecDepth 100000 in
theorem k_M_fetch (l : Launch) (D : va_G) (a : CAd) (hA : ApC a) (u0 : CSt) : MC kl (cw a) (FA a) (tyC a) l D y_M_fetch b_M_fetch 2 (some .int) rm_M_fetch [.ref a.1] u0 (some (.int (C_M_fetch u0).1)) (C_M_fetch u0).2 := by
  refine MC.mk (by decide) (Nat.le_of_ble_eq_true rfl) ?_
  intro p e s m below meth c ls Q args H locs hx hb hr hml hown hts hlk hl hP hK hS hQ
  have hown : s.vm.findClass R_M = some m.cls := hown
  have hl : lv_has ls 2 [(0, .ref a.1)] := hl
  refine lv_aload_n hx hb d_M_fetch_0 rfl (lv_at hl 0 rfl) ?_
  refine va_get (D := D) (ci := 3) (v := .ref a.2.1) (C := R_M) (T := F_M) (N := 7) hx hb hts (fun w h => wm (ui_M w h)) hown hK hP 0 rfl rfl 0 (by decide) (hts _ (wm t_111)) (fun _ h9 => h9) rfl d_M_fetch_1 ?_
  refine lv_aload_n hx hb d_M_fetch_4 rfl (lv_at hl 0 rfl) ?_
  refine va_get (D := D) (ci := 3) (v := .int u0.2.2.2.2.1) (C := R_M) (T := F_M) (N := 7) hx hb hts (fun w h => wm (ui_M w h)) hown hK hP 0 rfl rfl 4 (by decide) (hts _ (wm t_115)) (fun _ h9 => h9) rfl d_M_fetch_5 ?_
  refine cl_V (C := R_Me) (k_Me_word l D a hA u0 u0.2.2.2.2.1) ⟨hx, hb, hml, hown, hts⟩ (cwV 1 hts (gi_V t_141 t_142 t_143 t_63 t_144) rfl rfl rfl (by decide +kernel) ⟨Nat.le_of_ble_eq_true rfl, Nat.le_of_ble_eq_true rfl⟩) (va_recv (q0 := 1) (ci := 1) (q := (R_Me, F_Me, 1)) hK hP rfl rfl) hP hK hS rfl hl.1 rfl (Nat.le_of_ble_eq_true rfl) d_M_fetch_8 (nm_i (fun r8 e8 H locs hP hS => ?_))
  refine lv_istore_n hx hb d_M_fetch_11 rfl hl (by decide) rfl (fun ls hl => ?_)
  have hl : lv_has ls 2 [(1, .int r8), (0, .ref a.1)] := hl
  refine lv_aload_n hx hb d_M_fetch_12 rfl (lv_at hl 1 rfl) ?_
  refine lv_aload_n hx hb d_M_fetch_13 rfl (lv_at hl 1 rfl) ?_
  refine va_get (D := D) (ci := 3) (v := .int u0.2.2.2.2.1) (C := R_M) (T := F_M) (N := 7) hx hb hts (fun w h => wm (ui_M w h)) hown hK hP 0 rfl rfl 4 (by decide) (hts _ (wm t_115)) (fun _ h9 => h9) rfl d_M_fetch_14 ?_
  refine lv_iconst (v := 2) hx hb d_M_fetch_17 (by decide) ?_
  refine lv_iadd hx hb d_M_fetch_18 ?_
  refine cl_V (C := R_M) (k_M_setCounter l D a hA u0 (u0.2.2.2.2.1 + 2)) ⟨hx, hb, hml, hown, hts⟩ (cwV 1 hts (gi_V t_165 t_167 t_4 t_62 t_168) rfl rfl rfl (by decide +kernel) ⟨Nat.le_of_ble_eq_true rfl, Nat.le_of_ble_eq_true rfl⟩) (va_recv (q0 := 0) (ci := 3) (q := (R_M, F_M, 7)) hK hP rfl rfl) hP hK hS rfl hl.1 rfl (Nat.le_of_ble_eq_true rfl) d_M_fetch_19 (nm_s (fun u19 e19 H locs hP hS => ?_))
  refine lv_iload_n hx hb d_M_fetch_22 rfl (lv_at hl 0 rfl) ?_
  have hc : (r8, u19) = C_M_fetch u0 := by simp only [C_M_fetch, ← e8, ← e19]
  subst hQ
  exact rt_i hx hb hr hlk (congrArg Prod.fst hc) (congrArg Prod.snd hc) hP hS d_M_fetch_23
set_option maxHeartbeats 4000000 in
set_option maxRecDepth 100000 in
theorem k_M_register (l : Launch) (D : va_G) (a : CAd) (hA : ApC a) (u0 : CSt) (x1 : Int32) : MC kl (cw a) (FA a) (tyC a) l D y_M_register b_M_register 2 (some .int) rm_M_register [.ref a.1, .int x1] u0 (some (.int (C_M_register u0 x1))) u0 := by
  refine MC.mk (by decide) (Nat.le_of_ble_eq_true rfl) ?_
  intro p e s m below meth c ls Q args H locs hx hb hr hml hown hts hlk hl hP hK hS hQ
  have hown : s.vm.findClass R_M = some m.cls := hown
  have hl : lv_has ls 2 [(0, .ref a.1), (1, .int x1)] := hl
  refine lv_aload_n hx hb d_M_register_0 rfl (lv_at hl 0 rfl) ?_
  refine va_get (D := D) (ci := 3) (v := .ref a.2.1) (C := R_M) (T := F_M) (N := 7) hx hb hts (fun w h => wm (ui_M w h)) hown hK hP 0 rfl rfl 0 (by decide) (hts _ (wm t_111)) (fun _ h9 => h9) rfl d_M_register_1 ?_
  refine lv_aload_n hx hb d_M_register_4 rfl (lv_at hl 0 rfl) ?_
  refine lv_iload_n hx hb d_M_register_5 rfl (lv_at hl 1 rfl) ?_
  refine cl_V (C := R_M) (k_M_registerAddress l D a hA u0 x1) ⟨hx, hb, hml, hown, hts⟩ (cwV 1 hts (gi_V t_153 t_155 t_3 t_62 t_156) rfl rfl rfl (by decide +kernel) ⟨Nat.le_of_ble_eq_true rfl, Nat.le_of_ble_eq_true rfl⟩) (va_recv (q0 := 0) (ci := 3) (q := (R_M, F_M, 7)) hK hP rfl rfl) hP hK hS rfl hl.1 rfl (Nat.le_of_ble_eq_true rfl) d_M_register_6 (nm_i (fun r6 e6 H locs hP hS => ?_))
  refine cl_V (C := R_Me) (k_Me_word l D a hA u0 r6) ⟨hx, hb, hml, hown, hts⟩ (cwV 1 hts (gi_V t_141 t_142 t_143 t_63 t_144) rfl rfl rfl (by decide +kernel) ⟨Nat.le_of_ble_eq_true rfl, Nat.le_of_ble_eq_true rfl⟩) (va_recv (q0 := 1) (ci := 1) (q := (R_Me, F_Me, 1)) hK hP rfl rfl) hP hK hS rfl hl.1 rfl (Nat.le_of_ble_eq_true rfl) d_M_register_9 (nm_i (fun r9 e9 H locs hP hS => ?_))
  subst hQ
  exact rt_i hx hb hr hlk (by simp only [C_M_register, ← e6, ← e9]) rfl hP hS d_M_register_12
set_option maxHeartbeats 4000000 in
set_option maxRecDepth 100000 in
theorem k_M_isExecute (l : Launch) (D : va_G) (a : CAd) (hA : ApC a) (u0 : CSt) (x0 : Int32) : MC kl (cw a) (FA a) (tyC a) l D y_M_isExecute b_M_isExecute 1 (some .boolean) rm_M_isExecute [.int x0] u0 (some (.int (C_M_isExecute x0))) u0 := by
  refine MC.mk (by decide) (Nat.le_of_ble_eq_true rfl) ?_
  intro p e s m below meth c ls Q args H locs hx hb hr hml hown hts hlk hl hP hK hS hQ
  have hown : s.vm.findClass R_M = some m.cls := hown
  have hl : lv_has ls 1 [(0, .int x0)] := hl
  refine lv_iload_n hx hb d_M_isExecute_0 rfl (lv_at hl 0 rfl) ?_
  refine lv_ldc (v := 65472) hx hb hown (hts _ (wm t_196)) d_M_isExecute_1 ?_
  refine lv_iand hx hb d_M_isExecute_3 ?_
  refine lv_sipush (v := 1152) hx hb d_M_isExecute_4 (by decide) ?_
  refine lv_icmp_ne (tgt := 14) hx hb d_M_isExecute_7 (by decide) (fun h7 => ?_) (fun h7 => ?_)
  · refine lv_iconst (v := 0) hx hb d_M_isExecute_14 (by decide) ?_
    subst hQ
    exact rt_z hx hb hr hlk rfl (by simp only [C_M_isExecute, if_neg h7]) rfl hP hS d_M_isExecute_15
  refine lv_iconst (v := 1) hx hb d_M_isExecute_10 (by decide) ?_
  refine lv_goto (tgt := 15) hx hb d_M_isExecute_11 (by decide) ?_
  subst hQ
  exact rt_z hx hb hr hlk rfl (by simp only [C_M_isExecute, if_pos h7]) rfl hP hS d_M_isExecute_15
set_option maxHeartbeats 4000000 in
set_option maxRecDepth 100000 in
theorem k_M_operandAddress (l : Launch) (D : va_G) (a : CAd) (hA : ApC a) (u0 : CSt) (x1 : Int32) (x2 : Int32) : MC kl (cw a) (FA a) (tyC a) l D y_M_operandAddress b_M_operandAddress 5 (some .int) rm_M_operandAddress [.ref a.1, .int x1, .int x2] u0 (some (.int (C_M_operandAddress u0 x1 x2).1)) (C_M_operandAddress u0 x1 x2).2 := by
  refine MC.mk (by decide) (Nat.le_of_ble_eq_true rfl) ?_
  intro p e s m below meth c ls Q args H locs hx hb hr hml hown hts hlk hl hP hK hS hQ
  have hown : s.vm.findClass R_M = some m.cls := hown
  have hl : lv_has ls 5 [(0, .ref a.1), (1, .int x1), (2, .int x2)] := hl
  refine lv_iload_n hx hb d_M_operandAddress_0 rfl (lv_at hl 1 rfl) ?_
  refine lv_bipush (v := 15) hx hb d_M_operandAddress_1 (by decide) ?_
  refine lv_iand hx hb d_M_operandAddress_3 ?_
  refine lv_istore_n hx hb d_M_operandAddress_4 rfl hl (by decide) rfl (fun ls hl => ?_)
  have hl : lv_has ls 5 [(3, .int (x1 &&& 15)), (0, .ref a.1), (1, .int x1), (2, .int x2)] := hl
  refine lv_iload_n hx hb d_M_operandAddress_5 rfl (lv_at hl 2 rfl) ?_
  refine lv_iconst (v := 4) hx hb d_M_operandAddress_6 (by decide) ?_
  refine lv_ishr hx hb d_M_operandAddress_7 ?_
  refine lv_iconst (v := 3) hx hb d_M_operandAddress_8 (by decide) ?_
  refine lv_iand hx hb d_M_operandAddress_9 ?_
  by_cases h10_0 : ((x1 >>> ((4 : Int32) &&& 31)) &&& 3) = 0
  · refine lv_tableIn (off := 26) (tgt := 36) hx hb d_M_operandAddress_10 (by rw [h10_0]; decide) (by rw [h10_0]; decide) (by rw [h10_0]; decide +kernel) (by decide) ?_
    refine lv_aload_n hx hb d_M_operandAddress_36 rfl (lv_at hl 1 rfl) ?_
    refine lv_iload_n hx hb d_M_operandAddress_37 rfl (lv_at hl 0 rfl) ?_
    refine cl_V (C := R_M) (k_M_registerAddress l D a hA u0 (x1 &&& 15)) ⟨hx, hb, hml, hown, hts⟩ (cwV 1 hts (gi_V t_153 t_155 t_3 t_62 t_156) rfl rfl rfl (by decide +kernel) ⟨Nat.le_of_ble_eq_true rfl, Nat.le_of_ble_eq_true rfl⟩) (va_recv (q0 := 0) (ci := 3) (q := (R_M, F_M, 7)) hK hP rfl rfl) hP hK hS rfl hl.1 rfl (Nat.le_of_ble_eq_true rfl) d_M_operandAddress_38 (nm_i (fun r38 e38 H locs hP hS => ?_))
    refine lv_istore hx hb d_M_operandAddress_41 hl (by decide) rfl (fun ls hl => ?_)
    have hl : lv_has ls 5 [(4, .int r38), (3, .int (x1 &&& 15)), (0, .ref a.1), (1, .int x1), (2, .int x2)] := hl
    refine lv_goto (tgt := 95) hx hb d_M_operandAddress_43 (by decide) ?_
    refine lv_iload hx hb d_M_operandAddress_95 (lv_at hl 0 rfl) ?_
    refine lv_sipush (v := 1023) hx hb d_M_operandAddress_97 (by decide) ?_
    refine lv_iand hx hb d_M_operandAddress_100 ?_
    have hc : ((r38 &&& 1023), u0) = C_M_operandAddress u0 x1 x2 := by simp only [C_M_operandAddress, if_pos h10_0, ← e38]
    subst hQ
    exact rt_i hx hb hr hlk (congrArg Prod.fst hc) (congrArg Prod.snd hc) hP hS d_M_operandAddress_101
  by_cases h10_1 : ((x1 >>> ((4 : Int32) &&& 31)) &&& 3) = 1
  · refine lv_tableIn (off := 36) (tgt := 46) hx hb d_M_operandAddress_10 (by rw [h10_1]; decide) (by rw [h10_1]; decide) (by rw [h10_1]; decide +kernel) (by decide) ?_
    refine lv_aload_n hx hb d_M_operandAddress_46 rfl (lv_at hl 1 rfl) ?_
    refine lv_iload_n hx hb d_M_operandAddress_47 rfl (lv_at hl 0 rfl) ?_
    refine cl_V (C := R_M) (k_M_register l D a hA u0 (x1 &&& 15)) ⟨hx, hb, hml, hown, hts⟩ (cwV 1 hts (gi_V t_189 t_191 t_7 t_62 t_192) rfl rfl rfl (by decide +kernel) ⟨Nat.le_of_ble_eq_true rfl, Nat.le_of_ble_eq_true rfl⟩) (va_recv (q0 := 0) (ci := 3) (q := (R_M, F_M, 7)) hK hP rfl rfl) hP hK hS rfl hl.1 rfl (Nat.le_of_ble_eq_true rfl) d_M_operandAddress_48 (nm_i (fun r48 e48 H locs hP hS => ?_))
    refine lv_istore hx hb d_M_operandAddress_51 hl (by decide) rfl (fun ls hl => ?_)
    have hl : lv_has ls 5 [(4, .int r48), (3, .int (x1 &&& 15)), (0, .ref a.1), (1, .int x1), (2, .int x2)] := hl
    refine lv_goto (tgt := 95) hx hb d_M_operandAddress_53 (by decide) ?_
    refine lv_iload hx hb d_M_operandAddress_95 (lv_at hl 0 rfl) ?_
    refine lv_sipush (v := 1023) hx hb d_M_operandAddress_97 (by decide) ?_
    refine lv_iand hx hb d_M_operandAddress_100 ?_
    have hc : ((r48 &&& 1023), u0) = C_M_operandAddress u0 x1 x2 := by simp only [C_M_operandAddress, if_neg h10_0, if_pos h10_1, ← e48]
    subst hQ
    exact rt_i hx hb hr hlk (congrArg Prod.fst hc) (congrArg Prod.snd hc) hP hS d_M_operandAddress_101
  by_cases h10_2 : ((x1 >>> ((4 : Int32) &&& 31)) &&& 3) = 2
  · refine lv_tableIn (off := 46) (tgt := 56) hx hb d_M_operandAddress_10 (by rw [h10_2]; decide) (by rw [h10_2]; decide) (by rw [h10_2]; decide +kernel) (by decide) ?_
    refine lv_aload_n hx hb d_M_operandAddress_56 rfl (lv_at hl 1 rfl) ?_
    refine cl_V (C := R_M) (k_M_fetch l D a hA u0) ⟨hx, hb, hml, hown, hts⟩ (cwV 0 hts (gi_V t_185 t_187 t_6 t_62 t_188) rfl rfl rfl (by decide +kernel) ⟨Nat.le_of_ble_eq_true rfl, Nat.le_of_ble_eq_true rfl⟩) (va_recv (q0 := 0) (ci := 3) (q := (R_M, F_M, 7)) hK hP rfl rfl) hP hK hS rfl hl.1 rfl (Nat.le_of_ble_eq_true rfl) d_M_operandAddress_57 (nm_is (fun r57 u57 e57 f57 H locs hP hS => ?_))
    refine lv_iload_n hx hb d_M_operandAddress_60 rfl (lv_at hl 0 rfl) ?_
    have hJ73 : ∀ (z73 : Int32) (H : Heap) (locs : List Loc), z73 = J_M_operandAddress_73 x1 u57 → va_P D kl (cw a u57) H → va_S (FA a) s.heap H locs → W p l e rm_M_operandAddress s m args below meth c H locs 0 0 Q (F0 m 73 ls [.int z73, .int r57]) := by
      intro z73 H locs jz73 hP hS
      refine lv_iadd hx hb d_M_operandAddress_73 ?_
      refine lv_istore hx hb d_M_operandAddress_74 hl (by decide) rfl (fun ls hl => ?_)
      have hl : lv_has ls 5 [(4, .int (r57 + z73)), (3, .int (x1 &&& 15)), (0, .ref a.1), (1, .int x1), (2, .int x2)] := hl
      refine lv_goto (tgt := 95) hx hb d_M_operandAddress_76 (by decide) ?_
      refine lv_iload hx hb d_M_operandAddress_95 (lv_at hl 0 rfl) ?_
      refine lv_sipush (v := 1023) hx hb d_M_operandAddress_97 (by decide) ?_
      refine lv_iand hx hb d_M_operandAddress_100 ?_
      have hc : (((r57 + z73) &&& 1023), u57) = C_M_operandAddress u0 x1 x2 := by simp only [C_M_operandAddress, if_neg h10_0, if_neg h10_1, if_pos h10_2, ← e57, ← f57, ← jz73]
      subst hQ
      exact rt_i hx hb hr hlk (congrArg Prod.fst hc) (congrArg Prod.snd hc) hP hS d_M_operandAddress_101
    refine lv_if_ne (tgt := 68) hx hb d_M_operandAddress_61 (by decide) (fun h61 => ?_) (fun h61 => ?_)
    · refine lv_aload_n hx hb d_M_operandAddress_68 rfl (lv_at hl 1 rfl) ?_
      refine lv_iload_n hx hb d_M_operandAddress_69 rfl (lv_at hl 0 rfl) ?_
      refine cl_V (C := R_M) (k_M_register l D a hA u57 (x1 &&& 15)) ⟨hx, hb, hml, hown, hts⟩ (cwV 1 hts (gi_V t_189 t_191 t_7 t_62 t_192) rfl rfl rfl (by decide +kernel) ⟨Nat.le_of_ble_eq_true rfl, Nat.le_of_ble_eq_true rfl⟩) (va_recv (q0 := 0) (ci := 3) (q := (R_M, F_M, 7)) hK hP rfl rfl) hP hK hS rfl hl.1 rfl (Nat.le_of_ble_eq_true rfl) d_M_operandAddress_70 (nm_i (fun r70 e70 H locs hP hS => ?_))
      exact hJ73 r70 _ _ (by simp only [J_M_operandAddress_73, if_neg h61, ← e70]) hP hS
    refine lv_iconst (v := 0) hx hb d_M_operandAddress_64 (by decide) ?_
    refine lv_goto (tgt := 73) hx hb d_M_operandAddress_65 (by decide) ?_
    exact hJ73 0 _ _ (by simp only [J_M_operandAddress_73, if_pos h61]) hP hS
  have n10_0 := lv_neT h10_0 (a := 0) (by decide)
  have n10_1 := lv_neT h10_1 (a := 1) (by decide)
  have n10_2 := lv_neT h10_2 (a := 2) (by decide)
  refine lv_tableOut (tgt := 79) hx hb d_M_operandAddress_10 (by omega) (by decide) ?_
  refine lv_aload_n hx hb d_M_operandAddress_79 rfl (lv_at hl 1 rfl) ?_
  refine lv_iload_n hx hb d_M_operandAddress_80 rfl (lv_at hl 0 rfl) ?_
  refine cl_V (C := R_M) (k_M_register l D a hA u0 (x1 &&& 15)) ⟨hx, hb, hml, hown, hts⟩ (cwV 1 hts (gi_V t_189 t_191 t_7 t_62 t_192) rfl rfl rfl (by decide +kernel) ⟨Nat.le_of_ble_eq_true rfl, Nat.le_of_ble_eq_true rfl⟩) (va_recv (q0 := 0) (ci := 3) (q := (R_M, F_M, 7)) hK hP rfl rfl) hP hK hS rfl hl.1 rfl (Nat.le_of_ble_eq_true rfl) d_M_operandAddress_81 (nm_i (fun r81 e81 H locs hP hS => ?_))
  refine lv_istore hx hb d_M_operandAddress_84 hl (by decide) rfl (fun ls hl => ?_)
  have hl : lv_has ls 5 [(4, .int r81), (3, .int (x1 &&& 15)), (0, .ref a.1), (1, .int x1), (2, .int x2)] := hl
  refine lv_aload_n hx hb d_M_operandAddress_86 rfl (lv_at hl 2 rfl) ?_
  refine lv_iload_n hx hb d_M_operandAddress_87 rfl (lv_at hl 1 rfl) ?_
  refine lv_iload hx hb d_M_operandAddress_88 (lv_at hl 0 rfl) ?_
  refine lv_iload_n hx hb d_M_operandAddress_90 rfl (lv_at hl 4 rfl) ?_
  refine lv_iadd hx hb d_M_operandAddress_91 ?_
  refine cl_V (C := R_M) (k_M_setRegister l D a hA u0 (x1 &&& 15) (r81 + x2)) ⟨hx, hb, hml, hown, hts⟩ (cwV 2 hts (gi_V t_149 t_151 t_2 t_62 t_152) rfl rfl rfl (by decide +kernel) ⟨Nat.le_of_ble_eq_true rfl, Nat.le_of_ble_eq_true rfl⟩) (va_recv (q0 := 0) (ci := 3) (q := (R_M, F_M, 7)) hK hP rfl rfl) hP hK hS rfl hl.1 rfl (Nat.le_of_ble_eq_true rfl) d_M_operandAddress_92 (nm_s (fun u92 e92 H locs hP hS => ?_))
  refine lv_iload hx hb d_M_operandAddress_95 (lv_at hl 0 rfl) ?_
  refine lv_sipush (v := 1023) hx hb d_M_operandAddress_97 (by decide) ?_
  refine lv_iand hx hb d_M_operandAddress_100 ?_
  have hc : ((r81 &&& 1023), u92) = C_M_operandAddress u0 x1 x2 := by simp only [C_M_operandAddress, if_neg h10_0, if_neg h10_1, if_neg h10_2, ← e81, ← e92]
  subst hQ
  exact rt_i hx hb hr hlk (congrArg Prod.fst hc) (congrArg Prod.snd hc) hP hS d_M_operandAddress_101
set_option maxHeartbeats 4000000 in
set_option maxRecDepth 100000 in
theorem k_Me_isUpper (l : Launch) (D : va_G) (a : CAd) (hA : ApC a) (u0 : CSt) (x0 : Int32) : MC kl (cw a) (FA a) (tyC a) l D y_Me_isUpper b_Me_isUpper 1 (some .boolean) rm_Me_isUpper [.int x0] u0 (some (.int (C_Me_isUpper x0))) u0 := by
  refine MC.mk (by decide) (Nat.le_of_ble_eq_true rfl) ?_
  intro p e s m below meth c ls Q args H locs hx hb hr hml hown hts hlk hl hP hK hS hQ
  have hown : s.vm.findClass R_Me = some m.cls := hown
  have hl : lv_has ls 1 [(0, .int x0)] := hl
  refine lv_iload_n hx hb d_Me_isUpper_0 rfl (lv_at hl 0 rfl) ?_
  refine lv_iconst (v := 1) hx hb d_Me_isUpper_1 (by decide) ?_
  refine lv_iand hx hb d_Me_isUpper_2 ?_
  refine lv_if_ne (tgt := 10) hx hb d_Me_isUpper_3 (by decide) (fun h3 => ?_) (fun h3 => ?_)
  · refine lv_iconst (v := 0) hx hb d_Me_isUpper_10 (by decide) ?_
    subst hQ
    exact rt_z hx hb hr hlk rfl (by simp only [C_Me_isUpper, if_neg h3]) rfl hP hS d_Me_isUpper_11
  refine lv_iconst (v := 1) hx hb d_Me_isUpper_6 (by decide) ?_
  refine lv_goto (tgt := 11) hx hb d_Me_isUpper_7 (by decide) ?_
  subst hQ
  exact rt_z hx hb hr hlk rfl (by simp only [C_Me_isUpper, if_pos h3]) rfl hP hS d_Me_isUpper_11
set_option maxHeartbeats 4000000 in
set_option maxRecDepth 100000 in
theorem k_Me_load (l : Launch) (D : va_G) (a : CAd) (hA : ApC a) (u0 : CSt) (x1 : Int32) (x2 : Int32) : MC kl (cw a) (FA a) (tyC a) l D y_Me_load b_Me_load 4 (some .int) rm_Me_load [.ref a.2.1, .int x1, .int x2] u0 (some (.int (C_Me_load u0 x1 x2))) u0 := by
  refine MC.mk (by decide) (Nat.le_of_ble_eq_true rfl) ?_
  intro p e s m below meth c ls Q args H locs hx hb hr hml hown hts hlk hl hP hK hS hQ
  have hown : s.vm.findClass R_Me = some m.cls := hown
  have hl : lv_has ls 4 [(0, .ref a.2.1), (1, .int x1), (2, .int x2)] := hl
  refine lv_aload_n hx hb d_Me_load_0 rfl (lv_at hl 0 rfl) ?_
  refine lv_iload_n hx hb d_Me_load_1 rfl (lv_at hl 1 rfl) ?_
  refine cl_V (C := R_Me) (k_Me_word l D a hA u0 x1) ⟨hx, hb, hml, hown, hts⟩ (cwV 1 hts (gi_V t_213 t_142 t_143 t_63 t_144) rfl rfl rfl (by decide +kernel) ⟨Nat.le_of_ble_eq_true rfl, Nat.le_of_ble_eq_true rfl⟩) (va_recv (q0 := 1) (ci := 1) (q := (R_Me, F_Me, 1)) hK hP rfl rfl) hP hK hS rfl hl.1 rfl (Nat.le_of_ble_eq_true rfl) d_Me_load_2 (nm_i (fun r2 e2 H locs hP hS => ?_))
  refine lv_istore_n hx hb d_Me_load_5 rfl hl (by decide) rfl (fun ls hl => ?_)
  have hl : lv_has ls 4 [(3, .int r2), (0, .ref a.2.1), (1, .int x1), (2, .int x2)] := hl
  refine lv_iload_n hx hb d_Me_load_6 rfl (lv_at hl 3 rfl) ?_
  refine lv_iconst (v := 2) hx hb d_Me_load_7 (by decide) ?_
  refine lv_icmp_ne (tgt := 13) hx hb d_Me_load_8 (by decide) (fun h8 => ?_) (fun h8 => ?_)
  · refine lv_iload_n hx hb d_Me_load_13 rfl (lv_at hl 2 rfl) ?_
    refine cl_S (k_Me_isUpper l D a hA u0 x1) ⟨hx, hb, hml, hown, hts⟩ (va_cwS 1 hts (gi_S t_214 t_215 t_63 t_216) rfl rfl rfl (by decide +kernel) ⟨Nat.le_of_ble_eq_true rfl, Nat.le_of_ble_eq_true rfl⟩) hP hK hS rfl hl.1 rfl (Nat.le_of_ble_eq_true rfl) d_Me_load_14 (nm_i (fun r14 e14 H locs hP hS => ?_))
    refine lv_if_eq (tgt := 27) hx hb d_Me_load_17 (by decide) (fun h17 => ?_) (fun h17 => ?_)
    · refine lv_iload_n hx hb d_Me_load_27 rfl (lv_at hl 0 rfl) ?_
      refine lv_sipush (v := 255) hx hb d_Me_load_28 (by decide) ?_
      refine lv_iand hx hb d_Me_load_31 ?_
      refine lv_bipush (v := 8) hx hb d_Me_load_32 (by decide) ?_
      refine lv_ishl hx hb d_Me_load_34 ?_
      subst hQ
      exact rt_i hx hb hr hlk (by simp only [C_Me_load, ← e2, if_neg h8, ← e14, if_pos h17]) rfl hP hS d_Me_load_35
    refine lv_iload_n hx hb d_Me_load_20 rfl (lv_at hl 0 rfl) ?_
    refine lv_ldc (v := 65280) hx hb hown (hts _ (wm t_217)) d_Me_load_21 ?_
    refine lv_iand hx hb d_Me_load_23 ?_
    refine lv_goto (tgt := 35) hx hb d_Me_load_24 (by decide) ?_
    subst hQ
    exact rt_i hx hb hr hlk (by simp only [C_Me_load, ← e2, if_neg h8, ← e14, if_neg h17]) rfl hP hS d_Me_load_35
  refine lv_iload_n hx hb d_Me_load_11 rfl (lv_at hl 0 rfl) ?_
  subst hQ
  exact rt_i hx hb hr hlk (by simp only [C_Me_load, ← e2, if_pos h8]) rfl hP hS d_Me_load_12
set_option maxHeartbeats 4000000 in
set_option maxRecDepth 100000 in
theorem k_St_compare (l : Launch) (D : va_G) (a : CAd) (hA : ApC a) (u0 : CSt) (x1 : Int32) (x2 : Int32) : MC kl (cw a) (FA a) (tyC a) l D y_St_compare b_St_compare 6 none rm_St_compare [.ref a.2.2.2.2.1, .int x1, .int x2] u0 none (C_St_compare u0 x1 x2) := by
  refine MC.mk (by decide) (Nat.le_of_ble_eq_true rfl) ?_
  intro p e s m below meth c ls Q args H locs hx hb hr hml hown hts hlk hl hP hK hS hQ
  have hown : s.vm.findClass R_St = some m.cls := hown
  have hl : lv_has ls 6 [(0, .ref a.2.2.2.2.1), (1, .int x1), (2, .int x2)] := hl
  refine lv_iload_n hx hb d_St_compare_0 rfl (lv_at hl 1 rfl) ?_
  refine lv_iload_n hx hb d_St_compare_1 rfl (lv_at hl 2 rfl) ?_
  have hJ11 : ∀ (z11 : Int32), z11 = J_St_compare_11 x1 x2 → W p l e rm_St_compare s m args below meth c H locs 0 0 Q (F0 m 11 ls [.int z11]) := by
    intro z11 jz11
    refine lv_istore_n hx hb d_St_compare_11 rfl hl (by decide) rfl (fun ls hl => ?_)
    have hl : lv_has ls 6 [(3, .int z11), (0, .ref a.2.2.2.2.1), (1, .int x1), (2, .int x2)] := hl
    refine lv_iload_n hx hb d_St_compare_12 rfl (lv_at hl 2 rfl) ?_
    refine lv_i2s hx hb d_St_compare_13 rfl ?_
    refine lv_iload_n hx hb d_St_compare_14 rfl (lv_at hl 3 rfl) ?_
    refine lv_i2s hx hb d_St_compare_15 rfl ?_
    have hJ26 : ∀ (z26 : Int32), z26 = J_St_compare_26 x1 x2 → W p l e rm_St_compare s m args below meth c H locs 0 0 Q (F0 m 26 ls [.int z26]) := by
      intro z26 jz26
      refine lv_istore hx hb d_St_compare_26 hl (by decide) rfl (fun ls hl => ?_)
      have hl : lv_has ls 6 [(4, .int z26), (3, .int z11), (0, .ref a.2.2.2.2.1), (1, .int x1), (2, .int x2)] := hl
      refine lv_iload_n hx hb d_St_compare_28 rfl (lv_at hl 3 rfl) ?_
      refine lv_iload_n hx hb d_St_compare_29 rfl (lv_at hl 4 rfl) ?_
      have hJ40 : ∀ (z40 : Int32), z40 = J_St_compare_40 x1 x2 → W p l e rm_St_compare s m args below meth c H locs 0 0 Q (F0 m 40 ls [.int z40]) := by
        intro z40 jz40
        refine lv_istore hx hb d_St_compare_40 hl (by decide) rfl (fun ls hl => ?_)
        have hl : lv_has ls 6 [(5, .int z40), (4, .int z26), (3, .int z11), (0, .ref a.2.2.2.2.1), (1, .int x1), (2, .int x2)] := hl
        refine lv_aload_n hx hb d_St_compare_42 rfl (lv_at hl 3 rfl) ?_
        refine lv_aload_n hx hb d_St_compare_43 rfl (lv_at hl 3 rfl) ?_
        refine va_get (D := D) (ci := 2) (v := .int u0.2.2.1) (C := R_St) (T := F_St) (N := 1) hx hb hts (fun w h => wm (ui_St w h)) hown hK hP 4 rfl rfl 0 (by decide) (hts _ (wm t_107)) (fun _ h9 => h9) rfl d_St_compare_44 ?_
        refine lv_ldc (v := (-57345)) hx hb hown (hts _ (wm t_223)) d_St_compare_47 ?_
        refine lv_iand hx hb d_St_compare_49 ?_
        refine lv_iload_n hx hb d_St_compare_50 rfl (lv_at hl 2 rfl) ?_
        refine lv_ior hx hb d_St_compare_51 ?_
        refine lv_iload hx hb d_St_compare_52 (lv_at hl 1 rfl) ?_
        refine lv_ior hx hb d_St_compare_54 ?_
        refine lv_iload hx hb d_St_compare_55 (lv_at hl 0 rfl) ?_
        refine lv_ior hx hb d_St_compare_57 ?_
        refine va_put (D := D) (ci := 2) (v := .int ((((u0.2.2.1 &&& (-57345)) ||| z11) ||| z26) ||| z40)) (ty := .int) (C := R_St) (T := F_St) (N := 1) hx hb hts (fun w h => wm (ui_St w h)) ft_St ft_St_ok fn_St hown hK hP (dd_C hA _) hS 4 rfl rfl 0 (by decide) (hts _ (wm t_107)) (fun _ h9 => h9) rfl (by decide +kernel) rfl rfl (Nat.le_of_ble_eq_true rfl) d_St_compare_58 (fun H locs hP _ hS => ?_)
        have hP : va_P D kl (cw a (u0.1, u0.2.1, ((((u0.2.2.1 &&& (-57345)) ||| z11) ||| z26) ||| z40), u0.2.2.2.1, u0.2.2.2.2.1, u0.2.2.2.2.2.1, u0.2.2.2.2.2.2)) H := hP
        subst hQ
        exact rt_v hx hb hr hlk (by simp only [C_St_compare, ← jz11, ← jz26, ← jz40]) hP hS d_St_compare_61
      refine lv_icmp_ne (tgt := 39) hx hb d_St_compare_30 (by decide) (fun h30 => ?_) (fun h30 => ?_)
      · refine lv_iconst (v := 0) hx hb d_St_compare_39 (by decide) ?_
        exact hJ40 0 (by simp only [J_St_compare_40, if_neg h30])
      refine lv_sipush (v := 8192) hx hb d_St_compare_33 (by decide) ?_
      refine lv_goto (tgt := 40) hx hb d_St_compare_36 (by decide) ?_
      exact hJ40 8192 (by simp only [J_St_compare_40, if_pos h30])
    refine lv_icmp_le (tgt := 25) hx hb d_St_compare_16 (by decide) (fun h16 => ?_) (fun h16 => ?_)
    · refine lv_iconst (v := 0) hx hb d_St_compare_25 (by decide) ?_
      exact hJ26 0 (by simp only [J_St_compare_26, if_pos h16])
    refine lv_sipush (v := 16384) hx hb d_St_compare_19 (by decide) ?_
    refine lv_goto (tgt := 26) hx hb d_St_compare_22 (by decide) ?_
    exact hJ26 16384 (by simp only [J_St_compare_26, if_neg h16])
  refine lv_icmp_le (tgt := 10) hx hb d_St_compare_2 (by decide) (fun h2 => ?_) (fun h2 => ?_)
  · refine lv_iconst (v := 0) hx hb d_St_compare_10 (by decide) ?_
    exact hJ11 0 (by simp only [J_St_compare_11, if_pos h2])
  refine lv_ldc (v := 32768) hx hb hown (hts _ (wm t_222)) d_St_compare_5 ?_
  refine lv_goto (tgt := 11) hx hb d_St_compare_7 (by decide) ?_
  exact hJ11 32768 (by simp only [J_St_compare_11, if_neg h2])
set_option maxHeartbeats 4000000 in
set_option maxRecDepth 100000 in
theorem k_In_bitCount (l : Launch) (D : va_G) (a : CAd) (hA : ApC a) (u0 : CSt) (x0 : Int32) : MC kl (cw a) (FA a) (tyC a) l D y_In_bitCount b_In_bitCount 1 (some .int) rm_In_bitCount [.int x0] u0 (some (.int (C_In_bitCount x0))) u0 := by
  refine MC.mk (by decide) (Nat.le_of_ble_eq_true rfl) ?_
  intro p e s m below meth c ls Q args H locs hx hb hr hml hown hts hlk hl hP hK hS hQ
  have hown : s.vm.findClass R_In = some m.cls := hown
  have hl : lv_has ls 1 [(0, .int x0)] := hl
  refine lv_iload_n hx hb d_In_bitCount_0 rfl (lv_at hl 0 rfl) ?_
  refine lv_iload_n hx hb d_In_bitCount_1 rfl (lv_at hl 0 rfl) ?_
  refine lv_iconst (v := 1) hx hb d_In_bitCount_2 (by decide) ?_
  refine lv_iushr hx hb d_In_bitCount_3 rfl ?_
  refine lv_ldcw (v := 1431655765) hx hb hown (hts _ (wm t_231)) d_In_bitCount_4 ?_
  refine lv_iand hx hb d_In_bitCount_7 ?_
  refine lv_isub hx hb d_In_bitCount_8 ?_
  refine lv_istore_n hx hb d_In_bitCount_9 rfl hl (by decide) rfl (fun ls hl => ?_)
  have hl : lv_has ls 1 [(0, .int (x0 - (((Int32.toUInt32 x0 >>> (Int32.toUInt32 1 &&& Int32.toUInt32 31)).toInt32) &&& 1431655765)))] := hl
  refine lv_iload_n hx hb d_In_bitCount_10 rfl (lv_at hl 0 rfl) ?_
  refine lv_ldcw (v := 858993459) hx hb hown (hts _ (wm t_232)) d_In_bitCount_11 ?_
  refine lv_iand hx hb d_In_bitCount_14 ?_
  refine lv_iload_n hx hb d_In_bitCount_15 rfl (lv_at hl 0 rfl) ?_
  refine lv_iconst (v := 2) hx hb d_In_bitCount_16 (by decide) ?_
  refine lv_iushr hx hb d_In_bitCount_17 rfl ?_
  refine lv_ldcw (v := 858993459) hx hb hown (hts _ (wm t_232)) d_In_bitCount_18 ?_
  refine lv_iand hx hb d_In_bitCount_21 ?_
  refine lv_iadd hx hb d_In_bitCount_22 ?_
  refine lv_istore_n hx hb d_In_bitCount_23 rfl hl (by decide) rfl (fun ls hl => ?_)
  have hl : lv_has ls 1 [(0, .int (((x0 - (((Int32.toUInt32 x0 >>> (Int32.toUInt32 1 &&& Int32.toUInt32 31)).toInt32) &&& 1431655765)) &&& 858993459) + (((Int32.toUInt32 (x0 - (((Int32.toUInt32 x0 >>> (Int32.toUInt32 1 &&& Int32.toUInt32 31)).toInt32) &&& 1431655765)) >>> (Int32.toUInt32 2 &&& Int32.toUInt32 31)).toInt32) &&& 858993459)))] := hl
  refine lv_iload_n hx hb d_In_bitCount_24 rfl (lv_at hl 0 rfl) ?_
  refine lv_iload_n hx hb d_In_bitCount_25 rfl (lv_at hl 0 rfl) ?_
  refine lv_iconst (v := 4) hx hb d_In_bitCount_26 (by decide) ?_
  refine lv_iushr hx hb d_In_bitCount_27 rfl ?_
  refine lv_iadd hx hb d_In_bitCount_28 ?_
  refine lv_ldcw (v := 252645135) hx hb hown (hts _ (wm t_233)) d_In_bitCount_29 ?_
  refine lv_iand hx hb d_In_bitCount_32 ?_
  refine lv_istore_n hx hb d_In_bitCount_33 rfl hl (by decide) rfl (fun ls hl => ?_)
  have hl : lv_has ls 1 [(0, .int (((((x0 - (((Int32.toUInt32 x0 >>> (Int32.toUInt32 1 &&& Int32.toUInt32 31)).toInt32) &&& 1431655765)) &&& 858993459) + (((Int32.toUInt32 (x0 - (((Int32.toUInt32 x0 >>> (Int32.toUInt32 1 &&& Int32.toUInt32 31)).toInt32) &&& 1431655765)) >>> (Int32.toUInt32 2 &&& Int32.toUInt32 31)).toInt32) &&& 858993459)) + ((Int32.toUInt32 (((x0 - (((Int32.toUInt32 x0 >>> (Int32.toUInt32 1 &&& Int32.toUInt32 31)).toInt32) &&& 1431655765)) &&& 858993459) + (((Int32.toUInt32 (x0 - (((Int32.toUInt32 x0 >>> (Int32.toUInt32 1 &&& Int32.toUInt32 31)).toInt32) &&& 1431655765)) >>> (Int32.toUInt32 2 &&& Int32.toUInt32 31)).toInt32) &&& 858993459)) >>> (Int32.toUInt32 4 &&& Int32.toUInt32 31)).toInt32)) &&& 252645135))] := hl
  refine lv_iload_n hx hb d_In_bitCount_34 rfl (lv_at hl 0 rfl) ?_
  refine lv_iload_n hx hb d_In_bitCount_35 rfl (lv_at hl 0 rfl) ?_
  refine lv_bipush (v := 8) hx hb d_In_bitCount_36 (by decide) ?_
  refine lv_iushr hx hb d_In_bitCount_38 rfl ?_
  refine lv_iadd hx hb d_In_bitCount_39 ?_
  refine lv_istore_n hx hb d_In_bitCount_40 rfl hl (by decide) rfl (fun ls hl => ?_)
  have hl : lv_has ls 1 [(0, .int ((((((x0 - (((Int32.toUInt32 x0 >>> (Int32.toUInt32 1 &&& Int32.toUInt32 31)).toInt32) &&& 1431655765)) &&& 858993459) + (((Int32.toUInt32 (x0 - (((Int32.toUInt32 x0 >>> (Int32.toUInt32 1 &&& Int32.toUInt32 31)).toInt32) &&& 1431655765)) >>> (Int32.toUInt32 2 &&& Int32.toUInt32 31)).toInt32) &&& 858993459)) + ((Int32.toUInt32 (((x0 - (((Int32.toUInt32 x0 >>> (Int32.toUInt32 1 &&& Int32.toUInt32 31)).toInt32) &&& 1431655765)) &&& 858993459) + (((Int32.toUInt32 (x0 - (((Int32.toUInt32 x0 >>> (Int32.toUInt32 1 &&& Int32.toUInt32 31)).toInt32) &&& 1431655765)) >>> (Int32.toUInt32 2 &&& Int32.toUInt32 31)).toInt32) &&& 858993459)) >>> (Int32.toUInt32 4 &&& Int32.toUInt32 31)).toInt32)) &&& 252645135) + ((Int32.toUInt32 (((((x0 - (((Int32.toUInt32 x0 >>> (Int32.toUInt32 1 &&& Int32.toUInt32 31)).toInt32) &&& 1431655765)) &&& 858993459) + (((Int32.toUInt32 (x0 - (((Int32.toUInt32 x0 >>> (Int32.toUInt32 1 &&& Int32.toUInt32 31)).toInt32) &&& 1431655765)) >>> (Int32.toUInt32 2 &&& Int32.toUInt32 31)).toInt32) &&& 858993459)) + ((Int32.toUInt32 (((x0 - (((Int32.toUInt32 x0 >>> (Int32.toUInt32 1 &&& Int32.toUInt32 31)).toInt32) &&& 1431655765)) &&& 858993459) + (((Int32.toUInt32 (x0 - (((Int32.toUInt32 x0 >>> (Int32.toUInt32 1 &&& Int32.toUInt32 31)).toInt32) &&& 1431655765)) >>> (Int32.toUInt32 2 &&& Int32.toUInt32 31)).toInt32) &&& 858993459)) >>> (Int32.toUInt32 4 &&& Int32.toUInt32 31)).toInt32)) &&& 252645135) >>> (Int32.toUInt32 8 &&& Int32.toUInt32 31)).toInt32)))] := hl
  refine lv_iload_n hx hb d_In_bitCount_41 rfl (lv_at hl 0 rfl) ?_
  refine lv_iload_n hx hb d_In_bitCount_42 rfl (lv_at hl 0 rfl) ?_
  refine lv_bipush (v := 16) hx hb d_In_bitCount_43 (by decide) ?_
  refine lv_iushr hx hb d_In_bitCount_45 rfl ?_
  refine lv_iadd hx hb d_In_bitCount_46 ?_
  refine lv_istore_n hx hb d_In_bitCount_47 rfl hl (by decide) rfl (fun ls hl => ?_)
  have hl : lv_has ls 1 [(0, .int (((((((x0 - (((Int32.toUInt32 x0 >>> (Int32.toUInt32 1 &&& Int32.toUInt32 31)).toInt32) &&& 1431655765)) &&& 858993459) + (((Int32.toUInt32 (x0 - (((Int32.toUInt32 x0 >>> (Int32.toUInt32 1 &&& Int32.toUInt32 31)).toInt32) &&& 1431655765)) >>> (Int32.toUInt32 2 &&& Int32.toUInt32 31)).toInt32) &&& 858993459)) + ((Int32.toUInt32 (((x0 - (((Int32.toUInt32 x0 >>> (Int32.toUInt32 1 &&& Int32.toUInt32 31)).toInt32) &&& 1431655765)) &&& 858993459) + (((Int32.toUInt32 (x0 - (((Int32.toUInt32 x0 >>> (Int32.toUInt32 1 &&& Int32.toUInt32 31)).toInt32) &&& 1431655765)) >>> (Int32.toUInt32 2 &&& Int32.toUInt32 31)).toInt32) &&& 858993459)) >>> (Int32.toUInt32 4 &&& Int32.toUInt32 31)).toInt32)) &&& 252645135) + ((Int32.toUInt32 (((((x0 - (((Int32.toUInt32 x0 >>> (Int32.toUInt32 1 &&& Int32.toUInt32 31)).toInt32) &&& 1431655765)) &&& 858993459) + (((Int32.toUInt32 (x0 - (((Int32.toUInt32 x0 >>> (Int32.toUInt32 1 &&& Int32.toUInt32 31)).toInt32) &&& 1431655765)) >>> (Int32.toUInt32 2 &&& Int32.toUInt32 31)).toInt32) &&& 858993459)) + ((Int32.toUInt32 (((x0 - (((Int32.toUInt32 x0 >>> (Int32.toUInt32 1 &&& Int32.toUInt32 31)).toInt32) &&& 1431655765)) &&& 858993459) + (((Int32.toUInt32 (x0 - (((Int32.toUInt32 x0 >>> (Int32.toUInt32 1 &&& Int32.toUInt32 31)).toInt32) &&& 1431655765)) >>> (Int32.toUInt32 2 &&& Int32.toUInt32 31)).toInt32) &&& 858993459)) >>> (Int32.toUInt32 4 &&& Int32.toUInt32 31)).toInt32)) &&& 252645135) >>> (Int32.toUInt32 8 &&& Int32.toUInt32 31)).toInt32)) + ((Int32.toUInt32 ((((((x0 - (((Int32.toUInt32 x0 >>> (Int32.toUInt32 1 &&& Int32.toUInt32 31)).toInt32) &&& 1431655765)) &&& 858993459) + (((Int32.toUInt32 (x0 - (((Int32.toUInt32 x0 >>> (Int32.toUInt32 1 &&& Int32.toUInt32 31)).toInt32) &&& 1431655765)) >>> (Int32.toUInt32 2 &&& Int32.toUInt32 31)).toInt32) &&& 858993459)) + ((Int32.toUInt32 (((x0 - (((Int32.toUInt32 x0 >>> (Int32.toUInt32 1 &&& Int32.toUInt32 31)).toInt32) &&& 1431655765)) &&& 858993459) + (((Int32.toUInt32 (x0 - (((Int32.toUInt32 x0 >>> (Int32.toUInt32 1 &&& Int32.toUInt32 31)).toInt32) &&& 1431655765)) >>> (Int32.toUInt32 2 &&& Int32.toUInt32 31)).toInt32) &&& 858993459)) >>> (Int32.toUInt32 4 &&& Int32.toUInt32 31)).toInt32)) &&& 252645135) + ((Int32.toUInt32 (((((x0 - (((Int32.toUInt32 x0 >>> (Int32.toUInt32 1 &&& Int32.toUInt32 31)).toInt32) &&& 1431655765)) &&& 858993459) + (((Int32.toUInt32 (x0 - (((Int32.toUInt32 x0 >>> (Int32.toUInt32 1 &&& Int32.toUInt32 31)).toInt32) &&& 1431655765)) >>> (Int32.toUInt32 2 &&& Int32.toUInt32 31)).toInt32) &&& 858993459)) + ((Int32.toUInt32 (((x0 - (((Int32.toUInt32 x0 >>> (Int32.toUInt32 1 &&& Int32.toUInt32 31)).toInt32) &&& 1431655765)) &&& 858993459) + (((Int32.toUInt32 (x0 - (((Int32.toUInt32 x0 >>> (Int32.toUInt32 1 &&& Int32.toUInt32 31)).toInt32) &&& 1431655765)) >>> (Int32.toUInt32 2 &&& Int32.toUInt32 31)).toInt32) &&& 858993459)) >>> (Int32.toUInt32 4 &&& Int32.toUInt32 31)).toInt32)) &&& 252645135) >>> (Int32.toUInt32 8 &&& Int32.toUInt32 31)).toInt32)) >>> (Int32.toUInt32 16 &&& Int32.toUInt32 31)).toInt32)))] := hl
  refine lv_iload_n hx hb d_In_bitCount_48 rfl (lv_at hl 0 rfl) ?_
  refine lv_bipush (v := 63) hx hb d_In_bitCount_49 (by decide) ?_
  refine lv_iand hx hb d_In_bitCount_51 ?_
  subst hQ
  exact rt_i hx hb hr hlk (by simp only [C_In_bitCount]) rfl hP hS d_In_bitCount_52
set_option maxHeartbeats 4000000 in
set_option maxRecDepth 100000 in
theorem k_St_mark (l : Launch) (D : va_G) (a : CAd) (hA : ApC a) (u0 : CSt) (x1 : Int32) (x2 : Int32) : MC kl (cw a) (FA a) (tyC a) l D y_St_mark b_St_mark 3 none rm_St_mark [.ref a.2.2.2.2.1, .int x1, .int x2] u0 none (C_St_mark u0 x1 x2) := by
  refine MC.mk (by decide) (Nat.le_of_ble_eq_true rfl) ?_
  intro p e s m below meth c ls Q args H locs hx hb hr hml hown hts hlk hl hP hK hS hQ
  have hown : s.vm.findClass R_St = some m.cls := hown
  have hl : lv_has ls 3 [(0, .ref a.2.2.2.2.1), (1, .int x1), (2, .int x2)] := hl
  refine lv_aload_n hx hb d_St_mark_0 rfl (lv_at hl 0 rfl) ?_
  refine lv_iload_n hx hb d_St_mark_1 rfl (lv_at hl 2 rfl) ?_
  have hJ22 : ∀ (z22 : Int32), z22 = J_St_mark_22 u0 x1 x2 → W p l e rm_St_mark s m args below meth c H locs 0 0 Q (F0 m 22 ls [.int z22, .ref a.2.2.2.2.1]) := by
    intro z22 jz22
    refine va_put (D := D) (ci := 2) (v := .int z22) (ty := .int) (C := R_St) (T := F_St) (N := 1) hx hb hts (fun w h => wm (ui_St w h)) ft_St ft_St_ok fn_St hown hK hP (dd_C hA _) hS 4 rfl rfl 0 (by decide) (hts _ (wm t_107)) (fun _ h9 => h9) rfl (by decide +kernel) rfl rfl (Nat.le_of_ble_eq_true rfl) d_St_mark_22 (fun H locs hP _ hS => ?_)
    have hP : va_P D kl (cw a (u0.1, u0.2.1, z22, u0.2.2.2.1, u0.2.2.2.2.1, u0.2.2.2.2.2.1, u0.2.2.2.2.2.2)) H := hP
    subst hQ
    exact rt_v hx hb hr hlk (by simp only [C_St_mark, ← jz22]) hP hS d_St_mark_25
  refine lv_if_eq (tgt := 14) hx hb d_St_mark_2 (by decide) (fun h2 => ?_) (fun h2 => ?_)
  · refine lv_aload_n hx hb d_St_mark_14 rfl (lv_at hl 0 rfl) ?_
    refine va_get (D := D) (ci := 2) (v := .int u0.2.2.1) (C := R_St) (T := F_St) (N := 1) hx hb hts (fun w h => wm (ui_St w h)) hown hK hP 4 rfl rfl 0 (by decide) (hts _ (wm t_107)) (fun _ h9 => h9) rfl d_St_mark_15 ?_
    refine lv_iload_n hx hb d_St_mark_18 rfl (lv_at hl 1 rfl) ?_
    refine lv_iconst (v := (-1)) hx hb d_St_mark_19 (by decide) ?_
    refine lv_ixor hx hb d_St_mark_20 ?_
    refine lv_iand hx hb d_St_mark_21 ?_
    exact hJ22 (u0.2.2.1 &&& (x1 ^^^ (-1))) (by simp only [J_St_mark_22, if_pos h2])
  refine lv_aload_n hx hb d_St_mark_5 rfl (lv_at hl 0 rfl) ?_
  refine va_get (D := D) (ci := 2) (v := .int u0.2.2.1) (C := R_St) (T := F_St) (N := 1) hx hb hts (fun w h => wm (ui_St w h)) hown hK hP 4 rfl rfl 0 (by decide) (hts _ (wm t_107)) (fun _ h9 => h9) rfl d_St_mark_6 ?_
  refine lv_iload_n hx hb d_St_mark_9 rfl (lv_at hl 1 rfl) ?_
  refine lv_ior hx hb d_St_mark_10 ?_
  refine lv_goto (tgt := 22) hx hb d_St_mark_11 (by decide) ?_
  exact hJ22 (u0.2.2.1 ||| x1) (by simp only [J_St_mark_22, if_neg h2])
set_option maxHeartbeats 4000000 in
set_option maxRecDepth 100000 in
theorem k_St_markParity (l : Launch) (D : va_G) (a : CAd) (hA : ApC a) (u0 : CSt) (x1 : Int32) (x2 : Int32) : MC kl (cw a) (FA a) (tyC a) l D y_St_markParity b_St_markParity 3 none rm_St_markParity [.ref a.2.2.2.2.1, .int x1, .int x2] u0 none (C_St_markParity u0 x1 x2) := by
  refine MC.mk (by decide) (Nat.le_of_ble_eq_true rfl) ?_
  intro p e s m below meth c ls Q args H locs hx hb hr hml hown hts hlk hl hP hK hS hQ
  have hown : s.vm.findClass R_St = some m.cls := hown
  have hl : lv_has ls 3 [(0, .ref a.2.2.2.2.1), (1, .int x1), (2, .int x2)] := hl
  refine lv_iload_n hx hb d_St_markParity_0 rfl (lv_at hl 2 rfl) ?_
  refine lv_iconst (v := 1) hx hb d_St_markParity_1 (by decide) ?_
  refine lv_icmp_ne (tgt := 27) hx hb d_St_markParity_2 (by decide) (fun h2 => ?_) (fun h2 => ?_)
  · subst hQ
    exact rt_v hx hb hr hlk (by simp only [C_St_markParity, if_neg h2]) hP hS d_St_markParity_27
  refine lv_aload_n hx hb d_St_markParity_5 rfl (lv_at hl 0 rfl) ?_
  refine lv_sipush (v := 1024) hx hb d_St_markParity_6 (by decide) ?_
  refine lv_iload_n hx hb d_St_markParity_9 rfl (lv_at hl 1 rfl) ?_
  refine cl_S (k_In_bitCount l D a hA u0 x1) ⟨hx, hb, hml, hown, hts⟩ (va_cwS 1 hts (gi_S t_228 t_229 t_71 t_230) rfl rfl rfl (by decide +kernel) ⟨Nat.le_of_ble_eq_true rfl, Nat.le_of_ble_eq_true rfl⟩) hP hK hS rfl hl.1 rfl (Nat.le_of_ble_eq_true rfl) d_St_markParity_10 (nm_i (fun r10 e10 H locs hP hS => ?_))
  refine lv_iconst (v := 1) hx hb d_St_markParity_13 (by decide) ?_
  refine lv_iand hx hb d_St_markParity_14 ?_
  refine lv_iconst (v := 1) hx hb d_St_markParity_15 (by decide) ?_
  have hJ24 : ∀ (z24 : Int32), z24 = J_St_markParity_24 r10 → W p l e rm_St_markParity s m args below meth c H locs 0 0 Q (F0 m 24 ls [.int z24, .int 1024, .ref a.2.2.2.2.1]) := by
    intro z24 jz24
    refine cl_V (C := R_St) (k_St_mark l D a hA u0 1024 z24) ⟨hx, hb, hml, hown, hts⟩ (cwV 2 hts (gi_V t_234 t_235 t_236 t_65 t_237) rfl rfl rfl (by decide +kernel) ⟨Nat.le_of_ble_eq_true rfl, Nat.le_of_ble_eq_true rfl⟩) (va_recv (q0 := 4) (ci := 2) (q := (R_St, F_St, 1)) hK hP rfl rfl) hP hK hS rfl hl.1 rfl (Nat.le_of_ble_eq_true rfl) d_St_markParity_24 (nm_s (fun u24 e24 H locs hP hS => ?_))
    subst hQ
    exact rt_v hx hb hr hlk (by simp only [C_St_markParity, if_pos h2, ← e10, ← jz24, ← e24]) hP hS d_St_markParity_27
  refine lv_icmp_ne (tgt := 23) hx hb d_St_markParity_16 (by decide) (fun h16 => ?_) (fun h16 => ?_)
  · refine lv_iconst (v := 0) hx hb d_St_markParity_23 (by decide) ?_
    exact hJ24 0 (by simp only [J_St_markParity_24, if_neg h16])
  refine lv_iconst (v := 1) hx hb d_St_markParity_19 (by decide) ?_
  refine lv_goto (tgt := 24) hx hb d_St_markParity_20 (by decide) ?_
  exact hJ24 1 (by simp only [J_St_markParity_24, if_pos h16])
set_option maxHeartbeats 4000000 in
set_option maxRecDepth 100000 in
theorem k_St_tested (l : Launch) (D : va_G) (a : CAd) (hA : ApC a) (u0 : CSt) (x1 : Int32) : MC kl (cw a) (FA a) (tyC a) l D y_St_tested b_St_tested 2 (some .int) rm_St_tested [.ref a.2.2.2.2.1, .int x1] u0 (some (.int (C_St_tested u0 x1).1)) (C_St_tested u0 x1).2 := by
  refine MC.mk (by decide) (Nat.le_of_ble_eq_true rfl) ?_
  intro p e s m below meth c ls Q args H locs hx hb hr hml hown hts hlk hl hP hK hS hQ
  have hown : s.vm.findClass R_St = some m.cls := hown
  have hl : lv_has ls 2 [(0, .ref a.2.2.2.2.1), (1, .int x1)] := hl
  refine lv_aload_n hx hb d_St_tested_0 rfl (lv_at hl 0 rfl) ?_
  refine lv_iload_n hx hb d_St_tested_1 rfl (lv_at hl 1 rfl) ?_
  refine lv_iconst (v := 0) hx hb d_St_tested_2 (by decide) ?_
  refine cl_V (C := R_St) (k_St_compare l D a hA u0 x1 0) ⟨hx, hb, hml, hown, hts⟩ (cwV 2 hts (gi_V t_246 t_219 t_220 t_65 t_221) rfl rfl rfl (by decide +kernel) ⟨Nat.le_of_ble_eq_true rfl, Nat.le_of_ble_eq_true rfl⟩) (va_recv (q0 := 4) (ci := 2) (q := (R_St, F_St, 1)) hK hP rfl rfl) hP hK hS rfl hl.1 rfl (Nat.le_of_ble_eq_true rfl) d_St_tested_3 (nm_s (fun u3 e3 H locs hP hS => ?_))
  refine lv_iload_n hx hb d_St_tested_6 rfl (lv_at hl 1 rfl) ?_
  have hc : (x1, u3) = C_St_tested u0 x1 := by simp only [C_St_tested, ← e3]
  subst hQ
  exact rt_i hx hb hr hlk (congrArg Prod.fst hc) (congrArg Prod.snd hc) hP hS d_St_tested_7
set_option maxHeartbeats 4000000 in
set_option maxRecDepth 100000 in
theorem k_St_sum (l : Launch) (D : va_G) (a : CAd) (hA : ApC a) (u0 : CSt) (x1 : Int32) (x2 : Int32) (x3 : Int32) : MC kl (cw a) (FA a) (tyC a) l D y_St_sum b_St_sum 6 (some .int) rm_St_sum [.ref a.2.2.2.2.1, .int x1, .int x2, .int x3] u0 (some (.int (C_St_sum u0 x1 x2 x3).1)) (C_St_sum u0 x1 x2 x3).2 := by
  refine MC.mk (by decide) (Nat.le_of_ble_eq_true rfl) ?_
  intro p e s m below meth c ls Q args H locs hx hb hr hml hown hts hlk hl hP hK hS hQ
  have hown : s.vm.findClass R_St = some m.cls := hown
  have hl : lv_has ls 6 [(0, .ref a.2.2.2.2.1), (1, .int x1), (2, .int x2), (3, .int x3)] := hl
  refine lv_iload_n hx hb d_St_sum_0 rfl (lv_at hl 1 rfl) ?_
  refine lv_iload_n hx hb d_St_sum_1 rfl (lv_at hl 2 rfl) ?_
  refine lv_iadd hx hb d_St_sum_2 ?_
  refine lv_iload_n hx hb d_St_sum_3 rfl (lv_at hl 3 rfl) ?_
  refine lv_iadd hx hb d_St_sum_4 ?_
  refine lv_istore hx hb d_St_sum_5 hl (by decide) rfl (fun ls hl => ?_)
  have hl : lv_has ls 6 [(4, .int ((x1 + x2) + x3)), (0, .ref a.2.2.2.2.1), (1, .int x1), (2, .int x2), (3, .int x3)] := hl
  refine lv_iload hx hb d_St_sum_7 (lv_at hl 0 rfl) ?_
  refine lv_ldc (v := 65535) hx hb hown (hts _ (wm t_252)) d_St_sum_9 ?_
  refine lv_iand hx hb d_St_sum_11 ?_
  refine lv_istore hx hb d_St_sum_12 hl (by decide) rfl (fun ls hl => ?_)
  have hl : lv_has ls 6 [(5, .int (((x1 + x2) + x3) &&& 65535)), (4, .int ((x1 + x2) + x3)), (0, .ref a.2.2.2.2.1), (1, .int x1), (2, .int x2), (3, .int x3)] := hl
  refine lv_aload_n hx hb d_St_sum_14 rfl (lv_at hl 2 rfl) ?_
  refine lv_sipush (v := 4096) hx hb d_St_sum_15 (by decide) ?_
  refine lv_iload hx hb d_St_sum_18 (lv_at hl 1 rfl) ?_
  refine lv_ldc (v := 65535) hx hb hown (hts _ (wm t_252)) d_St_sum_20 ?_
  have hJ30 : ∀ (z30 : Int32), z30 = J_St_sum_30 x1 x2 x3 → W p l e rm_St_sum s m args below meth c H locs 0 0 Q (F0 m 30 ls [.int z30, .int 4096, .ref a.2.2.2.2.1]) := by
    intro z30 jz30
    refine cl_V (C := R_St) (k_St_mark l D a hA u0 4096 z30) ⟨hx, hb, hml, hown, hts⟩ (cwV 2 hts (gi_V t_234 t_235 t_236 t_65 t_237) rfl rfl rfl (by decide +kernel) ⟨Nat.le_of_ble_eq_true rfl, Nat.le_of_ble_eq_true rfl⟩) (va_recv (q0 := 4) (ci := 2) (q := (R_St, F_St, 1)) hK hP rfl rfl) hP hK hS rfl hl.1 rfl (Nat.le_of_ble_eq_true rfl) d_St_sum_30 (nm_s (fun u30 e30 H locs hP hS => ?_))
    refine lv_aload_n hx hb d_St_sum_33 rfl (lv_at hl 2 rfl) ?_
    refine lv_sipush (v := 2048) hx hb d_St_sum_34 (by decide) ?_
    refine lv_iload_n hx hb d_St_sum_37 rfl (lv_at hl 3 rfl) ?_
    refine lv_iload hx hb d_St_sum_38 (lv_at hl 0 rfl) ?_
    refine lv_ixor hx hb d_St_sum_40 ?_
    refine lv_iload_n hx hb d_St_sum_41 rfl (lv_at hl 4 rfl) ?_
    refine lv_iload hx hb d_St_sum_42 (lv_at hl 0 rfl) ?_
    refine lv_ixor hx hb d_St_sum_44 ?_
    refine lv_iand hx hb d_St_sum_45 ?_
    refine lv_ldc (v := 32768) hx hb hown (hts _ (wm t_222)) d_St_sum_46 ?_
    refine lv_iand hx hb d_St_sum_48 ?_
    have hJ57 : ∀ (z57 : Int32), z57 = J_St_sum_57 x1 x2 x3 → W p l e rm_St_sum s m args below meth c H locs 0 0 Q (F0 m 57 ls [.int z57, .int 2048, .ref a.2.2.2.2.1]) := by
      intro z57 jz57
      refine cl_V (C := R_St) (k_St_mark l D a hA u30 2048 z57) ⟨hx, hb, hml, hown, hts⟩ (cwV 2 hts (gi_V t_234 t_235 t_236 t_65 t_237) rfl rfl rfl (by decide +kernel) ⟨Nat.le_of_ble_eq_true rfl, Nat.le_of_ble_eq_true rfl⟩) (va_recv (q0 := 4) (ci := 2) (q := (R_St, F_St, 1)) hK hP rfl rfl) hP hK hS rfl hl.1 rfl (Nat.le_of_ble_eq_true rfl) d_St_sum_57 (nm_s (fun u57 e57 H locs hP hS => ?_))
      refine lv_aload_n hx hb d_St_sum_60 rfl (lv_at hl 2 rfl) ?_
      refine lv_iload hx hb d_St_sum_61 (lv_at hl 0 rfl) ?_
      refine cl_V (C := R_St) (k_St_tested l D a hA u57 (((x1 + x2) + x3) &&& 65535)) ⟨hx, hb, hml, hown, hts⟩ (cwV 1 hts (gi_V t_253 t_243 t_244 t_65 t_245) rfl rfl rfl (by decide +kernel) ⟨Nat.le_of_ble_eq_true rfl, Nat.le_of_ble_eq_true rfl⟩) (va_recv (q0 := 4) (ci := 2) (q := (R_St, F_St, 1)) hK hP rfl rfl) hP hK hS rfl hl.1 rfl (Nat.le_of_ble_eq_true rfl) d_St_sum_63 (nm_is (fun r63 u63 e63 f63 H locs hP hS => ?_))
      have hc : (r63, u63) = C_St_sum u0 x1 x2 x3 := by simp only [C_St_sum, ← jz30, ← e30, ← jz57, ← e57, ← e63, ← f63]
      subst hQ
      exact rt_i hx hb hr hlk (congrArg Prod.fst hc) (congrArg Prod.snd hc) hP hS d_St_sum_66
    refine lv_if_eq (tgt := 56) hx hb d_St_sum_49 (by decide) (fun h49 => ?_) (fun h49 => ?_)
    · refine lv_iconst (v := 0) hx hb d_St_sum_56 (by decide) ?_
      exact hJ57 0 (by simp only [J_St_sum_57, if_pos h49])
    refine lv_iconst (v := 1) hx hb d_St_sum_52 (by decide) ?_
    refine lv_goto (tgt := 57) hx hb d_St_sum_53 (by decide) ?_
    exact hJ57 1 (by simp only [J_St_sum_57, if_neg h49])
  refine lv_icmp_le (tgt := 29) hx hb d_St_sum_22 (by decide) (fun h22 => ?_) (fun h22 => ?_)
  · refine lv_iconst (v := 0) hx hb d_St_sum_29 (by decide) ?_
    exact hJ30 0 (by simp only [J_St_sum_30, if_pos h22])
  refine lv_iconst (v := 1) hx hb d_St_sum_25 (by decide) ?_
  refine lv_goto (tgt := 30) hx hb d_St_sum_26 (by decide) ?_
  exact hJ30 1 (by simp only [J_St_sum_30, if_neg h22])
set_option maxHeartbeats 4000000 in
set_option maxRecDepth 100000 in
theorem k_M_combined (l : Launch) (D : va_G) (a : CAd) (hA : ApC a) (u0 : CSt) (x1 : Int32) (x2 : Int32) (x3 : Int32) : MC kl (cw a) (FA a) (tyC a) l D y_M_combined b_M_combined 4 (some .int) rm_M_combined [.ref a.1, .int x1, .int x2, .int x3] u0 (some (.int (C_M_combined u0 x1 x2 x3).1)) (C_M_combined u0 x1 x2 x3).2 := by
  refine MC.mk (by decide) (Nat.le_of_ble_eq_true rfl) ?_
  intro p e s m below meth c ls Q args H locs hx hb hr hml hown hts hlk hl hP hK hS hQ
  have hown : s.vm.findClass R_M = some m.cls := hown
  have hl : lv_has ls 4 [(0, .ref a.1), (1, .int x1), (2, .int x2), (3, .int x3)] := hl
  refine lv_iload_n hx hb d_M_combined_0 rfl (lv_at hl 1 rfl) ?_
  by_cases h1_0 : x1 = 2
  · refine lv_tableIn (off := 35) (tgt := 36) hx hb d_M_combined_1 (by rw [h1_0]; decide) (by rw [h1_0]; decide) (by rw [h1_0]; decide +kernel) (by decide) ?_
    refine lv_aload_n hx hb d_M_combined_36 rfl (lv_at hl 0 rfl) ?_
    refine va_get (D := D) (ci := 3) (v := .ref a.2.2.2.2.1) (C := R_M) (T := F_M) (N := 7) hx hb hts (fun w h => wm (ui_M w h)) hown hK hP 0 rfl rfl 2 (by decide) (hts _ (wm t_113)) (fun _ h9 => h9) rfl d_M_combined_37 ?_
    refine lv_iload_n hx hb d_M_combined_40 rfl (lv_at hl 3 rfl) ?_
    refine lv_iload_n hx hb d_M_combined_41 rfl (lv_at hl 2 rfl) ?_
    refine lv_iconst (v := (-1)) hx hb d_M_combined_42 (by decide) ?_
    refine lv_ixor hx hb d_M_combined_43 ?_
    refine lv_iand hx hb d_M_combined_44 ?_
    refine cl_V (C := R_St) (k_St_tested l D a hA u0 (x3 &&& (x2 ^^^ (-1)))) ⟨hx, hb, hml, hown, hts⟩ (cwV 1 hts (gi_V t_242 t_243 t_244 t_65 t_245) rfl rfl rfl (by decide +kernel) ⟨Nat.le_of_ble_eq_true rfl, Nat.le_of_ble_eq_true rfl⟩) (va_recv (q0 := 4) (ci := 2) (q := (R_St, F_St, 1)) hK hP rfl rfl) hP hK hS rfl hl.1 rfl (Nat.le_of_ble_eq_true rfl) d_M_combined_45 (nm_is (fun r45 u45 e45 f45 H locs hP hS => ?_))
    have hc : (r45, u45) = C_M_combined u0 x1 x2 x3 := by simp only [C_M_combined, if_pos h1_0, ← e45, ← f45]
    subst hQ
    exact rt_i hx hb hr hlk (congrArg Prod.fst hc) (congrArg Prod.snd hc) hP hS d_M_combined_48
  by_cases h1_1 : x1 = 3
  · refine lv_tableIn (off := 48) (tgt := 49) hx hb d_M_combined_1 (by rw [h1_1]; decide) (by rw [h1_1]; decide) (by rw [h1_1]; decide +kernel) (by decide) ?_
    refine lv_aload_n hx hb d_M_combined_49 rfl (lv_at hl 0 rfl) ?_
    refine va_get (D := D) (ci := 3) (v := .ref a.2.2.2.2.1) (C := R_M) (T := F_M) (N := 7) hx hb hts (fun w h => wm (ui_M w h)) hown hK hP 0 rfl rfl 2 (by decide) (hts _ (wm t_113)) (fun _ h9 => h9) rfl d_M_combined_50 ?_
    refine lv_iload_n hx hb d_M_combined_53 rfl (lv_at hl 3 rfl) ?_
    refine lv_iload_n hx hb d_M_combined_54 rfl (lv_at hl 2 rfl) ?_
    refine lv_iconst (v := (-1)) hx hb d_M_combined_55 (by decide) ?_
    refine lv_ixor hx hb d_M_combined_56 ?_
    refine lv_ldc (v := 65535) hx hb hown (hts _ (wm t_247)) d_M_combined_57 ?_
    refine lv_iand hx hb d_M_combined_59 ?_
    refine lv_iconst (v := 1) hx hb d_M_combined_60 (by decide) ?_
    refine cl_V (C := R_St) (k_St_sum l D a hA u0 x3 ((x2 ^^^ (-1)) &&& 65535) 1) ⟨hx, hb, hml, hown, hts⟩ (cwV 3 hts (gi_V t_248 t_249 t_250 t_65 t_251) rfl rfl rfl (by decide +kernel) ⟨Nat.le_of_ble_eq_true rfl, Nat.le_of_ble_eq_true rfl⟩) (va_recv (q0 := 4) (ci := 2) (q := (R_St, F_St, 1)) hK hP rfl rfl) hP hK hS rfl hl.1 rfl (Nat.le_of_ble_eq_true rfl) d_M_combined_61 (nm_is (fun r61 u61 e61 f61 H locs hP hS => ?_))
    have hc : (r61, u61) = C_M_combined u0 x1 x2 x3 := by simp only [C_M_combined, if_neg h1_0, if_pos h1_1, ← e61, ← f61]
    subst hQ
    exact rt_i hx hb hr hlk (congrArg Prod.fst hc) (congrArg Prod.snd hc) hP hS d_M_combined_64
  by_cases h1_2 : x1 = 4
  · refine lv_tableIn (off := 84) (tgt := 85) hx hb d_M_combined_1 (by rw [h1_2]; decide) (by rw [h1_2]; decide) (by rw [h1_2]; decide +kernel) (by decide) ?_
    refine lv_aload_n hx hb d_M_combined_85 rfl (lv_at hl 0 rfl) ?_
    refine va_get (D := D) (ci := 3) (v := .ref a.2.2.2.2.1) (C := R_M) (T := F_M) (N := 7) hx hb hts (fun w h => wm (ui_M w h)) hown hK hP 0 rfl rfl 2 (by decide) (hts _ (wm t_113)) (fun _ h9 => h9) rfl d_M_combined_86 ?_
    refine lv_iload_n hx hb d_M_combined_89 rfl (lv_at hl 3 rfl) ?_
    refine lv_iload_n hx hb d_M_combined_90 rfl (lv_at hl 2 rfl) ?_
    refine lv_ior hx hb d_M_combined_91 ?_
    refine cl_V (C := R_St) (k_St_tested l D a hA u0 (x3 ||| x2)) ⟨hx, hb, hml, hown, hts⟩ (cwV 1 hts (gi_V t_242 t_243 t_244 t_65 t_245) rfl rfl rfl (by decide +kernel) ⟨Nat.le_of_ble_eq_true rfl, Nat.le_of_ble_eq_true rfl⟩) (va_recv (q0 := 4) (ci := 2) (q := (R_St, F_St, 1)) hK hP rfl rfl) hP hK hS rfl hl.1 rfl (Nat.le_of_ble_eq_true rfl) d_M_combined_92 (nm_is (fun r92 u92 e92 f92 H locs hP hS => ?_))
    have hc : (r92, u92) = C_M_combined u0 x1 x2 x3 := by simp only [C_M_combined, if_neg h1_0, if_neg h1_1, if_pos h1_2, ← e92, ← f92]
    subst hQ
    exact rt_i hx hb hr hlk (congrArg Prod.fst hc) (congrArg Prod.snd hc) hP hS d_M_combined_95
  by_cases h1_3 : x1 = 5
  · refine lv_tableIn (off := 64) (tgt := 65) hx hb d_M_combined_1 (by rw [h1_3]; decide) (by rw [h1_3]; decide) (by rw [h1_3]; decide +kernel) (by decide) ?_
    refine lv_aload_n hx hb d_M_combined_65 rfl (lv_at hl 0 rfl) ?_
    refine va_get (D := D) (ci := 3) (v := .ref a.2.2.2.2.1) (C := R_M) (T := F_M) (N := 7) hx hb hts (fun w h => wm (ui_M w h)) hown hK hP 0 rfl rfl 2 (by decide) (hts _ (wm t_113)) (fun _ h9 => h9) rfl d_M_combined_66 ?_
    refine lv_iload_n hx hb d_M_combined_69 rfl (lv_at hl 3 rfl) ?_
    refine lv_iload_n hx hb d_M_combined_70 rfl (lv_at hl 2 rfl) ?_
    refine lv_iconst (v := 0) hx hb d_M_combined_71 (by decide) ?_
    refine cl_V (C := R_St) (k_St_sum l D a hA u0 x3 x2 0) ⟨hx, hb, hml, hown, hts⟩ (cwV 3 hts (gi_V t_248 t_249 t_250 t_65 t_251) rfl rfl rfl (by decide +kernel) ⟨Nat.le_of_ble_eq_true rfl, Nat.le_of_ble_eq_true rfl⟩) (va_recv (q0 := 4) (ci := 2) (q := (R_St, F_St, 1)) hK hP rfl rfl) hP hK hS rfl hl.1 rfl (Nat.le_of_ble_eq_true rfl) d_M_combined_72 (nm_is (fun r72 u72 e72 f72 H locs hP hS => ?_))
    have hc : (r72, u72) = C_M_combined u0 x1 x2 x3 := by simp only [C_M_combined, if_neg h1_0, if_neg h1_1, if_neg h1_2, if_pos h1_3, ← e72, ← f72]
    subst hQ
    exact rt_i hx hb hr hlk (congrArg Prod.fst hc) (congrArg Prod.snd hc) hP hS d_M_combined_75
  by_cases h1_4 : x1 = 6
  · refine lv_tableIn (off := 75) (tgt := 76) hx hb d_M_combined_1 (by rw [h1_4]; decide) (by rw [h1_4]; decide) (by rw [h1_4]; decide +kernel) (by decide) ?_
    refine lv_aload_n hx hb d_M_combined_76 rfl (lv_at hl 0 rfl) ?_
    refine va_get (D := D) (ci := 3) (v := .ref a.2.2.2.2.1) (C := R_M) (T := F_M) (N := 7) hx hb hts (fun w h => wm (ui_M w h)) hown hK hP 0 rfl rfl 2 (by decide) (hts _ (wm t_113)) (fun _ h9 => h9) rfl d_M_combined_77 ?_
    refine lv_iload_n hx hb d_M_combined_80 rfl (lv_at hl 2 rfl) ?_
    refine cl_V (C := R_St) (k_St_tested l D a hA u0 x2) ⟨hx, hb, hml, hown, hts⟩ (cwV 1 hts (gi_V t_242 t_243 t_244 t_65 t_245) rfl rfl rfl (by decide +kernel) ⟨Nat.le_of_ble_eq_true rfl, Nat.le_of_ble_eq_true rfl⟩) (va_recv (q0 := 4) (ci := 2) (q := (R_St, F_St, 1)) hK hP rfl rfl) hP hK hS rfl hl.1 rfl (Nat.le_of_ble_eq_true rfl) d_M_combined_81 (nm_is (fun r81 u81 e81 f81 H locs hP hS => ?_))
    have hc : (r81, u81) = C_M_combined u0 x1 x2 x3 := by simp only [C_M_combined, if_neg h1_0, if_neg h1_1, if_neg h1_2, if_neg h1_3, if_pos h1_4, ← e81, ← f81]
    subst hQ
    exact rt_i hx hb hr hlk (congrArg Prod.fst hc) (congrArg Prod.snd hc) hP hS d_M_combined_84
  have n1_0 := lv_neT h1_0 (a := 2) (by decide)
  have n1_1 := lv_neT h1_1 (a := 3) (by decide)
  have n1_2 := lv_neT h1_2 (a := 4) (by decide)
  have n1_3 := lv_neT h1_3 (a := 5) (by decide)
  have n1_4 := lv_neT h1_4 (a := 6) (by decide)
  refine lv_tableOut (tgt := 85) hx hb d_M_combined_1 (by omega) (by decide) ?_
  refine lv_aload_n hx hb d_M_combined_85 rfl (lv_at hl 0 rfl) ?_
  refine va_get (D := D) (ci := 3) (v := .ref a.2.2.2.2.1) (C := R_M) (T := F_M) (N := 7) hx hb hts (fun w h => wm (ui_M w h)) hown hK hP 0 rfl rfl 2 (by decide) (hts _ (wm t_113)) (fun _ h9 => h9) rfl d_M_combined_86 ?_
  refine lv_iload_n hx hb d_M_combined_89 rfl (lv_at hl 3 rfl) ?_
  refine lv_iload_n hx hb d_M_combined_90 rfl (lv_at hl 2 rfl) ?_
  refine lv_ior hx hb d_M_combined_91 ?_
  refine cl_V (C := R_St) (k_St_tested l D a hA u0 (x3 ||| x2)) ⟨hx, hb, hml, hown, hts⟩ (cwV 1 hts (gi_V t_242 t_243 t_244 t_65 t_245) rfl rfl rfl (by decide +kernel) ⟨Nat.le_of_ble_eq_true rfl, Nat.le_of_ble_eq_true rfl⟩) (va_recv (q0 := 4) (ci := 2) (q := (R_St, F_St, 1)) hK hP rfl rfl) hP hK hS rfl hl.1 rfl (Nat.le_of_ble_eq_true rfl) d_M_combined_92 (nm_is (fun r92 u92 e92 f92 H locs hP hS => ?_))
  have hc : (r92, u92) = C_M_combined u0 x1 x2 x3 := by simp only [C_M_combined, if_neg h1_0, if_neg h1_1, if_neg h1_2, if_neg h1_3, if_neg h1_4, ← e92, ← f92]
  subst hQ
  exact rt_i hx hb hr hlk (congrArg Prod.fst hc) (congrArg Prod.snd hc) hP hS d_M_combined_95
set_option maxHeartbeats 4000000 in
set_option maxRecDepth 100000 in
theorem k_Me_store (l : Launch) (D : va_G) (a : CAd) (hA : ApC a) (u0 : CSt) (x1 : Int32) (x2 : Int32) (x3 : Int32) : MC kl (cw a) (FA a) (tyC a) l D y_Me_store b_Me_store 4 none rm_Me_store [.ref a.2.1, .int x1, .int x2, .int x3] u0 none (C_Me_store u0 x1 x2 x3) := by
  refine MC.mk (by decide) (Nat.le_of_ble_eq_true rfl) ?_
  intro p e s m below meth c ls Q args H locs hx hb hr hml hown hts hlk hl hP hK hS hQ
  have hown : s.vm.findClass R_Me = some m.cls := hown
  have hl : lv_has ls 4 [(0, .ref a.2.1), (1, .int x1), (2, .int x2), (3, .int x3)] := hl
  refine lv_iload_n hx hb d_Me_store_0 rfl (lv_at hl 3 rfl) ?_
  refine lv_iconst (v := 2) hx hb d_Me_store_1 (by decide) ?_
  refine lv_icmp_ne (tgt := 14) hx hb d_Me_store_2 (by decide) (fun h2 => ?_) (fun h2 => ?_)
  · refine lv_iload_n hx hb d_Me_store_14 rfl (lv_at hl 1 rfl) ?_
    refine cl_S (k_Me_isUpper l D a hA u0 x1) ⟨hx, hb, hml, hown, hts⟩ (va_cwS 1 hts (gi_S t_214 t_215 t_63 t_216) rfl rfl rfl (by decide +kernel) ⟨Nat.le_of_ble_eq_true rfl, Nat.le_of_ble_eq_true rfl⟩) hP hK hS rfl hl.1 rfl (Nat.le_of_ble_eq_true rfl) d_Me_store_15 (nm_i (fun r15 e15 H locs hP hS => ?_))
    refine lv_if_eq (tgt := 43) hx hb d_Me_store_18 (by decide) (fun h18 => ?_) (fun h18 => ?_)
    · refine lv_aload_n hx hb d_Me_store_43 rfl (lv_at hl 0 rfl) ?_
      refine lv_iload_n hx hb d_Me_store_44 rfl (lv_at hl 1 rfl) ?_
      refine lv_aload_n hx hb d_Me_store_45 rfl (lv_at hl 0 rfl) ?_
      refine lv_iload_n hx hb d_Me_store_46 rfl (lv_at hl 1 rfl) ?_
      refine cl_V (C := R_Me) (k_Me_word l D a hA u0 x1) ⟨hx, hb, hml, hown, hts⟩ (cwV 1 hts (gi_V t_213 t_142 t_143 t_63 t_144) rfl rfl rfl (by decide +kernel) ⟨Nat.le_of_ble_eq_true rfl, Nat.le_of_ble_eq_true rfl⟩) (va_recv (q0 := 1) (ci := 1) (q := (R_Me, F_Me, 1)) hK hP rfl rfl) hP hK hS rfl hl.1 rfl (Nat.le_of_ble_eq_true rfl) d_Me_store_47 (nm_i (fun r47 e47 H locs hP hS => ?_))
      refine lv_ldc (v := 65280) hx hb hown (hts _ (wm t_217)) d_Me_store_50 ?_
      refine lv_iand hx hb d_Me_store_52 ?_
      refine lv_iload_n hx hb d_Me_store_53 rfl (lv_at hl 2 rfl) ?_
      refine lv_bipush (v := 8) hx hb d_Me_store_54 (by decide) ?_
      refine lv_ishr hx hb d_Me_store_56 ?_
      refine lv_ior hx hb d_Me_store_57 ?_
      refine cl_V (C := R_Me) (k_Me_setWord l D a hA u0 x1 ((r47 &&& 65280) ||| (x2 >>> ((8 : Int32) &&& 31)))) ⟨hx, hb, hml, hown, hts⟩ (cwV 2 hts (gi_V t_258 t_158 t_159 t_63 t_160) rfl rfl rfl (by decide +kernel) ⟨Nat.le_of_ble_eq_true rfl, Nat.le_of_ble_eq_true rfl⟩) (va_recv (q0 := 1) (ci := 1) (q := (R_Me, F_Me, 1)) hK hP rfl rfl) hP hK hS rfl hl.1 rfl (Nat.le_of_ble_eq_true rfl) d_Me_store_58 (nm_s (fun u58 e58 H locs hP hS => ?_))
      subst hQ
      exact rt_v hx hb hr hlk (by simp only [C_Me_store, if_neg h2, ← e15, if_pos h18, ← e47, ← e58]) hP hS d_Me_store_61
    refine lv_aload_n hx hb d_Me_store_21 rfl (lv_at hl 0 rfl) ?_
    refine lv_iload_n hx hb d_Me_store_22 rfl (lv_at hl 1 rfl) ?_
    refine lv_iload_n hx hb d_Me_store_23 rfl (lv_at hl 2 rfl) ?_
    refine lv_ldc (v := 65280) hx hb hown (hts _ (wm t_217)) d_Me_store_24 ?_
    refine lv_iand hx hb d_Me_store_26 ?_
    refine lv_aload_n hx hb d_Me_store_27 rfl (lv_at hl 0 rfl) ?_
    refine lv_iload_n hx hb d_Me_store_28 rfl (lv_at hl 1 rfl) ?_
    refine cl_V (C := R_Me) (k_Me_word l D a hA u0 x1) ⟨hx, hb, hml, hown, hts⟩ (cwV 1 hts (gi_V t_213 t_142 t_143 t_63 t_144) rfl rfl rfl (by decide +kernel) ⟨Nat.le_of_ble_eq_true rfl, Nat.le_of_ble_eq_true rfl⟩) (va_recv (q0 := 1) (ci := 1) (q := (R_Me, F_Me, 1)) hK hP rfl rfl) hP hK hS rfl hl.1 rfl (Nat.le_of_ble_eq_true rfl) d_Me_store_29 (nm_i (fun r29 e29 H locs hP hS => ?_))
    refine lv_sipush (v := 255) hx hb d_Me_store_32 (by decide) ?_
    refine lv_iand hx hb d_Me_store_35 ?_
    refine lv_ior hx hb d_Me_store_36 ?_
    refine cl_V (C := R_Me) (k_Me_setWord l D a hA u0 x1 ((x2 &&& 65280) ||| (r29 &&& 255))) ⟨hx, hb, hml, hown, hts⟩ (cwV 2 hts (gi_V t_258 t_158 t_159 t_63 t_160) rfl rfl rfl (by decide +kernel) ⟨Nat.le_of_ble_eq_true rfl, Nat.le_of_ble_eq_true rfl⟩) (va_recv (q0 := 1) (ci := 1) (q := (R_Me, F_Me, 1)) hK hP rfl rfl) hP hK hS rfl hl.1 rfl (Nat.le_of_ble_eq_true rfl) d_Me_store_37 (nm_s (fun u37 e37 H locs hP hS => ?_))
    refine lv_goto (tgt := 61) hx hb d_Me_store_40 (by decide) ?_
    subst hQ
    exact rt_v hx hb hr hlk (by simp only [C_Me_store, if_neg h2, ← e15, if_neg h18, ← e29, ← e37]) hP hS d_Me_store_61
  refine lv_aload_n hx hb d_Me_store_5 rfl (lv_at hl 0 rfl) ?_
  refine lv_iload_n hx hb d_Me_store_6 rfl (lv_at hl 1 rfl) ?_
  refine lv_iload_n hx hb d_Me_store_7 rfl (lv_at hl 2 rfl) ?_
  refine cl_V (C := R_Me) (k_Me_setWord l D a hA u0 x1 x2) ⟨hx, hb, hml, hown, hts⟩ (cwV 2 hts (gi_V t_258 t_158 t_159 t_63 t_160) rfl rfl rfl (by decide +kernel) ⟨Nat.le_of_ble_eq_true rfl, Nat.le_of_ble_eq_true rfl⟩) (va_recv (q0 := 1) (ci := 1) (q := (R_Me, F_Me, 1)) hK hP rfl rfl) hP hK hS rfl hl.1 rfl (Nat.le_of_ble_eq_true rfl) d_Me_store_8 (nm_s (fun u8 e8 H locs hP hS => ?_))
  refine lv_goto (tgt := 61) hx hb d_Me_store_11 (by decide) ?_
  subst hQ
  exact rt_v hx hb hr hlk (by simp only [C_Me_store, if_pos h2, ← e8]) hP hS d_Me_store_61
set_option maxHeartbeats 4000000 in
set_option maxRecDepth 100000 in
theorem k_M_runOnTwoOperands (l : Launch) (D : va_G) (a : CAd) (hA : ApC a) (u0 : CSt) (x1 : Int32) : MC kl (cw a) (FA a) (tyC a) l D y_M_runOnTwoOperands b_M_runOnTwoOperands 8 (some .int) rm_M_runOnTwoOperands [.ref a.1, .int x1] u0 (some (.int (C_M_runOnTwoOperands u0 x1).1)) (C_M_runOnTwoOperands u0 x1).2 := by
  refine MC.mk (by decide) (Nat.le_of_ble_eq_true rfl) ?_
  intro p e s m below meth c ls Q args H locs hx hb hr hml hown hts hlk hl hP hK hS hQ
  have hown : s.vm.findClass R_M = some m.cls := hown
  have hl : lv_has ls 8 [(0, .ref a.1), (1, .int x1)] := hl
  refine lv_iload_n hx hb d_M_runOnTwoOperands_0 rfl (lv_at hl 1 rfl) ?_
  refine lv_sipush (v := 4096) hx hb d_M_runOnTwoOperands_1 (by decide) ?_
  refine lv_iand hx hb d_M_runOnTwoOperands_4 ?_
  have hJ13 : ∀ (z13 : Int32), z13 = J_M_runOnTwoOperands_13 x1 → W p l e rm_M_runOnTwoOperands s m args below meth c H locs 0 0 Q (F0 m 13 ls [.int z13]) := by
    intro z13 jz13
    refine lv_istore_n hx hb d_M_runOnTwoOperands_13 rfl hl (by decide) rfl (fun ls hl => ?_)
    have hl : lv_has ls 8 [(2, .int z13), (0, .ref a.1), (1, .int x1)] := hl
    refine lv_aload_n hx hb d_M_runOnTwoOperands_14 rfl (lv_at hl 1 rfl) ?_
    refine va_get (D := D) (ci := 3) (v := .ref a.2.1) (C := R_M) (T := F_M) (N := 7) hx hb hts (fun w h => wm (ui_M w h)) hown hK hP 0 rfl rfl 0 (by decide) (hts _ (wm t_111)) (fun _ h9 => h9) rfl d_M_runOnTwoOperands_15 ?_
    refine lv_aload_n hx hb d_M_runOnTwoOperands_18 rfl (lv_at hl 1 rfl) ?_
    refine lv_iload_n hx hb d_M_runOnTwoOperands_19 rfl (lv_at hl 2 rfl) ?_
    refine lv_iload_n hx hb d_M_runOnTwoOperands_20 rfl (lv_at hl 0 rfl) ?_
    refine cl_V (C := R_M) (k_M_operandAddress l D a hA u0 x1 z13) ⟨hx, hb, hml, hown, hts⟩ (cwV 2 hts (gi_V t_197 t_199 t_8 t_62 t_200) rfl rfl rfl (by decide +kernel) ⟨Nat.le_of_ble_eq_true rfl, Nat.le_of_ble_eq_true rfl⟩) (va_recv (q0 := 0) (ci := 3) (q := (R_M, F_M, 7)) hK hP rfl rfl) hP hK hS rfl hl.1 rfl (Nat.le_of_ble_eq_true rfl) d_M_runOnTwoOperands_21 (nm_is (fun r21 u21 e21 f21 H locs hP hS => ?_))
    refine lv_iload_n hx hb d_M_runOnTwoOperands_24 rfl (lv_at hl 0 rfl) ?_
    refine cl_V (C := R_Me) (k_Me_load l D a hA u21 r21 z13) ⟨hx, hb, hml, hown, hts⟩ (cwV 2 hts (gi_V t_209 t_210 t_211 t_63 t_212) rfl rfl rfl (by decide +kernel) ⟨Nat.le_of_ble_eq_true rfl, Nat.le_of_ble_eq_true rfl⟩) (va_recv (q0 := 1) (ci := 1) (q := (R_Me, F_Me, 1)) hK hP rfl rfl) hP hK hS rfl hl.1 rfl (Nat.le_of_ble_eq_true rfl) d_M_runOnTwoOperands_25 (nm_i (fun r25 e25 H locs hP hS => ?_))
    refine lv_istore_n hx hb d_M_runOnTwoOperands_28 rfl hl (by decide) rfl (fun ls hl => ?_)
    have hl : lv_has ls 8 [(3, .int r25), (2, .int z13), (0, .ref a.1), (1, .int x1)] := hl
    refine lv_aload_n hx hb d_M_runOnTwoOperands_29 rfl (lv_at hl 2 rfl) ?_
    refine lv_iload_n hx hb d_M_runOnTwoOperands_30 rfl (lv_at hl 3 rfl) ?_
    refine lv_bipush (v := 6) hx hb d_M_runOnTwoOperands_31 (by decide) ?_
    refine lv_ishr hx hb d_M_runOnTwoOperands_33 ?_
    refine lv_iload_n hx hb d_M_runOnTwoOperands_34 rfl (lv_at hl 1 rfl) ?_
    refine cl_V (C := R_M) (k_M_operandAddress l D a hA u21 (x1 >>> ((6 : Int32) &&& 31)) z13) ⟨hx, hb, hml, hown, hts⟩ (cwV 2 hts (gi_V t_197 t_199 t_8 t_62 t_200) rfl rfl rfl (by decide +kernel) ⟨Nat.le_of_ble_eq_true rfl, Nat.le_of_ble_eq_true rfl⟩) (va_recv (q0 := 0) (ci := 3) (q := (R_M, F_M, 7)) hK hP rfl rfl) hP hK hS rfl hl.1 rfl (Nat.le_of_ble_eq_true rfl) d_M_runOnTwoOperands_35 (nm_is (fun r35 u35 e35 f35 H locs hP hS => ?_))
    refine lv_istore hx hb d_M_runOnTwoOperands_38 hl (by decide) rfl (fun ls hl => ?_)
    have hl : lv_has ls 8 [(4, .int r35), (3, .int r25), (2, .int z13), (0, .ref a.1), (1, .int x1)] := hl
    refine lv_aload_n hx hb d_M_runOnTwoOperands_40 rfl (lv_at hl 3 rfl) ?_
    refine va_get (D := D) (ci := 3) (v := .ref a.2.1) (C := R_M) (T := F_M) (N := 7) hx hb hts (fun w h => wm (ui_M w h)) hown hK hP 0 rfl rfl 0 (by decide) (hts _ (wm t_111)) (fun _ h9 => h9) rfl d_M_runOnTwoOperands_41 ?_
    refine lv_iload hx hb d_M_runOnTwoOperands_44 (lv_at hl 0 rfl) ?_
    refine lv_iload_n hx hb d_M_runOnTwoOperands_46 rfl (lv_at hl 2 rfl) ?_
    refine cl_V (C := R_Me) (k_Me_load l D a hA u35 r35 z13) ⟨hx, hb, hml, hown, hts⟩ (cwV 2 hts (gi_V t_209 t_210 t_211 t_63 t_212) rfl rfl rfl (by decide +kernel) ⟨Nat.le_of_ble_eq_true rfl, Nat.le_of_ble_eq_true rfl⟩) (va_recv (q0 := 1) (ci := 1) (q := (R_Me, F_Me, 1)) hK hP rfl rfl) hP hK hS rfl hl.1 rfl (Nat.le_of_ble_eq_true rfl) d_M_runOnTwoOperands_47 (nm_i (fun r47 e47 H locs hP hS => ?_))
    refine lv_istore hx hb d_M_runOnTwoOperands_50 hl (by decide) rfl (fun ls hl => ?_)
    have hl : lv_has ls 8 [(5, .int r47), (4, .int r35), (3, .int r25), (2, .int z13), (0, .ref a.1), (1, .int x1)] := hl
    refine lv_iload_n hx hb d_M_runOnTwoOperands_52 rfl (lv_at hl 5 rfl) ?_
    refine lv_bipush (v := 13) hx hb d_M_runOnTwoOperands_53 (by decide) ?_
    refine lv_ishr hx hb d_M_runOnTwoOperands_55 ?_
    refine lv_istore hx hb d_M_runOnTwoOperands_56 hl (by decide) rfl (fun ls hl => ?_)
    have hl : lv_has ls 8 [(6, .int (x1 >>> ((13 : Int32) &&& 31))), (5, .int r47), (4, .int r35), (3, .int r25), (2, .int z13), (0, .ref a.1), (1, .int x1)] := hl
    refine lv_iload hx hb d_M_runOnTwoOperands_58 (lv_at hl 0 rfl) ?_
    refine lv_iconst (v := 4) hx hb d_M_runOnTwoOperands_60 (by decide) ?_
    refine lv_icmp_ne (tgt := 86) hx hb d_M_runOnTwoOperands_61 (by decide) (fun h61 => ?_) (fun h61 => ?_)
    · refine lv_aload_n hx hb d_M_runOnTwoOperands_86 rfl (lv_at hl 5 rfl) ?_
      refine lv_iload hx hb d_M_runOnTwoOperands_87 (lv_at hl 0 rfl) ?_
      refine lv_iload_n hx hb d_M_runOnTwoOperands_89 rfl (lv_at hl 3 rfl) ?_
      refine lv_iload hx hb d_M_runOnTwoOperands_90 (lv_at hl 1 rfl) ?_
      refine cl_V (C := R_M) (k_M_combined l D a hA u35 (x1 >>> ((13 : Int32) &&& 31)) r25 r47) ⟨hx, hb, hml, hown, hts⟩ (cwV 3 hts (gi_V t_238 t_240 t_11 t_62 t_241) rfl rfl rfl (by decide +kernel) ⟨Nat.le_of_ble_eq_true rfl, Nat.le_of_ble_eq_true rfl⟩) (va_recv (q0 := 0) (ci := 3) (q := (R_M, F_M, 7)) hK hP rfl rfl) hP hK hS rfl hl.1 rfl (Nat.le_of_ble_eq_true rfl) d_M_runOnTwoOperands_92 (nm_is (fun r92 u92 e92 f92 H locs hP hS => ?_))
      refine lv_istore hx hb d_M_runOnTwoOperands_95 hl (by decide) rfl (fun ls hl => ?_)
      have hl : lv_has ls 8 [(7, .int r92), (6, .int (x1 >>> ((13 : Int32) &&& 31))), (5, .int r47), (4, .int r35), (3, .int r25), (2, .int z13), (0, .ref a.1), (1, .int x1)] := hl
      refine lv_aload_n hx hb d_M_runOnTwoOperands_97 rfl (lv_at hl 6 rfl) ?_
      refine va_get (D := D) (ci := 3) (v := .ref a.2.1) (C := R_M) (T := F_M) (N := 7) hx hb hts (fun w h => wm (ui_M w h)) hown hK hP 0 rfl rfl 0 (by decide) (hts _ (wm t_111)) (fun _ h9 => h9) rfl d_M_runOnTwoOperands_98 ?_
      refine lv_iload hx hb d_M_runOnTwoOperands_101 (lv_at hl 3 rfl) ?_
      refine lv_iload hx hb d_M_runOnTwoOperands_103 (lv_at hl 0 rfl) ?_
      refine lv_iload_n hx hb d_M_runOnTwoOperands_105 rfl (lv_at hl 5 rfl) ?_
      refine cl_V (C := R_Me) (k_Me_store l D a hA u92 r35 r92 z13) ⟨hx, hb, hml, hown, hts⟩ (cwV 3 hts (gi_V t_254 t_255 t_256 t_63 t_257) rfl rfl rfl (by decide +kernel) ⟨Nat.le_of_ble_eq_true rfl, Nat.le_of_ble_eq_true rfl⟩) (va_recv (q0 := 1) (ci := 1) (q := (R_Me, F_Me, 1)) hK hP rfl rfl) hP hK hS rfl hl.1 rfl (Nat.le_of_ble_eq_true rfl) d_M_runOnTwoOperands_106 (nm_s (fun u106 e106 H locs hP hS => ?_))
      refine lv_aload_n hx hb d_M_runOnTwoOperands_109 rfl (lv_at hl 6 rfl) ?_
      refine va_get (D := D) (ci := 3) (v := .ref a.2.2.2.2.1) (C := R_M) (T := F_M) (N := 7) hx hb hts (fun w h => wm (ui_M w h)) hown hK hP 0 rfl rfl 2 (by decide) (hts _ (wm t_113)) (fun _ h9 => h9) rfl d_M_runOnTwoOperands_110 ?_
      refine lv_iload hx hb d_M_runOnTwoOperands_113 (lv_at hl 0 rfl) ?_
      refine lv_iload_n hx hb d_M_runOnTwoOperands_115 rfl (lv_at hl 5 rfl) ?_
      refine cl_V (C := R_St) (k_St_markParity l D a hA u106 r92 z13) ⟨hx, hb, hml, hown, hts⟩ (cwV 2 hts (gi_V t_224 t_225 t_226 t_65 t_227) rfl rfl rfl (by decide +kernel) ⟨Nat.le_of_ble_eq_true rfl, Nat.le_of_ble_eq_true rfl⟩) (va_recv (q0 := 4) (ci := 2) (q := (R_St, F_St, 1)) hK hP rfl rfl) hP hK hS rfl hl.1 rfl (Nat.le_of_ble_eq_true rfl) d_M_runOnTwoOperands_116 (nm_s (fun u116 e116 H locs hP hS => ?_))
      refine lv_iconst (v := 0) hx hb d_M_runOnTwoOperands_119 (by decide) ?_
      have hc : (0, u116) = C_M_runOnTwoOperands u0 x1 := by simp only [C_M_runOnTwoOperands, ← jz13, ← e21, ← f21, ← e25, ← e35, ← f35, ← e47, if_neg h61, ← e92, ← f92, ← e106, ← e116]
      subst hQ
      exact rt_i hx hb hr hlk (congrArg Prod.fst hc) (congrArg Prod.snd hc) hP hS d_M_runOnTwoOperands_120
    refine lv_aload_n hx hb d_M_runOnTwoOperands_64 rfl (lv_at hl 5 rfl) ?_
    refine va_get (D := D) (ci := 3) (v := .ref a.2.2.2.2.1) (C := R_M) (T := F_M) (N := 7) hx hb hts (fun w h => wm (ui_M w h)) hown hK hP 0 rfl rfl 2 (by decide) (hts _ (wm t_113)) (fun _ h9 => h9) rfl d_M_runOnTwoOperands_65 ?_
    refine lv_iload_n hx hb d_M_runOnTwoOperands_68 rfl (lv_at hl 3 rfl) ?_
    refine lv_iload hx hb d_M_runOnTwoOperands_69 (lv_at hl 1 rfl) ?_
    refine cl_V (C := R_St) (k_St_compare l D a hA u35 r25 r47) ⟨hx, hb, hml, hown, hts⟩ (cwV 2 hts (gi_V t_218 t_219 t_220 t_65 t_221) rfl rfl rfl (by decide +kernel) ⟨Nat.le_of_ble_eq_true rfl, Nat.le_of_ble_eq_true rfl⟩) (va_recv (q0 := 4) (ci := 2) (q := (R_St, F_St, 1)) hK hP rfl rfl) hP hK hS rfl hl.1 rfl (Nat.le_of_ble_eq_true rfl) d_M_runOnTwoOperands_71 (nm_s (fun u71 e71 H locs hP hS => ?_))
    refine lv_aload_n hx hb d_M_runOnTwoOperands_74 rfl (lv_at hl 5 rfl) ?_
    refine va_get (D := D) (ci := 3) (v := .ref a.2.2.2.2.1) (C := R_M) (T := F_M) (N := 7) hx hb hts (fun w h => wm (ui_M w h)) hown hK hP 0 rfl rfl 2 (by decide) (hts _ (wm t_113)) (fun _ h9 => h9) rfl d_M_runOnTwoOperands_75 ?_
    refine lv_iload_n hx hb d_M_runOnTwoOperands_78 rfl (lv_at hl 3 rfl) ?_
    refine lv_iload_n hx hb d_M_runOnTwoOperands_79 rfl (lv_at hl 4 rfl) ?_
    refine cl_V (C := R_St) (k_St_markParity l D a hA u71 r25 z13) ⟨hx, hb, hml, hown, hts⟩ (cwV 2 hts (gi_V t_224 t_225 t_226 t_65 t_227) rfl rfl rfl (by decide +kernel) ⟨Nat.le_of_ble_eq_true rfl, Nat.le_of_ble_eq_true rfl⟩) (va_recv (q0 := 4) (ci := 2) (q := (R_St, F_St, 1)) hK hP rfl rfl) hP hK hS rfl hl.1 rfl (Nat.le_of_ble_eq_true rfl) d_M_runOnTwoOperands_80 (nm_s (fun u80 e80 H locs hP hS => ?_))
    refine lv_goto (tgt := 119) hx hb d_M_runOnTwoOperands_83 (by decide) ?_
    refine lv_iconst (v := 0) hx hb d_M_runOnTwoOperands_119 (by decide) ?_
    have hc : (0, u80) = C_M_runOnTwoOperands u0 x1 := by simp only [C_M_runOnTwoOperands, ← jz13, ← e21, ← f21, ← e25, ← e35, ← f35, ← e47, if_pos h61, ← e71, ← e80]
    subst hQ
    exact rt_i hx hb hr hlk (congrArg Prod.fst hc) (congrArg Prod.snd hc) hP hS d_M_runOnTwoOperands_120
  refine lv_if_ne (tgt := 12) hx hb d_M_runOnTwoOperands_5 (by decide) (fun h5 => ?_) (fun h5 => ?_)
  · refine lv_iconst (v := 1) hx hb d_M_runOnTwoOperands_12 (by decide) ?_
    exact hJ13 1 (by simp only [J_M_runOnTwoOperands_13, if_neg h5])
  refine lv_iconst (v := 2) hx hb d_M_runOnTwoOperands_8 (by decide) ?_
  refine lv_goto (tgt := 13) hx hb d_M_runOnTwoOperands_9 (by decide) ?_
  exact hJ13 2 (by simp only [J_M_runOnTwoOperands_13, if_pos h5])
