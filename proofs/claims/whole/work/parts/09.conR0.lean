/-! contracts, laid by gen.py -/
set_option maxHeartbeats 4000000 in
set_option maxRecDepth 100000 in
theorem k_Mo_thrown (l : Launch) (D : va_G) (a : RAd) (hA : ApR a) (u0 : RSt) : MC kl (mw a) (FB a) (tyR a) l D y_Mo_thrown b_Mo_thrown 1 (some .int) rm_Mo_thrown [.ref a.1] u0 (some (.int (C_Mo_thrown u0))) u0 := by
  refine MC.mk (by decide) (Nat.le_of_ble_eq_true rfl) ?_
  intro p e s m below meth c ls Q args H locs hx hb hr hml hown hts hlk hl hP hK hS hQ
  have hown : s.vm.findClass R_Mo = some m.cls := hown
  have hl : lv_has ls 1 [(0, .ref a.1)] := hl
  refine lv_aload_n hx hb d_Mo_thrown_0 rfl (lv_at hl 0 rfl) ?_
  refine va_get (D := D) (ci := 4) (v := .int u0.2.2.1) (C := R_Mo) (T := F_Mo) (N := 10) hx hb hts (fun w h => wm (ui_Mo w h)) hown hK hP 0 rfl rfl 0 (by decide) (hts _ (wm t_488)) (fun _ h9 => h9) rfl d_Mo_thrown_1 ?_
  subst hQ
  exact rt_i hx hb hr hlk (by simp only [C_Mo_thrown]) rfl hP hS d_Mo_thrown_4
set_option maxHeartbeats 4000000 in
set_option maxRecDepth 100000 in
theorem k_Mo_fails (l : Launch) (D : va_G) (a : RAd) (hA : ApR a) (u0 : RSt) (x1 : Int32) (hz : x1 = 0 ∨ x1 = 1) : MC kl (mw a) (FB a) (tyR a) l D y_Mo_fails b_Mo_fails 2 (some .boolean) rm_Mo_fails [.ref a.1, .int x1] u0 (some (.int (C_Mo_fails u0 x1).1)) (C_Mo_fails u0 x1).2 := by
  refine MC.mk (by decide) (Nat.le_of_ble_eq_true rfl) ?_
  intro p e s m below meth c ls Q args H locs hx hb hr hml hown hts hlk hl hP hK hS hQ
  have hown : s.vm.findClass R_Mo = some m.cls := hown
  have hl : lv_has ls 2 [(0, .ref a.1), (1, .int x1)] := hl
  refine lv_aload_n hx hb d_Mo_fails_0 rfl (lv_at hl 0 rfl) ?_
  refine lv_iload_n hx hb d_Mo_fails_1 rfl (lv_at hl 1 rfl) ?_
  have hJ10 : ∀ (z10 : Int32), z10 = J_Mo_fails_10 x1 → W p l e rm_Mo_fails s m args below meth c H locs 0 0 Q (F0 m 10 ls [.int z10, .ref a.1]) := by
    intro z10 jz10
    refine va_put (D := D) (ci := 4) (v := .int z10) (ty := .int) (C := R_Mo) (T := F_Mo) (N := 10) hx hb hts (fun w h => wm (ui_Mo w h)) ft_Mo ft_Mo_ok fn_Mo hown hK hP (dd_R hA _) hS 0 rfl rfl 0 (by decide) (hts _ (wm t_488)) (fun _ h9 => h9) rfl (by decide +kernel) rfl rfl (Nat.le_of_ble_eq_true rfl) d_Mo_fails_10 (fun H locs hP _ hS => ?_)
    have hP : va_P D kl (mw a (u0.1, u0.2.1, z10, u0.2.2.2.1, u0.2.2.2.2.1, u0.2.2.2.2.2.1, u0.2.2.2.2.2.2.1, u0.2.2.2.2.2.2.2.1, u0.2.2.2.2.2.2.2.2.1, u0.2.2.2.2.2.2.2.2.2)) H := hP
    refine lv_iload_n hx hb d_Mo_fails_13 rfl (lv_at hl 1 rfl) ?_
    have hc : (x1, (u0.1, u0.2.1, z10, u0.2.2.2.1, u0.2.2.2.2.1, u0.2.2.2.2.2.1, u0.2.2.2.2.2.2.1, u0.2.2.2.2.2.2.2.1, u0.2.2.2.2.2.2.2.2.1, u0.2.2.2.2.2.2.2.2.2)) = C_Mo_fails u0 x1 := by simp only [C_Mo_fails, ← jz10]
    subst hQ
    exact rt_z hx hb hr hlk (nb_z hz) (congrArg Prod.fst hc) (congrArg Prod.snd hc) hP hS d_Mo_fails_14
  refine lv_if_eq (tgt := 9) hx hb d_Mo_fails_2 (by decide) (fun h2 => ?_) (fun h2 => ?_)
  · refine lv_iconst (v := 0) hx hb d_Mo_fails_9 (by decide) ?_
    exact hJ10 0 (by simp only [J_Mo_fails_10, if_pos h2])
  refine lv_iconst (v := 1) hx hb d_Mo_fails_5 (by decide) ?_
  refine lv_goto (tgt := 10) hx hb d_Mo_fails_6 (by decide) ?_
  exact hJ10 1 (by simp only [J_Mo_fails_10, if_neg h2])
set_option maxHeartbeats 4000000 in
set_option maxRecDepth 100000 in
theorem k_Mo_word (l : Launch) (D : va_G) (a : RAd) (hA : ApR a) (u0 : RSt) (x1 : Int32) : MC kl (mw a) (FB a) (tyR a) l D y_Mo_word b_Mo_word 2 (some .int) rm_Mo_word [.ref a.1, .int x1] u0 (some (.int (C_Mo_word u0 x1))) u0 := by
  refine MC.mk (by decide) (Nat.le_of_ble_eq_true rfl) ?_
  intro p e s m below meth c ls Q args H locs hx hb hr hml hown hts hlk hl hP hK hS hQ
  have hown : s.vm.findClass R_Mo = some m.cls := hown
  have hl : lv_has ls 2 [(0, .ref a.1), (1, .int x1)] := hl
  refine lv_aload_n hx hb d_Mo_word_0 rfl (lv_at hl 0 rfl) ?_
  refine va_get (D := D) (ci := 4) (v := .ref a.2.1) (C := R_Mo) (T := F_Mo) (N := 10) hx hb hts (fun w h => wm (ui_Mo w h)) hown hK hP 0 rfl rfl 1 (by decide) (hts _ (wm t_489)) (fun _ h9 => h9) rfl d_Mo_word_1 ?_
  refine lv_iload_n hx hb d_Mo_word_4 rfl (lv_at hl 1 rfl) ?_
  refine lv_iconst (v := 1) hx hb d_Mo_word_5 (by decide) ?_
  refine lv_ishr hx hb d_Mo_word_6 ?_
  refine lv_sipush (v := 511) hx hb d_Mo_word_7 (by decide) ?_
  refine lv_iand hx hb d_Mo_word_10 ?_
  refine va_iald hx hb hK hP 1 0 rfl rfl (ix_R _) d_Mo_word_11 ?_
  subst hQ
  exact rt_i hx hb hr hlk (by simp only [C_Mo_word]) rfl hP hS d_Mo_word_12
set_option maxHeartbeats 4000000 in
set_option maxRecDepth 100000 in
theorem k_Mo_setWord (l : Launch) (D : va_G) (a : RAd) (hA : ApR a) (u0 : RSt) (x1 : Int32) (x2 : Int32) : MC kl (mw a) (FB a) (tyR a) l D y_Mo_setWord b_Mo_setWord 3 none rm_Mo_setWord [.ref a.1, .int x1, .int x2] u0 none (C_Mo_setWord u0 x1 x2) := by
  refine MC.mk (by decide) (Nat.le_of_ble_eq_true rfl) ?_
  intro p e s m below meth c ls Q args H locs hx hb hr hml hown hts hlk hl hP hK hS hQ
  have hown : s.vm.findClass R_Mo = some m.cls := hown
  have hl : lv_has ls 3 [(0, .ref a.1), (1, .int x1), (2, .int x2)] := hl
  refine lv_aload_n hx hb d_Mo_setWord_0 rfl (lv_at hl 0 rfl) ?_
  refine va_get (D := D) (ci := 4) (v := .ref a.2.1) (C := R_Mo) (T := F_Mo) (N := 10) hx hb hts (fun w h => wm (ui_Mo w h)) hown hK hP 0 rfl rfl 1 (by decide) (hts _ (wm t_489)) (fun _ h9 => h9) rfl d_Mo_setWord_1 ?_
  refine lv_iload_n hx hb d_Mo_setWord_4 rfl (lv_at hl 1 rfl) ?_
  refine lv_iconst (v := 1) hx hb d_Mo_setWord_5 (by decide) ?_
  refine lv_ishr hx hb d_Mo_setWord_6 ?_
  refine lv_sipush (v := 511) hx hb d_Mo_setWord_7 (by decide) ?_
  refine lv_iand hx hb d_Mo_setWord_10 ?_
  refine lv_iload_n hx hb d_Mo_setWord_11 rfl (lv_at hl 2 rfl) ?_
  refine lv_ldc (v := 65535) hx hb hown (hts _ (wm t_545)) d_Mo_setWord_12 ?_
  refine lv_iand hx hb d_Mo_setWord_14 ?_
  refine va_iast hx hb hK hP (dd_R hA _) hS 1 0 rfl rfl (ix_R _) d_Mo_setWord_15 (fun H locs hP _ hS => ?_)
  have hP : va_P D kl (mw a ((upd u0.1 ((x1 >>> ((1 : Int32) &&& 31)) &&& 511).toNatClampNeg (x2 &&& 65535)), u0.2.1, u0.2.2.1, u0.2.2.2.1, u0.2.2.2.2.1, u0.2.2.2.2.2.1, u0.2.2.2.2.2.2.1, u0.2.2.2.2.2.2.2.1, u0.2.2.2.2.2.2.2.2.1, u0.2.2.2.2.2.2.2.2.2)) H := hP
  subst hQ
  exact rt_v hx hb hr hlk (by simp only [C_Mo_setWord]) hP hS d_Mo_setWord_16
set_option maxHeartbeats 4000000 in
set_option maxRecDepth 100000 in
theorem k_Mo_register (l : Launch) (D : va_G) (a : RAd) (hA : ApR a) (u0 : RSt) (x1 : Int32) : MC kl (mw a) (FB a) (tyR a) l D y_Mo_register b_Mo_register 2 (some .int) rm_Mo_register [.ref a.1, .int x1] u0 (some (.int (C_Mo_register u0 x1))) u0 := by
  refine MC.mk (by decide) (Nat.le_of_ble_eq_true rfl) ?_
  intro p e s m below meth c ls Q args H locs hx hb hr hml hown hts hlk hl hP hK hS hQ
  have hown : s.vm.findClass R_Mo = some m.cls := hown
  have hl : lv_has ls 2 [(0, .ref a.1), (1, .int x1)] := hl
  refine lv_aload_n hx hb d_Mo_register_0 rfl (lv_at hl 0 rfl) ?_
  refine lv_aload_n hx hb d_Mo_register_1 rfl (lv_at hl 0 rfl) ?_
  refine va_get (D := D) (ci := 4) (v := .int u0.2.2.2.1) (C := R_Mo) (T := F_Mo) (N := 10) hx hb hts (fun w h => wm (ui_Mo w h)) hown hK hP 0 rfl rfl 3 (by decide) (hts _ (wm t_491)) (fun _ h9 => h9) rfl d_Mo_register_2 ?_
  refine lv_iconst (v := 2) hx hb d_Mo_register_5 (by decide) ?_
  refine lv_iload_n hx hb d_Mo_register_6 rfl (lv_at hl 1 rfl) ?_
  refine lv_imul hx hb d_Mo_register_7 ?_
  refine lv_iadd hx hb d_Mo_register_8 ?_
  refine cl_V (C := R_Mo) (k_Mo_word l D a hA u0 (u0.2.2.2.1 + (2 * x1))) ⟨hx, hb, hml, hown, hts⟩ (cwV 1 hts (gi_V t_533 t_535 t_33 t_66 t_536) rfl rfl rfl (by decide +kernel) ⟨Nat.le_of_ble_eq_true rfl, Nat.le_of_ble_eq_true rfl⟩) (va_recv (q0 := 0) (ci := 4) (q := (R_Mo, F_Mo, 10)) hK hP rfl rfl) hP hK hS rfl hl.1 rfl (Nat.le_of_ble_eq_true rfl) d_Mo_register_9 (nm_i (fun r9 e9 H locs hP hS => ?_))
  subst hQ
  exact rt_i hx hb hr hlk (by simp only [C_Mo_register, ← e9]) rfl hP hS d_Mo_register_12
set_option maxHeartbeats 4000000 in
set_option maxRecDepth 100000 in
theorem k_Mo_setRegister (l : Launch) (D : va_G) (a : RAd) (hA : ApR a) (u0 : RSt) (x1 : Int32) (x2 : Int32) : MC kl (mw a) (FB a) (tyR a) l D y_Mo_setRegister b_Mo_setRegister 3 none rm_Mo_setRegister [.ref a.1, .int x1, .int x2] u0 none (C_Mo_setRegister u0 x1 x2) := by
  refine MC.mk (by decide) (Nat.le_of_ble_eq_true rfl) ?_
  intro p e s m below meth c ls Q args H locs hx hb hr hml hown hts hlk hl hP hK hS hQ
  have hown : s.vm.findClass R_Mo = some m.cls := hown
  have hl : lv_has ls 3 [(0, .ref a.1), (1, .int x1), (2, .int x2)] := hl
  refine lv_aload_n hx hb d_Mo_setRegister_0 rfl (lv_at hl 0 rfl) ?_
  refine lv_aload_n hx hb d_Mo_setRegister_1 rfl (lv_at hl 0 rfl) ?_
  refine va_get (D := D) (ci := 4) (v := .int u0.2.2.2.1) (C := R_Mo) (T := F_Mo) (N := 10) hx hb hts (fun w h => wm (ui_Mo w h)) hown hK hP 0 rfl rfl 3 (by decide) (hts _ (wm t_491)) (fun _ h9 => h9) rfl d_Mo_setRegister_2 ?_
  refine lv_iconst (v := 2) hx hb d_Mo_setRegister_5 (by decide) ?_
  refine lv_iload_n hx hb d_Mo_setRegister_6 rfl (lv_at hl 1 rfl) ?_
  refine lv_imul hx hb d_Mo_setRegister_7 ?_
  refine lv_iadd hx hb d_Mo_setRegister_8 ?_
  refine lv_iload_n hx hb d_Mo_setRegister_9 rfl (lv_at hl 2 rfl) ?_
  refine cl_V (C := R_Mo) (k_Mo_setWord l D a hA u0 (u0.2.2.2.1 + (2 * x1)) x2) ⟨hx, hb, hml, hown, hts⟩ (cwV 2 hts (gi_V t_541 t_543 t_35 t_66 t_544) rfl rfl rfl (by decide +kernel) ⟨Nat.le_of_ble_eq_true rfl, Nat.le_of_ble_eq_true rfl⟩) (va_recv (q0 := 0) (ci := 4) (q := (R_Mo, F_Mo, 10)) hK hP rfl rfl) hP hK hS rfl hl.1 rfl (Nat.le_of_ble_eq_true rfl) d_Mo_setRegister_10 (nm_s (fun u10 e10 H locs hP hS => ?_))
  subst hQ
  exact rt_v hx hb hr hlk (by simp only [C_Mo_setRegister, ← e10]) hP hS d_Mo_setRegister_13
set_option maxHeartbeats 4000000 in
set_option maxRecDepth 100000 in
theorem k_Mo_next (l : Launch) (D : va_G) (a : RAd) (hA : ApR a) (u0 : RSt) : MC kl (mw a) (FB a) (tyR a) l D y_Mo_next b_Mo_next 2 (some .int) rm_Mo_next [.ref a.1] u0 (some (.int (C_Mo_next u0).1)) (C_Mo_next u0).2 := by
  refine MC.mk (by decide) (Nat.le_of_ble_eq_true rfl) ?_
  intro p e s m below meth c ls Q args H locs hx hb hr hml hown hts hlk hl hP hK hS hQ
  have hown : s.vm.findClass R_Mo = some m.cls := hown
  have hl : lv_has ls 2 [(0, .ref a.1)] := hl
  refine lv_aload_n hx hb d_Mo_next_0 rfl (lv_at hl 0 rfl) ?_
  refine lv_aload_n hx hb d_Mo_next_1 rfl (lv_at hl 0 rfl) ?_
  refine va_get (D := D) (ci := 4) (v := .int u0.2.2.2.2.1) (C := R_Mo) (T := F_Mo) (N := 10) hx hb hts (fun w h => wm (ui_Mo w h)) hown hK hP 0 rfl rfl 4 (by decide) (hts _ (wm t_492)) (fun _ h9 => h9) rfl d_Mo_next_2 ?_
  refine cl_V (C := R_Mo) (k_Mo_word l D a hA u0 u0.2.2.2.2.1) ⟨hx, hb, hml, hown, hts⟩ (cwV 1 hts (gi_V t_533 t_535 t_33 t_66 t_536) rfl rfl rfl (by decide +kernel) ⟨Nat.le_of_ble_eq_true rfl, Nat.le_of_ble_eq_true rfl⟩) (va_recv (q0 := 0) (ci := 4) (q := (R_Mo, F_Mo, 10)) hK hP rfl rfl) hP hK hS rfl hl.1 rfl (Nat.le_of_ble_eq_true rfl) d_Mo_next_5 (nm_i (fun r5 e5 H locs hP hS => ?_))
  refine lv_istore_n hx hb d_Mo_next_8 rfl hl (by decide) rfl (fun ls hl => ?_)
  have hl : lv_has ls 2 [(1, .int r5), (0, .ref a.1)] := hl
  refine lv_aload_n hx hb d_Mo_next_9 rfl (lv_at hl 1 rfl) ?_
  refine lv_aload_n hx hb d_Mo_next_10 rfl (lv_at hl 1 rfl) ?_
  refine va_get (D := D) (ci := 4) (v := .int u0.2.2.2.2.1) (C := R_Mo) (T := F_Mo) (N := 10) hx hb hts (fun w h => wm (ui_Mo w h)) hown hK hP 0 rfl rfl 4 (by decide) (hts _ (wm t_492)) (fun _ h9 => h9) rfl d_Mo_next_11 ?_
  refine lv_iconst (v := 2) hx hb d_Mo_next_14 (by decide) ?_
  refine lv_iadd hx hb d_Mo_next_15 ?_
  refine lv_sipush (v := 1022) hx hb d_Mo_next_16 (by decide) ?_
  refine lv_iand hx hb d_Mo_next_19 ?_
  refine va_put (D := D) (ci := 4) (v := .int ((u0.2.2.2.2.1 + 2) &&& 1022)) (ty := .int) (C := R_Mo) (T := F_Mo) (N := 10) hx hb hts (fun w h => wm (ui_Mo w h)) ft_Mo ft_Mo_ok fn_Mo hown hK hP (dd_R hA _) hS 0 rfl rfl 4 (by decide) (hts _ (wm t_492)) (fun _ h9 => h9) rfl (by decide +kernel) rfl rfl (Nat.le_of_ble_eq_true rfl) d_Mo_next_20 (fun H locs hP _ hS => ?_)
  have hP : va_P D kl (mw a (u0.1, u0.2.1, u0.2.2.1, u0.2.2.2.1, ((u0.2.2.2.2.1 + 2) &&& 1022), u0.2.2.2.2.2.1, u0.2.2.2.2.2.2.1, u0.2.2.2.2.2.2.2.1, u0.2.2.2.2.2.2.2.2.1, u0.2.2.2.2.2.2.2.2.2)) H := hP
  refine lv_iload_n hx hb d_Mo_next_23 rfl (lv_at hl 0 rfl) ?_
  have hc : (r5, (u0.1, u0.2.1, u0.2.2.1, u0.2.2.2.1, ((u0.2.2.2.2.1 + 2) &&& 1022), u0.2.2.2.2.2.1, u0.2.2.2.2.2.2.1, u0.2.2.2.2.2.2.2.1, u0.2.2.2.2.2.2.2.2.1, u0.2.2.2.2.2.2.2.2.2)) = C_Mo_next u0 := by simp only [C_Mo_next, ← e5]
  subst hQ
  exact rt_i hx hb hr hlk (congrArg Prod.fst hc) (congrArg Prod.snd hc) hP hS d_Mo_next_24
set_option maxHeartbeats 4000000 in
set_option maxRecDepth 100000 in
theorem k_Mo_value (l : Launch) (D : va_G) (a : RAd) (hA : ApR a) (u0 : RSt) (x1 : Int32) (x2 : Int32) : MC kl (mw a) (FB a) (tyR a) l D y_Mo_value b_Mo_value 4 (some .int) rm_Mo_value [.ref a.1, .int x1, .int x2] u0 (some (.int (C_Mo_value u0 x1 x2))) u0 := by
  refine MC.mk (by decide) (Nat.le_of_ble_eq_true rfl) ?_
  intro p e s m below meth c ls Q args H locs hx hb hr hml hown hts hlk hl hP hK hS hQ
  have hown : s.vm.findClass R_Mo = some m.cls := hown
  have hl : lv_has ls 4 [(0, .ref a.1), (1, .int x1), (2, .int x2)] := hl
  refine lv_aload_n hx hb d_Mo_value_0 rfl (lv_at hl 0 rfl) ?_
  refine lv_iload_n hx hb d_Mo_value_1 rfl (lv_at hl 1 rfl) ?_
  refine cl_V (C := R_Mo) (k_Mo_word l D a hA u0 x1) ⟨hx, hb, hml, hown, hts⟩ (cwV 1 hts (gi_V t_533 t_535 t_33 t_66 t_536) rfl rfl rfl (by decide +kernel) ⟨Nat.le_of_ble_eq_true rfl, Nat.le_of_ble_eq_true rfl⟩) (va_recv (q0 := 0) (ci := 4) (q := (R_Mo, F_Mo, 10)) hK hP rfl rfl) hP hK hS rfl hl.1 rfl (Nat.le_of_ble_eq_true rfl) d_Mo_value_2 (nm_i (fun r2 e2 H locs hP hS => ?_))
  refine lv_istore_n hx hb d_Mo_value_5 rfl hl (by decide) rfl (fun ls hl => ?_)
  have hl : lv_has ls 4 [(3, .int r2), (0, .ref a.1), (1, .int x1), (2, .int x2)] := hl
  refine lv_iload_n hx hb d_Mo_value_6 rfl (lv_at hl 3 rfl) ?_
  refine lv_if_ne (tgt := 14) hx hb d_Mo_value_7 (by decide) (fun h7 => ?_) (fun h7 => ?_)
  · refine lv_iload_n hx hb d_Mo_value_14 rfl (lv_at hl 2 rfl) ?_
    refine lv_iconst (v := 1) hx hb d_Mo_value_15 (by decide) ?_
    refine lv_iand hx hb d_Mo_value_16 ?_
    refine lv_if_ne (tgt := 27) hx hb d_Mo_value_17 (by decide) (fun h17 => ?_) (fun h17 => ?_)
    · refine lv_iload_n hx hb d_Mo_value_27 rfl (lv_at hl 0 rfl) ?_
      refine lv_bipush (v := 8) hx hb d_Mo_value_28 (by decide) ?_
      refine lv_ishl hx hb d_Mo_value_30 ?_
      refine lv_ldc (v := 65280) hx hb hown (hts _ (wm t_584)) d_Mo_value_31 ?_
      refine lv_iand hx hb d_Mo_value_33 ?_
      subst hQ
      exact rt_i hx hb hr hlk (by simp only [C_Mo_value, ← e2, if_neg h7, if_neg h17]) rfl hP hS d_Mo_value_34
    refine lv_iload_n hx hb d_Mo_value_20 rfl (lv_at hl 0 rfl) ?_
    refine lv_ldc (v := 65280) hx hb hown (hts _ (wm t_584)) d_Mo_value_21 ?_
    refine lv_iand hx hb d_Mo_value_23 ?_
    refine lv_goto (tgt := 34) hx hb d_Mo_value_24 (by decide) ?_
    subst hQ
    exact rt_i hx hb hr hlk (by simp only [C_Mo_value, ← e2, if_neg h7, if_pos h17]) rfl hP hS d_Mo_value_34
  refine lv_iload_n hx hb d_Mo_value_10 rfl (lv_at hl 0 rfl) ?_
  refine lv_goto (tgt := 34) hx hb d_Mo_value_11 (by decide) ?_
  subst hQ
  exact rt_i hx hb hr hlk (by simp only [C_Mo_value, ← e2, if_pos h7]) rfl hP hS d_Mo_value_34
set_option maxHeartbeats 4000000 in
set_option maxRecDepth 100000 in
theorem k_Mo_store (l : Launch) (D : va_G) (a : RAd) (hA : ApR a) (u0 : RSt) (x1 : Int32) (x2 : Int32) (x3 : Int32) : MC kl (mw a) (FB a) (tyR a) l D y_Mo_store b_Mo_store 5 none rm_Mo_store [.ref a.1, .int x1, .int x2, .int x3] u0 none (C_Mo_store u0 x1 x2 x3) := by
  refine MC.mk (by decide) (Nat.le_of_ble_eq_true rfl) ?_
  intro p e s m below meth c ls Q args H locs hx hb hr hml hown hts hlk hl hP hK hS hQ
  have hown : s.vm.findClass R_Mo = some m.cls := hown
  have hl : lv_has ls 5 [(0, .ref a.1), (1, .int x1), (2, .int x2), (3, .int x3)] := hl
  refine lv_aload_n hx hb d_Mo_store_0 rfl (lv_at hl 0 rfl) ?_
  refine lv_iload_n hx hb d_Mo_store_1 rfl (lv_at hl 1 rfl) ?_
  refine cl_V (C := R_Mo) (k_Mo_word l D a hA u0 x1) ⟨hx, hb, hml, hown, hts⟩ (cwV 1 hts (gi_V t_533 t_535 t_33 t_66 t_536) rfl rfl rfl (by decide +kernel) ⟨Nat.le_of_ble_eq_true rfl, Nat.le_of_ble_eq_true rfl⟩) (va_recv (q0 := 0) (ci := 4) (q := (R_Mo, F_Mo, 10)) hK hP rfl rfl) hP hK hS rfl hl.1 rfl (Nat.le_of_ble_eq_true rfl) d_Mo_store_2 (nm_i (fun r2 e2 H locs hP hS => ?_))
  refine lv_istore hx hb d_Mo_store_5 hl (by decide) rfl (fun ls hl => ?_)
  have hl : lv_has ls 5 [(4, .int r2), (0, .ref a.1), (1, .int x1), (2, .int x2), (3, .int x3)] := hl
  refine lv_aload_n hx hb d_Mo_store_7 rfl (lv_at hl 1 rfl) ?_
  refine lv_iload_n hx hb d_Mo_store_8 rfl (lv_at hl 2 rfl) ?_
  refine lv_iload_n hx hb d_Mo_store_9 rfl (lv_at hl 4 rfl) ?_
  have hJ51 : ∀ (z51 : Int32), z51 = J_Mo_store_51 x1 x2 x3 r2 → W p l e rm_Mo_store s m args below meth c H locs 0 0 Q (F0 m 51 ls [.int z51, .int x1, .ref a.1]) := by
    intro z51 jz51
    refine cl_V (C := R_Mo) (k_Mo_setWord l D a hA u0 x1 z51) ⟨hx, hb, hml, hown, hts⟩ (cwV 2 hts (gi_V t_541 t_543 t_35 t_66 t_544) rfl rfl rfl (by decide +kernel) ⟨Nat.le_of_ble_eq_true rfl, Nat.le_of_ble_eq_true rfl⟩) (va_recv (q0 := 0) (ci := 4) (q := (R_Mo, F_Mo, 10)) hK hP rfl rfl) hP hK hS rfl hl.1 rfl (Nat.le_of_ble_eq_true rfl) d_Mo_store_51 (nm_s (fun u51 e51 H locs hP hS => ?_))
    subst hQ
    exact rt_v hx hb hr hlk (by simp only [C_Mo_store, ← e2, ← jz51, ← e51]) hP hS d_Mo_store_54
  refine lv_if_ne (tgt := 17) hx hb d_Mo_store_10 (by decide) (fun h10 => ?_) (fun h10 => ?_)
  · refine lv_iload_n hx hb d_Mo_store_17 rfl (lv_at hl 2 rfl) ?_
    refine lv_iconst (v := 1) hx hb d_Mo_store_18 (by decide) ?_
    refine lv_iand hx hb d_Mo_store_19 ?_
    refine lv_if_ne (tgt := 37) hx hb d_Mo_store_20 (by decide) (fun h20 => ?_) (fun h20 => ?_)
    · refine lv_iload hx hb d_Mo_store_37 (lv_at hl 0 rfl) ?_
      refine lv_ldc (v := 65280) hx hb hown (hts _ (wm t_584)) d_Mo_store_39 ?_
      refine lv_iand hx hb d_Mo_store_41 ?_
      refine lv_iload_n hx hb d_Mo_store_42 rfl (lv_at hl 3 rfl) ?_
      refine lv_bipush (v := 8) hx hb d_Mo_store_43 (by decide) ?_
      refine lv_ishr hx hb d_Mo_store_45 ?_
      refine lv_sipush (v := 255) hx hb d_Mo_store_46 (by decide) ?_
      refine lv_iand hx hb d_Mo_store_49 ?_
      refine lv_ior hx hb d_Mo_store_50 ?_
      exact hJ51 ((r2 &&& 65280) ||| ((x2 >>> ((8 : Int32) &&& 31)) &&& 255)) (by simp only [J_Mo_store_51, if_neg h10, if_neg h20])
    refine lv_iload hx hb d_Mo_store_23 (lv_at hl 0 rfl) ?_
    refine lv_sipush (v := 255) hx hb d_Mo_store_25 (by decide) ?_
    refine lv_iand hx hb d_Mo_store_28 ?_
    refine lv_iload_n hx hb d_Mo_store_29 rfl (lv_at hl 3 rfl) ?_
    refine lv_ldc (v := 65280) hx hb hown (hts _ (wm t_584)) d_Mo_store_30 ?_
    refine lv_iand hx hb d_Mo_store_32 ?_
    refine lv_ior hx hb d_Mo_store_33 ?_
    refine lv_goto (tgt := 51) hx hb d_Mo_store_34 (by decide) ?_
    exact hJ51 ((r2 &&& 255) ||| (x2 &&& 65280)) (by simp only [J_Mo_store_51, if_neg h10, if_pos h20])
  refine lv_iload_n hx hb d_Mo_store_13 rfl (lv_at hl 3 rfl) ?_
  refine lv_goto (tgt := 51) hx hb d_Mo_store_14 (by decide) ?_
  exact hJ51 x2 (by simp only [J_Mo_store_51, if_pos h10])
set_option maxHeartbeats 4000000 in
set_option maxRecDepth 100000 in
theorem k_Mo_address (l : Launch) (D : va_G) (a : RAd) (hA : ApR a) (u0 : RSt) (x1 : Int32) (x2 : Int32) : MC kl (mw a) (FB a) (tyR a) l D y_Mo_address b_Mo_address 6 (some .int) rm_Mo_address [.ref a.1, .int x1, .int x2] u0 (some (.int (C_Mo_address u0 x1 x2).1)) (C_Mo_address u0 x1 x2).2 := by
  refine MC.mk (by decide) (Nat.le_of_ble_eq_true rfl) ?_
  intro p e s m below meth c ls Q args H locs hx hb hr hml hown hts hlk hl hP hK hS hQ
  have hown : s.vm.findClass R_Mo = some m.cls := hown
  have hl : lv_has ls 6 [(0, .ref a.1), (1, .int x1), (2, .int x2)] := hl
  refine lv_iload_n hx hb d_Mo_address_0 rfl (lv_at hl 1 rfl) ?_
  refine lv_iconst (v := 4) hx hb d_Mo_address_1 (by decide) ?_
  refine lv_ishr hx hb d_Mo_address_2 ?_
  refine lv_iconst (v := 3) hx hb d_Mo_address_3 (by decide) ?_
  refine lv_iand hx hb d_Mo_address_4 ?_
  refine lv_istore_n hx hb d_Mo_address_5 rfl hl (by decide) rfl (fun ls hl => ?_)
  have hl : lv_has ls 6 [(3, .int ((x1 >>> ((4 : Int32) &&& 31)) &&& 3)), (0, .ref a.1), (1, .int x1), (2, .int x2)] := hl
  refine lv_iload_n hx hb d_Mo_address_6 rfl (lv_at hl 2 rfl) ?_
  refine lv_bipush (v := 15) hx hb d_Mo_address_7 (by decide) ?_
  refine lv_iand hx hb d_Mo_address_9 ?_
  refine lv_istore hx hb d_Mo_address_10 hl (by decide) rfl (fun ls hl => ?_)
  have hl : lv_has ls 6 [(4, .int (x1 &&& 15)), (3, .int ((x1 >>> ((4 : Int32) &&& 31)) &&& 3)), (0, .ref a.1), (1, .int x1), (2, .int x2)] := hl
  refine lv_iload_n hx hb d_Mo_address_12 rfl (lv_at hl 1 rfl) ?_
  refine lv_if_ne (tgt := 30) hx hb d_Mo_address_13 (by decide) (fun h13 => ?_) (fun h13 => ?_)
  · refine lv_iload_n hx hb d_Mo_address_30 rfl (lv_at hl 1 rfl) ?_
    refine lv_iconst (v := 1) hx hb d_Mo_address_31 (by decide) ?_
    refine lv_icmp_ne (tgt := 46) hx hb d_Mo_address_32 (by decide) (fun h32 => ?_) (fun h32 => ?_)
    · refine lv_iload_n hx hb d_Mo_address_46 rfl (lv_at hl 1 rfl) ?_
      refine lv_iconst (v := 2) hx hb d_Mo_address_47 (by decide) ?_
      refine lv_icmp_ne (tgt := 81) hx hb d_Mo_address_48 (by decide) (fun h48 => ?_) (fun h48 => ?_)
      · refine lv_aload_n hx hb d_Mo_address_81 rfl (lv_at hl 2 rfl) ?_
        refine lv_iload hx hb d_Mo_address_82 (lv_at hl 0 rfl) ?_
        refine cl_V (C := R_Mo) (k_Mo_register l D a hA u0 (x1 &&& 15)) ⟨hx, hb, hml, hown, hts⟩ (cwV 1 hts (gi_V t_568 t_570 t_40 t_66 t_571) rfl rfl rfl (by decide +kernel) ⟨Nat.le_of_ble_eq_true rfl, Nat.le_of_ble_eq_true rfl⟩) (va_recv (q0 := 0) (ci := 4) (q := (R_Mo, F_Mo, 10)) hK hP rfl rfl) hP hK hS rfl hl.1 rfl (Nat.le_of_ble_eq_true rfl) d_Mo_address_84 (nm_i (fun r84 e84 H locs hP hS => ?_))
        refine lv_istore hx hb d_Mo_address_87 hl (by decide) rfl (fun ls hl => ?_)
        have hl : lv_has ls 6 [(5, .int r84), (4, .int (x1 &&& 15)), (3, .int ((x1 >>> ((4 : Int32) &&& 31)) &&& 3)), (0, .ref a.1), (1, .int x1), (2, .int x2)] := hl
        refine lv_aload_n hx hb d_Mo_address_89 rfl (lv_at hl 3 rfl) ?_
        refine lv_aload_n hx hb d_Mo_address_90 rfl (lv_at hl 3 rfl) ?_
        refine va_get (D := D) (ci := 4) (v := .int u0.2.2.2.1) (C := R_Mo) (T := F_Mo) (N := 10) hx hb hts (fun w h => wm (ui_Mo w h)) hown hK hP 0 rfl rfl 3 (by decide) (hts _ (wm t_491)) (fun _ h9 => h9) rfl d_Mo_address_91 ?_
        refine lv_iconst (v := 2) hx hb d_Mo_address_94 (by decide) ?_
        refine lv_iload hx hb d_Mo_address_95 (lv_at hl 1 rfl) ?_
        refine lv_imul hx hb d_Mo_address_97 ?_
        refine lv_iadd hx hb d_Mo_address_98 ?_
        refine va_put (D := D) (ci := 4) (v := .int (u0.2.2.2.1 + (2 * (x1 &&& 15)))) (ty := .int) (C := R_Mo) (T := F_Mo) (N := 10) hx hb hts (fun w h => wm (ui_Mo w h)) ft_Mo ft_Mo_ok fn_Mo hown hK hP (dd_R hA _) hS 0 rfl rfl 8 (by decide) (hts _ (wm t_496)) (fun _ h9 => h9) rfl (by decide +kernel) rfl rfl (Nat.le_of_ble_eq_true rfl) d_Mo_address_99 (fun H locs hP _ hS => ?_)
        have hP : va_P D kl (mw a (u0.1, u0.2.1, u0.2.2.1, u0.2.2.2.1, u0.2.2.2.2.1, u0.2.2.2.2.2.1, u0.2.2.2.2.2.2.1, u0.2.2.2.2.2.2.2.1, (u0.2.2.2.1 + (2 * (x1 &&& 15))), u0.2.2.2.2.2.2.2.2.2)) H := hP
        refine lv_aload_n hx hb d_Mo_address_102 rfl (lv_at hl 3 rfl) ?_
        refine lv_iload hx hb d_Mo_address_103 (lv_at hl 0 rfl) ?_
        refine va_put (D := D) (ci := 4) (v := .int r84) (ty := .int) (C := R_Mo) (T := F_Mo) (N := 10) hx hb hts (fun w h => wm (ui_Mo w h)) ft_Mo ft_Mo_ok fn_Mo hown hK hP (dd_R hA _) hS 0 rfl rfl 9 (by decide) (hts _ (wm t_497)) (fun _ h9 => h9) rfl (by decide +kernel) rfl rfl (Nat.le_of_ble_eq_true rfl) d_Mo_address_105 (fun H locs hP _ hS => ?_)
        have hP : va_P D kl (mw a (u0.1, u0.2.1, u0.2.2.1, u0.2.2.2.1, u0.2.2.2.2.1, u0.2.2.2.2.2.1, u0.2.2.2.2.2.2.1, u0.2.2.2.2.2.2.2.1, (u0.2.2.2.1 + (2 * (x1 &&& 15))), r84)) H := hP
        refine lv_aload_n hx hb d_Mo_address_108 rfl (lv_at hl 3 rfl) ?_
        refine lv_iload hx hb d_Mo_address_109 (lv_at hl 1 rfl) ?_
        refine lv_iload hx hb d_Mo_address_111 (lv_at hl 0 rfl) ?_
        refine lv_iload_n hx hb d_Mo_address_113 rfl (lv_at hl 5 rfl) ?_
        have hJ122 : ∀ (z122 : Int32), z122 = J_Mo_address_122 x2 → W p l e rm_Mo_address s m args below meth c H locs 0 0 Q (F0 m 122 ls [.int z122, .int r84, .int (x1 &&& 15), .ref a.1]) := by
          intro z122 jz122
          refine lv_iadd hx hb d_Mo_address_122 ?_
          refine cl_V (C := R_Mo) (k_Mo_setRegister l D a hA (u0.1, u0.2.1, u0.2.2.1, u0.2.2.2.1, u0.2.2.2.2.1, u0.2.2.2.2.2.1, u0.2.2.2.2.2.2.1, u0.2.2.2.2.2.2.2.1, (u0.2.2.2.1 + (2 * (x1 &&& 15))), r84) (x1 &&& 15) (r84 + z122)) ⟨hx, hb, hml, hown, hts⟩ (cwV 2 hts (gi_V t_537 t_539 t_34 t_66 t_540) rfl rfl rfl (by decide +kernel) ⟨Nat.le_of_ble_eq_true rfl, Nat.le_of_ble_eq_true rfl⟩) (va_recv (q0 := 0) (ci := 4) (q := (R_Mo, F_Mo, 10)) hK hP rfl rfl) hP hK hS rfl hl.1 rfl (Nat.le_of_ble_eq_true rfl) d_Mo_address_123 (nm_s (fun u123 e123 H locs hP hS => ?_))
          refine lv_iload hx hb d_Mo_address_126 (lv_at hl 0 rfl) ?_
          refine lv_sipush (v := 1023) hx hb d_Mo_address_128 (by decide) ?_
          refine lv_iand hx hb d_Mo_address_131 ?_
          have hc : ((r84 &&& 1023), u123) = C_Mo_address u0 x1 x2 := by simp only [C_Mo_address, if_neg h13, if_neg h32, if_neg h48, ← e84, ← jz122, ← e123]
          subst hQ
          exact rt_i hx hb hr hlk (congrArg Prod.fst hc) (congrArg Prod.snd hc) hP hS d_Mo_address_132
        refine lv_if_eq (tgt := 121) hx hb d_Mo_address_114 (by decide) (fun h114 => ?_) (fun h114 => ?_)
        · refine lv_iconst (v := 2) hx hb d_Mo_address_121 (by decide) ?_
          exact hJ122 2 (by simp only [J_Mo_address_122, if_pos h114])
        refine lv_iconst (v := 1) hx hb d_Mo_address_117 (by decide) ?_
        refine lv_goto (tgt := 122) hx hb d_Mo_address_118 (by decide) ?_
        exact hJ122 1 (by simp only [J_Mo_address_122, if_neg h114])
      refine lv_aload_n hx hb d_Mo_address_51 rfl (lv_at hl 2 rfl) ?_
      refine cl_V (C := R_Mo) (k_Mo_next l D a hA u0) ⟨hx, hb, hml, hown, hts⟩ (cwV 0 hts (gi_V t_554 t_556 t_38 t_66 t_557) rfl rfl rfl (by decide +kernel) ⟨Nat.le_of_ble_eq_true rfl, Nat.le_of_ble_eq_true rfl⟩) (va_recv (q0 := 0) (ci := 4) (q := (R_Mo, F_Mo, 10)) hK hP rfl rfl) hP hK hS rfl hl.1 rfl (Nat.le_of_ble_eq_true rfl) d_Mo_address_52 (nm_is (fun r52 u52 e52 f52 H locs hP hS => ?_))
      refine lv_istore hx hb d_Mo_address_55 hl (by decide) rfl (fun ls hl => ?_)
      have hl : lv_has ls 6 [(5, .int r52), (4, .int (x1 &&& 15)), (3, .int ((x1 >>> ((4 : Int32) &&& 31)) &&& 3)), (0, .ref a.1), (1, .int x1), (2, .int x2)] := hl
      refine lv_iload hx hb d_Mo_address_57 (lv_at hl 1 rfl) ?_
      refine lv_if_ne (tgt := 67) hx hb d_Mo_address_59 (by decide) (fun h59 => ?_) (fun h59 => ?_)
      · refine lv_iload hx hb d_Mo_address_67 (lv_at hl 0 rfl) ?_
        refine lv_aload_n hx hb d_Mo_address_69 rfl (lv_at hl 3 rfl) ?_
        refine lv_iload hx hb d_Mo_address_70 (lv_at hl 1 rfl) ?_
        refine cl_V (C := R_Mo) (k_Mo_register l D a hA u52 (x1 &&& 15)) ⟨hx, hb, hml, hown, hts⟩ (cwV 1 hts (gi_V t_568 t_570 t_40 t_66 t_571) rfl rfl rfl (by decide +kernel) ⟨Nat.le_of_ble_eq_true rfl, Nat.le_of_ble_eq_true rfl⟩) (va_recv (q0 := 0) (ci := 4) (q := (R_Mo, F_Mo, 10)) hK hP rfl rfl) hP hK hS rfl hl.1 rfl (Nat.le_of_ble_eq_true rfl) d_Mo_address_72 (nm_i (fun r72 e72 H locs hP hS => ?_))
        refine lv_iadd hx hb d_Mo_address_75 ?_
        refine lv_sipush (v := 1023) hx hb d_Mo_address_76 (by decide) ?_
        refine lv_iand hx hb d_Mo_address_79 ?_
        have hc : (((r52 + r72) &&& 1023), u52) = C_Mo_address u0 x1 x2 := by simp only [C_Mo_address, if_neg h13, if_neg h32, if_pos h48, ← e52, ← f52, if_neg h59, ← e72]
        subst hQ
        exact rt_i hx hb hr hlk (congrArg Prod.fst hc) (congrArg Prod.snd hc) hP hS d_Mo_address_80
      refine lv_iload hx hb d_Mo_address_62 (lv_at hl 0 rfl) ?_
      refine lv_goto (tgt := 76) hx hb d_Mo_address_64 (by decide) ?_
      refine lv_sipush (v := 1023) hx hb d_Mo_address_76 (by decide) ?_
      refine lv_iand hx hb d_Mo_address_79 ?_
      have hc : ((r52 &&& 1023), u52) = C_Mo_address u0 x1 x2 := by simp only [C_Mo_address, if_neg h13, if_neg h32, if_pos h48, ← e52, ← f52, if_pos h59]
      subst hQ
      exact rt_i hx hb hr hlk (congrArg Prod.fst hc) (congrArg Prod.snd hc) hP hS d_Mo_address_80
    refine lv_aload_n hx hb d_Mo_address_35 rfl (lv_at hl 2 rfl) ?_
    refine lv_iload hx hb d_Mo_address_36 (lv_at hl 0 rfl) ?_
    refine cl_V (C := R_Mo) (k_Mo_register l D a hA u0 (x1 &&& 15)) ⟨hx, hb, hml, hown, hts⟩ (cwV 1 hts (gi_V t_568 t_570 t_40 t_66 t_571) rfl rfl rfl (by decide +kernel) ⟨Nat.le_of_ble_eq_true rfl, Nat.le_of_ble_eq_true rfl⟩) (va_recv (q0 := 0) (ci := 4) (q := (R_Mo, F_Mo, 10)) hK hP rfl rfl) hP hK hS rfl hl.1 rfl (Nat.le_of_ble_eq_true rfl) d_Mo_address_38 (nm_i (fun r38 e38 H locs hP hS => ?_))
    refine lv_sipush (v := 1023) hx hb d_Mo_address_41 (by decide) ?_
    refine lv_iand hx hb d_Mo_address_44 ?_
    have hc : ((r38 &&& 1023), u0) = C_Mo_address u0 x1 x2 := by simp only [C_Mo_address, if_neg h13, if_pos h32, ← e38]
    subst hQ
    exact rt_i hx hb hr hlk (congrArg Prod.fst hc) (congrArg Prod.snd hc) hP hS d_Mo_address_45
  refine lv_aload_n hx hb d_Mo_address_16 rfl (lv_at hl 2 rfl) ?_
  refine va_get (D := D) (ci := 4) (v := .int u0.2.2.2.1) (C := R_Mo) (T := F_Mo) (N := 10) hx hb hts (fun w h => wm (ui_Mo w h)) hown hK hP 0 rfl rfl 3 (by decide) (hts _ (wm t_491)) (fun _ h9 => h9) rfl d_Mo_address_17 ?_
  refine lv_iconst (v := 2) hx hb d_Mo_address_20 (by decide) ?_
  refine lv_iload hx hb d_Mo_address_21 (lv_at hl 0 rfl) ?_
  refine lv_imul hx hb d_Mo_address_23 ?_
  refine lv_iadd hx hb d_Mo_address_24 ?_
  refine lv_sipush (v := 1023) hx hb d_Mo_address_25 (by decide) ?_
  refine lv_iand hx hb d_Mo_address_28 ?_
  have hc : (((u0.2.2.2.1 + (2 * (x1 &&& 15))) &&& 1023), u0) = C_Mo_address u0 x1 x2 := by simp only [C_Mo_address, if_pos h13]
  subst hQ
  exact rt_i hx hb hr hlk (congrArg Prod.fst hc) (congrArg Prod.snd hc) hP hS d_Mo_address_29
set_option maxHeartbeats 4000000 in
set_option maxRecDepth 100000 in
theorem k_Mo_flag (l : Launch) (D : va_G) (a : RAd) (hA : ApR a) (u0 : RSt) (x1 : Int32) (x2 : Int32) : MC kl (mw a) (FB a) (tyR a) l D y_Mo_flag b_Mo_flag 3 none rm_Mo_flag [.ref a.1, .int x1, .int x2] u0 none (C_Mo_flag u0 x1 x2) := by
  refine MC.mk (by decide) (Nat.le_of_ble_eq_true rfl) ?_
  intro p e s m below meth c ls Q args H locs hx hb hr hml hown hts hlk hl hP hK hS hQ
  have hown : s.vm.findClass R_Mo = some m.cls := hown
  have hl : lv_has ls 3 [(0, .ref a.1), (1, .int x1), (2, .int x2)] := hl
  refine lv_aload_n hx hb d_Mo_flag_0 rfl (lv_at hl 0 rfl) ?_
  refine lv_iload_n hx hb d_Mo_flag_1 rfl (lv_at hl 2 rfl) ?_
  have hJ22 : ∀ (z22 : Int32), z22 = J_Mo_flag_22 u0 x1 x2 → W p l e rm_Mo_flag s m args below meth c H locs 0 0 Q (F0 m 22 ls [.int z22, .ref a.1]) := by
    intro z22 jz22
    refine va_put (D := D) (ci := 4) (v := .int z22) (ty := .int) (C := R_Mo) (T := F_Mo) (N := 10) hx hb hts (fun w h => wm (ui_Mo w h)) ft_Mo ft_Mo_ok fn_Mo hown hK hP (dd_R hA _) hS 0 rfl rfl 5 (by decide) (hts _ (wm t_493)) (fun _ h9 => h9) rfl (by decide +kernel) rfl rfl (Nat.le_of_ble_eq_true rfl) d_Mo_flag_22 (fun H locs hP _ hS => ?_)
    have hP : va_P D kl (mw a (u0.1, u0.2.1, u0.2.2.1, u0.2.2.2.1, u0.2.2.2.2.1, z22, u0.2.2.2.2.2.2.1, u0.2.2.2.2.2.2.2.1, u0.2.2.2.2.2.2.2.2.1, u0.2.2.2.2.2.2.2.2.2)) H := hP
    subst hQ
    exact rt_v hx hb hr hlk (by simp only [C_Mo_flag, ← jz22]) hP hS d_Mo_flag_25
  refine lv_if_eq (tgt := 14) hx hb d_Mo_flag_2 (by decide) (fun h2 => ?_) (fun h2 => ?_)
  · refine lv_aload_n hx hb d_Mo_flag_14 rfl (lv_at hl 0 rfl) ?_
    refine va_get (D := D) (ci := 4) (v := .int u0.2.2.2.2.2.1) (C := R_Mo) (T := F_Mo) (N := 10) hx hb hts (fun w h => wm (ui_Mo w h)) hown hK hP 0 rfl rfl 5 (by decide) (hts _ (wm t_493)) (fun _ h9 => h9) rfl d_Mo_flag_15 ?_
    refine lv_iload_n hx hb d_Mo_flag_18 rfl (lv_at hl 1 rfl) ?_
    refine lv_iconst (v := (-1)) hx hb d_Mo_flag_19 (by decide) ?_
    refine lv_ixor hx hb d_Mo_flag_20 ?_
    refine lv_iand hx hb d_Mo_flag_21 ?_
    exact hJ22 (u0.2.2.2.2.2.1 &&& (x1 ^^^ (-1))) (by simp only [J_Mo_flag_22, if_pos h2])
  refine lv_aload_n hx hb d_Mo_flag_5 rfl (lv_at hl 0 rfl) ?_
  refine va_get (D := D) (ci := 4) (v := .int u0.2.2.2.2.2.1) (C := R_Mo) (T := F_Mo) (N := 10) hx hb hts (fun w h => wm (ui_Mo w h)) hown hK hP 0 rfl rfl 5 (by decide) (hts _ (wm t_493)) (fun _ h9 => h9) rfl d_Mo_flag_6 ?_
  refine lv_iload_n hx hb d_Mo_flag_9 rfl (lv_at hl 1 rfl) ?_
  refine lv_ior hx hb d_Mo_flag_10 ?_
  refine lv_goto (tgt := 22) hx hb d_Mo_flag_11 (by decide) ?_
  exact hJ22 (u0.2.2.2.2.2.1 ||| x1) (by simp only [J_Mo_flag_22, if_neg h2])
set_option maxHeartbeats 4000000 in
set_option maxRecDepth 100000 in
theorem k_Mo_has (l : Launch) (D : va_G) (a : RAd) (hA : ApR a) (u0 : RSt) (x1 : Int32) : MC kl (mw a) (FB a) (tyR a) l D y_Mo_has b_Mo_has 2 (some .boolean) rm_Mo_has [.ref a.1, .int x1] u0 (some (.int (C_Mo_has u0 x1))) u0 := by
  refine MC.mk (by decide) (Nat.le_of_ble_eq_true rfl) ?_
  intro p e s m below meth c ls Q args H locs hx hb hr hml hown hts hlk hl hP hK hS hQ
  have hown : s.vm.findClass R_Mo = some m.cls := hown
  have hl : lv_has ls 2 [(0, .ref a.1), (1, .int x1)] := hl
  refine lv_aload_n hx hb d_Mo_has_0 rfl (lv_at hl 0 rfl) ?_
  refine va_get (D := D) (ci := 4) (v := .int u0.2.2.2.2.2.1) (C := R_Mo) (T := F_Mo) (N := 10) hx hb hts (fun w h => wm (ui_Mo w h)) hown hK hP 0 rfl rfl 5 (by decide) (hts _ (wm t_493)) (fun _ h9 => h9) rfl d_Mo_has_1 ?_
  refine lv_iload_n hx hb d_Mo_has_4 rfl (lv_at hl 1 rfl) ?_
  refine lv_iand hx hb d_Mo_has_5 ?_
  refine lv_if_eq (tgt := 13) hx hb d_Mo_has_6 (by decide) (fun h6 => ?_) (fun h6 => ?_)
  · refine lv_iconst (v := 0) hx hb d_Mo_has_13 (by decide) ?_
    subst hQ
    exact rt_z hx hb hr hlk rfl (by simp only [C_Mo_has, if_pos h6]) rfl hP hS d_Mo_has_14
  refine lv_iconst (v := 1) hx hb d_Mo_has_9 (by decide) ?_
  refine lv_goto (tgt := 14) hx hb d_Mo_has_10 (by decide) ?_
  subst hQ
  exact rt_z hx hb hr hlk rfl (by simp only [C_Mo_has, if_neg h6]) rfl hP hS d_Mo_has_14
set_option maxHeartbeats 4000000 in
set_option maxRecDepth 100000 in
theorem k_Mo_signed (l : Launch) (D : va_G) (a : RAd) (hA : ApR a) (u0 : RSt) (x0 : Int32) : MC kl (mw a) (FB a) (tyR a) l D y_Mo_signed b_Mo_signed 1 (some .int) rm_Mo_signed [.int x0] u0 (some (.int (C_Mo_signed x0))) u0 := by
  refine MC.mk (by decide) (Nat.le_of_ble_eq_true rfl) ?_
  intro p e s m below meth c ls Q args H locs hx hb hr hml hown hts hlk hl hP hK hS hQ
  have hown : s.vm.findClass R_Mo = some m.cls := hown
  have hl : lv_has ls 1 [(0, .int x0)] := hl
  refine lv_iload_n hx hb d_Mo_signed_0 rfl (lv_at hl 0 rfl) ?_
  refine lv_sipush (v := 32767) hx hb d_Mo_signed_1 (by decide) ?_
  refine lv_icmp_le (tgt := 14) hx hb d_Mo_signed_4 (by decide) (fun h4 => ?_) (fun h4 => ?_)
  · refine lv_iload_n hx hb d_Mo_signed_14 rfl (lv_at hl 0 rfl) ?_
    subst hQ
    exact rt_i hx hb hr hlk (by simp only [C_Mo_signed, if_pos h4]) rfl hP hS d_Mo_signed_15
  refine lv_iload_n hx hb d_Mo_signed_7 rfl (lv_at hl 0 rfl) ?_
  refine lv_ldc (v := 65536) hx hb hown (hts _ (wm t_601)) d_Mo_signed_8 ?_
  refine lv_isub hx hb d_Mo_signed_10 ?_
  refine lv_goto (tgt := 15) hx hb d_Mo_signed_11 (by decide) ?_
  subst hQ
  exact rt_i hx hb hr hlk (by simp only [C_Mo_signed, if_neg h4]) rfl hP hS d_Mo_signed_15
set_option maxHeartbeats 4000000 in
set_option maxRecDepth 100000 in
theorem k_Mo_compare (l : Launch) (D : va_G) (a : RAd) (hA : ApR a) (u0 : RSt) (x1 : Int32) (x2 : Int32) : MC kl (mw a) (FB a) (tyR a) l D y_Mo_compare b_Mo_compare 3 none rm_Mo_compare [.ref a.1, .int x1, .int x2] u0 none (C_Mo_compare u0 x1 x2) := by
  refine MC.mk (by decide) (Nat.le_of_ble_eq_true rfl) ?_
  intro p e s m below meth c ls Q args H locs hx hb hr hml hown hts hlk hl hP hK hS hQ
  have hown : s.vm.findClass R_Mo = some m.cls := hown
  have hl : lv_has ls 3 [(0, .ref a.1), (1, .int x1), (2, .int x2)] := hl
  refine lv_aload_n hx hb d_Mo_compare_0 rfl (lv_at hl 0 rfl) ?_
  refine lv_ldc (v := 32768) hx hb hown (hts _ (wm t_593)) d_Mo_compare_1 ?_
  refine lv_iload_n hx hb d_Mo_compare_3 rfl (lv_at hl 1 rfl) ?_
  refine lv_iload_n hx hb d_Mo_compare_4 rfl (lv_at hl 2 rfl) ?_
  have hJ13 : ∀ (z13 : Int32), z13 = J_Mo_compare_13 x1 x2 → W p l e rm_Mo_compare s m args below meth c H locs 0 0 Q (F0 m 13 ls [.int z13, .int 32768, .ref a.1]) := by
    intro z13 jz13
    refine cl_V (C := R_Mo) (k_Mo_flag l D a hA u0 32768 z13) ⟨hx, hb, hml, hown, hts⟩ (cwV 2 hts (gi_V t_589 t_591 t_45 t_66 t_592) rfl rfl rfl (by decide +kernel) ⟨Nat.le_of_ble_eq_true rfl, Nat.le_of_ble_eq_true rfl⟩) (va_recv (q0 := 0) (ci := 4) (q := (R_Mo, F_Mo, 10)) hK hP rfl rfl) hP hK hS rfl hl.1 rfl (Nat.le_of_ble_eq_true rfl) d_Mo_compare_13 (nm_s (fun u13 e13 H locs hP hS => ?_))
    refine lv_aload_n hx hb d_Mo_compare_16 rfl (lv_at hl 0 rfl) ?_
    refine lv_sipush (v := 16384) hx hb d_Mo_compare_17 (by decide) ?_
    refine lv_iload_n hx hb d_Mo_compare_20 rfl (lv_at hl 1 rfl) ?_
    refine cl_S (k_Mo_signed l D a hA u13 x1) ⟨hx, hb, hml, hown, hts⟩ (va_cwS 1 hts (gi_S t_598 t_599 t_66 t_600) rfl rfl rfl (by decide +kernel) ⟨Nat.le_of_ble_eq_true rfl, Nat.le_of_ble_eq_true rfl⟩) hP hK hS rfl hl.1 rfl (Nat.le_of_ble_eq_true rfl) d_Mo_compare_21 (nm_i (fun r21 e21 H locs hP hS => ?_))
    refine lv_iload_n hx hb d_Mo_compare_24 rfl (lv_at hl 2 rfl) ?_
    refine cl_S (k_Mo_signed l D a hA u13 x2) ⟨hx, hb, hml, hown, hts⟩ (va_cwS 1 hts (gi_S t_598 t_599 t_66 t_600) rfl rfl rfl (by decide +kernel) ⟨Nat.le_of_ble_eq_true rfl, Nat.le_of_ble_eq_true rfl⟩) hP hK hS rfl hl.1 rfl (Nat.le_of_ble_eq_true rfl) d_Mo_compare_25 (nm_i (fun r25 e25 H locs hP hS => ?_))
    have hJ36 : ∀ (z36 : Int32), z36 = J_Mo_compare_36 r21 r25 → W p l e rm_Mo_compare s m args below meth c H locs 0 0 Q (F0 m 36 ls [.int z36, .int 16384, .ref a.1]) := by
      intro z36 jz36
      refine cl_V (C := R_Mo) (k_Mo_flag l D a hA u13 16384 z36) ⟨hx, hb, hml, hown, hts⟩ (cwV 2 hts (gi_V t_589 t_591 t_45 t_66 t_592) rfl rfl rfl (by decide +kernel) ⟨Nat.le_of_ble_eq_true rfl, Nat.le_of_ble_eq_true rfl⟩) (va_recv (q0 := 0) (ci := 4) (q := (R_Mo, F_Mo, 10)) hK hP rfl rfl) hP hK hS rfl hl.1 rfl (Nat.le_of_ble_eq_true rfl) d_Mo_compare_36 (nm_s (fun u36 e36 H locs hP hS => ?_))
      refine lv_aload_n hx hb d_Mo_compare_39 rfl (lv_at hl 0 rfl) ?_
      refine lv_sipush (v := 8192) hx hb d_Mo_compare_40 (by decide) ?_
      refine lv_iload_n hx hb d_Mo_compare_43 rfl (lv_at hl 1 rfl) ?_
      refine lv_iload_n hx hb d_Mo_compare_44 rfl (lv_at hl 2 rfl) ?_
      have hJ53 : ∀ (z53 : Int32), z53 = J_Mo_compare_53 x1 x2 → W p l e rm_Mo_compare s m args below meth c H locs 0 0 Q (F0 m 53 ls [.int z53, .int 8192, .ref a.1]) := by
        intro z53 jz53
        refine cl_V (C := R_Mo) (k_Mo_flag l D a hA u36 8192 z53) ⟨hx, hb, hml, hown, hts⟩ (cwV 2 hts (gi_V t_589 t_591 t_45 t_66 t_592) rfl rfl rfl (by decide +kernel) ⟨Nat.le_of_ble_eq_true rfl, Nat.le_of_ble_eq_true rfl⟩) (va_recv (q0 := 0) (ci := 4) (q := (R_Mo, F_Mo, 10)) hK hP rfl rfl) hP hK hS rfl hl.1 rfl (Nat.le_of_ble_eq_true rfl) d_Mo_compare_53 (nm_s (fun u53 e53 H locs hP hS => ?_))
        subst hQ
        exact rt_v hx hb hr hlk (by simp only [C_Mo_compare, ← jz13, ← e13, ← e21, ← e25, ← jz36, ← e36, ← jz53, ← e53]) hP hS d_Mo_compare_56
      refine lv_icmp_ne (tgt := 52) hx hb d_Mo_compare_45 (by decide) (fun h45 => ?_) (fun h45 => ?_)
      · refine lv_iconst (v := 0) hx hb d_Mo_compare_52 (by decide) ?_
        exact hJ53 0 (by simp only [J_Mo_compare_53, if_neg h45])
      refine lv_iconst (v := 1) hx hb d_Mo_compare_48 (by decide) ?_
      refine lv_goto (tgt := 53) hx hb d_Mo_compare_49 (by decide) ?_
      exact hJ53 1 (by simp only [J_Mo_compare_53, if_pos h45])
    refine lv_icmp_le (tgt := 35) hx hb d_Mo_compare_28 (by decide) (fun h28 => ?_) (fun h28 => ?_)
    · refine lv_iconst (v := 0) hx hb d_Mo_compare_35 (by decide) ?_
      exact hJ36 0 (by simp only [J_Mo_compare_36, if_pos h28])
    refine lv_iconst (v := 1) hx hb d_Mo_compare_31 (by decide) ?_
    refine lv_goto (tgt := 36) hx hb d_Mo_compare_32 (by decide) ?_
    exact hJ36 1 (by simp only [J_Mo_compare_36, if_neg h28])
  refine lv_icmp_le (tgt := 12) hx hb d_Mo_compare_5 (by decide) (fun h5 => ?_) (fun h5 => ?_)
  · refine lv_iconst (v := 0) hx hb d_Mo_compare_12 (by decide) ?_
    exact hJ13 0 (by simp only [J_Mo_compare_13, if_pos h5])
  refine lv_iconst (v := 1) hx hb d_Mo_compare_8 (by decide) ?_
  refine lv_goto (tgt := 13) hx hb d_Mo_compare_9 (by decide) ?_
  exact hJ13 1 (by simp only [J_Mo_compare_13, if_neg h5])
set_option maxHeartbeats 4000000 in
set_option maxRecDepth 100000 in
theorem k_Mo_test (l : Launch) (D : va_G) (a : RAd) (hA : ApR a) (u0 : RSt) (x1 : Int32) : MC kl (mw a) (FB a) (tyR a) l D y_Mo_test b_Mo_test 2 none rm_Mo_test [.ref a.1, .int x1] u0 none (C_Mo_test u0 x1) := by
  refine MC.mk (by decide) (Nat.le_of_ble_eq_true rfl) ?_
  intro p e s m below meth c ls Q args H locs hx hb hr hml hown hts hlk hl hP hK hS hQ
  have hown : s.vm.findClass R_Mo = some m.cls := hown
  have hl : lv_has ls 2 [(0, .ref a.1), (1, .int x1)] := hl
  refine lv_aload_n hx hb d_Mo_test_0 rfl (lv_at hl 0 rfl) ?_
  refine lv_iload_n hx hb d_Mo_test_1 rfl (lv_at hl 1 rfl) ?_
  refine lv_iconst (v := 0) hx hb d_Mo_test_2 (by decide) ?_
  refine cl_V (C := R_Mo) (k_Mo_compare l D a hA u0 x1 0) ⟨hx, hb, hml, hown, hts⟩ (cwV 2 hts (gi_V t_594 t_596 t_46 t_66 t_597) rfl rfl rfl (by decide +kernel) ⟨Nat.le_of_ble_eq_true rfl, Nat.le_of_ble_eq_true rfl⟩) (va_recv (q0 := 0) (ci := 4) (q := (R_Mo, F_Mo, 10)) hK hP rfl rfl) hP hK hS rfl hl.1 rfl (Nat.le_of_ble_eq_true rfl) d_Mo_test_3 (nm_s (fun u3 e3 H locs hP hS => ?_))
  subst hQ
  exact rt_v hx hb hr hlk (by simp only [C_Mo_test, ← e3]) hP hS d_Mo_test_6
set_option maxHeartbeats 4000000 in
set_option maxRecDepth 100000 in
theorem k_Mo_parity (l : Launch) (D : va_G) (a : RAd) (hA : ApR a) (u0 : RSt) (x1 : Int32) : MC kl (mw a) (FB a) (tyR a) l D y_Mo_parity b_Mo_parity 4 none rm_Mo_parity [.ref a.1, .int x1] u0 none (C_Mo_parity u0 x1) := by
  refine MC.mk (by decide) (Nat.le_of_ble_eq_true rfl) ?_
  intro p e s m below meth c ls Q args H locs hx hb hr hml hown hts hlk hl hP hK hS hQ
  have hown : s.vm.findClass R_Mo = some m.cls := hown
  have hl : lv_has ls 4 [(0, .ref a.1), (1, .int x1)] := hl
  refine lv_iconst (v := 0) hx hb d_Mo_parity_0 (by decide) ?_
  refine lv_istore_n hx hb d_Mo_parity_1 rfl hl (by decide) rfl (fun ls hl => ?_)
  have hl : lv_has ls 4 [(2, .int 0), (0, .ref a.1), (1, .int x1)] := hl
  refine lv_bipush (v := 8) hx hb d_Mo_parity_2 (by decide) ?_
  refine lv_istore_n hx hb d_Mo_parity_4 rfl hl (by decide) rfl (fun ls hl => ?_)
  have hl : lv_has ls 4 [(3, .int 8), (2, .int 0), (0, .ref a.1), (1, .int x1)] := hl
  have hX5 : ∀ (i2_5 : Int32) (i3_5 : Int32) (H : Heap) (locs : List Loc) (ls : Array Slot), (i2_5, i3_5) = L_Mo_parity_5 x1 (((16 : Int32).toInt - (8 : Int32).toInt).toNat) (0, 8) → va_P D kl (mw a u0) H → va_S (FB a) s.heap H locs → lv_has ls 4 [(0, .ref a.1), (1, .int x1), (2, .int i2_5), (3, .int i3_5)] → W p l e rm_Mo_parity s m args below meth c H locs 0 0 Q (F0 m 25 ls []) := by
    intro i2_5 i3_5 H locs ls hq hP hS hl
    have qi2_5 : i2_5 = (L_Mo_parity_5 x1 (((16 : Int32).toInt - (8 : Int32).toInt).toNat) (0, 8)).1 := by rw [← hq]
    have qi3_5 : i3_5 = (L_Mo_parity_5 x1 (((16 : Int32).toInt - (8 : Int32).toInt).toNat) (0, 8)).2 := by rw [← hq]
    refine lv_aload_n hx hb d_Mo_parity_25 rfl (lv_at hl 0 rfl) ?_
    refine lv_sipush (v := 1024) hx hb d_Mo_parity_26 (by decide) ?_
    refine lv_iload_n hx hb d_Mo_parity_29 rfl (lv_at hl 2 rfl) ?_
    refine lv_iconst (v := 1) hx hb d_Mo_parity_30 (by decide) ?_
    refine lv_iand hx hb d_Mo_parity_31 ?_
    refine lv_iconst (v := 1) hx hb d_Mo_parity_32 (by decide) ?_
    have hJ41 : ∀ (z41 : Int32), z41 = J_Mo_parity_41 i2_5 → W p l e rm_Mo_parity s m args below meth c H locs 0 0 Q (F0 m 41 ls [.int z41, .int 1024, .ref a.1]) := by
      intro z41 jz41
      refine cl_V (C := R_Mo) (k_Mo_flag l D a hA u0 1024 z41) ⟨hx, hb, hml, hown, hts⟩ (cwV 2 hts (gi_V t_589 t_591 t_45 t_66 t_592) rfl rfl rfl (by decide +kernel) ⟨Nat.le_of_ble_eq_true rfl, Nat.le_of_ble_eq_true rfl⟩) (va_recv (q0 := 0) (ci := 4) (q := (R_Mo, F_Mo, 10)) hK hP rfl rfl) hP hK hS rfl hl.1 rfl (Nat.le_of_ble_eq_true rfl) d_Mo_parity_41 (nm_s (fun u41 e41 H locs hP hS => ?_))
      subst hQ
      exact rt_v hx hb hr hlk (by simp only [C_Mo_parity, ← qi2_5, ← qi3_5, ← jz41, ← e41]) hP hS d_Mo_parity_44
    refine lv_icmp_ne (tgt := 40) hx hb d_Mo_parity_33 (by decide) (fun h33 => ?_) (fun h33 => ?_)
    · refine lv_iconst (v := 0) hx hb d_Mo_parity_40 (by decide) ?_
      exact hJ41 0 (by simp only [J_Mo_parity_41, if_neg h33])
    refine lv_iconst (v := 1) hx hb d_Mo_parity_36 (by decide) ?_
    refine lv_goto (tgt := 41) hx hb d_Mo_parity_37 (by decide) ?_
    exact hJ41 1 (by simp only [J_Mo_parity_41, if_pos h33])
  have hL5 : ∀ (f : Nat) (i2_5 : Int32) (i3_5 : Int32) (H : Heap) (locs : List Loc) (ls : Array Slot), ((16 : Int32).toInt - i3_5.toInt).toNat ≤ f → L_Mo_parity_5 x1 f (i2_5, i3_5) = L_Mo_parity_5 x1 (((16 : Int32).toInt - (8 : Int32).toInt).toNat) (0, 8) → va_P D kl (mw a u0) H → va_S (FB a) s.heap H locs → lv_has ls 4 [(0, .ref a.1), (1, .int x1), (2, .int i2_5), (3, .int i3_5)] → W p l e rm_Mo_parity s m args below meth c H locs 0 0 Q (F0 m 5 ls []) := by
    intro f
    induction f with
    | zero =>
      intro i2_5 i3_5 H locs ls hf hE hP hS hl
      refine lv_iload_n hx hb d_Mo_parity_5 rfl (lv_at hl 3 rfl) ?_
      refine lv_bipush (v := 16) hx hb d_Mo_parity_6 (by decide) ?_
      refine lv_icmp_ge (tgt := 25) hx hb d_Mo_parity_8 (by decide) (fun h8 => ?_) (fun h8 => ?_)
      · exact hX5 _ _ _ _ _ hE hP hS hl
      · exact (ms_zero hf h8).elim
    | succ f ih =>
      intro i2_5 i3_5 H locs ls hf hE hP hS hl
      refine lv_iload_n hx hb d_Mo_parity_5 rfl (lv_at hl 3 rfl) ?_
      refine lv_bipush (v := 16) hx hb d_Mo_parity_6 (by decide) ?_
      refine lv_icmp_ge (tgt := 25) hx hb d_Mo_parity_8 (by decide) (fun h8 => ?_) (fun h8 => ?_)
      · exact hX5 _ _ _ _ _ (by rw [← hE, L_Mo_parity_5_s, if_pos h8]) hP hS hl
      · refine lv_iload_n hx hb d_Mo_parity_11 rfl (lv_at hl 2 rfl) ?_
        refine lv_iload_n hx hb d_Mo_parity_12 rfl (lv_at hl 1 rfl) ?_
        refine lv_iload_n hx hb d_Mo_parity_13 rfl (lv_at hl 3 rfl) ?_
        refine lv_ishr hx hb d_Mo_parity_14 ?_
        refine lv_iconst (v := 1) hx hb d_Mo_parity_15 (by decide) ?_
        refine lv_iand hx hb d_Mo_parity_16 ?_
        refine lv_iadd hx hb d_Mo_parity_17 ?_
        refine lv_istore_n hx hb d_Mo_parity_18 rfl hl (by decide) rfl (fun ls hl => ?_)
        have hl : lv_has ls 4 [(2, .int (i2_5 + ((x1 >>> (i3_5 &&& 31)) &&& 1))), (0, .ref a.1), (1, .int x1), (3, .int i3_5)] := hl
        refine lv_iinc (k := 3) (v := (i3_5 + 1)) hx hb d_Mo_parity_19 hl rfl rfl (by decide) rfl (fun ls hl => ?_)
        have hl : lv_has ls 4 [(3, .int (i3_5 + 1)), (2, .int (i2_5 + ((x1 >>> (i3_5 &&& 31)) &&& 1))), (0, .ref a.1), (1, .int x1)] := hl
        refine lv_goto (tgt := 5) hx hb d_Mo_parity_22 (by decide) ?_
        exact ih (i2_5 + ((x1 >>> (i3_5 &&& 31)) &&& 1)) (i3_5 + 1) _ _ _ (ms_step h8 hf) ((congrArg (L_Mo_parity_5 x1 f) (by simp only [B_Mo_parity_5])).trans (show L_Mo_parity_5 x1 f (B_Mo_parity_5 x1 (i2_5, i3_5)) = _ by rw [← hE, L_Mo_parity_5_s, if_neg h8])) hP hS (lv_sub hl [2, 3, 1, 0] rfl)
  exact hL5 _ 0 8 _ _ _ (Nat.le_refl _) rfl hP hS (lv_sub hl [2, 3, 1, 0] rfl)
set_option maxHeartbeats 4000000 in
set_option maxRecDepth 100000 in
theorem k_Mo_sum (l : Launch) (D : va_G) (a : RAd) (hA : ApR a) (u0 : RSt) (x1 : Int32) (x2 : Int32) (x3 : Int32) (x4 : Int32) : MC kl (mw a) (FB a) (tyR a) l D y_Mo_sum b_Mo_sum 7 (some .int) rm_Mo_sum [.ref a.1, .int x1, .int x2, .int x3, .int x4] u0 (some (.int (C_Mo_sum u0 x1 x2 x3 x4).1)) (C_Mo_sum u0 x1 x2 x3 x4).2 := by
  refine MC.mk (by decide) (Nat.le_of_ble_eq_true rfl) ?_
  intro p e s m below meth c ls Q args H locs hx hb hr hml hown hts hlk hl hP hK hS hQ
  have hown : s.vm.findClass R_Mo = some m.cls := hown
  have hl : lv_has ls 7 [(0, .ref a.1), (1, .int x1), (2, .int x2), (3, .int x3), (4, .int x4)] := hl
  refine lv_iload_n hx hb d_Mo_sum_0 rfl (lv_at hl 1 rfl) ?_
  refine lv_iload_n hx hb d_Mo_sum_1 rfl (lv_at hl 2 rfl) ?_
  refine lv_iadd hx hb d_Mo_sum_2 ?_
  refine lv_iload hx hb d_Mo_sum_3 (lv_at hl 4 rfl) ?_
  have hJ17 : ∀ (z17 : Int32), z17 = J_Mo_sum_17 x3 x4 → W p l e rm_Mo_sum s m args below meth c H locs 0 0 Q (F0 m 17 ls [.int z17, .int (x1 + x2)]) := by
    intro z17 jz17
    refine lv_iadd hx hb d_Mo_sum_17 ?_
    refine lv_istore hx hb d_Mo_sum_18 hl (by decide) rfl (fun ls hl => ?_)
    have hl : lv_has ls 7 [(5, .int ((x1 + x2) + z17)), (0, .ref a.1), (1, .int x1), (2, .int x2), (3, .int x3), (4, .int x4)] := hl
    refine lv_iload hx hb d_Mo_sum_20 (lv_at hl 0 rfl) ?_
    refine lv_ldc (v := 65535) hx hb hown (hts _ (wm t_545)) d_Mo_sum_22 ?_
    refine lv_iand hx hb d_Mo_sum_24 ?_
    refine lv_istore hx hb d_Mo_sum_25 hl (by decide) rfl (fun ls hl => ?_)
    have hl : lv_has ls 7 [(6, .int (((x1 + x2) + z17) &&& 65535)), (5, .int ((x1 + x2) + z17)), (0, .ref a.1), (1, .int x1), (2, .int x2), (3, .int x3), (4, .int x4)] := hl
    refine lv_aload_n hx hb d_Mo_sum_27 rfl (lv_at hl 2 rfl) ?_
    refine lv_sipush (v := 4096) hx hb d_Mo_sum_28 (by decide) ?_
    refine lv_iload hx hb d_Mo_sum_31 (lv_at hl 1 rfl) ?_
    refine lv_ldc (v := 65535) hx hb hown (hts _ (wm t_545)) d_Mo_sum_33 ?_
    have hJ43 : ∀ (z43 : Int32), z43 = J_Mo_sum_43 x1 x2 z17 → W p l e rm_Mo_sum s m args below meth c H locs 0 0 Q (F0 m 43 ls [.int z43, .int 4096, .ref a.1]) := by
      intro z43 jz43
      refine cl_V (C := R_Mo) (k_Mo_flag l D a hA u0 4096 z43) ⟨hx, hb, hml, hown, hts⟩ (cwV 2 hts (gi_V t_589 t_591 t_45 t_66 t_592) rfl rfl rfl (by decide +kernel) ⟨Nat.le_of_ble_eq_true rfl, Nat.le_of_ble_eq_true rfl⟩) (va_recv (q0 := 0) (ci := 4) (q := (R_Mo, F_Mo, 10)) hK hP rfl rfl) hP hK hS rfl hl.1 rfl (Nat.le_of_ble_eq_true rfl) d_Mo_sum_43 (nm_s (fun u43 e43 H locs hP hS => ?_))
      refine lv_aload_n hx hb d_Mo_sum_46 rfl (lv_at hl 2 rfl) ?_
      refine lv_sipush (v := 2048) hx hb d_Mo_sum_47 (by decide) ?_
      refine lv_iload_n hx hb d_Mo_sum_50 rfl (lv_at hl 3 rfl) ?_
      refine lv_iload hx hb d_Mo_sum_51 (lv_at hl 0 rfl) ?_
      refine lv_ixor hx hb d_Mo_sum_53 ?_
      refine lv_iload_n hx hb d_Mo_sum_54 rfl (lv_at hl 4 rfl) ?_
      refine lv_iload hx hb d_Mo_sum_55 (lv_at hl 0 rfl) ?_
      refine lv_ixor hx hb d_Mo_sum_57 ?_
      refine lv_iand hx hb d_Mo_sum_58 ?_
      refine lv_ldc (v := 32768) hx hb hown (hts _ (wm t_593)) d_Mo_sum_59 ?_
      refine lv_iand hx hb d_Mo_sum_61 ?_
      have hJ70 : ∀ (z70 : Int32), z70 = J_Mo_sum_70 x1 x2 z17 → W p l e rm_Mo_sum s m args below meth c H locs 0 0 Q (F0 m 70 ls [.int z70, .int 2048, .ref a.1]) := by
        intro z70 jz70
        refine cl_V (C := R_Mo) (k_Mo_flag l D a hA u43 2048 z70) ⟨hx, hb, hml, hown, hts⟩ (cwV 2 hts (gi_V t_589 t_591 t_45 t_66 t_592) rfl rfl rfl (by decide +kernel) ⟨Nat.le_of_ble_eq_true rfl, Nat.le_of_ble_eq_true rfl⟩) (va_recv (q0 := 0) (ci := 4) (q := (R_Mo, F_Mo, 10)) hK hP rfl rfl) hP hK hS rfl hl.1 rfl (Nat.le_of_ble_eq_true rfl) d_Mo_sum_70 (nm_s (fun u70 e70 H locs hP hS => ?_))
        refine lv_iload hx hb d_Mo_sum_73 (lv_at hl 0 rfl) ?_
        have hc : ((((x1 + x2) + z17) &&& 65535), u70) = C_Mo_sum u0 x1 x2 x3 x4 := by simp only [C_Mo_sum, ← jz17, ← jz43, ← e43, ← jz70, ← e70]
        subst hQ
        exact rt_i hx hb hr hlk (congrArg Prod.fst hc) (congrArg Prod.snd hc) hP hS d_Mo_sum_75
      refine lv_if_eq (tgt := 69) hx hb d_Mo_sum_62 (by decide) (fun h62 => ?_) (fun h62 => ?_)
      · refine lv_iconst (v := 0) hx hb d_Mo_sum_69 (by decide) ?_
        exact hJ70 0 (by simp only [J_Mo_sum_70, if_pos h62])
      refine lv_iconst (v := 1) hx hb d_Mo_sum_65 (by decide) ?_
      refine lv_goto (tgt := 70) hx hb d_Mo_sum_66 (by decide) ?_
      exact hJ70 1 (by simp only [J_Mo_sum_70, if_neg h62])
    refine lv_icmp_le (tgt := 42) hx hb d_Mo_sum_35 (by decide) (fun h35 => ?_) (fun h35 => ?_)
    · refine lv_iconst (v := 0) hx hb d_Mo_sum_42 (by decide) ?_
      exact hJ43 0 (by simp only [J_Mo_sum_43, if_pos h35])
    refine lv_iconst (v := 1) hx hb d_Mo_sum_38 (by decide) ?_
    refine lv_goto (tgt := 43) hx hb d_Mo_sum_39 (by decide) ?_
    exact hJ43 1 (by simp only [J_Mo_sum_43, if_neg h35])
  refine lv_if_eq (tgt := 16) hx hb d_Mo_sum_5 (by decide) (fun h5 => ?_) (fun h5 => ?_)
  · refine lv_iload_n hx hb d_Mo_sum_16 rfl (lv_at hl 3 rfl) ?_
    exact hJ17 x3 (by simp only [J_Mo_sum_17, if_pos h5])
  refine lv_sipush (v := 256) hx hb d_Mo_sum_8 (by decide) ?_
  refine lv_iload_n hx hb d_Mo_sum_11 rfl (lv_at hl 3 rfl) ?_
  refine lv_imul hx hb d_Mo_sum_12 ?_
  refine lv_goto (tgt := 17) hx hb d_Mo_sum_13 (by decide) ?_
  exact hJ17 (256 * x3) (by simp only [J_Mo_sum_17, if_neg h5])
set_option maxHeartbeats 4000000 in
set_option maxRecDepth 100000 in
theorem k_Mo_change (l : Launch) (D : va_G) (a : RAd) (hA : ApR a) (u0 : RSt) (x1 : Int32) : MC kl (mw a) (FB a) (tyR a) l D y_Mo_change b_Mo_change 5 none rm_Mo_change [.ref a.1, .int x1] u0 none (C_Mo_change u0 x1) := by
  refine MC.mk (by decide) (Nat.le_of_ble_eq_true rfl) ?_
  intro p e s m below meth c ls Q args H locs hx hb hr hml hown hts hlk hl hP hK hS hQ
  have hown : s.vm.findClass R_Mo = some m.cls := hown
  have hl : lv_has ls 5 [(0, .ref a.1), (1, .int x1)] := hl
  refine lv_aload_n hx hb d_Mo_change_0 rfl (lv_at hl 0 rfl) ?_
  refine lv_iload_n hx hb d_Mo_change_1 rfl (lv_at hl 1 rfl) ?_
  refine cl_V (C := R_Mo) (k_Mo_word l D a hA u0 x1) ⟨hx, hb, hml, hown, hts⟩ (cwV 1 hts (gi_V t_533 t_535 t_33 t_66 t_536) rfl rfl rfl (by decide +kernel) ⟨Nat.le_of_ble_eq_true rfl, Nat.le_of_ble_eq_true rfl⟩) (va_recv (q0 := 0) (ci := 4) (q := (R_Mo, F_Mo, 10)) hK hP rfl rfl) hP hK hS rfl hl.1 rfl (Nat.le_of_ble_eq_true rfl) d_Mo_change_2 (nm_i (fun r2 e2 H locs hP hS => ?_))
  refine lv_istore_n hx hb d_Mo_change_5 rfl hl (by decide) rfl (fun ls hl => ?_)
  have hl : lv_has ls 5 [(2, .int r2), (0, .ref a.1), (1, .int x1)] := hl
  refine lv_aload_n hx hb d_Mo_change_6 rfl (lv_at hl 1 rfl) ?_
  refine lv_iload_n hx hb d_Mo_change_7 rfl (lv_at hl 2 rfl) ?_
  refine lv_iconst (v := 2) hx hb d_Mo_change_8 (by decide) ?_
  refine lv_iadd hx hb d_Mo_change_9 ?_
  refine cl_V (C := R_Mo) (k_Mo_word l D a hA u0 (x1 + 2)) ⟨hx, hb, hml, hown, hts⟩ (cwV 1 hts (gi_V t_533 t_535 t_33 t_66 t_536) rfl rfl rfl (by decide +kernel) ⟨Nat.le_of_ble_eq_true rfl, Nat.le_of_ble_eq_true rfl⟩) (va_recv (q0 := 0) (ci := 4) (q := (R_Mo, F_Mo, 10)) hK hP rfl rfl) hP hK hS rfl hl.1 rfl (Nat.le_of_ble_eq_true rfl) d_Mo_change_10 (nm_i (fun r10 e10 H locs hP hS => ?_))
  refine lv_istore_n hx hb d_Mo_change_13 rfl hl (by decide) rfl (fun ls hl => ?_)
  have hl : lv_has ls 5 [(3, .int r10), (2, .int r2), (0, .ref a.1), (1, .int x1)] := hl
  refine lv_aload_n hx hb d_Mo_change_14 rfl (lv_at hl 2 rfl) ?_
  refine va_get (D := D) (ci := 4) (v := .int u0.2.2.2.1) (C := R_Mo) (T := F_Mo) (N := 10) hx hb hts (fun w h => wm (ui_Mo w h)) hown hK hP 0 rfl rfl 3 (by decide) (hts _ (wm t_491)) (fun _ h9 => h9) rfl d_Mo_change_15 ?_
  refine lv_istore hx hb d_Mo_change_18 hl (by decide) rfl (fun ls hl => ?_)
  have hl : lv_has ls 5 [(4, .int u0.2.2.2.1), (3, .int r10), (2, .int r2), (0, .ref a.1), (1, .int x1)] := hl
  refine lv_aload_n hx hb d_Mo_change_20 rfl (lv_at hl 3 rfl) ?_
  refine lv_iload_n hx hb d_Mo_change_21 rfl (lv_at hl 2 rfl) ?_
  refine lv_sipush (v := 1022) hx hb d_Mo_change_22 (by decide) ?_
  refine lv_iand hx hb d_Mo_change_25 ?_
  refine va_put (D := D) (ci := 4) (v := .int (r2 &&& 1022)) (ty := .int) (C := R_Mo) (T := F_Mo) (N := 10) hx hb hts (fun w h => wm (ui_Mo w h)) ft_Mo ft_Mo_ok fn_Mo hown hK hP (dd_R hA _) hS 0 rfl rfl 3 (by decide) (hts _ (wm t_491)) (fun _ h9 => h9) rfl (by decide +kernel) rfl rfl (Nat.le_of_ble_eq_true rfl) d_Mo_change_26 (fun H locs hP _ hS => ?_)
  have hP : va_P D kl (mw a (u0.1, u0.2.1, u0.2.2.1, (r2 &&& 1022), u0.2.2.2.2.1, u0.2.2.2.2.2.1, u0.2.2.2.2.2.2.1, u0.2.2.2.2.2.2.2.1, u0.2.2.2.2.2.2.2.2.1, u0.2.2.2.2.2.2.2.2.2)) H := hP
  refine lv_aload_n hx hb d_Mo_change_29 rfl (lv_at hl 3 rfl) ?_
  refine lv_bipush (v := 13) hx hb d_Mo_change_30 (by decide) ?_
  refine lv_iload hx hb d_Mo_change_32 (lv_at hl 0 rfl) ?_
  refine cl_V (C := R_Mo) (k_Mo_setRegister l D a hA (u0.1, u0.2.1, u0.2.2.1, (r2 &&& 1022), u0.2.2.2.2.1, u0.2.2.2.2.2.1, u0.2.2.2.2.2.2.1, u0.2.2.2.2.2.2.2.1, u0.2.2.2.2.2.2.2.2.1, u0.2.2.2.2.2.2.2.2.2) 13 u0.2.2.2.1) ⟨hx, hb, hml, hown, hts⟩ (cwV 2 hts (gi_V t_537 t_539 t_34 t_66 t_540) rfl rfl rfl (by decide +kernel) ⟨Nat.le_of_ble_eq_true rfl, Nat.le_of_ble_eq_true rfl⟩) (va_recv (q0 := 0) (ci := 4) (q := (R_Mo, F_Mo, 10)) hK hP rfl rfl) hP hK hS rfl hl.1 rfl (Nat.le_of_ble_eq_true rfl) d_Mo_change_34 (nm_s (fun u34 e34 H locs hP hS => ?_))
  refine lv_aload_n hx hb d_Mo_change_37 rfl (lv_at hl 3 rfl) ?_
  refine lv_bipush (v := 14) hx hb d_Mo_change_38 (by decide) ?_
  refine lv_aload_n hx hb d_Mo_change_40 rfl (lv_at hl 3 rfl) ?_
  refine va_get (D := D) (ci := 4) (v := .int u34.2.2.2.2.1) (C := R_Mo) (T := F_Mo) (N := 10) hx hb hts (fun w h => wm (ui_Mo w h)) hown hK hP 0 rfl rfl 4 (by decide) (hts _ (wm t_492)) (fun _ h9 => h9) rfl d_Mo_change_41 ?_
  refine cl_V (C := R_Mo) (k_Mo_setRegister l D a hA u34 14 u34.2.2.2.2.1) ⟨hx, hb, hml, hown, hts⟩ (cwV 2 hts (gi_V t_537 t_539 t_34 t_66 t_540) rfl rfl rfl (by decide +kernel) ⟨Nat.le_of_ble_eq_true rfl, Nat.le_of_ble_eq_true rfl⟩) (va_recv (q0 := 0) (ci := 4) (q := (R_Mo, F_Mo, 10)) hK hP rfl rfl) hP hK hS rfl hl.1 rfl (Nat.le_of_ble_eq_true rfl) d_Mo_change_44 (nm_s (fun u44 e44 H locs hP hS => ?_))
  refine lv_aload_n hx hb d_Mo_change_47 rfl (lv_at hl 3 rfl) ?_
  refine lv_bipush (v := 15) hx hb d_Mo_change_48 (by decide) ?_
  refine lv_aload_n hx hb d_Mo_change_50 rfl (lv_at hl 3 rfl) ?_
  refine va_get (D := D) (ci := 4) (v := .int u44.2.2.2.2.2.1) (C := R_Mo) (T := F_Mo) (N := 10) hx hb hts (fun w h => wm (ui_Mo w h)) hown hK hP 0 rfl rfl 5 (by decide) (hts _ (wm t_493)) (fun _ h9 => h9) rfl d_Mo_change_51 ?_
  refine cl_V (C := R_Mo) (k_Mo_setRegister l D a hA u44 15 u44.2.2.2.2.2.1) ⟨hx, hb, hml, hown, hts⟩ (cwV 2 hts (gi_V t_537 t_539 t_34 t_66 t_540) rfl rfl rfl (by decide +kernel) ⟨Nat.le_of_ble_eq_true rfl, Nat.le_of_ble_eq_true rfl⟩) (va_recv (q0 := 0) (ci := 4) (q := (R_Mo, F_Mo, 10)) hK hP rfl rfl) hP hK hS rfl hl.1 rfl (Nat.le_of_ble_eq_true rfl) d_Mo_change_54 (nm_s (fun u54 e54 H locs hP hS => ?_))
  refine lv_aload_n hx hb d_Mo_change_57 rfl (lv_at hl 3 rfl) ?_
  refine lv_iload_n hx hb d_Mo_change_58 rfl (lv_at hl 1 rfl) ?_
  refine lv_sipush (v := 1022) hx hb d_Mo_change_59 (by decide) ?_
  refine lv_iand hx hb d_Mo_change_62 ?_
  refine va_put (D := D) (ci := 4) (v := .int (r10 &&& 1022)) (ty := .int) (C := R_Mo) (T := F_Mo) (N := 10) hx hb hts (fun w h => wm (ui_Mo w h)) ft_Mo ft_Mo_ok fn_Mo hown hK hP (dd_R hA _) hS 0 rfl rfl 4 (by decide) (hts _ (wm t_492)) (fun _ h9 => h9) rfl (by decide +kernel) rfl rfl (Nat.le_of_ble_eq_true rfl) d_Mo_change_63 (fun H locs hP _ hS => ?_)
  have hP : va_P D kl (mw a (u54.1, u54.2.1, u54.2.2.1, u54.2.2.2.1, (r10 &&& 1022), u54.2.2.2.2.2.1, u54.2.2.2.2.2.2.1, u54.2.2.2.2.2.2.2.1, u54.2.2.2.2.2.2.2.2.1, u54.2.2.2.2.2.2.2.2.2)) H := hP
  subst hQ
  exact rt_v hx hb hr hlk (by simp only [C_Mo_change, ← e2, ← e10, ← e34, ← e44, ← e54]) hP hS d_Mo_change_66
set_option maxHeartbeats 4000000 in
set_option maxRecDepth 100000 in
theorem k_Mo_setMask (l : Launch) (D : va_G) (a : RAd) (hA : ApR a) (u0 : RSt) (x1 : Int32) : MC kl (mw a) (FB a) (tyR a) l D y_Mo_setMask b_Mo_setMask 2 none rm_Mo_setMask [.ref a.1, .int x1] u0 none (C_Mo_setMask u0 x1) := by
  refine MC.mk (by decide) (Nat.le_of_ble_eq_true rfl) ?_
  intro p e s m below meth c ls Q args H locs hx hb hr hml hown hts hlk hl hP hK hS hQ
  have hown : s.vm.findClass R_Mo = some m.cls := hown
  have hl : lv_has ls 2 [(0, .ref a.1), (1, .int x1)] := hl
  refine lv_aload_n hx hb d_Mo_setMask_0 rfl (lv_at hl 0 rfl) ?_
  refine lv_aload_n hx hb d_Mo_setMask_1 rfl (lv_at hl 0 rfl) ?_
  refine va_get (D := D) (ci := 4) (v := .int u0.2.2.2.2.2.1) (C := R_Mo) (T := F_Mo) (N := 10) hx hb hts (fun w h => wm (ui_Mo w h)) hown hK hP 0 rfl rfl 5 (by decide) (hts _ (wm t_493)) (fun _ h9 => h9) rfl d_Mo_setMask_2 ?_
  refine lv_bipush (v := (-16)) hx hb d_Mo_setMask_5 (by decide) ?_
  refine lv_iand hx hb d_Mo_setMask_7 ?_
  refine lv_iload_n hx hb d_Mo_setMask_8 rfl (lv_at hl 1 rfl) ?_
  refine lv_bipush (v := 15) hx hb d_Mo_setMask_9 (by decide) ?_
  refine lv_iand hx hb d_Mo_setMask_11 ?_
  refine lv_ior hx hb d_Mo_setMask_12 ?_
  refine va_put (D := D) (ci := 4) (v := .int ((u0.2.2.2.2.2.1 &&& (-16)) ||| (x1 &&& 15))) (ty := .int) (C := R_Mo) (T := F_Mo) (N := 10) hx hb hts (fun w h => wm (ui_Mo w h)) ft_Mo ft_Mo_ok fn_Mo hown hK hP (dd_R hA _) hS 0 rfl rfl 5 (by decide) (hts _ (wm t_493)) (fun _ h9 => h9) rfl (by decide +kernel) rfl rfl (Nat.le_of_ble_eq_true rfl) d_Mo_setMask_13 (fun H locs hP _ hS => ?_)
  have hP : va_P D kl (mw a (u0.1, u0.2.1, u0.2.2.1, u0.2.2.2.1, u0.2.2.2.2.1, ((u0.2.2.2.2.2.1 &&& (-16)) ||| (x1 &&& 15)), u0.2.2.2.2.2.2.1, u0.2.2.2.2.2.2.2.1, u0.2.2.2.2.2.2.2.2.1, u0.2.2.2.2.2.2.2.2.2)) H := hP
  subst hQ
  exact rt_v hx hb hr hlk (by simp only [C_Mo_setMask]) hP hS d_Mo_setMask_16
set_option maxHeartbeats 4000000 in
set_option maxRecDepth 100000 in
theorem k_Mo_known (l : Launch) (D : va_G) (a : RAd) (hA : ApR a) (u0 : RSt) (x0 : Int32) : MC kl (mw a) (FB a) (tyR a) l D y_Mo_known b_Mo_known 1 (some .boolean) rm_Mo_known [.int x0] u0 (some (.int (C_Mo_known x0))) u0 := by
  refine MC.mk (by decide) (Nat.le_of_ble_eq_true rfl) ?_
  intro p e s m below meth c ls Q args H locs hx hb hr hml hown hts hlk hl hP hK hS hQ
  have hown : s.vm.findClass R_Mo = some m.cls := hown
  have hl : lv_has ls 1 [(0, .int x0)] := hl
  refine lv_iload_n hx hb d_Mo_known_0 rfl (lv_at hl 0 rfl) ?_
  refine lv_sipush (v := 4096) hx hb d_Mo_known_1 (by decide) ?_
  refine lv_icmp_lt (tgt := 9) hx hb d_Mo_known_4 (by decide) (fun h4 => ?_) (fun h4 => ?_)
  · refine lv_iload_n hx hb d_Mo_known_9 rfl (lv_at hl 0 rfl) ?_
    refine lv_sipush (v := 2048) hx hb d_Mo_known_10 (by decide) ?_
    refine lv_icmp_lt (tgt := 29) hx hb d_Mo_known_13 (by decide) (fun h13 => ?_) (fun h13 => ?_)
    · refine lv_iload_n hx hb d_Mo_known_29 rfl (lv_at hl 0 rfl) ?_
      refine lv_sipush (v := 1024) hx hb d_Mo_known_30 (by decide) ?_
      refine lv_icmp_lt (tgt := 49) hx hb d_Mo_known_33 (by decide) (fun h33 => ?_) (fun h33 => ?_)
      · refine lv_iload_n hx hb d_Mo_known_49 rfl (lv_at hl 0 rfl) ?_
        refine lv_sipush (v := 512) hx hb d_Mo_known_50 (by decide) ?_
        refine lv_icmp_lt (tgt := 78) hx hb d_Mo_known_53 (by decide) (fun h53 => ?_) (fun h53 => ?_)
        · refine lv_iconst (v := 0) hx hb d_Mo_known_78 (by decide) ?_
          subst hQ
          exact rt_z hx hb hr hlk rfl (by simp only [C_Mo_known, if_pos h4, if_pos h13, if_pos h33, if_pos h53]) rfl hP hS d_Mo_known_79
        refine lv_iload_n hx hb d_Mo_known_56 rfl (lv_at hl 0 rfl) ?_
        refine lv_bipush (v := 16) hx hb d_Mo_known_57 (by decide) ?_
        refine lv_iand hx hb d_Mo_known_59 ?_
        refine lv_if_ne (tgt := 78) hx hb d_Mo_known_60 (by decide) (fun h60 => ?_) (fun h60 => ?_)
        · refine lv_iconst (v := 0) hx hb d_Mo_known_78 (by decide) ?_
          subst hQ
          exact rt_z hx hb hr hlk rfl (by simp only [C_Mo_known, if_pos h4, if_pos h13, if_pos h33, if_neg h53, if_neg h60]) rfl hP hS d_Mo_known_79
        refine lv_iload_n hx hb d_Mo_known_63 rfl (lv_at hl 0 rfl) ?_
        refine lv_iconst (v := 5) hx hb d_Mo_known_64 (by decide) ?_
        refine lv_ishr hx hb d_Mo_known_65 ?_
        refine lv_bipush (v := 15) hx hb d_Mo_known_66 (by decide) ?_
        refine lv_iand hx hb d_Mo_known_68 ?_
        refine lv_bipush (v := 9) hx hb d_Mo_known_69 (by decide) ?_
        refine lv_icmp_eq (tgt := 78) hx hb d_Mo_known_71 (by decide) (fun h71 => ?_) (fun h71 => ?_)
        · refine lv_iconst (v := 0) hx hb d_Mo_known_78 (by decide) ?_
          subst hQ
          exact rt_z hx hb hr hlk rfl (by simp only [C_Mo_known, if_pos h4, if_pos h13, if_pos h33, if_neg h53, if_pos h60, if_pos h71]) rfl hP hS d_Mo_known_79
        refine lv_iconst (v := 1) hx hb d_Mo_known_74 (by decide) ?_
        refine lv_goto (tgt := 79) hx hb d_Mo_known_75 (by decide) ?_
        subst hQ
        exact rt_z hx hb hr hlk rfl (by simp only [C_Mo_known, if_pos h4, if_pos h13, if_pos h33, if_neg h53, if_pos h60, if_neg h71]) rfl hP hS d_Mo_known_79
      refine lv_iload_n hx hb d_Mo_known_36 rfl (lv_at hl 0 rfl) ?_
      refine lv_sipush (v := 1920) hx hb d_Mo_known_37 (by decide) ?_
      refine lv_icmp_ge (tgt := 47) hx hb d_Mo_known_40 (by decide) (fun h40 => ?_) (fun h40 => ?_)
      · refine lv_iconst (v := 0) hx hb d_Mo_known_47 (by decide) ?_
        subst hQ
        exact rt_z hx hb hr hlk rfl (by simp only [C_Mo_known, if_pos h4, if_pos h13, if_neg h33, if_pos h40]) rfl hP hS d_Mo_known_48
      refine lv_iconst (v := 1) hx hb d_Mo_known_43 (by decide) ?_
      refine lv_goto (tgt := 48) hx hb d_Mo_known_44 (by decide) ?_
      subst hQ
      exact rt_z hx hb hr hlk rfl (by simp only [C_Mo_known, if_pos h4, if_pos h13, if_neg h33, if_neg h40]) rfl hP hS d_Mo_known_48
    refine lv_iload_n hx hb d_Mo_known_16 rfl (lv_at hl 0 rfl) ?_
    refine lv_sipush (v := 3072) hx hb d_Mo_known_17 (by decide) ?_
    refine lv_icmp_ge (tgt := 27) hx hb d_Mo_known_20 (by decide) (fun h20 => ?_) (fun h20 => ?_)
    · refine lv_iconst (v := 0) hx hb d_Mo_known_27 (by decide) ?_
      subst hQ
      exact rt_z hx hb hr hlk rfl (by simp only [C_Mo_known, if_pos h4, if_neg h13, if_pos h20]) rfl hP hS d_Mo_known_28
    refine lv_iconst (v := 1) hx hb d_Mo_known_23 (by decide) ?_
    refine lv_goto (tgt := 28) hx hb d_Mo_known_24 (by decide) ?_
    subst hQ
    exact rt_z hx hb hr hlk rfl (by simp only [C_Mo_known, if_pos h4, if_neg h13, if_neg h20]) rfl hP hS d_Mo_known_28
  refine lv_iconst (v := 1) hx hb d_Mo_known_7 (by decide) ?_
  subst hQ
  exact rt_z hx hb hr hlk rfl (by simp only [C_Mo_known, if_neg h4]) rfl hP hS d_Mo_known_8
set_option maxHeartbeats 4000000 in
set_option maxRecDepth 100000 in
theorem k_Mo_isX (l : Launch) (D : va_G) (a : RAd) (hA : ApR a) (u0 : RSt) (x0 : Int32) : MC kl (mw a) (FB a) (tyR a) l D y_Mo_isX b_Mo_isX 1 (some .boolean) rm_Mo_isX [.int x0] u0 (some (.int (C_Mo_isX x0))) u0 := by
  refine MC.mk (by decide) (Nat.le_of_ble_eq_true rfl) ?_
  intro p e s m below meth c ls Q args H locs hx hb hr hml hown hts hlk hl hP hK hS hQ
  have hown : s.vm.findClass R_Mo = some m.cls := hown
  have hl : lv_has ls 1 [(0, .int x0)] := hl
  refine lv_iload_n hx hb d_Mo_isX_0 rfl (lv_at hl 0 rfl) ?_
  refine lv_sipush (v := 1152) hx hb d_Mo_isX_1 (by decide) ?_
  refine lv_icmp_lt (tgt := 18) hx hb d_Mo_isX_4 (by decide) (fun h4 => ?_) (fun h4 => ?_)
  · refine lv_iconst (v := 0) hx hb d_Mo_isX_18 (by decide) ?_
    subst hQ
    exact rt_z hx hb hr hlk rfl (by simp only [C_Mo_isX, if_pos h4]) rfl hP hS d_Mo_isX_19
  refine lv_iload_n hx hb d_Mo_isX_7 rfl (lv_at hl 0 rfl) ?_
  refine lv_sipush (v := 1216) hx hb d_Mo_isX_8 (by decide) ?_
  refine lv_icmp_ge (tgt := 18) hx hb d_Mo_isX_11 (by decide) (fun h11 => ?_) (fun h11 => ?_)
  · refine lv_iconst (v := 0) hx hb d_Mo_isX_18 (by decide) ?_
    subst hQ
    exact rt_z hx hb hr hlk rfl (by simp only [C_Mo_isX, if_neg h4, if_pos h11]) rfl hP hS d_Mo_isX_19
  refine lv_iconst (v := 1) hx hb d_Mo_isX_14 (by decide) ?_
  refine lv_goto (tgt := 19) hx hb d_Mo_isX_15 (by decide) ?_
  subst hQ
  exact rt_z hx hb hr hlk rfl (by simp only [C_Mo_isX, if_neg h4, if_neg h11]) rfl hP hS d_Mo_isX_19
set_option maxHeartbeats 4000000 in
set_option maxRecDepth 100000 in
theorem k_Mo_twoOperands (l : Launch) (D : va_G) (a : RAd) (hA : ApR a) (u0 : RSt) (x1 : Int32) : MC kl (mw a) (FB a) (tyR a) l D y_Mo_twoOperands b_Mo_twoOperands 9 none rm_Mo_twoOperands [.ref a.1, .int x1] u0 none (C_Mo_twoOperands u0 x1) := by
  refine MC.mk (by decide) (Nat.le_of_ble_eq_true rfl) ?_
  intro p e s m below meth c ls Q args H locs hx hb hr hml hown hts hlk hl hP hK hS hQ
  have hown : s.vm.findClass R_Mo = some m.cls := hown
  have hl : lv_has ls 9 [(0, .ref a.1), (1, .int x1)] := hl
  refine lv_iload_n hx hb d_Mo_twoOperands_0 rfl (lv_at hl 1 rfl) ?_
  refine lv_bipush (v := 12) hx hb d_Mo_twoOperands_1 (by decide) ?_
  refine lv_ishr hx hb d_Mo_twoOperands_3 ?_
  refine lv_istore_n hx hb d_Mo_twoOperands_4 rfl hl (by decide) rfl (fun ls hl => ?_)
  have hl : lv_has ls 9 [(2, .int (x1 >>> ((12 : Int32) &&& 31))), (0, .ref a.1), (1, .int x1)] := hl
  refine lv_iload_n hx hb d_Mo_twoOperands_5 rfl (lv_at hl 0 rfl) ?_
  refine lv_iconst (v := 1) hx hb d_Mo_twoOperands_6 (by decide) ?_
  refine lv_iand hx hb d_Mo_twoOperands_7 ?_
  refine lv_iconst (v := 1) hx hb d_Mo_twoOperands_8 (by decide) ?_
  have hJ17 : ∀ (z17 : Int32), z17 = J_Mo_twoOperands_17 x1 → W p l e rm_Mo_twoOperands s m args below meth c H locs 0 0 Q (F0 m 17 ls [.int z17]) := by
    intro z17 jz17
    refine lv_istore_n hx hb d_Mo_twoOperands_17 rfl hl (by decide) rfl (fun ls hl => ?_)
    have hl : lv_has ls 9 [(3, .int z17), (2, .int (x1 >>> ((12 : Int32) &&& 31))), (0, .ref a.1), (1, .int x1)] := hl
    refine lv_aload_n hx hb d_Mo_twoOperands_18 rfl (lv_at hl 2 rfl) ?_
    refine lv_aload_n hx hb d_Mo_twoOperands_19 rfl (lv_at hl 2 rfl) ?_
    refine lv_iload_n hx hb d_Mo_twoOperands_20 rfl (lv_at hl 3 rfl) ?_
    refine lv_bipush (v := 63) hx hb d_Mo_twoOperands_21 (by decide) ?_
    refine lv_iand hx hb d_Mo_twoOperands_23 ?_
    refine lv_iload_n hx hb d_Mo_twoOperands_24 rfl (lv_at hl 0 rfl) ?_
    refine cl_V (C := R_Mo) (k_Mo_address l D a hA u0 (x1 &&& 63) z17) ⟨hx, hb, hml, hown, hts⟩ (cwV 2 hts (gi_V t_564 t_566 t_39 t_66 t_567) rfl rfl rfl (by decide +kernel) ⟨Nat.le_of_ble_eq_true rfl, Nat.le_of_ble_eq_true rfl⟩) (va_recv (q0 := 0) (ci := 4) (q := (R_Mo, F_Mo, 10)) hK hP rfl rfl) hP hK hS rfl hl.1 rfl (Nat.le_of_ble_eq_true rfl) d_Mo_twoOperands_25 (nm_is (fun r25 u25 e25 f25 H locs hP hS => ?_))
    refine lv_iload_n hx hb d_Mo_twoOperands_28 rfl (lv_at hl 0 rfl) ?_
    refine cl_V (C := R_Mo) (k_Mo_value l D a hA u25 r25 z17) ⟨hx, hb, hml, hown, hts⟩ (cwV 2 hts (gi_V t_580 t_582 t_43 t_66 t_583) rfl rfl rfl (by decide +kernel) ⟨Nat.le_of_ble_eq_true rfl, Nat.le_of_ble_eq_true rfl⟩) (va_recv (q0 := 0) (ci := 4) (q := (R_Mo, F_Mo, 10)) hK hP rfl rfl) hP hK hS rfl hl.1 rfl (Nat.le_of_ble_eq_true rfl) d_Mo_twoOperands_29 (nm_i (fun r29 e29 H locs hP hS => ?_))
    refine lv_istore hx hb d_Mo_twoOperands_32 hl (by decide) rfl (fun ls hl => ?_)
    have hl : lv_has ls 9 [(4, .int r29), (3, .int z17), (2, .int (x1 >>> ((12 : Int32) &&& 31))), (0, .ref a.1), (1, .int x1)] := hl
    refine lv_aload_n hx hb d_Mo_twoOperands_34 rfl (lv_at hl 3 rfl) ?_
    refine lv_iload_n hx hb d_Mo_twoOperands_35 rfl (lv_at hl 4 rfl) ?_
    refine lv_bipush (v := 6) hx hb d_Mo_twoOperands_36 (by decide) ?_
    refine lv_ishr hx hb d_Mo_twoOperands_38 ?_
    refine lv_bipush (v := 63) hx hb d_Mo_twoOperands_39 (by decide) ?_
    refine lv_iand hx hb d_Mo_twoOperands_41 ?_
    refine lv_iload_n hx hb d_Mo_twoOperands_42 rfl (lv_at hl 1 rfl) ?_
    refine cl_V (C := R_Mo) (k_Mo_address l D a hA u25 ((x1 >>> ((6 : Int32) &&& 31)) &&& 63) z17) ⟨hx, hb, hml, hown, hts⟩ (cwV 2 hts (gi_V t_564 t_566 t_39 t_66 t_567) rfl rfl rfl (by decide +kernel) ⟨Nat.le_of_ble_eq_true rfl, Nat.le_of_ble_eq_true rfl⟩) (va_recv (q0 := 0) (ci := 4) (q := (R_Mo, F_Mo, 10)) hK hP rfl rfl) hP hK hS rfl hl.1 rfl (Nat.le_of_ble_eq_true rfl) d_Mo_twoOperands_43 (nm_is (fun r43 u43 e43 f43 H locs hP hS => ?_))
    refine lv_istore hx hb d_Mo_twoOperands_46 hl (by decide) rfl (fun ls hl => ?_)
    have hl : lv_has ls 9 [(5, .int r43), (4, .int r29), (3, .int z17), (2, .int (x1 >>> ((12 : Int32) &&& 31))), (0, .ref a.1), (1, .int x1)] := hl
    refine lv_aload_n hx hb d_Mo_twoOperands_48 rfl (lv_at hl 4 rfl) ?_
    refine lv_iload hx hb d_Mo_twoOperands_49 (lv_at hl 0 rfl) ?_
    refine lv_iload_n hx hb d_Mo_twoOperands_51 rfl (lv_at hl 2 rfl) ?_
    refine cl_V (C := R_Mo) (k_Mo_value l D a hA u43 r43 z17) ⟨hx, hb, hml, hown, hts⟩ (cwV 2 hts (gi_V t_580 t_582 t_43 t_66 t_583) rfl rfl rfl (by decide +kernel) ⟨Nat.le_of_ble_eq_true rfl, Nat.le_of_ble_eq_true rfl⟩) (va_recv (q0 := 0) (ci := 4) (q := (R_Mo, F_Mo, 10)) hK hP rfl rfl) hP hK hS rfl hl.1 rfl (Nat.le_of_ble_eq_true rfl) d_Mo_twoOperands_52 (nm_i (fun r52 e52 H locs hP hS => ?_))
    refine lv_istore hx hb d_Mo_twoOperands_55 hl (by decide) rfl (fun ls hl => ?_)
    have hl : lv_has ls 9 [(6, .int r52), (5, .int r43), (4, .int r29), (3, .int z17), (2, .int (x1 >>> ((12 : Int32) &&& 31))), (0, .ref a.1), (1, .int x1)] := hl
    refine lv_iload hx hb d_Mo_twoOperands_57 (lv_at hl 2 rfl) ?_
    refine lv_iload_n hx hb d_Mo_twoOperands_59 rfl (lv_at hl 3 rfl) ?_
    have hJ70 : ∀ (z70 : Int32), z70 = J_Mo_twoOperands_70 z17 → W p l e rm_Mo_twoOperands s m args below meth c H locs 0 0 Q (F0 m 70 ls [.int z70, .int r29]) := by
      intro z70 jz70
      refine lv_ixor hx hb d_Mo_twoOperands_70 ?_
      refine lv_istore hx hb d_Mo_twoOperands_71 hl (by decide) rfl (fun ls hl => ?_)
      have hl : lv_has ls 9 [(7, .int (r29 ^^^ z70)), (6, .int r52), (5, .int r43), (4, .int r29), (3, .int z17), (2, .int (x1 >>> ((12 : Int32) &&& 31))), (0, .ref a.1), (1, .int x1)] := hl
      refine lv_iload hx hb d_Mo_twoOperands_73 (lv_at hl 1 rfl) ?_
      refine lv_istore hx hb d_Mo_twoOperands_75 hl (by decide) rfl (fun ls hl => ?_)
      have hl : lv_has ls 9 [(8, .int r52), (7, .int (r29 ^^^ z70)), (6, .int r52), (5, .int r43), (4, .int r29), (3, .int z17), (2, .int (x1 >>> ((12 : Int32) &&& 31))), (0, .ref a.1), (1, .int x1)] := hl
      refine lv_iload_n hx hb d_Mo_twoOperands_77 rfl (lv_at hl 6 rfl) ?_
      refine lv_bipush (v := 6) hx hb d_Mo_twoOperands_78 (by decide) ?_
      have hJ172 : ∀ (z172_l8 : Int32) (v172 : RSt) (H : Heap) (locs : List Loc) (ls : Array Slot), z172_l8 = (J_Mo_twoOperands_172 x1 z17 r29 u43 r52 z70).1 → v172 = (J_Mo_twoOperands_172 x1 z17 r29 u43 r52 z70).2 → va_P D kl (mw a v172) H → va_S (FB a) s.heap H locs → lv_has ls 9 [(0, .ref a.1), (2, .int (x1 >>> ((12 : Int32) &&& 31))), (3, .int z17), (4, .int r29), (5, .int r43), (8, .int z172_l8)] → W p l e rm_Mo_twoOperands s m args below meth c H locs 0 0 Q (F0 m 172 ls []) := by
        intro z172_l8 v172 H locs ls jz172_l8 jv172 hP hS hl
        refine lv_iload_n hx hb d_Mo_twoOperands_172 rfl (lv_at hl 1 rfl) ?_
        refine lv_bipush (v := 8) hx hb d_Mo_twoOperands_173 (by decide) ?_
        have hJ199 : ∀ (v199 : RSt) (H : Heap) (locs : List Loc), v199 = J_Mo_twoOperands_199 x1 z17 r43 z172_l8 v172 → va_P D kl (mw a v199) H → va_S (FB a) s.heap H locs → W p l e rm_Mo_twoOperands s m args below meth c H locs 0 0 Q (F0 m 199 ls []) := by
          intro v199 H locs jv199 hP hS
          refine lv_iload_n hx hb d_Mo_twoOperands_199 rfl (lv_at hl 2 rfl) ?_
          refine lv_if_eq (tgt := 220) hx hb d_Mo_twoOperands_200 (by decide) (fun h200 => ?_) (fun h200 => ?_)
          · subst hQ
            exact rt_v hx hb hr hlk (by simp only [C_Mo_twoOperands, ← jz17, ← e25, ← f25, ← e29, ← e43, ← f43, ← e52, ← jz70, ← jz172_l8, ← jv172, ← jv199, if_pos h200]) hP hS d_Mo_twoOperands_220
          refine lv_aload_n hx hb d_Mo_twoOperands_203 rfl (lv_at hl 0 rfl) ?_
          refine lv_iload_n hx hb d_Mo_twoOperands_204 rfl (lv_at hl 1 rfl) ?_
          refine lv_bipush (v := 9) hx hb d_Mo_twoOperands_205 (by decide) ?_
          have hJ217 : ∀ (z217 : Int32), z217 = J_Mo_twoOperands_217 x1 r29 z172_l8 → W p l e rm_Mo_twoOperands s m args below meth c H locs 0 0 Q (F0 m 217 ls [.int z217, .ref a.1]) := by
            intro z217 jz217
            refine cl_V (C := R_Mo) (k_Mo_parity l D a hA v199 z217) ⟨hx, hb, hml, hown, hts⟩ (cwV 1 hts (gi_V t_610 t_612 t_49 t_66 t_613) rfl rfl rfl (by decide +kernel) ⟨Nat.le_of_ble_eq_true rfl, Nat.le_of_ble_eq_true rfl⟩) (va_recv (q0 := 0) (ci := 4) (q := (R_Mo, F_Mo, 10)) hK hP rfl rfl) hP hK hS rfl hl.1 rfl (Nat.le_of_ble_eq_true rfl) d_Mo_twoOperands_217 (nm_s (fun u217 e217 H locs hP hS => ?_))
            subst hQ
            exact rt_v hx hb hr hlk (by simp only [C_Mo_twoOperands, ← jz17, ← e25, ← f25, ← e29, ← e43, ← f43, ← e52, ← jz70, ← jz172_l8, ← jv172, ← jv199, if_neg h200, ← jz217, ← e217]) hP hS d_Mo_twoOperands_220
          refine lv_icmp_ne (tgt := 215) hx hb d_Mo_twoOperands_207 (by decide) (fun h207 => ?_) (fun h207 => ?_)
          · refine lv_iload hx hb d_Mo_twoOperands_215 (lv_at hl 5 rfl) ?_
            exact hJ217 z172_l8 (by simp only [J_Mo_twoOperands_217, if_neg h207])
          refine lv_iload hx hb d_Mo_twoOperands_210 (lv_at hl 3 rfl) ?_
          refine lv_goto (tgt := 217) hx hb d_Mo_twoOperands_212 (by decide) ?_
          exact hJ217 r29 (by simp only [J_Mo_twoOperands_217, if_pos h207])
        refine lv_icmp_eq (tgt := 199) hx hb d_Mo_twoOperands_175 (by decide) (fun h175 => ?_) (fun h175 => ?_)
        · exact hJ199 v172 _ _ (by simp only [J_Mo_twoOperands_199, if_pos h175]) hP hS
        refine lv_iload_n hx hb d_Mo_twoOperands_178 rfl (lv_at hl 1 rfl) ?_
        refine lv_bipush (v := 9) hx hb d_Mo_twoOperands_179 (by decide) ?_
        refine lv_icmp_eq (tgt := 199) hx hb d_Mo_twoOperands_181 (by decide) (fun h181 => ?_) (fun h181 => ?_)
        · exact hJ199 v172 _ _ (by simp only [J_Mo_twoOperands_199, if_neg h175, if_pos h181]) hP hS
        refine lv_aload_n hx hb d_Mo_twoOperands_184 rfl (lv_at hl 0 rfl) ?_
        refine lv_iload hx hb d_Mo_twoOperands_185 (lv_at hl 5 rfl) ?_
        refine cl_V (C := R_Mo) (k_Mo_test l D a hA v172 z172_l8) ⟨hx, hb, hml, hown, hts⟩ (cwV 1 hts (gi_V t_602 t_604 t_47 t_66 t_605) rfl rfl rfl (by decide +kernel) ⟨Nat.le_of_ble_eq_true rfl, Nat.le_of_ble_eq_true rfl⟩) (va_recv (q0 := 0) (ci := 4) (q := (R_Mo, F_Mo, 10)) hK hP rfl rfl) hP hK hS rfl hl.1 rfl (Nat.le_of_ble_eq_true rfl) d_Mo_twoOperands_187 (nm_s (fun u187 e187 H locs hP hS => ?_))
        refine lv_aload_n hx hb d_Mo_twoOperands_190 rfl (lv_at hl 0 rfl) ?_
        refine lv_iload hx hb d_Mo_twoOperands_191 (lv_at hl 4 rfl) ?_
        refine lv_iload hx hb d_Mo_twoOperands_193 (lv_at hl 5 rfl) ?_
        refine lv_iload_n hx hb d_Mo_twoOperands_195 rfl (lv_at hl 2 rfl) ?_
        refine cl_V (C := R_Mo) (k_Mo_store l D a hA u187 r43 z172_l8 z17) ⟨hx, hb, hml, hown, hts⟩ (cwV 3 hts (gi_V t_606 t_608 t_48 t_66 t_609) rfl rfl rfl (by decide +kernel) ⟨Nat.le_of_ble_eq_true rfl, Nat.le_of_ble_eq_true rfl⟩) (va_recv (q0 := 0) (ci := 4) (q := (R_Mo, F_Mo, 10)) hK hP rfl rfl) hP hK hS rfl hl.1 rfl (Nat.le_of_ble_eq_true rfl) d_Mo_twoOperands_196 (nm_s (fun u196 e196 H locs hP hS => ?_))
        exact hJ199 u196 _ _ (by simp only [J_Mo_twoOperands_199, if_neg h175, if_neg h181, ← e187, ← e196]) hP hS
      refine lv_icmp_ge (tgt := 93) hx hb d_Mo_twoOperands_80 (by decide) (fun h80 => ?_) (fun h80 => ?_)
      · refine lv_iload_n hx hb d_Mo_twoOperands_93 rfl (lv_at hl 6 rfl) ?_
        refine lv_bipush (v := 8) hx hb d_Mo_twoOperands_94 (by decide) ?_
        refine lv_icmp_ge (tgt := 114) hx hb d_Mo_twoOperands_96 (by decide) (fun h96 => ?_) (fun h96 => ?_)
        · refine lv_iload_n hx hb d_Mo_twoOperands_114 rfl (lv_at hl 6 rfl) ?_
          refine lv_bipush (v := 10) hx hb d_Mo_twoOperands_115 (by decide) ?_
          refine lv_icmp_ge (tgt := 131) hx hb d_Mo_twoOperands_117 (by decide) (fun h117 => ?_) (fun h117 => ?_)
          · refine lv_iload_n hx hb d_Mo_twoOperands_131 rfl (lv_at hl 6 rfl) ?_
            refine lv_bipush (v := 12) hx hb d_Mo_twoOperands_132 (by decide) ?_
            refine lv_icmp_ge (tgt := 152) hx hb d_Mo_twoOperands_134 (by decide) (fun h134 => ?_) (fun h134 => ?_)
            · refine lv_iload_n hx hb d_Mo_twoOperands_152 rfl (lv_at hl 6 rfl) ?_
              refine lv_bipush (v := 14) hx hb d_Mo_twoOperands_153 (by decide) ?_
              refine lv_icmp_ge (tgt := 165) hx hb d_Mo_twoOperands_155 (by decide) (fun h155 => ?_) (fun h155 => ?_)
              · refine lv_iload hx hb d_Mo_twoOperands_165 (lv_at hl 2 rfl) ?_
                refine lv_iload hx hb d_Mo_twoOperands_167 (lv_at hl 4 rfl) ?_
                refine lv_ior hx hb d_Mo_twoOperands_169 ?_
                refine lv_istore hx hb d_Mo_twoOperands_170 hl (by decide) rfl (fun ls hl => ?_)
                have hl : lv_has ls 9 [(8, .int (r52 ||| r29)), (7, .int (r29 ^^^ z70)), (6, .int r52), (5, .int r43), (4, .int r29), (3, .int z17), (2, .int (x1 >>> ((12 : Int32) &&& 31))), (0, .ref a.1), (1, .int x1)] := hl
                exact hJ172 (r52 ||| r29) u43 _ _ _ (by simp only [J_Mo_twoOperands_172, if_pos h80, if_pos h96, if_pos h117, if_pos h134, if_pos h155]) (by simp only [J_Mo_twoOperands_172, if_pos h80, if_pos h96, if_pos h117, if_pos h134, if_pos h155]) hP hS (lv_sub hl [7, 6, 5, 4, 3, 0] rfl)
              refine lv_iload hx hb d_Mo_twoOperands_158 (lv_at hl 4 rfl) ?_
              refine lv_istore hx hb d_Mo_twoOperands_160 hl (by decide) rfl (fun ls hl => ?_)
              have hl : lv_has ls 9 [(8, .int r29), (7, .int (r29 ^^^ z70)), (6, .int r52), (5, .int r43), (4, .int r29), (3, .int z17), (2, .int (x1 >>> ((12 : Int32) &&& 31))), (0, .ref a.1), (1, .int x1)] := hl
              refine lv_goto (tgt := 172) hx hb d_Mo_twoOperands_162 (by decide) ?_
              exact hJ172 r29 u43 _ _ _ (by simp only [J_Mo_twoOperands_172, if_pos h80, if_pos h96, if_pos h117, if_pos h134, if_neg h155]) (by simp only [J_Mo_twoOperands_172, if_pos h80, if_pos h96, if_pos h117, if_pos h134, if_neg h155]) hP hS (lv_sub hl [7, 6, 5, 4, 3, 0] rfl)
            refine lv_aload_n hx hb d_Mo_twoOperands_137 rfl (lv_at hl 7 rfl) ?_
            refine lv_iload hx hb d_Mo_twoOperands_138 (lv_at hl 2 rfl) ?_
            refine lv_iload hx hb d_Mo_twoOperands_140 (lv_at hl 4 rfl) ?_
            refine lv_iconst (v := 0) hx hb d_Mo_twoOperands_142 (by decide) ?_
            refine lv_iload_n hx hb d_Mo_twoOperands_143 rfl (lv_at hl 5 rfl) ?_
            refine cl_V (C := R_Mo) (k_Mo_sum l D a hA u43 r52 r29 0 z17) ⟨hx, hb, hml, hown, hts⟩ (cwV 4 hts (gi_V t_585 t_587 t_44 t_66 t_588) rfl rfl rfl (by decide +kernel) ⟨Nat.le_of_ble_eq_true rfl, Nat.le_of_ble_eq_true rfl⟩) (va_recv (q0 := 0) (ci := 4) (q := (R_Mo, F_Mo, 10)) hK hP rfl rfl) hP hK hS rfl hl.1 rfl (Nat.le_of_ble_eq_true rfl) d_Mo_twoOperands_144 (nm_is (fun r144 u144 e144 f144 H locs hP hS => ?_))
            refine lv_istore hx hb d_Mo_twoOperands_147 hl (by decide) rfl (fun ls hl => ?_)
            have hl : lv_has ls 9 [(8, .int r144), (7, .int (r29 ^^^ z70)), (6, .int r52), (5, .int r43), (4, .int r29), (3, .int z17), (2, .int (x1 >>> ((12 : Int32) &&& 31))), (0, .ref a.1), (1, .int x1)] := hl
            refine lv_goto (tgt := 172) hx hb d_Mo_twoOperands_149 (by decide) ?_
            exact hJ172 r144 u144 _ _ _ (by simp only [J_Mo_twoOperands_172, if_pos h80, if_pos h96, if_pos h117, if_neg h134, ← e144, ← f144]) (by simp only [J_Mo_twoOperands_172, if_pos h80, if_pos h96, if_pos h117, if_neg h134, ← e144, ← f144]) hP hS (lv_sub hl [7, 6, 5, 4, 3, 0] rfl)
          refine lv_aload_n hx hb d_Mo_twoOperands_120 rfl (lv_at hl 7 rfl) ?_
          refine lv_iload hx hb d_Mo_twoOperands_121 (lv_at hl 4 rfl) ?_
          refine lv_iload hx hb d_Mo_twoOperands_123 (lv_at hl 2 rfl) ?_
          refine cl_V (C := R_Mo) (k_Mo_compare l D a hA u43 r29 r52) ⟨hx, hb, hml, hown, hts⟩ (cwV 2 hts (gi_V t_594 t_596 t_46 t_66 t_597) rfl rfl rfl (by decide +kernel) ⟨Nat.le_of_ble_eq_true rfl, Nat.le_of_ble_eq_true rfl⟩) (va_recv (q0 := 0) (ci := 4) (q := (R_Mo, F_Mo, 10)) hK hP rfl rfl) hP hK hS rfl hl.1 rfl (Nat.le_of_ble_eq_true rfl) d_Mo_twoOperands_125 (nm_s (fun u125 e125 H locs hP hS => ?_))
          refine lv_goto (tgt := 172) hx hb d_Mo_twoOperands_128 (by decide) ?_
          exact hJ172 r52 u125 _ _ _ (by simp only [J_Mo_twoOperands_172, if_pos h80, if_pos h96, if_neg h117, ← e125]) (by simp only [J_Mo_twoOperands_172, if_pos h80, if_pos h96, if_neg h117, ← e125]) hP hS (lv_sub hl [7, 6, 5, 4, 3, 0] rfl)
        refine lv_aload_n hx hb d_Mo_twoOperands_99 rfl (lv_at hl 7 rfl) ?_
        refine lv_iload hx hb d_Mo_twoOperands_100 (lv_at hl 2 rfl) ?_
        refine lv_iload hx hb d_Mo_twoOperands_102 (lv_at hl 1 rfl) ?_
        refine lv_iconst (v := 1) hx hb d_Mo_twoOperands_104 (by decide) ?_
        refine lv_iload_n hx hb d_Mo_twoOperands_105 rfl (lv_at hl 5 rfl) ?_
        refine cl_V (C := R_Mo) (k_Mo_sum l D a hA u43 r52 (r29 ^^^ z70) 1 z17) ⟨hx, hb, hml, hown, hts⟩ (cwV 4 hts (gi_V t_585 t_587 t_44 t_66 t_588) rfl rfl rfl (by decide +kernel) ⟨Nat.le_of_ble_eq_true rfl, Nat.le_of_ble_eq_true rfl⟩) (va_recv (q0 := 0) (ci := 4) (q := (R_Mo, F_Mo, 10)) hK hP rfl rfl) hP hK hS rfl hl.1 rfl (Nat.le_of_ble_eq_true rfl) d_Mo_twoOperands_106 (nm_is (fun r106 u106 e106 f106 H locs hP hS => ?_))
        refine lv_istore hx hb d_Mo_twoOperands_109 hl (by decide) rfl (fun ls hl => ?_)
        have hl : lv_has ls 9 [(8, .int r106), (7, .int (r29 ^^^ z70)), (6, .int r52), (5, .int r43), (4, .int r29), (3, .int z17), (2, .int (x1 >>> ((12 : Int32) &&& 31))), (0, .ref a.1), (1, .int x1)] := hl
        refine lv_goto (tgt := 172) hx hb d_Mo_twoOperands_111 (by decide) ?_
        exact hJ172 r106 u106 _ _ _ (by simp only [J_Mo_twoOperands_172, if_pos h80, if_neg h96, ← e106, ← f106]) (by simp only [J_Mo_twoOperands_172, if_pos h80, if_neg h96, ← e106, ← f106]) hP hS (lv_sub hl [7, 6, 5, 4, 3, 0] rfl)
      refine lv_iload hx hb d_Mo_twoOperands_83 (lv_at hl 2 rfl) ?_
      refine lv_iload hx hb d_Mo_twoOperands_85 (lv_at hl 1 rfl) ?_
      refine lv_iand hx hb d_Mo_twoOperands_87 ?_
      refine lv_istore hx hb d_Mo_twoOperands_88 hl (by decide) rfl (fun ls hl => ?_)
      have hl : lv_has ls 9 [(8, .int (r52 &&& (r29 ^^^ z70))), (7, .int (r29 ^^^ z70)), (6, .int r52), (5, .int r43), (4, .int r29), (3, .int z17), (2, .int (x1 >>> ((12 : Int32) &&& 31))), (0, .ref a.1), (1, .int x1)] := hl
      refine lv_goto (tgt := 172) hx hb d_Mo_twoOperands_90 (by decide) ?_
      exact hJ172 (r52 &&& (r29 ^^^ z70)) u43 _ _ _ (by simp only [J_Mo_twoOperands_172, if_neg h80]) (by simp only [J_Mo_twoOperands_172, if_neg h80]) hP hS (lv_sub hl [7, 6, 5, 4, 3, 0] rfl)
    refine lv_if_eq (tgt := 68) hx hb d_Mo_twoOperands_60 (by decide) (fun h60 => ?_) (fun h60 => ?_)
    · refine lv_ldc (v := 65535) hx hb hown (hts _ (wm t_545)) d_Mo_twoOperands_68 ?_
      exact hJ70 65535 (by simp only [J_Mo_twoOperands_70, if_pos h60])
    refine lv_ldc (v := 65280) hx hb hown (hts _ (wm t_584)) d_Mo_twoOperands_63 ?_
    refine lv_goto (tgt := 70) hx hb d_Mo_twoOperands_65 (by decide) ?_
    exact hJ70 65280 (by simp only [J_Mo_twoOperands_70, if_neg h60])
  refine lv_icmp_ne (tgt := 16) hx hb d_Mo_twoOperands_9 (by decide) (fun h9 => ?_) (fun h9 => ?_)
  · refine lv_iconst (v := 0) hx hb d_Mo_twoOperands_16 (by decide) ?_
    exact hJ17 0 (by simp only [J_Mo_twoOperands_17, if_neg h9])
  refine lv_iconst (v := 1) hx hb d_Mo_twoOperands_12 (by decide) ?_
  refine lv_goto (tgt := 17) hx hb d_Mo_twoOperands_13 (by decide) ?_
  exact hJ17 1 (by simp only [J_Mo_twoOperands_17, if_pos h9])
