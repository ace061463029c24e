/-! contracts, laid by gen.py -/
set_option maxHeartbeats 4000000 in
set_option maxRecDepth 100000 in
theorem k_Mo_step (l : Launch) (D : va_G) (a : RAd) (hA : ApR a) (u0 : RSt) (hI : ∀ j, 0 ≤ u0.1 j) : MC kl (mw a) (FB a) (tyR a) l D y_Mo_step b_Mo_step 1 (some .int) rm_Mo_step [.ref a.1] u0 (some (.int (C_Mo_step u0).1)) (C_Mo_step u0).2 := by
  refine MC.mk (by decide) (Nat.le_of_ble_eq_true rfl) ?_
  intro p e s m below meth c ls Q args H locs hx hb hr hml hown hts hlk hl hP hK hS hQ
  have hown : s.vm.findClass R_Mo = some m.cls := hown
  have hl : lv_has ls 1 [(0, .ref a.1)] := hl
  refine lv_aload_n hx hb d_Mo_step_0 rfl (lv_at hl 0 rfl) ?_
  refine lv_iconst (v := 0) hx hb d_Mo_step_1 (by decide) ?_
  refine va_put (D := D) (ci := 4) (v := .int 0) (ty := .int) (C := R_Mo) (T := F_Mo) (N := 10) hx hb hts (fun w h => wm (ui_Mo w h)) ft_Mo ft_Mo_ok fn_Mo hown hK hP (dd_R hA _) hS 0 rfl rfl 0 (by decide) (hts _ (wm t_488)) (fun _ h9 => h9) rfl (by decide +kernel) rfl rfl (Nat.le_of_ble_eq_true rfl) d_Mo_step_2 (fun H locs hP _ hS => ?_)
  have hP : va_P D kl (mw a (u0.1, u0.2.1, 0, u0.2.2.2.1, u0.2.2.2.2.1, u0.2.2.2.2.2.1, u0.2.2.2.2.2.2.1, u0.2.2.2.2.2.2.2.1, u0.2.2.2.2.2.2.2.2.1, u0.2.2.2.2.2.2.2.2.2)) H := hP
  refine lv_aload_n hx hb d_Mo_step_5 rfl (lv_at hl 0 rfl) ?_
  refine va_get (D := D) (ci := 4) (v := .int u0.2.2.2.2.2.2.1) (C := R_Mo) (T := F_Mo) (N := 10) hx hb hts (fun w h => wm (ui_Mo w h)) hown hK hP 0 rfl rfl 6 (by decide) (hts _ (wm t_494)) (fun _ h9 => h9) rfl d_Mo_step_6 ?_
  refine lv_aload_n hx hb d_Mo_step_9 rfl (lv_at hl 0 rfl) ?_
  refine va_get (D := D) (ci := 4) (v := .int u0.2.2.2.2.2.1) (C := R_Mo) (T := F_Mo) (N := 10) hx hb hts (fun w h => wm (ui_Mo w h)) hown hK hP 0 rfl rfl 5 (by decide) (hts _ (wm t_493)) (fun _ h9 => h9) rfl d_Mo_step_10 ?_
  refine lv_bipush (v := 15) hx hb d_Mo_step_13 (by decide) ?_
  refine lv_iand hx hb d_Mo_step_15 ?_
  refine lv_icmp_gt (tgt := 57) hx hb d_Mo_step_16 (by decide) (fun h16 => ?_) (fun h16 => ?_)
  · refine lv_aload_n hx hb d_Mo_step_57 rfl (lv_at hl 0 rfl) ?_
    refine va_get (D := D) (ci := 4) (v := .int u0.2.2.2.2.2.2.2.1) (C := R_Mo) (T := F_Mo) (N := 10) hx hb hts (fun w h => wm (ui_Mo w h)) hown hK hP 0 rfl rfl 7 (by decide) (hts _ (wm t_495)) (fun _ h9 => h9) rfl d_Mo_step_58 ?_
    refine lv_if_eq (tgt := 68) hx hb d_Mo_step_61 (by decide) (fun h61 => ?_) (fun h61 => ?_)
    · refine lv_aload_n hx hb d_Mo_step_68 rfl (lv_at hl 0 rfl) ?_
      refine cl_V (C := R_Mo) (k_Mo_fetched l D a hA (u0.1, u0.2.1, 0, u0.2.2.2.1, u0.2.2.2.2.1, u0.2.2.2.2.2.1, u0.2.2.2.2.2.2.1, u0.2.2.2.2.2.2.2.1, u0.2.2.2.2.2.2.2.2.1, u0.2.2.2.2.2.2.2.2.2) hI) ⟨hx, hb, hml, hown, hts⟩ (cwV 0 hts (gi_V t_550 t_552 t_37 t_66 t_553) rfl rfl rfl (by decide +kernel) ⟨Nat.le_of_ble_eq_true rfl, Nat.le_of_ble_eq_true rfl⟩) (va_recv (q0 := 0) (ci := 4) (q := (R_Mo, F_Mo, 10)) hK hP rfl rfl) hP hK hS rfl hl.1 rfl (Nat.le_of_ble_eq_true rfl) d_Mo_step_69 (nm_is (fun r69 u69 e69 f69 H locs hP hS => ?_))
      have hc : (r69, u69) = C_Mo_step u0 := by simp only [C_Mo_step, if_pos h16, if_pos h61, ← e69, ← f69]
      subst hQ
      exact rt_i hx hb hr hlk (congrArg Prod.fst hc) (congrArg Prod.snd hc) hP hS d_Mo_step_72
    refine lv_iconst (v := 1) hx hb d_Mo_step_64 (by decide) ?_
    refine lv_goto (tgt := 72) hx hb d_Mo_step_65 (by decide) ?_
    have hc : (1, (u0.1, u0.2.1, 0, u0.2.2.2.1, u0.2.2.2.2.1, u0.2.2.2.2.2.1, u0.2.2.2.2.2.2.1, u0.2.2.2.2.2.2.2.1, u0.2.2.2.2.2.2.2.2.1, u0.2.2.2.2.2.2.2.2.2)) = C_Mo_step u0 := by simp only [C_Mo_step, if_pos h16, if_neg h61]
    subst hQ
    exact rt_i hx hb hr hlk (congrArg Prod.fst hc) (congrArg Prod.snd hc) hP hS d_Mo_step_72
  refine lv_aload_n hx hb d_Mo_step_19 rfl (lv_at hl 0 rfl) ?_
  refine lv_iconst (v := 4) hx hb d_Mo_step_20 (by decide) ?_
  refine lv_aload_n hx hb d_Mo_step_21 rfl (lv_at hl 0 rfl) ?_
  refine va_get (D := D) (ci := 4) (v := .int u0.2.2.2.2.2.2.1) (C := R_Mo) (T := F_Mo) (N := 10) hx hb hts (fun w h => wm (ui_Mo w h)) hown hK hP 0 rfl rfl 6 (by decide) (hts _ (wm t_494)) (fun _ h9 => h9) rfl d_Mo_step_22 ?_
  refine lv_imul hx hb d_Mo_step_25 ?_
  refine cl_V (C := R_Mo) (k_Mo_change l D a hA (u0.1, u0.2.1, 0, u0.2.2.2.1, u0.2.2.2.2.1, u0.2.2.2.2.2.1, u0.2.2.2.2.2.2.1, u0.2.2.2.2.2.2.2.1, u0.2.2.2.2.2.2.2.2.1, u0.2.2.2.2.2.2.2.2.2) (4 * u0.2.2.2.2.2.2.1)) ⟨hx, hb, hml, hown, hts⟩ (cwV 1 hts (gi_V t_529 t_531 t_32 t_66 t_532) rfl rfl rfl (by decide +kernel) ⟨Nat.le_of_ble_eq_true rfl, Nat.le_of_ble_eq_true rfl⟩) (va_recv (q0 := 0) (ci := 4) (q := (R_Mo, F_Mo, 10)) hK hP rfl rfl) hP hK hS rfl hl.1 rfl (Nat.le_of_ble_eq_true rfl) d_Mo_step_26 (nm_s (fun u26 e26 H locs hP hS => ?_))
  refine lv_aload_n hx hb d_Mo_step_29 rfl (lv_at hl 0 rfl) ?_
  refine lv_aload_n hx hb d_Mo_step_30 rfl (lv_at hl 0 rfl) ?_
  refine va_get (D := D) (ci := 4) (v := .int u26.2.2.2.2.2.2.1) (C := R_Mo) (T := F_Mo) (N := 10) hx hb hts (fun w h => wm (ui_Mo w h)) hown hK hP 0 rfl rfl 6 (by decide) (hts _ (wm t_494)) (fun _ h9 => h9) rfl d_Mo_step_31 ?_
  have hJ47 : ∀ (z47 : Int32), z47 = J_Mo_step_47 u26 → W p l e rm_Mo_step s m args below meth c H locs 0 0 Q (F0 m 47 ls [.int z47, .ref a.1]) := by
    intro z47 jz47
    refine cl_V (C := R_Mo) (k_Mo_setMask l D a hA u26 z47) ⟨hx, hb, hml, hown, hts⟩ (cwV 1 hts (gi_V t_546 t_548 t_36 t_66 t_549) rfl rfl rfl (by decide +kernel) ⟨Nat.le_of_ble_eq_true rfl, Nat.le_of_ble_eq_true rfl⟩) (va_recv (q0 := 0) (ci := 4) (q := (R_Mo, F_Mo, 10)) hK hP rfl rfl) hP hK hS rfl hl.1 rfl (Nat.le_of_ble_eq_true rfl) d_Mo_step_47 (nm_s (fun u47 e47 H locs hP hS => ?_))
    refine lv_aload_n hx hb d_Mo_step_50 rfl (lv_at hl 0 rfl) ?_
    refine lv_iconst (v := 0) hx hb d_Mo_step_51 (by decide) ?_
    refine va_put (D := D) (ci := 4) (v := .int 0) (ty := .boolean) (C := R_Mo) (T := F_Mo) (N := 10) hx hb hts (fun w h => wm (ui_Mo w h)) ft_Mo ft_Mo_ok fn_Mo hown hK hP (dd_R hA _) hS 0 rfl rfl 7 (by decide) (hts _ (wm t_495)) (fun _ h9 => h9) rfl (by decide +kernel) rfl rfl (Nat.le_of_ble_eq_true rfl) d_Mo_step_52 (fun H locs hP _ hS => ?_)
    have hP : va_P D kl (mw a (u47.1, u47.2.1, u47.2.2.1, u47.2.2.2.1, u47.2.2.2.2.1, u47.2.2.2.2.2.1, u47.2.2.2.2.2.2.1, 0, u47.2.2.2.2.2.2.2.2.1, u47.2.2.2.2.2.2.2.2.2)) H := hP
    refine lv_iconst (v := 0) hx hb d_Mo_step_55 (by decide) ?_
    have hc : (0, (u47.1, u47.2.1, u47.2.2.1, u47.2.2.2.1, u47.2.2.2.2.1, u47.2.2.2.2.2.1, u47.2.2.2.2.2.2.1, 0, u47.2.2.2.2.2.2.2.2.1, u47.2.2.2.2.2.2.2.2.2)) = C_Mo_step u0 := by simp only [C_Mo_step, if_neg h16, ← e26, ← jz47, ← e47]
    subst hQ
    exact rt_i hx hb hr hlk (congrArg Prod.fst hc) (congrArg Prod.snd hc) hP hS d_Mo_step_56
  refine lv_if_ne (tgt := 41) hx hb d_Mo_step_34 (by decide) (fun h34 => ?_) (fun h34 => ?_)
  · refine lv_aload_n hx hb d_Mo_step_41 rfl (lv_at hl 0 rfl) ?_
    refine va_get (D := D) (ci := 4) (v := .int u26.2.2.2.2.2.2.1) (C := R_Mo) (T := F_Mo) (N := 10) hx hb hts (fun w h => wm (ui_Mo w h)) hown hK hP 0 rfl rfl 6 (by decide) (hts _ (wm t_494)) (fun _ h9 => h9) rfl d_Mo_step_42 ?_
    refine lv_iconst (v := 1) hx hb d_Mo_step_45 (by decide) ?_
    refine lv_isub hx hb d_Mo_step_46 ?_
    exact hJ47 (u26.2.2.2.2.2.2.1 - 1) (by simp only [J_Mo_step_47, if_neg h34])
  refine lv_iconst (v := 0) hx hb d_Mo_step_37 (by decide) ?_
  refine lv_goto (tgt := 47) hx hb d_Mo_step_38 (by decide) ?_
  exact hJ47 0 (by simp only [J_Mo_step_47, if_pos h34])
set_option maxHeartbeats 4000000 in
set_option maxRecDepth 100000 in
theorem k_Mo_reset (l : Launch) (D : va_G) (a : RAd) (hA : ApR a) (u0 : RSt) : MC kl (mw a) (FB a) (tyR a) l D y_Mo_reset b_Mo_reset 1 none rm_Mo_reset [.ref a.1] u0 none (C_Mo_reset u0) := by
  refine MC.mk (by decide) (Nat.le_of_ble_eq_true rfl) ?_
  intro p e s m below meth c ls Q args H locs hx hb hr hml hown hts hlk hl hP hK hS hQ
  have hown : s.vm.findClass R_Mo = some m.cls := hown
  have hl : lv_has ls 1 [(0, .ref a.1)] := hl
  refine lv_aload_n hx hb d_Mo_reset_0 rfl (lv_at hl 0 rfl) ?_
  refine lv_iconst (v := 0) hx hb d_Mo_reset_1 (by decide) ?_
  refine va_put (D := D) (ci := 4) (v := .int 0) (ty := .int) (C := R_Mo) (T := F_Mo) (N := 10) hx hb hts (fun w h => wm (ui_Mo w h)) ft_Mo ft_Mo_ok fn_Mo hown hK hP (dd_R hA _) hS 0 rfl rfl 0 (by decide) (hts _ (wm t_488)) (fun _ h9 => h9) rfl (by decide +kernel) rfl rfl (Nat.le_of_ble_eq_true rfl) d_Mo_reset_2 (fun H locs hP _ hS => ?_)
  have hP : va_P D kl (mw a (u0.1, u0.2.1, 0, u0.2.2.2.1, u0.2.2.2.2.1, u0.2.2.2.2.2.1, u0.2.2.2.2.2.2.1, u0.2.2.2.2.2.2.2.1, u0.2.2.2.2.2.2.2.2.1, u0.2.2.2.2.2.2.2.2.2)) H := hP
  refine lv_aload_n hx hb d_Mo_reset_5 rfl (lv_at hl 0 rfl) ?_
  refine lv_iconst (v := 0) hx hb d_Mo_reset_6 (by decide) ?_
  refine cl_V (C := R_Mo) (k_Mo_change l D a hA (u0.1, u0.2.1, 0, u0.2.2.2.1, u0.2.2.2.2.1, u0.2.2.2.2.2.1, u0.2.2.2.2.2.2.1, u0.2.2.2.2.2.2.2.1, u0.2.2.2.2.2.2.2.2.1, u0.2.2.2.2.2.2.2.2.2) 0) ⟨hx, hb, hml, hown, hts⟩ (cwV 1 hts (gi_V t_529 t_531 t_32 t_66 t_532) rfl rfl rfl (by decide +kernel) ⟨Nat.le_of_ble_eq_true rfl, Nat.le_of_ble_eq_true rfl⟩) (va_recv (q0 := 0) (ci := 4) (q := (R_Mo, F_Mo, 10)) hK hP rfl rfl) hP hK hS rfl hl.1 rfl (Nat.le_of_ble_eq_true rfl) d_Mo_reset_7 (nm_s (fun u7 e7 H locs hP hS => ?_))
  refine lv_aload_n hx hb d_Mo_reset_10 rfl (lv_at hl 0 rfl) ?_
  refine lv_iconst (v := 0) hx hb d_Mo_reset_11 (by decide) ?_
  refine cl_V (C := R_Mo) (k_Mo_setMask l D a hA u7 0) ⟨hx, hb, hml, hown, hts⟩ (cwV 1 hts (gi_V t_546 t_548 t_36 t_66 t_549) rfl rfl rfl (by decide +kernel) ⟨Nat.le_of_ble_eq_true rfl, Nat.le_of_ble_eq_true rfl⟩) (va_recv (q0 := 0) (ci := 4) (q := (R_Mo, F_Mo, 10)) hK hP rfl rfl) hP hK hS rfl hl.1 rfl (Nat.le_of_ble_eq_true rfl) d_Mo_reset_12 (nm_s (fun u12 e12 H locs hP hS => ?_))
  refine lv_aload_n hx hb d_Mo_reset_15 rfl (lv_at hl 0 rfl) ?_
  refine lv_iconst (v := 0) hx hb d_Mo_reset_16 (by decide) ?_
  refine va_put (D := D) (ci := 4) (v := .int 0) (ty := .boolean) (C := R_Mo) (T := F_Mo) (N := 10) hx hb hts (fun w h => wm (ui_Mo w h)) ft_Mo ft_Mo_ok fn_Mo hown hK hP (dd_R hA _) hS 0 rfl rfl 7 (by decide) (hts _ (wm t_495)) (fun _ h9 => h9) rfl (by decide +kernel) rfl rfl (Nat.le_of_ble_eq_true rfl) d_Mo_reset_17 (fun H locs hP _ hS => ?_)
  have hP : va_P D kl (mw a (u12.1, u12.2.1, u12.2.2.1, u12.2.2.2.1, u12.2.2.2.2.1, u12.2.2.2.2.2.1, u12.2.2.2.2.2.2.1, 0, u12.2.2.2.2.2.2.2.2.1, u12.2.2.2.2.2.2.2.2.2)) H := hP
  subst hQ
  exact rt_v hx hb hr hlk (by simp only [C_Mo_reset, ← e7, ← e12]) hP hS d_Mo_reset_20
set_option maxHeartbeats 4000000 in
set_option maxRecDepth 100000 in
theorem k_Mo_isAddress (l : Launch) (D : va_G) (a : RAd) (hA : ApR a) (u0 : RSt) (x0 : Int32) : MC kl (mw a) (FB a) (tyR a) l D y_Mo_isAddress b_Mo_isAddress 1 (some .boolean) rm_Mo_isAddress [.int x0] u0 (some (.int (C_Mo_isAddress x0))) u0 := by
  refine MC.mk (by decide) (Nat.le_of_ble_eq_true rfl) ?_
  intro p e s m below meth c ls Q args H locs hx hb hr hml hown hts hlk hl hP hK hS hQ
  have hown : s.vm.findClass R_Mo = some m.cls := hown
  have hl : lv_has ls 1 [(0, .int x0)] := hl
  refine lv_iload_n hx hb d_Mo_isAddress_0 rfl (lv_at hl 0 rfl) ?_
  refine lv_if_lt (tgt := 21) hx hb d_Mo_isAddress_1 (by decide) (fun h1 => ?_) (fun h1 => ?_)
  · refine lv_iconst (v := 0) hx hb d_Mo_isAddress_21 (by decide) ?_
    subst hQ
    exact rt_z hx hb hr hlk rfl (by simp only [C_Mo_isAddress, if_pos h1]) rfl hP hS d_Mo_isAddress_22
  refine lv_iload_n hx hb d_Mo_isAddress_4 rfl (lv_at hl 0 rfl) ?_
  refine lv_sipush (v := 1022) hx hb d_Mo_isAddress_5 (by decide) ?_
  refine lv_icmp_gt (tgt := 21) hx hb d_Mo_isAddress_8 (by decide) (fun h8 => ?_) (fun h8 => ?_)
  · refine lv_iconst (v := 0) hx hb d_Mo_isAddress_21 (by decide) ?_
    subst hQ
    exact rt_z hx hb hr hlk rfl (by simp only [C_Mo_isAddress, if_neg h1, if_pos h8]) rfl hP hS d_Mo_isAddress_22
  refine lv_iload_n hx hb d_Mo_isAddress_11 rfl (lv_at hl 0 rfl) ?_
  refine lv_iconst (v := 1) hx hb d_Mo_isAddress_12 (by decide) ?_
  refine lv_iand hx hb d_Mo_isAddress_13 ?_
  refine lv_if_ne (tgt := 21) hx hb d_Mo_isAddress_14 (by decide) (fun h14 => ?_) (fun h14 => ?_)
  · refine lv_iconst (v := 0) hx hb d_Mo_isAddress_21 (by decide) ?_
    subst hQ
    exact rt_z hx hb hr hlk rfl (by simp only [C_Mo_isAddress, if_neg h1, if_neg h8, if_neg h14]) rfl hP hS d_Mo_isAddress_22
  refine lv_iconst (v := 1) hx hb d_Mo_isAddress_17 (by decide) ?_
  refine lv_goto (tgt := 22) hx hb d_Mo_isAddress_18 (by decide) ?_
  subst hQ
  exact rt_z hx hb hr hlk rfl (by simp only [C_Mo_isAddress, if_neg h1, if_neg h8, if_pos h14]) rfl hP hS d_Mo_isAddress_22
set_option maxHeartbeats 4000000 in
set_option maxRecDepth 100000 in
theorem k_Mo_poke (l : Launch) (D : va_G) (a : RAd) (hA : ApR a) (u0 : RSt) (x1 : Int32) (x2 : Int32) : MC kl (mw a) (FB a) (tyR a) l D y_Mo_poke b_Mo_poke 3 none rm_Mo_poke [.ref a.1, .int x1, .int x2] u0 none (C_Mo_poke u0 x1 x2) := by
  refine MC.mk (by decide) (Nat.le_of_ble_eq_true rfl) ?_
  intro p e s m below meth c ls Q args H locs hx hb hr hml hown hts hlk hl hP hK hS hQ
  have hown : s.vm.findClass R_Mo = some m.cls := hown
  have hl : lv_has ls 3 [(0, .ref a.1), (1, .int x1), (2, .int x2)] := hl
  refine lv_aload_n hx hb d_Mo_poke_0 rfl (lv_at hl 0 rfl) ?_
  refine lv_iload_n hx hb d_Mo_poke_1 rfl (lv_at hl 1 rfl) ?_
  refine cl_S (k_Mo_isAddress l D a hA u0 x1) ⟨hx, hb, hml, hown, hts⟩ (va_cwS 1 hts (gi_S t_665 t_666 t_66 t_667) rfl rfl rfl (by decide +kernel) ⟨Nat.le_of_ble_eq_true rfl, Nat.le_of_ble_eq_true rfl⟩) hP hK hS rfl hl.1 rfl (Nat.le_of_ble_eq_true rfl) d_Mo_poke_2 (nm_i (fun r2 e2 H locs hP hS => ?_))
  have hJ13 : ∀ (z13 : Int32), z13 = J_Mo_poke_13 r2 → W p l e rm_Mo_poke s m args below meth c H locs 0 0 Q (F0 m 13 ls [.int z13, .ref a.1]) := by
    intro z13 jz13
    refine cl_V (C := R_Mo) (k_Mo_fails l D a hA u0 z13 (by rw [jz13]; unfold J_Mo_poke_13; (repeat' split) <;> simp)) ⟨hx, hb, hml, hown, hts⟩ (cwV 1 hts (gi_V t_668 t_670 t_60 t_66 t_671) rfl rfl rfl (by decide +kernel) ⟨Nat.le_of_ble_eq_true rfl, Nat.le_of_ble_eq_true rfl⟩) (va_recv (q0 := 0) (ci := 4) (q := (R_Mo, F_Mo, 10)) hK hP rfl rfl) hP hK hS rfl hl.1 rfl (Nat.le_of_ble_eq_true rfl) d_Mo_poke_13 (nm_is (fun r13 u13 e13 f13 H locs hP hS => ?_))
    refine lv_if_ne (tgt := 25) hx hb d_Mo_poke_16 (by decide) (fun h16 => ?_) (fun h16 => ?_)
    · subst hQ
      exact rt_v hx hb hr hlk (by simp only [C_Mo_poke, ← e2, ← jz13, ← e13, ← f13, if_neg h16]) hP hS d_Mo_poke_25
    refine lv_aload_n hx hb d_Mo_poke_19 rfl (lv_at hl 0 rfl) ?_
    refine lv_iload_n hx hb d_Mo_poke_20 rfl (lv_at hl 1 rfl) ?_
    refine lv_iload_n hx hb d_Mo_poke_21 rfl (lv_at hl 2 rfl) ?_
    refine cl_V (C := R_Mo) (k_Mo_setWord l D a hA u13 x1 x2) ⟨hx, hb, hml, hown, hts⟩ (cwV 2 hts (gi_V t_541 t_543 t_35 t_66 t_544) rfl rfl rfl (by decide +kernel) ⟨Nat.le_of_ble_eq_true rfl, Nat.le_of_ble_eq_true rfl⟩) (va_recv (q0 := 0) (ci := 4) (q := (R_Mo, F_Mo, 10)) hK hP rfl rfl) hP hK hS rfl hl.1 rfl (Nat.le_of_ble_eq_true rfl) d_Mo_poke_22 (nm_s (fun u22 e22 H locs hP hS => ?_))
    subst hQ
    exact rt_v hx hb hr hlk (by simp only [C_Mo_poke, ← e2, ← jz13, ← e13, ← f13, if_pos h16, ← e22]) hP hS d_Mo_poke_25
  refine lv_if_ne (tgt := 12) hx hb d_Mo_poke_5 (by decide) (fun h5 => ?_) (fun h5 => ?_)
  · refine lv_iconst (v := 0) hx hb d_Mo_poke_12 (by decide) ?_
    exact hJ13 0 (by simp only [J_Mo_poke_13, if_neg h5])
  refine lv_iconst (v := 1) hx hb d_Mo_poke_8 (by decide) ?_
  refine lv_goto (tgt := 13) hx hb d_Mo_poke_9 (by decide) ?_
  exact hJ13 1 (by simp only [J_Mo_poke_13, if_pos h5])
set_option maxHeartbeats 4000000 in
set_option maxRecDepth 100000 in
theorem k_Mo_peek (l : Launch) (D : va_G) (a : RAd) (hA : ApR a) (u0 : RSt) (x1 : Int32) : MC kl (mw a) (FB a) (tyR a) l D y_Mo_peek b_Mo_peek 2 (some .char) rm_Mo_peek [.ref a.1, .int x1] u0 (some (.int (C_Mo_peek u0 x1).1)) (C_Mo_peek u0 x1).2 := by
  refine MC.mk (by decide) (Nat.le_of_ble_eq_true rfl) ?_
  intro p e s m below meth c ls Q args H locs hx hb hr hml hown hts hlk hl hP hK hS hQ
  have hown : s.vm.findClass R_Mo = some m.cls := hown
  have hl : lv_has ls 2 [(0, .ref a.1), (1, .int x1)] := hl
  refine lv_aload_n hx hb d_Mo_peek_0 rfl (lv_at hl 0 rfl) ?_
  refine lv_iload_n hx hb d_Mo_peek_1 rfl (lv_at hl 1 rfl) ?_
  refine cl_S (k_Mo_isAddress l D a hA u0 x1) ⟨hx, hb, hml, hown, hts⟩ (va_cwS 1 hts (gi_S t_665 t_666 t_66 t_667) rfl rfl rfl (by decide +kernel) ⟨Nat.le_of_ble_eq_true rfl, Nat.le_of_ble_eq_true rfl⟩) hP hK hS rfl hl.1 rfl (Nat.le_of_ble_eq_true rfl) d_Mo_peek_2 (nm_i (fun r2 e2 H locs hP hS => ?_))
  have hJ13 : ∀ (z13 : Int32), z13 = J_Mo_peek_13 r2 → W p l e rm_Mo_peek s m args below meth c H locs 0 0 Q (F0 m 13 ls [.int z13, .ref a.1]) := by
    intro z13 jz13
    refine cl_V (C := R_Mo) (k_Mo_fails l D a hA u0 z13 (by rw [jz13]; unfold J_Mo_peek_13; (repeat' split) <;> simp)) ⟨hx, hb, hml, hown, hts⟩ (cwV 1 hts (gi_V t_668 t_670 t_60 t_66 t_671) rfl rfl rfl (by decide +kernel) ⟨Nat.le_of_ble_eq_true rfl, Nat.le_of_ble_eq_true rfl⟩) (va_recv (q0 := 0) (ci := 4) (q := (R_Mo, F_Mo, 10)) hK hP rfl rfl) hP hK hS rfl hl.1 rfl (Nat.le_of_ble_eq_true rfl) d_Mo_peek_13 (nm_is (fun r13 u13 e13 f13 H locs hP hS => ?_))
    refine lv_if_eq (tgt := 23) hx hb d_Mo_peek_16 (by decide) (fun h16 => ?_) (fun h16 => ?_)
    · refine lv_aload_n hx hb d_Mo_peek_23 rfl (lv_at hl 0 rfl) ?_
      refine lv_iload_n hx hb d_Mo_peek_24 rfl (lv_at hl 1 rfl) ?_
      refine cl_V (C := R_Mo) (k_Mo_word l D a hA u13 x1) ⟨hx, hb, hml, hown, hts⟩ (cwV 1 hts (gi_V t_533 t_535 t_33 t_66 t_536) rfl rfl rfl (by decide +kernel) ⟨Nat.le_of_ble_eq_true rfl, Nat.le_of_ble_eq_true rfl⟩) (va_recv (q0 := 0) (ci := 4) (q := (R_Mo, F_Mo, 10)) hK hP rfl rfl) hP hK hS rfl hl.1 rfl (Nat.le_of_ble_eq_true rfl) d_Mo_peek_25 (nm_i (fun r25 e25 H locs hP hS => ?_))
      refine lv_i2c hx hb d_Mo_peek_28 rfl ?_
      have hc : (((r25.toUInt32 % 65536).toInt32), u13) = C_Mo_peek u0 x1 := by simp only [C_Mo_peek, ← e2, ← jz13, ← e13, ← f13, if_pos h16, ← e25]
      subst hQ
      exact rt_z hx hb hr hlk (pk_nc _) (congrArg Prod.fst hc) (congrArg Prod.snd hc) hP hS d_Mo_peek_29
    refine lv_iconst (v := 0) hx hb d_Mo_peek_19 (by decide) ?_
    refine lv_goto (tgt := 29) hx hb d_Mo_peek_20 (by decide) ?_
    have hc : (0, u13) = C_Mo_peek u0 x1 := by simp only [C_Mo_peek, ← e2, ← jz13, ← e13, ← f13, if_neg h16]
    subst hQ
    exact rt_z hx hb hr hlk rfl (congrArg Prod.fst hc) (congrArg Prod.snd hc) hP hS d_Mo_peek_29
  refine lv_if_ne (tgt := 12) hx hb d_Mo_peek_5 (by decide) (fun h5 => ?_) (fun h5 => ?_)
  · refine lv_iconst (v := 0) hx hb d_Mo_peek_12 (by decide) ?_
    exact hJ13 0 (by simp only [J_Mo_peek_13, if_neg h5])
  refine lv_iconst (v := 1) hx hb d_Mo_peek_8 (by decide) ?_
  refine lv_goto (tgt := 13) hx hb d_Mo_peek_9 (by decide) ?_
  exact hJ13 1 (by simp only [J_Mo_peek_13, if_pos h5])
set_option maxHeartbeats 4000000 in
set_option maxRecDepth 100000 in
theorem k_Mo_level (l : Launch) (D : va_G) (a : RAd) (hA : ApR a) (u0 : RSt) (x1 : Int32) : MC kl (mw a) (FB a) (tyR a) l D y_Mo_level b_Mo_level 2 none rm_Mo_level [.ref a.1, .int x1] u0 none (C_Mo_level u0 x1) := by
  refine MC.mk (by decide) (Nat.le_of_ble_eq_true rfl) ?_
  intro p e s m below meth c ls Q args H locs hx hb hr hml hown hts hlk hl hP hK hS hQ
  have hown : s.vm.findClass R_Mo = some m.cls := hown
  have hl : lv_has ls 2 [(0, .ref a.1), (1, .int x1)] := hl
  refine lv_aload_n hx hb d_Mo_level_0 rfl (lv_at hl 0 rfl) ?_
  refine lv_iload_n hx hb d_Mo_level_1 rfl (lv_at hl 1 rfl) ?_
  have hJ16 : ∀ (z16 : Int32), z16 = J_Mo_level_16 x1 → W p l e rm_Mo_level s m args below meth c H locs 0 0 Q (F0 m 16 ls [.int z16, .ref a.1]) := by
    intro z16 jz16
    refine cl_V (C := R_Mo) (k_Mo_fails l D a hA u0 z16 (by rw [jz16]; unfold J_Mo_level_16; (repeat' split) <;> simp)) ⟨hx, hb, hml, hown, hts⟩ (cwV 1 hts (gi_V t_668 t_670 t_60 t_66 t_671) rfl rfl rfl (by decide +kernel) ⟨Nat.le_of_ble_eq_true rfl, Nat.le_of_ble_eq_true rfl⟩) (va_recv (q0 := 0) (ci := 4) (q := (R_Mo, F_Mo, 10)) hK hP rfl rfl) hP hK hS rfl hl.1 rfl (Nat.le_of_ble_eq_true rfl) d_Mo_level_16 (nm_is (fun r16 u16 e16 f16 H locs hP hS => ?_))
    refine lv_if_ne (tgt := 27) hx hb d_Mo_level_19 (by decide) (fun h19 => ?_) (fun h19 => ?_)
    · subst hQ
      exact rt_v hx hb hr hlk (by simp only [C_Mo_level, ← jz16, ← e16, ← f16, if_neg h19]) hP hS d_Mo_level_27
    refine lv_aload_n hx hb d_Mo_level_22 rfl (lv_at hl 0 rfl) ?_
    refine lv_iload_n hx hb d_Mo_level_23 rfl (lv_at hl 1 rfl) ?_
    refine va_put (D := D) (ci := 4) (v := .int x1) (ty := .int) (C := R_Mo) (T := F_Mo) (N := 10) hx hb hts (fun w h => wm (ui_Mo w h)) ft_Mo ft_Mo_ok fn_Mo hown hK hP (dd_R hA _) hS 0 rfl rfl 6 (by decide) (hts _ (wm t_494)) (fun _ h9 => h9) rfl (by decide +kernel) rfl rfl (Nat.le_of_ble_eq_true rfl) d_Mo_level_24 (fun H locs hP _ hS => ?_)
    have hP : va_P D kl (mw a (u16.1, u16.2.1, u16.2.2.1, u16.2.2.2.1, u16.2.2.2.2.1, u16.2.2.2.2.2.1, x1, u16.2.2.2.2.2.2.2.1, u16.2.2.2.2.2.2.2.2.1, u16.2.2.2.2.2.2.2.2.2)) H := hP
    subst hQ
    exact rt_v hx hb hr hlk (by simp only [C_Mo_level, ← jz16, ← e16, ← f16, if_pos h19]) hP hS d_Mo_level_27
  refine lv_if_lt (tgt := 11) hx hb d_Mo_level_2 (by decide) (fun h2 => ?_) (fun h2 => ?_)
  · refine lv_iconst (v := 1) hx hb d_Mo_level_11 (by decide) ?_
    refine lv_goto (tgt := 16) hx hb d_Mo_level_12 (by decide) ?_
    exact hJ16 1 (by simp only [J_Mo_level_16, if_pos h2])
  refine lv_iload_n hx hb d_Mo_level_5 rfl (lv_at hl 1 rfl) ?_
  refine lv_bipush (v := 16) hx hb d_Mo_level_6 (by decide) ?_
  refine lv_icmp_le (tgt := 15) hx hb d_Mo_level_8 (by decide) (fun h8 => ?_) (fun h8 => ?_)
  · refine lv_iconst (v := 0) hx hb d_Mo_level_15 (by decide) ?_
    exact hJ16 0 (by simp only [J_Mo_level_16, if_neg h2, if_pos h8])
  refine lv_iconst (v := 1) hx hb d_Mo_level_11 (by decide) ?_
  refine lv_goto (tgt := 16) hx hb d_Mo_level_12 (by decide) ?_
  exact hJ16 1 (by simp only [J_Mo_level_16, if_neg h2, if_neg h8])
set_option maxHeartbeats 4000000 in
set_option maxRecDepth 100000 in
theorem k_Mo_wire (l : Launch) (D : va_G) (a : RAd) (hA : ApR a) (u0 : RSt) (x1 : Int32) (x2 : Int32) : MC kl (mw a) (FB a) (tyR a) l D y_Mo_wire b_Mo_wire 3 none rm_Mo_wire [.ref a.1, .int x1, .int x2] u0 none (C_Mo_wire u0 x1 x2) := by
  refine MC.mk (by decide) (Nat.le_of_ble_eq_true rfl) ?_
  intro p e s m below meth c ls Q args H locs hx hb hr hml hown hts hlk hl hP hK hS hQ
  have hown : s.vm.findClass R_Mo = some m.cls := hown
  have hl : lv_has ls 3 [(0, .ref a.1), (1, .int x1), (2, .int x2)] := hl
  refine lv_aload_n hx hb d_Mo_wire_0 rfl (lv_at hl 0 rfl) ?_
  refine lv_iload_n hx hb d_Mo_wire_1 rfl (lv_at hl 1 rfl) ?_
  have hJ16 : ∀ (z16 : Int32), z16 = J_Mo_wire_16 x1 → W p l e rm_Mo_wire s m args below meth c H locs 0 0 Q (F0 m 16 ls [.int z16, .ref a.1]) := by
    intro z16 jz16
    refine cl_V (C := R_Mo) (k_Mo_fails l D a hA u0 z16 (by rw [jz16]; unfold J_Mo_wire_16; (repeat' split) <;> simp)) ⟨hx, hb, hml, hown, hts⟩ (cwV 1 hts (gi_V t_668 t_670 t_60 t_66 t_671) rfl rfl rfl (by decide +kernel) ⟨Nat.le_of_ble_eq_true rfl, Nat.le_of_ble_eq_true rfl⟩) (va_recv (q0 := 0) (ci := 4) (q := (R_Mo, F_Mo, 10)) hK hP rfl rfl) hP hK hS rfl hl.1 rfl (Nat.le_of_ble_eq_true rfl) d_Mo_wire_16 (nm_is (fun r16 u16 e16 f16 H locs hP hS => ?_))
    refine lv_if_ne (tgt := 29) hx hb d_Mo_wire_19 (by decide) (fun h19 => ?_) (fun h19 => ?_)
    · subst hQ
      exact rt_v hx hb hr hlk (by simp only [C_Mo_wire, ← jz16, ← e16, ← f16, if_neg h19]) hP hS d_Mo_wire_29
    refine lv_aload_n hx hb d_Mo_wire_22 rfl (lv_at hl 0 rfl) ?_
    refine va_get (D := D) (ci := 4) (v := .ref a.2.2.1) (C := R_Mo) (T := F_Mo) (N := 10) hx hb hts (fun w h => wm (ui_Mo w h)) hown hK hP 0 rfl rfl 2 (by decide) (hts _ (wm t_490)) (fun _ h9 => h9) rfl d_Mo_wire_23 ?_
    refine lv_iload_n hx hb d_Mo_wire_26 rfl (lv_at hl 1 rfl) ?_
    refine lv_iload_n hx hb d_Mo_wire_27 rfl (lv_at hl 2 rfl) ?_
    refine va_zast hx hb hK hP (dd_R hA _) hS 2 1 rfl rfl (ix_W jz16 e16 h19) d_Mo_wire_28 (fun H locs hP _ hS => ?_)
    have hP : va_P D kl (mw a (u16.1, (upd u16.2.1 x1.toNatClampNeg (vp_nar .boolean x2)), u16.2.2.1, u16.2.2.2.1, u16.2.2.2.2.1, u16.2.2.2.2.2.1, u16.2.2.2.2.2.2.1, u16.2.2.2.2.2.2.2.1, u16.2.2.2.2.2.2.2.2.1, u16.2.2.2.2.2.2.2.2.2)) H := hP
    subst hQ
    exact rt_v hx hb hr hlk (by simp only [C_Mo_wire, ← jz16, ← e16, ← f16, if_pos h19]) hP hS d_Mo_wire_29
  refine lv_if_lt (tgt := 11) hx hb d_Mo_wire_2 (by decide) (fun h2 => ?_) (fun h2 => ?_)
  · refine lv_iconst (v := 1) hx hb d_Mo_wire_11 (by decide) ?_
    refine lv_goto (tgt := 16) hx hb d_Mo_wire_12 (by decide) ?_
    exact hJ16 1 (by simp only [J_Mo_wire_16, if_pos h2])
  refine lv_iload_n hx hb d_Mo_wire_5 rfl (lv_at hl 1 rfl) ?_
  refine lv_bipush (v := 63) hx hb d_Mo_wire_6 (by decide) ?_
  refine lv_icmp_le (tgt := 15) hx hb d_Mo_wire_8 (by decide) (fun h8 => ?_) (fun h8 => ?_)
  · refine lv_iconst (v := 0) hx hb d_Mo_wire_15 (by decide) ?_
    exact hJ16 0 (by simp only [J_Mo_wire_16, if_neg h2, if_pos h8])
  refine lv_iconst (v := 1) hx hb d_Mo_wire_11 (by decide) ?_
  refine lv_goto (tgt := 16) hx hb d_Mo_wire_12 (by decide) ?_
  exact hJ16 1 (by simp only [J_Mo_wire_16, if_neg h2, if_neg h8])
set_option maxHeartbeats 4000000 in
set_option maxRecDepth 100000 in
theorem k_Mo_line (l : Launch) (D : va_G) (a : RAd) (hA : ApR a) (u0 : RSt) (x1 : Int32) : MC kl (mw a) (FB a) (tyR a) l D y_Mo_line b_Mo_line 2 (some .boolean) rm_Mo_line [.ref a.1, .int x1] u0 (some (.int (C_Mo_line u0 x1).1)) (C_Mo_line u0 x1).2 := by
  refine MC.mk (by decide) (Nat.le_of_ble_eq_true rfl) ?_
  intro p e s m below meth c ls Q args H locs hx hb hr hml hown hts hlk hl hP hK hS hQ
  have hown : s.vm.findClass R_Mo = some m.cls := hown
  have hl : lv_has ls 2 [(0, .ref a.1), (1, .int x1)] := hl
  refine lv_aload_n hx hb d_Mo_line_0 rfl (lv_at hl 0 rfl) ?_
  refine lv_iload_n hx hb d_Mo_line_1 rfl (lv_at hl 1 rfl) ?_
  have hJ16 : ∀ (z16 : Int32), z16 = J_Mo_line_16 x1 → W p l e rm_Mo_line s m args below meth c H locs 0 0 Q (F0 m 16 ls [.int z16, .ref a.1]) := by
    intro z16 jz16
    refine cl_V (C := R_Mo) (k_Mo_fails l D a hA u0 z16 (by rw [jz16]; unfold J_Mo_line_16; (repeat' split) <;> simp)) ⟨hx, hb, hml, hown, hts⟩ (cwV 1 hts (gi_V t_668 t_670 t_60 t_66 t_671) rfl rfl rfl (by decide +kernel) ⟨Nat.le_of_ble_eq_true rfl, Nat.le_of_ble_eq_true rfl⟩) (va_recv (q0 := 0) (ci := 4) (q := (R_Mo, F_Mo, 10)) hK hP rfl rfl) hP hK hS rfl hl.1 rfl (Nat.le_of_ble_eq_true rfl) d_Mo_line_16 (nm_is (fun r16 u16 e16 f16 H locs hP hS => ?_))
    refine lv_if_ne (tgt := 35) hx hb d_Mo_line_19 (by decide) (fun h19 => ?_) (fun h19 => ?_)
    · refine lv_iconst (v := 0) hx hb d_Mo_line_35 (by decide) ?_
      have hc : (0, u16) = C_Mo_line u0 x1 := by simp only [C_Mo_line, ← jz16, ← e16, ← f16, if_neg h19]
      subst hQ
      exact rt_z hx hb hr hlk rfl (congrArg Prod.fst hc) (congrArg Prod.snd hc) hP hS d_Mo_line_36
    refine lv_aload_n hx hb d_Mo_line_22 rfl (lv_at hl 0 rfl) ?_
    refine va_get (D := D) (ci := 4) (v := .ref a.2.2.1) (C := R_Mo) (T := F_Mo) (N := 10) hx hb hts (fun w h => wm (ui_Mo w h)) hown hK hP 0 rfl rfl 2 (by decide) (hts _ (wm t_490)) (fun _ h9 => h9) rfl d_Mo_line_23 ?_
    refine lv_iload_n hx hb d_Mo_line_26 rfl (lv_at hl 1 rfl) ?_
    refine va_zald hx hb hK hP 2 1 rfl rfl (ix_L jz16 e16 h19) d_Mo_line_27 ?_
    refine lv_if_eq (tgt := 35) hx hb d_Mo_line_28 (by decide) (fun h28 => ?_) (fun h28 => ?_)
    · refine lv_iconst (v := 0) hx hb d_Mo_line_35 (by decide) ?_
      have hc : (0, u16) = C_Mo_line u0 x1 := by simp only [C_Mo_line, ← jz16, ← e16, ← f16, if_pos h19, if_pos h28]
      subst hQ
      exact rt_z hx hb hr hlk rfl (congrArg Prod.fst hc) (congrArg Prod.snd hc) hP hS d_Mo_line_36
    refine lv_iconst (v := 1) hx hb d_Mo_line_31 (by decide) ?_
    refine lv_goto (tgt := 36) hx hb d_Mo_line_32 (by decide) ?_
    have hc : (1, u16) = C_Mo_line u0 x1 := by simp only [C_Mo_line, ← jz16, ← e16, ← f16, if_pos h19, if_neg h28]
    subst hQ
    exact rt_z hx hb hr hlk rfl (congrArg Prod.fst hc) (congrArg Prod.snd hc) hP hS d_Mo_line_36
  refine lv_if_lt (tgt := 11) hx hb d_Mo_line_2 (by decide) (fun h2 => ?_) (fun h2 => ?_)
  · refine lv_iconst (v := 1) hx hb d_Mo_line_11 (by decide) ?_
    refine lv_goto (tgt := 16) hx hb d_Mo_line_12 (by decide) ?_
    exact hJ16 1 (by simp only [J_Mo_line_16, if_pos h2])
  refine lv_iload_n hx hb d_Mo_line_5 rfl (lv_at hl 1 rfl) ?_
  refine lv_bipush (v := 63) hx hb d_Mo_line_6 (by decide) ?_
  refine lv_icmp_le (tgt := 15) hx hb d_Mo_line_8 (by decide) (fun h8 => ?_) (fun h8 => ?_)
  · refine lv_iconst (v := 0) hx hb d_Mo_line_15 (by decide) ?_
    exact hJ16 0 (by simp only [J_Mo_line_16, if_neg h2, if_pos h8])
  refine lv_iconst (v := 1) hx hb d_Mo_line_11 (by decide) ?_
  refine lv_goto (tgt := 16) hx hb d_Mo_line_12 (by decide) ?_
  exact hJ16 1 (by simp only [J_Mo_line_16, if_neg h2, if_neg h8])
set_option maxHeartbeats 4000000 in
set_option maxRecDepth 100000 in
theorem k_Mo_state (l : Launch) (D : va_G) (a : RAd) (hA : ApR a) (u0 : RSt) (x1 : Int32) : MC kl (mw a) (FB a) (tyR a) l D y_Mo_state b_Mo_state 3 (some .int) rm_Mo_state [.ref a.1, .int x1] u0 (some (.int (C_Mo_state u0 x1).1)) (C_Mo_state u0 x1).2 := by
  refine MC.mk (by decide) (Nat.le_of_ble_eq_true rfl) ?_
  intro p e s m below meth c ls Q args H locs hx hb hr hml hown hts hlk hl hP hK hS hQ
  have hown : s.vm.findClass R_Mo = some m.cls := hown
  have hl : lv_has ls 3 [(0, .ref a.1), (1, .int x1)] := hl
  refine lv_aload_n hx hb d_Mo_state_0 rfl (lv_at hl 0 rfl) ?_
  refine lv_iload_n hx hb d_Mo_state_1 rfl (lv_at hl 1 rfl) ?_
  have hJ15 : ∀ (z15 : Int32), z15 = J_Mo_state_15 x1 → W p l e rm_Mo_state s m args below meth c H locs 0 0 Q (F0 m 15 ls [.int z15, .ref a.1]) := by
    intro z15 jz15
    refine cl_V (C := R_Mo) (k_Mo_fails l D a hA u0 z15 (by rw [jz15]; unfold J_Mo_state_15; (repeat' split) <;> simp)) ⟨hx, hb, hml, hown, hts⟩ (cwV 1 hts (gi_V t_668 t_670 t_60 t_66 t_671) rfl rfl rfl (by decide +kernel) ⟨Nat.le_of_ble_eq_true rfl, Nat.le_of_ble_eq_true rfl⟩) (va_recv (q0 := 0) (ci := 4) (q := (R_Mo, F_Mo, 10)) hK hP rfl rfl) hP hK hS rfl hl.1 rfl (Nat.le_of_ble_eq_true rfl) d_Mo_state_15 (nm_is (fun r15 u15 e15 f15 H locs hP hS => ?_))
    refine lv_istore_n hx hb d_Mo_state_18 rfl hl (by decide) rfl (fun ls hl => ?_)
    have hl : lv_has ls 3 [(2, .int r15), (0, .ref a.1), (1, .int x1)] := hl
    refine lv_iload_n hx hb d_Mo_state_19 rfl (lv_at hl 0 rfl) ?_
    refine lv_if_eq (tgt := 27) hx hb d_Mo_state_20 (by decide) (fun h20 => ?_) (fun h20 => ?_)
    · refine lv_iload_n hx hb d_Mo_state_27 rfl (lv_at hl 2 rfl) ?_
      refine lv_if_ne (tgt := 38) hx hb d_Mo_state_28 (by decide) (fun h28 => ?_) (fun h28 => ?_)
      · refine lv_iload_n hx hb d_Mo_state_38 rfl (lv_at hl 2 rfl) ?_
        refine lv_iconst (v := 1) hx hb d_Mo_state_39 (by decide) ?_
        refine lv_icmp_ne (tgt := 50) hx hb d_Mo_state_40 (by decide) (fun h40 => ?_) (fun h40 => ?_)
        · refine lv_iload_n hx hb d_Mo_state_50 rfl (lv_at hl 2 rfl) ?_
          refine lv_iconst (v := 2) hx hb d_Mo_state_51 (by decide) ?_
          refine lv_icmp_ne (tgt := 62) hx hb d_Mo_state_52 (by decide) (fun h52 => ?_) (fun h52 => ?_)
          · refine lv_iload_n hx hb d_Mo_state_62 rfl (lv_at hl 2 rfl) ?_
            refine lv_iconst (v := 3) hx hb d_Mo_state_63 (by decide) ?_
            refine lv_icmp_ne (tgt := 74) hx hb d_Mo_state_64 (by decide) (fun h64 => ?_) (fun h64 => ?_)
            · refine lv_aload_n hx hb d_Mo_state_74 rfl (lv_at hl 1 rfl) ?_
              refine va_get (D := D) (ci := 4) (v := .int u15.2.2.2.2.2.2.2.1) (C := R_Mo) (T := F_Mo) (N := 10) hx hb hts (fun w h => wm (ui_Mo w h)) hown hK hP 0 rfl rfl 7 (by decide) (hts _ (wm t_495)) (fun _ h9 => h9) rfl d_Mo_state_75 ?_
              refine lv_if_eq (tgt := 85) hx hb d_Mo_state_78 (by decide) (fun h78 => ?_) (fun h78 => ?_)
              · refine lv_iconst (v := 0) hx hb d_Mo_state_85 (by decide) ?_
                have hc : (0, u15) = C_Mo_state u0 x1 := by simp only [C_Mo_state, ← jz15, ← e15, ← f15, if_pos h20, if_neg h28, if_neg h40, if_neg h52, if_neg h64, if_pos h78]
                subst hQ
                exact rt_i hx hb hr hlk (congrArg Prod.fst hc) (congrArg Prod.snd hc) hP hS d_Mo_state_86
              refine lv_iconst (v := 1) hx hb d_Mo_state_81 (by decide) ?_
              refine lv_goto (tgt := 86) hx hb d_Mo_state_82 (by decide) ?_
              have hc : (1, u15) = C_Mo_state u0 x1 := by simp only [C_Mo_state, ← jz15, ← e15, ← f15, if_pos h20, if_neg h28, if_neg h40, if_neg h52, if_neg h64, if_neg h78]
              subst hQ
              exact rt_i hx hb hr hlk (congrArg Prod.fst hc) (congrArg Prod.snd hc) hP hS d_Mo_state_86
            refine lv_aload_n hx hb d_Mo_state_67 rfl (lv_at hl 1 rfl) ?_
            refine va_get (D := D) (ci := 4) (v := .int u15.2.2.2.2.2.2.1) (C := R_Mo) (T := F_Mo) (N := 10) hx hb hts (fun w h => wm (ui_Mo w h)) hown hK hP 0 rfl rfl 6 (by decide) (hts _ (wm t_494)) (fun _ h9 => h9) rfl d_Mo_state_68 ?_
            refine lv_goto (tgt := 86) hx hb d_Mo_state_71 (by decide) ?_
            have hc : (u15.2.2.2.2.2.2.1, u15) = C_Mo_state u0 x1 := by simp only [C_Mo_state, ← jz15, ← e15, ← f15, if_pos h20, if_neg h28, if_neg h40, if_neg h52, if_pos h64]
            subst hQ
            exact rt_i hx hb hr hlk (congrArg Prod.fst hc) (congrArg Prod.snd hc) hP hS d_Mo_state_86
          refine lv_aload_n hx hb d_Mo_state_55 rfl (lv_at hl 1 rfl) ?_
          refine va_get (D := D) (ci := 4) (v := .int u15.2.2.2.2.2.1) (C := R_Mo) (T := F_Mo) (N := 10) hx hb hts (fun w h => wm (ui_Mo w h)) hown hK hP 0 rfl rfl 5 (by decide) (hts _ (wm t_493)) (fun _ h9 => h9) rfl d_Mo_state_56 ?_
          refine lv_goto (tgt := 86) hx hb d_Mo_state_59 (by decide) ?_
          have hc : (u15.2.2.2.2.2.1, u15) = C_Mo_state u0 x1 := by simp only [C_Mo_state, ← jz15, ← e15, ← f15, if_pos h20, if_neg h28, if_neg h40, if_pos h52]
          subst hQ
          exact rt_i hx hb hr hlk (congrArg Prod.fst hc) (congrArg Prod.snd hc) hP hS d_Mo_state_86
        refine lv_aload_n hx hb d_Mo_state_43 rfl (lv_at hl 1 rfl) ?_
        refine va_get (D := D) (ci := 4) (v := .int u15.2.2.2.2.1) (C := R_Mo) (T := F_Mo) (N := 10) hx hb hts (fun w h => wm (ui_Mo w h)) hown hK hP 0 rfl rfl 4 (by decide) (hts _ (wm t_492)) (fun _ h9 => h9) rfl d_Mo_state_44 ?_
        refine lv_goto (tgt := 86) hx hb d_Mo_state_47 (by decide) ?_
        have hc : (u15.2.2.2.2.1, u15) = C_Mo_state u0 x1 := by simp only [C_Mo_state, ← jz15, ← e15, ← f15, if_pos h20, if_neg h28, if_pos h40]
        subst hQ
        exact rt_i hx hb hr hlk (congrArg Prod.fst hc) (congrArg Prod.snd hc) hP hS d_Mo_state_86
      refine lv_aload_n hx hb d_Mo_state_31 rfl (lv_at hl 1 rfl) ?_
      refine va_get (D := D) (ci := 4) (v := .int u15.2.2.2.1) (C := R_Mo) (T := F_Mo) (N := 10) hx hb hts (fun w h => wm (ui_Mo w h)) hown hK hP 0 rfl rfl 3 (by decide) (hts _ (wm t_491)) (fun _ h9 => h9) rfl d_Mo_state_32 ?_
      refine lv_goto (tgt := 86) hx hb d_Mo_state_35 (by decide) ?_
      have hc : (u15.2.2.2.1, u15) = C_Mo_state u0 x1 := by simp only [C_Mo_state, ← jz15, ← e15, ← f15, if_pos h20, if_pos h28]
      subst hQ
      exact rt_i hx hb hr hlk (congrArg Prod.fst hc) (congrArg Prod.snd hc) hP hS d_Mo_state_86
    refine lv_iconst (v := 0) hx hb d_Mo_state_23 (by decide) ?_
    refine lv_goto (tgt := 86) hx hb d_Mo_state_24 (by decide) ?_
    have hc : (0, u15) = C_Mo_state u0 x1 := by simp only [C_Mo_state, ← jz15, ← e15, ← f15, if_neg h20]
    subst hQ
    exact rt_i hx hb hr hlk (congrArg Prod.fst hc) (congrArg Prod.snd hc) hP hS d_Mo_state_86
  refine lv_if_lt (tgt := 10) hx hb d_Mo_state_2 (by decide) (fun h2 => ?_) (fun h2 => ?_)
  · refine lv_iconst (v := 1) hx hb d_Mo_state_10 (by decide) ?_
    refine lv_goto (tgt := 15) hx hb d_Mo_state_11 (by decide) ?_
    exact hJ15 1 (by simp only [J_Mo_state_15, if_pos h2])
  refine lv_iload_n hx hb d_Mo_state_5 rfl (lv_at hl 1 rfl) ?_
  refine lv_iconst (v := 4) hx hb d_Mo_state_6 (by decide) ?_
  refine lv_icmp_le (tgt := 14) hx hb d_Mo_state_7 (by decide) (fun h7 => ?_) (fun h7 => ?_)
  · refine lv_iconst (v := 0) hx hb d_Mo_state_14 (by decide) ?_
    exact hJ15 0 (by simp only [J_Mo_state_15, if_neg h2, if_pos h7])
  refine lv_iconst (v := 1) hx hb d_Mo_state_10 (by decide) ?_
  refine lv_goto (tgt := 15) hx hb d_Mo_state_11 (by decide) ?_
  exact hJ15 1 (by simp only [J_Mo_state_15, if_neg h2, if_neg h7])
