/-! contracts, laid by gen.py -/
set_option maxHeartbeats 4000000 in
set_option maxRecDepth 100000 in
theorem k_M_level (l : Launch) (D : va_G) (a : CAd) (hA : ApC a) (u0 : CSt) (x1 : Int32) (hg : ¬ x1 < 0 ∧ x1 ≤ 16) : MC kl (cw a) (FA a) (tyC a) l D y_M_level b_M_level 2 none rm_M_level [.ref a.1, .int x1] u0 none (C_M_level u0 x1) := by
  refine MC.mk (by decide) (Nat.le_of_ble_eq_true rfl) ?_
  intro p e s m below meth c ls Q args H locs hx hb hr hml hown hts hlk hl hP hK hS hQ
  have hown : s.vm.findClass R_M = some m.cls := hown
  have hl : lv_has ls 2 [(0, .ref a.1), (1, .int x1)] := hl
  refine lv_iload_n hx hb d_M_level_0 rfl (lv_at hl 1 rfl) ?_
  refine lv_if_lt (tgt := 10) hx hb d_M_level_1 (by decide) (fun h1 => ?_) (fun h1 => ?_)
  · exact (by first | exact hg.1 h1 | exact h7 hg.2 : False).elim
  refine lv_iload_n hx hb d_M_level_4 rfl (lv_at hl 1 rfl) ?_
  refine lv_bipush (v := 16) hx hb d_M_level_5 (by decide) ?_
  refine lv_icmp_le (tgt := 20) hx hb d_M_level_7 (by decide) (fun h7 => ?_) (fun h7 => ?_)
  · refine lv_aload_n hx hb d_M_level_20 rfl (lv_at hl 0 rfl) ?_
    refine lv_iload_n hx hb d_M_level_21 rfl (lv_at hl 1 rfl) ?_
    refine va_put (D := D) (ci := 3) (v := .int x1) (ty := .int) (C := R_M) (T := F_M) (N := 7) hx hb hts (fun w h => wm (ui_M w h)) ft_M ft_M_ok fn_M hown hK hP (dd_C hA _) hS 0 rfl rfl 5 (by decide) (hts _ (wm t_116)) (fun _ h9 => h9) rfl (by decide +kernel) rfl rfl (Nat.le_of_ble_eq_true rfl) d_M_level_22 (fun H locs hP _ hS => ?_)
    have hP : va_P D kl (cw a (u0.1, u0.2.1, u0.2.2.1, u0.2.2.2.1, u0.2.2.2.2.1, x1, u0.2.2.2.2.2.2)) H := hP
    subst hQ
    exact rt_v hx hb hr hlk (by simp only [C_M_level, if_neg h1, if_pos h7]) hP hS d_M_level_25
  exact (by first | exact hg.1 h1 | exact h7 hg.2 : False).elim
set_option maxHeartbeats 4000000 in
set_option maxRecDepth 100000 in
theorem k_M_isLine (l : Launch) (D : va_G) (a : CAd) (hA : ApC a) (u0 : CSt) (x0 : Int32) : MC kl (cw a) (FA a) (tyC a) l D y_M_isLine b_M_isLine 1 (some .boolean) rm_M_isLine [.int x0] u0 (some (.int (C_M_isLine x0))) u0 := by
  refine MC.mk (by decide) (Nat.le_of_ble_eq_true rfl) ?_
  intro p e s m below meth c ls Q args H locs hx hb hr hml hown hts hlk hl hP hK hS hQ
  have hown : s.vm.findClass R_M = some m.cls := hown
  have hl : lv_has ls 1 [(0, .int x0)] := hl
  refine lv_iload_n hx hb d_M_isLine_0 rfl (lv_at hl 0 rfl) ?_
  refine lv_if_lt (tgt := 14) hx hb d_M_isLine_1 (by decide) (fun h1 => ?_) (fun h1 => ?_)
  · refine lv_iconst (v := 0) hx hb d_M_isLine_14 (by decide) ?_
    subst hQ
    exact rt_z hx hb hr hlk rfl (by simp only [C_M_isLine, if_pos h1]) rfl hP hS d_M_isLine_15
  refine lv_iload_n hx hb d_M_isLine_4 rfl (lv_at hl 0 rfl) ?_
  refine lv_bipush (v := 64) hx hb d_M_isLine_5 (by decide) ?_
  refine lv_icmp_ge (tgt := 14) hx hb d_M_isLine_7 (by decide) (fun h7 => ?_) (fun h7 => ?_)
  · refine lv_iconst (v := 0) hx hb d_M_isLine_14 (by decide) ?_
    subst hQ
    exact rt_z hx hb hr hlk rfl (by simp only [C_M_isLine, if_neg h1, if_pos h7]) rfl hP hS d_M_isLine_15
  refine lv_iconst (v := 1) hx hb d_M_isLine_10 (by decide) ?_
  refine lv_goto (tgt := 15) hx hb d_M_isLine_11 (by decide) ?_
  subst hQ
  exact rt_z hx hb hr hlk rfl (by simp only [C_M_isLine, if_neg h1, if_neg h7]) rfl hP hS d_M_isLine_15
set_option maxHeartbeats 4000000 in
set_option maxRecDepth 100000 in
theorem k_M_wire (l : Launch) (D : va_G) (a : CAd) (hA : ApC a) (u0 : CSt) (x1 : Int32) (x2 : Int32) (hg : ¬ C_M_isLine x1 = 0) : MC kl (cw a) (FA a) (tyC a) l D y_M_wire b_M_wire 3 none rm_M_wire [.ref a.1, .int x1, .int x2] u0 none (C_M_wire u0 x1 x2) := by
  refine MC.mk (by decide) (Nat.le_of_ble_eq_true rfl) ?_
  intro p e s m below meth c ls Q args H locs hx hb hr hml hown hts hlk hl hP hK hS hQ
  have hown : s.vm.findClass R_M = some m.cls := hown
  have hl : lv_has ls 3 [(0, .ref a.1), (1, .int x1), (2, .int x2)] := hl
  refine lv_iload_n hx hb d_M_wire_0 rfl (lv_at hl 1 rfl) ?_
  refine cl_S (k_M_isLine l D a hA u0 x1) ⟨hx, hb, hml, hown, hts⟩ (va_cwS 1 hts (gi_S t_463 t_464 t_62 t_465) rfl rfl rfl (by decide +kernel) ⟨Nat.le_of_ble_eq_true rfl, Nat.le_of_ble_eq_true rfl⟩) hP hK hS rfl hl.1 rfl (Nat.le_of_ble_eq_true rfl) d_M_wire_1 (nm_i (fun r1 e1 H locs hP hS => ?_))
  refine lv_if_ne (tgt := 17) hx hb d_M_wire_4 (by decide) (fun h4 => ?_) (fun h4 => ?_)
  · refine lv_aload_n hx hb d_M_wire_17 rfl (lv_at hl 0 rfl) ?_
    refine va_get (D := D) (ci := 3) (v := .ref a.2.2.2.1) (C := R_M) (T := F_M) (N := 7) hx hb hts (fun w h => wm (ui_M w h)) hown hK hP 0 rfl rfl 1 (by decide) (hts _ (wm t_112)) (fun _ h9 => h9) rfl d_M_wire_18 ?_
    refine lv_iload_n hx hb d_M_wire_21 rfl (lv_at hl 1 rfl) ?_
    refine lv_iload_n hx hb d_M_wire_22 rfl (lv_at hl 2 rfl) ?_
    refine cl_V (C := R_Li) (k_Li_set l D a hA u0 x1 x2) ⟨hx, hb, hml, hown, hts⟩ (cwV 2 hts (gi_V t_275 t_276 t_277 t_64 t_278) rfl rfl rfl (by decide +kernel) ⟨Nat.le_of_ble_eq_true rfl, Nat.le_of_ble_eq_true rfl⟩) (va_recv (q0 := 3) (ci := 0) (q := (R_Li, F_Li, 1)) hK hP rfl rfl) hP hK hS rfl hl.1 rfl (Nat.le_of_ble_eq_true rfl) d_M_wire_23 (nm_s (fun u23 e23 H locs hP hS => ?_))
    subst hQ
    exact rt_v hx hb hr hlk (by simp only [C_M_wire, ← e1, if_neg h4, ← e23]) hP hS d_M_wire_26
  exact (hg (by rw [← e1]; exact h4)).elim
set_option maxHeartbeats 4000000 in
set_option maxRecDepth 100000 in
theorem k_M_line (l : Launch) (D : va_G) (a : CAd) (hA : ApC a) (u0 : CSt) (x1 : Int32) (hg : ¬ C_M_isLine x1 = 0) : MC kl (cw a) (FA a) (tyC a) l D y_M_line b_M_line 2 (some .boolean) rm_M_line [.ref a.1, .int x1] u0 (some (.int (C_M_line u0 x1))) u0 := by
  refine MC.mk (by decide) (Nat.le_of_ble_eq_true rfl) ?_
  intro p e s m below meth c ls Q args H locs hx hb hr hml hown hts hlk hl hP hK hS hQ
  have hown : s.vm.findClass R_M = some m.cls := hown
  have hl : lv_has ls 2 [(0, .ref a.1), (1, .int x1)] := hl
  refine lv_iload_n hx hb d_M_line_0 rfl (lv_at hl 1 rfl) ?_
  refine cl_S (k_M_isLine l D a hA u0 x1) ⟨hx, hb, hml, hown, hts⟩ (va_cwS 1 hts (gi_S t_463 t_464 t_62 t_465) rfl rfl rfl (by decide +kernel) ⟨Nat.le_of_ble_eq_true rfl, Nat.le_of_ble_eq_true rfl⟩) hP hK hS rfl hl.1 rfl (Nat.le_of_ble_eq_true rfl) d_M_line_1 (nm_i (fun r1 e1 H locs hP hS => ?_))
  refine lv_if_ne (tgt := 17) hx hb d_M_line_4 (by decide) (fun h4 => ?_) (fun h4 => ?_)
  · refine lv_aload_n hx hb d_M_line_17 rfl (lv_at hl 0 rfl) ?_
    refine va_get (D := D) (ci := 3) (v := .ref a.2.2.2.1) (C := R_M) (T := F_M) (N := 7) hx hb hts (fun w h => wm (ui_M w h)) hown hK hP 0 rfl rfl 1 (by decide) (hts _ (wm t_112)) (fun _ h9 => h9) rfl d_M_line_18 ?_
    refine lv_iload_n hx hb d_M_line_21 rfl (lv_at hl 1 rfl) ?_
    refine cl_V (C := R_Li) (k_Li_isOn l D a hA u0 x1) ⟨hx, hb, hml, hown, hts⟩ (cwV 1 hts (gi_V t_287 t_288 t_289 t_64 t_290) rfl rfl rfl (by decide +kernel) ⟨Nat.le_of_ble_eq_true rfl, Nat.le_of_ble_eq_true rfl⟩) (va_recv (q0 := 3) (ci := 0) (q := (R_Li, F_Li, 1)) hK hP rfl rfl) hP hK hS rfl hl.1 rfl (Nat.le_of_ble_eq_true rfl) d_M_line_22 (nm_i (fun r22 e22 H locs hP hS => ?_))
    subst hQ
    exact rt_z hx hb hr hlk (nb_z (by rw [e22]; exact zb_Li_isOn _ _)) (by simp only [C_M_line, ← e1, if_neg h4, ← e22]) rfl hP hS d_M_line_25
  exact (hg (by rw [← e1]; exact h4)).elim
set_option maxHeartbeats 4000000 in
set_option maxRecDepth 100000 in
theorem k_M_state (l : Launch) (D : va_G) (a : CAd) (hA : ApC a) (u0 : CSt) (x1 : Int32) (hg : x1 = 0 ∨ x1 = 1 ∨ x1 = 2 ∨ x1 = 3 ∨ x1 = 4) : MC kl (cw a) (FA a) (tyC a) l D y_M_state b_M_state 2 (some .int) rm_M_state [.ref a.1, .int x1] u0 (some (.int (C_M_state u0 x1))) u0 := by
  refine MC.mk (by decide) (Nat.le_of_ble_eq_true rfl) ?_
  intro p e s m below meth c ls Q args H locs hx hb hr hml hown hts hlk hl hP hK hS hQ
  have hown : s.vm.findClass R_M = some m.cls := hown
  have hl : lv_has ls 2 [(0, .ref a.1), (1, .int x1)] := hl
  refine lv_iload_n hx hb d_M_state_0 rfl (lv_at hl 1 rfl) ?_
  by_cases h1_0 : x1 = 0
  · refine lv_tableIn (off := 35) (tgt := 36) hx hb d_M_state_1 (by rw [h1_0]; decide) (by rw [h1_0]; decide) (by rw [h1_0]; decide +kernel) (by decide) ?_
    refine lv_aload_n hx hb d_M_state_36 rfl (lv_at hl 0 rfl) ?_
    refine va_get (D := D) (ci := 3) (v := .int u0.2.2.2.1) (C := R_M) (T := F_M) (N := 7) hx hb hts (fun w h => wm (ui_M w h)) hown hK hP 0 rfl rfl 3 (by decide) (hts _ (wm t_114)) (fun _ h9 => h9) rfl d_M_state_37 ?_
    subst hQ
    exact rt_i hx hb hr hlk (by simp only [C_M_state, if_pos h1_0]) rfl hP hS d_M_state_40
  by_cases h1_1 : x1 = 1
  · refine lv_tableIn (off := 40) (tgt := 41) hx hb d_M_state_1 (by rw [h1_1]; decide) (by rw [h1_1]; decide) (by rw [h1_1]; decide +kernel) (by decide) ?_
    refine lv_aload_n hx hb d_M_state_41 rfl (lv_at hl 0 rfl) ?_
    refine va_get (D := D) (ci := 3) (v := .int u0.2.2.2.2.1) (C := R_M) (T := F_M) (N := 7) hx hb hts (fun w h => wm (ui_M w h)) hown hK hP 0 rfl rfl 4 (by decide) (hts _ (wm t_115)) (fun _ h9 => h9) rfl d_M_state_42 ?_
    subst hQ
    exact rt_i hx hb hr hlk (by simp only [C_M_state, if_neg h1_0, if_pos h1_1]) rfl hP hS d_M_state_45
  by_cases h1_2 : x1 = 2
  · refine lv_tableIn (off := 45) (tgt := 46) hx hb d_M_state_1 (by rw [h1_2]; decide) (by rw [h1_2]; decide) (by rw [h1_2]; decide +kernel) (by decide) ?_
    refine lv_aload_n hx hb d_M_state_46 rfl (lv_at hl 0 rfl) ?_
    refine va_get (D := D) (ci := 3) (v := .ref a.2.2.2.2.1) (C := R_M) (T := F_M) (N := 7) hx hb hts (fun w h => wm (ui_M w h)) hown hK hP 0 rfl rfl 2 (by decide) (hts _ (wm t_113)) (fun _ h9 => h9) rfl d_M_state_47 ?_
    refine cl_V (C := R_St) (k_St_bits l D a hA u0) ⟨hx, hb, hml, hown, hts⟩ (cwV 0 hts (gi_V t_161 t_162 t_163 t_65 t_164) rfl rfl rfl (by decide +kernel) ⟨Nat.le_of_ble_eq_true rfl, Nat.le_of_ble_eq_true rfl⟩) (va_recv (q0 := 4) (ci := 2) (q := (R_St, F_St, 1)) hK hP rfl rfl) hP hK hS rfl hl.1 rfl (Nat.le_of_ble_eq_true rfl) d_M_state_50 (nm_i (fun r50 e50 H locs hP hS => ?_))
    subst hQ
    exact rt_i hx hb hr hlk (by simp only [C_M_state, if_neg h1_0, if_neg h1_1, if_pos h1_2, ← e50]) rfl hP hS d_M_state_53
  by_cases h1_3 : x1 = 3
  · refine lv_tableIn (off := 53) (tgt := 54) hx hb d_M_state_1 (by rw [h1_3]; decide) (by rw [h1_3]; decide) (by rw [h1_3]; decide +kernel) (by decide) ?_
    refine lv_aload_n hx hb d_M_state_54 rfl (lv_at hl 0 rfl) ?_
    refine va_get (D := D) (ci := 3) (v := .int u0.2.2.2.2.2.1) (C := R_M) (T := F_M) (N := 7) hx hb hts (fun w h => wm (ui_M w h)) hown hK hP 0 rfl rfl 5 (by decide) (hts _ (wm t_116)) (fun _ h9 => h9) rfl d_M_state_55 ?_
    subst hQ
    exact rt_i hx hb hr hlk (by simp only [C_M_state, if_neg h1_0, if_neg h1_1, if_neg h1_2, if_pos h1_3]) rfl hP hS d_M_state_58
  by_cases h1_4 : x1 = 4
  · refine lv_tableIn (off := 58) (tgt := 59) hx hb d_M_state_1 (by rw [h1_4]; decide) (by rw [h1_4]; decide) (by rw [h1_4]; decide +kernel) (by decide) ?_
    refine lv_aload_n hx hb d_M_state_59 rfl (lv_at hl 0 rfl) ?_
    refine va_get (D := D) (ci := 3) (v := .int u0.2.2.2.2.2.2) (C := R_M) (T := F_M) (N := 7) hx hb hts (fun w h => wm (ui_M w h)) hown hK hP 0 rfl rfl 6 (by decide) (hts _ (wm t_117)) (fun _ h9 => h9) rfl d_M_state_60 ?_
    refine lv_if_eq (tgt := 70) hx hb d_M_state_63 (by decide) (fun h63 => ?_) (fun h63 => ?_)
    · refine lv_iconst (v := 0) hx hb d_M_state_70 (by decide) ?_
      subst hQ
      exact rt_i hx hb hr hlk (by simp only [C_M_state, if_neg h1_0, if_neg h1_1, if_neg h1_2, if_neg h1_3, if_pos h1_4, if_pos h63]) rfl hP hS d_M_state_71
    refine lv_iconst (v := 1) hx hb d_M_state_66 (by decide) ?_
    refine lv_goto (tgt := 71) hx hb d_M_state_67 (by decide) ?_
    subst hQ
    exact rt_i hx hb hr hlk (by simp only [C_M_state, if_neg h1_0, if_neg h1_1, if_neg h1_2, if_neg h1_3, if_pos h1_4, if_neg h63]) rfl hP hS d_M_state_71
  have n1_0 := lv_neT h1_0 (a := 0) (by decide)
  have n1_1 := lv_neT h1_1 (a := 1) (by decide)
  have n1_2 := lv_neT h1_2 (a := 2) (by decide)
  have n1_3 := lv_neT h1_3 (a := 3) (by decide)
  have n1_4 := lv_neT h1_4 (a := 4) (by decide)
  refine lv_tableOut (tgt := 72) hx hb d_M_state_1 (by omega) (by decide) ?_
  exact (by rcases hg with h | h | h | h | h <;> contradiction : False).elim
