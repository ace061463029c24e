/-! contracts, laid by gen.py -/
set_option maxHeartbeats 4000000 in
set_option maxRecDepth 100000 in
theorem k_Mo_base (l : Launch) (D : va_G) (a : RAd) (hA : ApR a) (u0 : RSt) : MC kl (mw a) (FB a) (tyR a) l D y_Mo_base b_Mo_base 1 (some .int) rm_Mo_base [.ref a.1] u0 (some (.int (C_Mo_base u0))) u0 := by
  refine MC.mk (by decide) (Nat.le_of_ble_eq_true rfl) ?_
  intro p e s m below meth c ls Q args H locs hx hb hr hml hown hts hlk hl hP hK hS hQ
  have hown : s.vm.findClass R_Mo = some m.cls := hown
  have hl : lv_has ls 1 [(0, .ref a.1)] := hl
  refine lv_aload_n hx hb d_Mo_base_0 rfl (lv_at hl 0 rfl) ?_
  refine lv_bipush (v := 12) hx hb d_Mo_base_1 (by decide) ?_
  refine cl_V (C := R_Mo) (k_Mo_register l D a hA u0 12) ⟨hx, hb, hml, hown, hts⟩ (cwV 1 hts (gi_V t_568 t_570 t_40 t_66 t_571) rfl rfl rfl (by decide +kernel) ⟨Nat.le_of_ble_eq_true rfl, Nat.le_of_ble_eq_true rfl⟩) (va_recv (q0 := 0) (ci := 4) (q := (R_Mo, F_Mo, 10)) hK hP rfl rfl) hP hK hS rfl hl.1 rfl (Nat.le_of_ble_eq_true rfl) d_Mo_base_3 (nm_i (fun r3 e3 H locs hP hS => ?_))
  refine lv_iconst (v := 1) hx hb d_Mo_base_6 (by decide) ?_
  refine lv_ishr hx hb d_Mo_base_7 ?_
  subst hQ
  exact rt_i hx hb hr hlk (by simp only [C_Mo_base, ← e3]) rfl hP hS d_Mo_base_8
set_option maxHeartbeats 4000000 in
set_option maxRecDepth 100000 in
theorem k_Mo_lineOperand (l : Launch) (D : va_G) (a : RAd) (hA : ApR a) (u0 : RSt) (x1 : Int32) (x2 : Int32) : MC kl (mw a) (FB a) (tyR a) l D y_Mo_lineOperand b_Mo_lineOperand 10 none rm_Mo_lineOperand [.ref a.1, .int x1, .int x2] u0 none (C_Mo_lineOperand u0 x1 x2) := by
  refine MC.mk (by decide) (Nat.le_of_ble_eq_true rfl) ?_
  intro p e s m below meth c ls Q args H locs hx hb hr hml hown hts hlk hl hP hK hS hQ
  have hown : s.vm.findClass R_Mo = some m.cls := hown
  have hl : lv_has ls 10 [(0, .ref a.1), (1, .int x1), (2, .int x2)] := hl
  refine lv_iload_n hx hb d_Mo_lineOperand_0 rfl (lv_at hl 1 rfl) ?_
  refine lv_bipush (v := 6) hx hb d_Mo_lineOperand_1 (by decide) ?_
  refine lv_ishr hx hb d_Mo_lineOperand_3 ?_
  refine lv_bipush (v := 15) hx hb d_Mo_lineOperand_4 (by decide) ?_
  refine lv_iand hx hb d_Mo_lineOperand_6 ?_
  have hJ22 : ∀ (z22 : Int32), z22 = J_Mo_lineOperand_22 x1 → W p l e rm_Mo_lineOperand s m args below meth c H locs 0 0 Q (F0 m 22 ls [.int z22]) := by
    intro z22 jz22
    refine lv_istore_n hx hb d_Mo_lineOperand_22 rfl hl (by decide) rfl (fun ls hl => ?_)
    have hl : lv_has ls 10 [(3, .int z22), (0, .ref a.1), (1, .int x1), (2, .int x2)] := hl
    refine lv_iload_n hx hb d_Mo_lineOperand_23 rfl (lv_at hl 0 rfl) ?_
    refine lv_bipush (v := 8) hx hb d_Mo_lineOperand_24 (by decide) ?_
    have hJ34 : ∀ (z34 : Int32), z34 = J_Mo_lineOperand_34 z22 → W p l e rm_Mo_lineOperand s m args below meth c H locs 0 0 Q (F0 m 34 ls [.int z34]) := by
      intro z34 jz34
      refine lv_istore hx hb d_Mo_lineOperand_34 hl (by decide) rfl (fun ls hl => ?_)
      have hl : lv_has ls 10 [(4, .int z34), (3, .int z22), (0, .ref a.1), (1, .int x1), (2, .int x2)] := hl
      refine lv_aload_n hx hb d_Mo_lineOperand_36 rfl (lv_at hl 2 rfl) ?_
      refine lv_iload_n hx hb d_Mo_lineOperand_37 rfl (lv_at hl 3 rfl) ?_
      refine lv_bipush (v := 63) hx hb d_Mo_lineOperand_38 (by decide) ?_
      refine lv_iand hx hb d_Mo_lineOperand_40 ?_
      refine lv_iload hx hb d_Mo_lineOperand_41 (lv_at hl 0 rfl) ?_
      refine cl_V (C := R_Mo) (k_Mo_address l D a hA u0 (x1 &&& 63) z34) ⟨hx, hb, hml, hown, hts⟩ (cwV 2 hts (gi_V t_564 t_566 t_39 t_66 t_567) rfl rfl rfl (by decide +kernel) ⟨Nat.le_of_ble_eq_true rfl, Nat.le_of_ble_eq_true rfl⟩) (va_recv (q0 := 0) (ci := 4) (q := (R_Mo, F_Mo, 10)) hK hP rfl rfl) hP hK hS rfl hl.1 rfl (Nat.le_of_ble_eq_true rfl) d_Mo_lineOperand_43 (nm_is (fun r43 u43 e43 f43 H locs hP hS => ?_))
      refine lv_istore hx hb d_Mo_lineOperand_46 hl (by decide) rfl (fun ls hl => ?_)
      have hl : lv_has ls 10 [(5, .int r43), (4, .int z34), (3, .int z22), (0, .ref a.1), (1, .int x1), (2, .int x2)] := hl
      refine lv_iload hx hb d_Mo_lineOperand_48 (lv_at hl 1 rfl) ?_
      have hJ59 : ∀ (z59 : Int32), z59 = J_Mo_lineOperand_59 z34 → W p l e rm_Mo_lineOperand s m args below meth c H locs 0 0 Q (F0 m 59 ls [.int z59]) := by
        intro z59 jz59
        refine lv_istore hx hb d_Mo_lineOperand_59 hl (by decide) rfl (fun ls hl => ?_)
        have hl : lv_has ls 10 [(6, .int z59), (5, .int r43), (4, .int z34), (3, .int z22), (0, .ref a.1), (1, .int x1), (2, .int x2)] := hl
        refine lv_iload_n hx hb d_Mo_lineOperand_61 rfl (lv_at hl 6 rfl) ?_
        have hJ77 : ∀ (z77 : Int32) (H : Heap) (locs : List Loc), z77 = J_Mo_lineOperand_77 x2 z34 r43 u43 → va_P D kl (mw a u43) H → va_S (FB a) s.heap H locs → W p l e rm_Mo_lineOperand s m args below meth c H locs 0 0 Q (F0 m 77 ls [.int z77]) := by
          intro z77 H locs jz77 hP hS
          refine lv_istore hx hb d_Mo_lineOperand_77 hl (by decide) rfl (fun ls hl => ?_)
          have hl : lv_has ls 10 [(7, .int z77), (6, .int z59), (5, .int r43), (4, .int z34), (3, .int z22), (0, .ref a.1), (1, .int x1), (2, .int x2)] := hl
          refine lv_iconst (v := 0) hx hb d_Mo_lineOperand_79 (by decide) ?_
          refine lv_istore hx hb d_Mo_lineOperand_80 hl (by decide) rfl (fun ls hl => ?_)
          have hl : lv_has ls 10 [(8, .int 0), (7, .int z77), (6, .int z59), (5, .int r43), (4, .int z34), (3, .int z22), (0, .ref a.1), (1, .int x1), (2, .int x2)] := hl
          have hX82 : ∀ (i7_82 : Int32) (i8_82 : Int32) (w82 : RSt) (H : Heap) (locs : List Loc) (ls : Array Slot), (i7_82, i8_82, w82) = L_Mo_lineOperand_82 x2 z22 z59 (((z22 : Int32).toInt - (0 : Int32).toInt).toNat) (z77, 0, u43) → va_P D kl (mw a w82) H → va_S (FB a) s.heap H locs → lv_has ls 10 [(0, .ref a.1), (2, .int x2), (3, .int z22), (4, .int z34), (5, .int r43), (6, .int z59), (7, .int i7_82), (8, .int i8_82)] → W p l e rm_Mo_lineOperand s m args below meth c H locs 0 0 Q (F0 m 166 ls []) := by
            intro i7_82 i8_82 w82 H locs ls hq hP hS hl
            have qi7_82 : i7_82 = (L_Mo_lineOperand_82 x2 z22 z59 (((z22 : Int32).toInt - (0 : Int32).toInt).toNat) (z77, 0, u43)).1 := by rw [← hq]
            have qi8_82 : i8_82 = (L_Mo_lineOperand_82 x2 z22 z59 (((z22 : Int32).toInt - (0 : Int32).toInt).toNat) (z77, 0, u43)).2.1 := by rw [← hq]
            have qw82 : w82 = (L_Mo_lineOperand_82 x2 z22 z59 (((z22 : Int32).toInt - (0 : Int32).toInt).toNat) (z77, 0, u43)).2.2 := by rw [← hq]
            refine lv_aload_n hx hb d_Mo_lineOperand_166 rfl (lv_at hl 0 rfl) ?_
            refine lv_iload hx hb d_Mo_lineOperand_167 (lv_at hl 6 rfl) ?_
            refine cl_V (C := R_Mo) (k_Mo_test l D a hA w82 i7_82) ⟨hx, hb, hml, hown, hts⟩ (cwV 1 hts (gi_V t_602 t_604 t_47 t_66 t_605) rfl rfl rfl (by decide +kernel) ⟨Nat.le_of_ble_eq_true rfl, Nat.le_of_ble_eq_true rfl⟩) (va_recv (q0 := 0) (ci := 4) (q := (R_Mo, F_Mo, 10)) hK hP rfl rfl) hP hK hS rfl hl.1 rfl (Nat.le_of_ble_eq_true rfl) d_Mo_lineOperand_169 (nm_s (fun u169 e169 H locs hP hS => ?_))
            refine lv_iload hx hb d_Mo_lineOperand_172 (lv_at hl 3 rfl) ?_
            have hJ183 : ∀ (v183 : RSt) (H : Heap) (locs : List Loc), v183 = J_Mo_lineOperand_183 z34 i7_82 u169 → va_P D kl (mw a v183) H → va_S (FB a) s.heap H locs → W p l e rm_Mo_lineOperand s m args below meth c H locs 0 0 Q (F0 m 183 ls []) := by
              intro v183 H locs jv183 hP hS
              refine lv_iload_n hx hb d_Mo_lineOperand_183 rfl (lv_at hl 1 rfl) ?_
              refine lv_if_ne (tgt := 197) hx hb d_Mo_lineOperand_184 (by decide) (fun h184 => ?_) (fun h184 => ?_)
              · subst hQ
                exact rt_v hx hb hr hlk (by simp only [C_Mo_lineOperand, ← jz22, ← jz34, ← e43, ← f43, ← jz59, ← jz77, ← qi7_82, ← qi8_82, ← qw82, ← e169, ← jv183, if_neg h184]) hP hS d_Mo_lineOperand_197
              refine lv_aload_n hx hb d_Mo_lineOperand_187 rfl (lv_at hl 0 rfl) ?_
              refine lv_iload hx hb d_Mo_lineOperand_188 (lv_at hl 4 rfl) ?_
              refine lv_iload hx hb d_Mo_lineOperand_190 (lv_at hl 6 rfl) ?_
              refine lv_iload hx hb d_Mo_lineOperand_192 (lv_at hl 3 rfl) ?_
              refine cl_V (C := R_Mo) (k_Mo_store l D a hA v183 r43 i7_82 z34) ⟨hx, hb, hml, hown, hts⟩ (cwV 3 hts (gi_V t_606 t_608 t_48 t_66 t_609) rfl rfl rfl (by decide +kernel) ⟨Nat.le_of_ble_eq_true rfl, Nat.le_of_ble_eq_true rfl⟩) (va_recv (q0 := 0) (ci := 4) (q := (R_Mo, F_Mo, 10)) hK hP rfl rfl) hP hK hS rfl hl.1 rfl (Nat.le_of_ble_eq_true rfl) d_Mo_lineOperand_194 (nm_s (fun u194 e194 H locs hP hS => ?_))
              subst hQ
              exact rt_v hx hb hr hlk (by simp only [C_Mo_lineOperand, ← jz22, ← jz34, ← e43, ← f43, ← jz59, ← jz77, ← qi7_82, ← qi8_82, ← qw82, ← e169, ← jv183, if_pos h184, ← e194]) hP hS d_Mo_lineOperand_197
            refine lv_if_eq (tgt := 183) hx hb d_Mo_lineOperand_174 (by decide) (fun h174 => ?_) (fun h174 => ?_)
            · exact hJ183 u169 _ _ (by simp only [J_Mo_lineOperand_183, if_pos h174]) hP hS
            refine lv_aload_n hx hb d_Mo_lineOperand_177 rfl (lv_at hl 0 rfl) ?_
            refine lv_iload hx hb d_Mo_lineOperand_178 (lv_at hl 6 rfl) ?_
            refine cl_V (C := R_Mo) (k_Mo_parity l D a hA u169 i7_82) ⟨hx, hb, hml, hown, hts⟩ (cwV 1 hts (gi_V t_610 t_612 t_49 t_66 t_613) rfl rfl rfl (by decide +kernel) ⟨Nat.le_of_ble_eq_true rfl, Nat.le_of_ble_eq_true rfl⟩) (va_recv (q0 := 0) (ci := 4) (q := (R_Mo, F_Mo, 10)) hK hP rfl rfl) hP hK hS rfl hl.1 rfl (Nat.le_of_ble_eq_true rfl) d_Mo_lineOperand_180 (nm_s (fun u180 e180 H locs hP hS => ?_))
            exact hJ183 u180 _ _ (by simp only [J_Mo_lineOperand_183, if_neg h174, ← e180]) hP hS
          have hL82 : ∀ (f : Nat) (i7_82 : Int32) (i8_82 : Int32) (w82 : RSt) (H : Heap) (locs : List Loc) (ls : Array Slot), (z22.toInt - i8_82.toInt).toNat ≤ f → L_Mo_lineOperand_82 x2 z22 z59 f (i7_82, i8_82, w82) = L_Mo_lineOperand_82 x2 z22 z59 (((z22 : Int32).toInt - (0 : Int32).toInt).toNat) (z77, 0, u43) → va_P D kl (mw a w82) H → va_S (FB a) s.heap H locs → lv_has ls 10 [(0, .ref a.1), (2, .int x2), (3, .int z22), (4, .int z34), (5, .int r43), (6, .int z59), (7, .int i7_82), (8, .int i8_82)] → W p l e rm_Mo_lineOperand s m args below meth c H locs 0 0 Q (F0 m 82 ls []) := by
            intro f
            induction f with
            | zero =>
              intro i7_82 i8_82 w82 H locs ls hf hE hP hS hl
              refine lv_iload hx hb d_Mo_lineOperand_82 (lv_at hl 7 rfl) ?_
              refine lv_iload_n hx hb d_Mo_lineOperand_84 rfl (lv_at hl 2 rfl) ?_
              refine lv_icmp_ge (tgt := 166) hx hb d_Mo_lineOperand_85 (by decide) (fun h85 => ?_) (fun h85 => ?_)
              · exact hX82 _ _ _ _ _ _ hE hP hS hl
              · exact (ms_zero hf h85).elim
            | succ f ih =>
              intro i7_82 i8_82 w82 H locs ls hf hE hP hS hl
              refine lv_iload hx hb d_Mo_lineOperand_82 (lv_at hl 7 rfl) ?_
              refine lv_iload_n hx hb d_Mo_lineOperand_84 rfl (lv_at hl 2 rfl) ?_
              refine lv_icmp_ge (tgt := 166) hx hb d_Mo_lineOperand_85 (by decide) (fun h85 => ?_) (fun h85 => ?_)
              · exact hX82 _ _ _ _ _ _ (by rw [← hE, L_Mo_lineOperand_82_s, if_pos h85]) hP hS hl
              · refine lv_aload_n hx hb d_Mo_lineOperand_88 rfl (lv_at hl 0 rfl) ?_
                refine cl_V (C := R_Mo) (k_Mo_base l D a hA w82) ⟨hx, hb, hml, hown, hts⟩ (cwV 0 hts (gi_V t_622 t_624 t_52 t_66 t_625) rfl rfl rfl (by decide +kernel) ⟨Nat.le_of_ble_eq_true rfl, Nat.le_of_ble_eq_true rfl⟩) (va_recv (q0 := 0) (ci := 4) (q := (R_Mo, F_Mo, 10)) hK hP rfl rfl) hP hK hS rfl hl.1 rfl (Nat.le_of_ble_eq_true rfl) d_Mo_lineOperand_89 (nm_i (fun r89 e89 H locs hP hS => ?_))
                refine lv_iload hx hb d_Mo_lineOperand_92 (lv_at hl 7 rfl) ?_
                refine lv_iadd hx hb d_Mo_lineOperand_94 ?_
                refine lv_bipush (v := 63) hx hb d_Mo_lineOperand_95 (by decide) ?_
                refine lv_iand hx hb d_Mo_lineOperand_97 ?_
                refine lv_istore hx hb d_Mo_lineOperand_98 hl (by decide) rfl (fun ls hl => ?_)
                have hl : lv_has ls 10 [(9, .int ((r89 + i8_82) &&& 63)), (0, .ref a.1), (2, .int x2), (3, .int z22), (4, .int z34), (5, .int r43), (6, .int z59), (7, .int i7_82), (8, .int i8_82)] := hl
                refine lv_iload_n hx hb d_Mo_lineOperand_100 rfl (lv_at hl 2 rfl) ?_
                have hJ160 : ∀ (z160_l7 : Int32) (v160 : RSt) (H : Heap) (locs : List Loc) (ls : Array Slot), z160_l7 = (J_Mo_lineOperand_160 x2 z59 i7_82 i8_82 w82 r89).1 → v160 = (J_Mo_lineOperand_160 x2 z59 i7_82 i8_82 w82 r89).2 → va_P D kl (mw a v160) H → va_S (FB a) s.heap H locs → lv_has ls 10 [(0, .ref a.1), (2, .int x2), (3, .int z22), (4, .int z34), (5, .int r43), (6, .int z59), (7, .int z160_l7), (8, .int i8_82)] → W p l e rm_Mo_lineOperand s m args below meth c H locs 0 0 Q (F0 m 160 ls []) := by
                  intro z160_l7 v160 H locs ls jz160_l7 jv160 hP hS hl
                  refine lv_iinc (k := 7) (v := (i8_82 + 1)) hx hb d_Mo_lineOperand_160 hl rfl rfl (by decide) rfl (fun ls hl => ?_)
                  have hl : lv_has ls 10 [(8, .int (i8_82 + 1)), (0, .ref a.1), (2, .int x2), (3, .int z22), (4, .int z34), (5, .int r43), (6, .int z59), (7, .int z160_l7)] := hl
                  refine lv_goto (tgt := 82) hx hb d_Mo_lineOperand_163 (by decide) ?_
                  exact ih z160_l7 (i8_82 + 1) v160 _ _ _ (ms_step h85 hf) ((congrArg (L_Mo_lineOperand_82 x2 z22 z59 f) (by simp only [B_Mo_lineOperand_82, ← e89, ← jz160_l7, ← jv160])).trans (show L_Mo_lineOperand_82 x2 z22 z59 f (B_Mo_lineOperand_82 x2 z22 z59 (i7_82, i8_82, w82)) = _ by rw [← hE, L_Mo_lineOperand_82_s, if_neg h85])) hP hS (lv_sub hl [1, 2, 3, 4, 5, 6, 7, 0] rfl)
                refine lv_if_eq (tgt := 133) hx hb d_Mo_lineOperand_101 (by decide) (fun h101 => ?_) (fun h101 => ?_)
                · refine lv_aload_n hx hb d_Mo_lineOperand_133 rfl (lv_at hl 1 rfl) ?_
                  refine va_get (D := D) (ci := 4) (v := .ref a.2.2.1) (C := R_Mo) (T := F_Mo) (N := 10) hx hb hts (fun w h => wm (ui_Mo w h)) hown hK hP 0 rfl rfl 2 (by decide) (hts _ (wm t_490)) (fun _ h9 => h9) rfl d_Mo_lineOperand_134 ?_
                  refine lv_iload hx hb d_Mo_lineOperand_137 (lv_at hl 0 rfl) ?_
                  refine va_zald hx hb hK hP 2 1 rfl rfl (ix_63 _) d_Mo_lineOperand_139 ?_
                  have hJ158 : ∀ (z158 : Int32), z158 = J_Mo_lineOperand_158 z59 i7_82 i8_82 w82 r89 → W p l e rm_Mo_lineOperand s m args below meth c H locs 0 0 Q (F0 m 158 ls [.int z158]) := by
                    intro z158 jz158
                    refine lv_istore hx hb d_Mo_lineOperand_158 hl (by decide) rfl (fun ls hl => ?_)
                    have hl : lv_has ls 10 [(7, .int z158), (9, .int ((r89 + i8_82) &&& 63)), (0, .ref a.1), (2, .int x2), (3, .int z22), (4, .int z34), (5, .int r43), (6, .int z59), (8, .int i8_82)] := hl
                    exact hJ160 z158 w82 _ _ _ (by simp only [J_Mo_lineOperand_160, if_pos h101, ← jz158]) (by simp only [J_Mo_lineOperand_160, if_pos h101, ← jz158]) hP hS (lv_sub hl [2, 3, 4, 5, 6, 7, 0, 8] rfl)
                  refine lv_if_eq (tgt := 156) hx hb d_Mo_lineOperand_140 (by decide) (fun h140 => ?_) (fun h140 => ?_)
                  · refine lv_iload hx hb d_Mo_lineOperand_156 (lv_at hl 7 rfl) ?_
                    exact hJ158 i7_82 (by simp only [J_Mo_lineOperand_158, if_pos h140])
                  refine lv_iload hx hb d_Mo_lineOperand_143 (lv_at hl 7 rfl) ?_
                  refine lv_iconst (v := 1) hx hb d_Mo_lineOperand_145 (by decide) ?_
                  refine lv_iload hx hb d_Mo_lineOperand_146 (lv_at hl 8 rfl) ?_
                  refine lv_iload hx hb d_Mo_lineOperand_148 (lv_at hl 6 rfl) ?_
                  refine lv_iadd hx hb d_Mo_lineOperand_150 ?_
                  refine lv_ishl hx hb d_Mo_lineOperand_151 ?_
                  refine lv_ior hx hb d_Mo_lineOperand_152 ?_
                  refine lv_goto (tgt := 158) hx hb d_Mo_lineOperand_153 (by decide) ?_
                  exact hJ158 (i7_82 ||| (1 <<< ((i8_82 + z59) &&& 31))) (by simp only [J_Mo_lineOperand_158, if_neg h140])
                refine lv_aload_n hx hb d_Mo_lineOperand_104 rfl (lv_at hl 1 rfl) ?_
                refine va_get (D := D) (ci := 4) (v := .ref a.2.2.1) (C := R_Mo) (T := F_Mo) (N := 10) hx hb hts (fun w h => wm (ui_Mo w h)) hown hK hP 0 rfl rfl 2 (by decide) (hts _ (wm t_490)) (fun _ h9 => h9) rfl d_Mo_lineOperand_105 ?_
                refine lv_iload hx hb d_Mo_lineOperand_108 (lv_at hl 0 rfl) ?_
                refine lv_iload hx hb d_Mo_lineOperand_110 (lv_at hl 7 rfl) ?_
                refine lv_iload hx hb d_Mo_lineOperand_112 (lv_at hl 8 rfl) ?_
                refine lv_iload hx hb d_Mo_lineOperand_114 (lv_at hl 6 rfl) ?_
                refine lv_iadd hx hb d_Mo_lineOperand_116 ?_
                refine lv_ishr hx hb d_Mo_lineOperand_117 ?_
                refine lv_iconst (v := 1) hx hb d_Mo_lineOperand_118 (by decide) ?_
                refine lv_iand hx hb d_Mo_lineOperand_119 ?_
                refine lv_iconst (v := 1) hx hb d_Mo_lineOperand_120 (by decide) ?_
                have hJ129 : ∀ (z129 : Int32), z129 = J_Mo_lineOperand_129 z59 i7_82 i8_82 → W p l e rm_Mo_lineOperand s m args below meth c H locs 0 0 Q (F0 m 129 ls [.int z129, .int ((r89 + i8_82) &&& 63), .ref a.2.2.1]) := by
                  intro z129 jz129
                  refine va_zast hx hb hK hP (dd_R hA _) hS 2 1 rfl rfl (ix_63 _) d_Mo_lineOperand_129 (fun H locs hP _ hS => ?_)
                  have hP : va_P D kl (mw a (w82.1, (upd w82.2.1 ((r89 + i8_82) &&& 63).toNatClampNeg (vp_nar .boolean z129)), w82.2.2.1, w82.2.2.2.1, w82.2.2.2.2.1, w82.2.2.2.2.2.1, w82.2.2.2.2.2.2.1, w82.2.2.2.2.2.2.2.1, w82.2.2.2.2.2.2.2.2.1, w82.2.2.2.2.2.2.2.2.2)) H := hP
                  refine lv_goto (tgt := 160) hx hb d_Mo_lineOperand_130 (by decide) ?_
                  exact hJ160 i7_82 (w82.1, (upd w82.2.1 ((r89 + i8_82) &&& 63).toNatClampNeg (vp_nar .boolean z129)), w82.2.2.1, w82.2.2.2.1, w82.2.2.2.2.1, w82.2.2.2.2.2.1, w82.2.2.2.2.2.2.1, w82.2.2.2.2.2.2.2.1, w82.2.2.2.2.2.2.2.2.1, w82.2.2.2.2.2.2.2.2.2) _ _ _ (by simp only [J_Mo_lineOperand_160, if_neg h101, ← jz129]) (by simp only [J_Mo_lineOperand_160, if_neg h101, ← jz129]) hP hS (lv_sub hl [1, 2, 3, 4, 5, 6, 7, 8] rfl)
                refine lv_icmp_ne (tgt := 128) hx hb d_Mo_lineOperand_121 (by decide) (fun h121 => ?_) (fun h121 => ?_)
                · refine lv_iconst (v := 0) hx hb d_Mo_lineOperand_128 (by decide) ?_
                  exact hJ129 0 (by simp only [J_Mo_lineOperand_129, if_neg h121])
                refine lv_iconst (v := 1) hx hb d_Mo_lineOperand_124 (by decide) ?_
                refine lv_goto (tgt := 129) hx hb d_Mo_lineOperand_125 (by decide) ?_
                exact hJ129 1 (by simp only [J_Mo_lineOperand_129, if_pos h121])
          exact hL82 _ z77 0 u43 _ _ _ (Nat.le_refl _) rfl hP hS (lv_sub hl [6, 8, 5, 4, 3, 2, 1, 0] rfl)
        refine lv_if_eq (tgt := 76) hx hb d_Mo_lineOperand_62 (by decide) (fun h62 => ?_) (fun h62 => ?_)
        · refine lv_iconst (v := 0) hx hb d_Mo_lineOperand_76 (by decide) ?_
          exact hJ77 0 _ _ (by simp only [J_Mo_lineOperand_77, if_pos h62]) hP hS
        refine lv_aload_n hx hb d_Mo_lineOperand_65 rfl (lv_at hl 4 rfl) ?_
        refine lv_iload hx hb d_Mo_lineOperand_66 (lv_at hl 1 rfl) ?_
        refine lv_iload hx hb d_Mo_lineOperand_68 (lv_at hl 2 rfl) ?_
        refine cl_V (C := R_Mo) (k_Mo_value l D a hA u43 r43 z34) ⟨hx, hb, hml, hown, hts⟩ (cwV 2 hts (gi_V t_580 t_582 t_43 t_66 t_583) rfl rfl rfl (by decide +kernel) ⟨Nat.le_of_ble_eq_true rfl, Nat.le_of_ble_eq_true rfl⟩) (va_recv (q0 := 0) (ci := 4) (q := (R_Mo, F_Mo, 10)) hK hP rfl rfl) hP hK hS rfl hl.1 rfl (Nat.le_of_ble_eq_true rfl) d_Mo_lineOperand_70 (nm_i (fun r70 e70 H locs hP hS => ?_))
        refine lv_goto (tgt := 77) hx hb d_Mo_lineOperand_73 (by decide) ?_
        exact hJ77 r70 _ _ (by simp only [J_Mo_lineOperand_77, if_neg h62, ← e70]) hP hS
      refine lv_if_eq (tgt := 58) hx hb d_Mo_lineOperand_50 (by decide) (fun h50 => ?_) (fun h50 => ?_)
      · refine lv_iconst (v := 0) hx hb d_Mo_lineOperand_58 (by decide) ?_
        exact hJ59 0 (by simp only [J_Mo_lineOperand_59, if_pos h50])
      refine lv_bipush (v := 8) hx hb d_Mo_lineOperand_53 (by decide) ?_
      refine lv_goto (tgt := 59) hx hb d_Mo_lineOperand_55 (by decide) ?_
      exact hJ59 8 (by simp only [J_Mo_lineOperand_59, if_neg h50])
    refine lv_icmp_gt (tgt := 33) hx hb d_Mo_lineOperand_26 (by decide) (fun h26 => ?_) (fun h26 => ?_)
    · refine lv_iconst (v := 0) hx hb d_Mo_lineOperand_33 (by decide) ?_
      exact hJ34 0 (by simp only [J_Mo_lineOperand_34, if_pos h26])
    refine lv_iconst (v := 1) hx hb d_Mo_lineOperand_29 (by decide) ?_
    refine lv_goto (tgt := 34) hx hb d_Mo_lineOperand_30 (by decide) ?_
    exact hJ34 1 (by simp only [J_Mo_lineOperand_34, if_neg h26])
  refine lv_if_ne (tgt := 15) hx hb d_Mo_lineOperand_7 (by decide) (fun h7 => ?_) (fun h7 => ?_)
  · refine lv_iload_n hx hb d_Mo_lineOperand_15 rfl (lv_at hl 1 rfl) ?_
    refine lv_bipush (v := 6) hx hb d_Mo_lineOperand_16 (by decide) ?_
    refine lv_ishr hx hb d_Mo_lineOperand_18 ?_
    refine lv_bipush (v := 15) hx hb d_Mo_lineOperand_19 (by decide) ?_
    refine lv_iand hx hb d_Mo_lineOperand_21 ?_
    exact hJ22 ((x1 >>> ((6 : Int32) &&& 31)) &&& 15) (by simp only [J_Mo_lineOperand_22, if_neg h7])
  refine lv_bipush (v := 16) hx hb d_Mo_lineOperand_10 (by decide) ?_
  refine lv_goto (tgt := 22) hx hb d_Mo_lineOperand_12 (by decide) ?_
  exact hJ22 16 (by simp only [J_Mo_lineOperand_22, if_pos h7])
set_option maxHeartbeats 4000000 in
set_option maxRecDepth 100000 in
theorem k_Mo_withRegister (l : Launch) (D : va_G) (a : RAd) (hA : ApR a) (u0 : RSt) (x1 : Int32) (hI : ∀ j, 0 ≤ u0.1 j) : MC kl (mw a) (FB a) (tyR a) l D y_Mo_withRegister b_Mo_withRegister 9 none rm_Mo_withRegister [.ref a.1, .int x1] u0 none (C_Mo_withRegister u0 x1) := by
  refine MC.mk (by decide) (Nat.le_of_ble_eq_true rfl) ?_
  intro p e s m below meth c ls Q args H locs hx hb hr hml hown hts hlk hl hP hK hS hQ
  have hown : s.vm.findClass R_Mo = some m.cls := hown
  have hl : lv_has ls 9 [(0, .ref a.1), (1, .int x1)] := hl
  refine lv_iload_n hx hb d_Mo_withRegister_0 rfl (lv_at hl 1 rfl) ?_
  refine lv_bipush (v := 10) hx hb d_Mo_withRegister_1 (by decide) ?_
  refine lv_ishr hx hb d_Mo_withRegister_3 ?_
  refine lv_istore_n hx hb d_Mo_withRegister_4 rfl hl (by decide) rfl (fun ls hl => ?_)
  have hl : lv_has ls 9 [(2, .int (x1 >>> ((10 : Int32) &&& 31))), (0, .ref a.1), (1, .int x1)] := hl
  refine lv_iload_n hx hb d_Mo_withRegister_5 rfl (lv_at hl 2 rfl) ?_
  refine lv_bipush (v := 6) hx hb d_Mo_withRegister_6 (by decide) ?_
  refine lv_ishr hx hb d_Mo_withRegister_8 ?_
  refine lv_bipush (v := 15) hx hb d_Mo_withRegister_9 (by decide) ?_
  refine lv_iand hx hb d_Mo_withRegister_11 ?_
  refine lv_istore_n hx hb d_Mo_withRegister_12 rfl hl (by decide) rfl (fun ls hl => ?_)
  have hl : lv_has ls 9 [(3, .int ((x1 >>> ((6 : Int32) &&& 31)) &&& 15)), (2, .int (x1 >>> ((10 : Int32) &&& 31))), (0, .ref a.1), (1, .int x1)] := hl
  refine lv_iload_n hx hb d_Mo_withRegister_13 rfl (lv_at hl 1 rfl) ?_
  refine lv_bipush (v := 12) hx hb d_Mo_withRegister_14 (by decide) ?_
  refine lv_icmp_eq (tgt := 25) hx hb d_Mo_withRegister_16 (by decide) (fun h16 => ?_) (fun h16 => ?_)
  · refine lv_aload_n hx hb d_Mo_withRegister_25 rfl (lv_at hl 2 rfl) ?_
    refine lv_iload_n hx hb d_Mo_withRegister_26 rfl (lv_at hl 3 rfl) ?_
    refine lv_iload_n hx hb d_Mo_withRegister_27 rfl (lv_at hl 1 rfl) ?_
    refine lv_bipush (v := 12) hx hb d_Mo_withRegister_28 (by decide) ?_
    have hJ38 : ∀ (z38 : Int32), z38 = J_Mo_withRegister_38 x1 → W p l e rm_Mo_withRegister s m args below meth c H locs 0 0 Q (F0 m 38 ls [.int z38, .int x1, .ref a.1]) := by
      intro z38 jz38
      refine cl_V (C := R_Mo) (k_Mo_lineOperand l D a hA u0 x1 z38) ⟨hx, hb, hml, hown, hts⟩ (cwV 2 hts (gi_V t_618 t_620 t_51 t_66 t_621) rfl rfl rfl (by decide +kernel) ⟨Nat.le_of_ble_eq_true rfl, Nat.le_of_ble_eq_true rfl⟩) (va_recv (q0 := 0) (ci := 4) (q := (R_Mo, F_Mo, 10)) hK hP rfl rfl) hP hK hS rfl hl.1 rfl (Nat.le_of_ble_eq_true rfl) d_Mo_withRegister_38 (nm_s (fun u38 e38 H locs hP hS => ?_))
      subst hQ
      exact rt_v hx hb hr hlk (by simp only [C_Mo_withRegister, if_pos h16, ← jz38, ← e38]) hP hS d_Mo_withRegister_41
    refine lv_icmp_ne (tgt := 37) hx hb d_Mo_withRegister_30 (by decide) (fun h30 => ?_) (fun h30 => ?_)
    · refine lv_iconst (v := 0) hx hb d_Mo_withRegister_37 (by decide) ?_
      exact hJ38 0 (by simp only [J_Mo_withRegister_38, if_neg h30])
    refine lv_iconst (v := 1) hx hb d_Mo_withRegister_33 (by decide) ?_
    refine lv_goto (tgt := 38) hx hb d_Mo_withRegister_34 (by decide) ?_
    exact hJ38 1 (by simp only [J_Mo_withRegister_38, if_pos h30])
  refine lv_iload_n hx hb d_Mo_withRegister_19 rfl (lv_at hl 1 rfl) ?_
  refine lv_bipush (v := 13) hx hb d_Mo_withRegister_20 (by decide) ?_
  refine lv_icmp_ne (tgt := 42) hx hb d_Mo_withRegister_22 (by decide) (fun h22 => ?_) (fun h22 => ?_)
  · refine lv_aload_n hx hb d_Mo_withRegister_42 rfl (lv_at hl 2 rfl) ?_
    refine lv_iload_n hx hb d_Mo_withRegister_43 rfl (lv_at hl 3 rfl) ?_
    refine lv_bipush (v := 63) hx hb d_Mo_withRegister_44 (by decide) ?_
    refine lv_iand hx hb d_Mo_withRegister_46 ?_
    refine lv_iconst (v := 0) hx hb d_Mo_withRegister_47 (by decide) ?_
    refine cl_V (C := R_Mo) (k_Mo_address l D a hA u0 (x1 &&& 63) 0) ⟨hx, hb, hml, hown, hts⟩ (cwV 2 hts (gi_V t_564 t_566 t_39 t_66 t_567) rfl rfl rfl (by decide +kernel) ⟨Nat.le_of_ble_eq_true rfl, Nat.le_of_ble_eq_true rfl⟩) (va_recv (q0 := 0) (ci := 4) (q := (R_Mo, F_Mo, 10)) hK hP rfl rfl) hP hK hS rfl hl.1 rfl (Nat.le_of_ble_eq_true rfl) d_Mo_withRegister_48 (nm_is (fun r48 u48 e48 f48 H locs hP hS => ?_))
    have hI48 : ∀ j, 0 ≤ u48.1 j := by rw [f48]; exact iv_Mo_address hI _ _
    refine lv_istore hx hb d_Mo_withRegister_51 hl (by decide) rfl (fun ls hl => ?_)
    have hl : lv_has ls 9 [(4, .int r48), (3, .int ((x1 >>> ((6 : Int32) &&& 31)) &&& 15)), (2, .int (x1 >>> ((10 : Int32) &&& 31))), (0, .ref a.1), (1, .int x1)] := hl
    refine lv_aload_n hx hb d_Mo_withRegister_53 rfl (lv_at hl 3 rfl) ?_
    refine lv_iload hx hb d_Mo_withRegister_54 (lv_at hl 0 rfl) ?_
    refine cl_V (C := R_Mo) (k_Mo_word l D a hA u48 r48) ⟨hx, hb, hml, hown, hts⟩ (cwV 1 hts (gi_V t_533 t_535 t_33 t_66 t_536) rfl rfl rfl (by decide +kernel) ⟨Nat.le_of_ble_eq_true rfl, Nat.le_of_ble_eq_true rfl⟩) (va_recv (q0 := 0) (ci := 4) (q := (R_Mo, F_Mo, 10)) hK hP rfl rfl) hP hK hS rfl hl.1 rfl (Nat.le_of_ble_eq_true rfl) d_Mo_withRegister_56 (nm_i (fun r56 e56 H locs hP hS => ?_))
    refine lv_istore hx hb d_Mo_withRegister_59 hl (by decide) rfl (fun ls hl => ?_)
    have hl : lv_has ls 9 [(5, .int r56), (4, .int r48), (3, .int ((x1 >>> ((6 : Int32) &&& 31)) &&& 15)), (2, .int (x1 >>> ((10 : Int32) &&& 31))), (0, .ref a.1), (1, .int x1)] := hl
    refine lv_iload_n hx hb d_Mo_withRegister_61 rfl (lv_at hl 3 rfl) ?_
    refine lv_bipush (v := 11) hx hb d_Mo_withRegister_62 (by decide) ?_
    refine lv_icmp_ne (tgt := 94) hx hb d_Mo_withRegister_64 (by decide) (fun h64 => ?_) (fun h64 => ?_)
    · refine lv_aload_n hx hb d_Mo_withRegister_94 rfl (lv_at hl 4 rfl) ?_
      refine lv_iload_n hx hb d_Mo_withRegister_95 rfl (lv_at hl 2 rfl) ?_
      refine cl_V (C := R_Mo) (k_Mo_register l D a hA u48 ((x1 >>> ((6 : Int32) &&& 31)) &&& 15)) ⟨hx, hb, hml, hown, hts⟩ (cwV 1 hts (gi_V t_568 t_570 t_40 t_66 t_571) rfl rfl rfl (by decide +kernel) ⟨Nat.le_of_ble_eq_true rfl, Nat.le_of_ble_eq_true rfl⟩) (va_recv (q0 := 0) (ci := 4) (q := (R_Mo, F_Mo, 10)) hK hP rfl rfl) hP hK hS rfl hl.1 rfl (Nat.le_of_ble_eq_true rfl) d_Mo_withRegister_96 (nm_i (fun r96 e96 H locs hP hS => ?_))
      have hr96 : 0 ≤ r96 := by rw [e96]; exact ge_Mo_register hI48 _
      refine lv_istore hx hb d_Mo_withRegister_99 hl (by decide) rfl (fun ls hl => ?_)
      have hl : lv_has ls 9 [(6, .int r96), (5, .int r56), (4, .int r48), (3, .int ((x1 >>> ((6 : Int32) &&& 31)) &&& 15)), (2, .int (x1 >>> ((10 : Int32) &&& 31))), (0, .ref a.1), (1, .int x1)] := hl
      refine lv_iload_n hx hb d_Mo_withRegister_101 rfl (lv_at hl 4 rfl) ?_
      refine lv_bipush (v := 8) hx hb d_Mo_withRegister_102 (by decide) ?_
      have hJ129 : ∀ (v129 : RSt) (H : Heap) (locs : List Loc), v129 = J_Mo_withRegister_129 x1 u48 r56 r96 → va_P D kl (mw a v129) H → va_S (FB a) s.heap H locs → W p l e rm_Mo_withRegister s m args below meth c H locs 0 0 Q (F0 m 129 ls []) := by
        intro v129 H locs jv129 hP hS
        refine lv_iload_n hx hb d_Mo_withRegister_129 rfl (lv_at hl 4 rfl) ?_
        refine lv_bipush (v := 9) hx hb d_Mo_withRegister_130 (by decide) ?_
        have hJ155 : ∀ (v155 : RSt) (H : Heap) (locs : List Loc), v155 = J_Mo_withRegister_155 x1 r56 r96 v129 → va_P D kl (mw a v155) H → va_S (FB a) s.heap H locs → W p l e rm_Mo_withRegister s m args below meth c H locs 0 0 Q (F0 m 155 ls []) := by
          intro v155 H locs jv155 hP hS
          refine lv_iload_n hx hb d_Mo_withRegister_155 rfl (lv_at hl 4 rfl) ?_
          refine lv_bipush (v := 10) hx hb d_Mo_withRegister_156 (by decide) ?_
          have hJ180 : ∀ (v180 : RSt) (H : Heap) (locs : List Loc), v180 = J_Mo_withRegister_180 x1 r56 r96 v155 → va_P D kl (mw a v180) H → va_S (FB a) s.heap H locs → W p l e rm_Mo_withRegister s m args below meth c H locs 0 0 Q (F0 m 180 ls []) := by
            intro v180 H locs jv180 hP hS
            refine lv_iload_n hx hb d_Mo_withRegister_180 rfl (lv_at hl 4 rfl) ?_
            refine lv_bipush (v := 14) hx hb d_Mo_withRegister_181 (by decide) ?_
            have hJ220 : ∀ (v220 : RSt) (H : Heap) (locs : List Loc) (ls : Array Slot), v220 = J_Mo_withRegister_220 x1 r56 r96 v180 → va_P D kl (mw a v220) H → va_S (FB a) s.heap H locs → lv_has ls 9 [(0, .ref a.1), (2, .int (x1 >>> ((10 : Int32) &&& 31))), (3, .int ((x1 >>> ((6 : Int32) &&& 31)) &&& 15)), (5, .int r56), (6, .int r96)] → W p l e rm_Mo_withRegister s m args below meth c H locs 0 0 Q (F0 m 220 ls []) := by
              intro v220 H locs ls jv220 hP hS hl
              refine lv_iload_n hx hb d_Mo_withRegister_220 rfl (lv_at hl 1 rfl) ?_
              refine lv_bipush (v := 15) hx hb d_Mo_withRegister_221 (by decide) ?_
              refine lv_icmp_ne (tgt := 296) hx hb d_Mo_withRegister_223 (by decide) (fun h223 => ?_) (fun h223 => ?_)
              · subst hQ
                exact rt_v hx hb hr hlk (by simp only [C_Mo_withRegister, if_neg h16, if_neg h22, ← e48, ← f48, ← e56, if_neg h64, ← e96, ← jv129, ← jv155, ← jv180, ← jv220, if_neg h223]) hP hS d_Mo_withRegister_296
              refine lv_aload_n hx hb d_Mo_withRegister_226 rfl (lv_at hl 0 rfl) ?_
              refine lv_sipush (v := 2048) hx hb d_Mo_withRegister_227 (by decide) ?_
              refine lv_iload hx hb d_Mo_withRegister_230 (lv_at hl 3 rfl) ?_
              refine lv_iload hx hb d_Mo_withRegister_232 (lv_at hl 4 rfl) ?_
              have hJ242 : ∀ (z242 : Int32), z242 = J_Mo_withRegister_242 r56 r96 → W p l e rm_Mo_withRegister s m args below meth c H locs 0 0 Q (F0 m 242 ls [.int z242, .int 2048, .ref a.1]) := by
                intro z242 jz242
                refine cl_V (C := R_Mo) (k_Mo_flag l D a hA v220 2048 z242) ⟨hx, hb, hml, hown, hts⟩ (cwV 2 hts (gi_V t_589 t_591 t_45 t_66 t_592) rfl rfl rfl (by decide +kernel) ⟨Nat.le_of_ble_eq_true rfl, Nat.le_of_ble_eq_true rfl⟩) (va_recv (q0 := 0) (ci := 4) (q := (R_Mo, F_Mo, 10)) hK hP rfl rfl) hP hK hS rfl hl.1 rfl (Nat.le_of_ble_eq_true rfl) d_Mo_withRegister_242 (nm_s (fun u242 e242 H locs hP hS => ?_))
                refine lv_iload hx hb d_Mo_withRegister_245 (lv_at hl 3 rfl) ?_
                refine lv_iload hx hb d_Mo_withRegister_247 (lv_at hl 4 rfl) ?_
                refine lv_icmp_le (tgt := 296) hx hb d_Mo_withRegister_249 (by decide) (fun h249 => ?_) (fun h249 => ?_)
                · subst hQ
                  exact rt_v hx hb hr hlk (by simp only [C_Mo_withRegister, if_neg h16, if_neg h22, ← e48, ← f48, ← e56, if_neg h64, ← e96, ← jv129, ← jv155, ← jv180, ← jv220, if_pos h223, ← jz242, ← e242, if_pos h249]) hP hS d_Mo_withRegister_296
                refine lv_iload hx hb d_Mo_withRegister_252 (lv_at hl 4 rfl) ?_
                refine lv_i2l hx hb d_Mo_withRegister_254 rfl ?_
                refine lv_ldc2 (v := 65536) hx hb hown (hts _ (wm t_627)) d_Mo_withRegister_255 ?_
                refine lv_lmul hx hb d_Mo_withRegister_258 ?_
                refine lv_aload_n hx hb d_Mo_withRegister_259 rfl (lv_at hl 0 rfl) ?_
                refine lv_iload_n hx hb d_Mo_withRegister_260 rfl (lv_at hl 2 rfl) ?_
                refine lv_iconst (v := 1) hx hb d_Mo_withRegister_261 (by decide) ?_
                refine lv_iadd hx hb d_Mo_withRegister_262 ?_
                refine cl_V (C := R_Mo) (k_Mo_register l D a hA u242 (((x1 >>> ((6 : Int32) &&& 31)) &&& 15) + 1)) ⟨hx, hb, hml, hown, hts⟩ (cwV 1 hts (gi_V t_568 t_570 t_40 t_66 t_571) rfl rfl rfl (by decide +kernel) ⟨Nat.le_of_ble_eq_true rfl, Nat.le_of_ble_eq_true rfl⟩) (va_recv (q0 := 0) (ci := 4) (q := (R_Mo, F_Mo, 10)) hK hP rfl rfl) hP hK hS rfl hl.1 rfl (Nat.le_of_ble_eq_true rfl) d_Mo_withRegister_263 (nm_i (fun r263 e263 H locs hP hS => ?_))
                refine lv_i2l hx hb d_Mo_withRegister_266 rfl ?_
                refine lv_ladd hx hb d_Mo_withRegister_267 ?_
                refine lv_lstore hx hb d_Mo_withRegister_268 hl (by decide) rfl (fun ls hl => ?_)
                have hl : lv_has ls 9 [(7, .long (((r96.toInt64) * 65536) + (r263.toInt64))), (0, .ref a.1), (2, .int (x1 >>> ((10 : Int32) &&& 31))), (3, .int ((x1 >>> ((6 : Int32) &&& 31)) &&& 15)), (5, .int r56), (6, .int r96)] := hl
                refine lv_aload_n hx hb d_Mo_withRegister_270 rfl (lv_at hl 1 rfl) ?_
                refine lv_iload_n hx hb d_Mo_withRegister_271 rfl (lv_at hl 3 rfl) ?_
                refine lv_lload hx hb d_Mo_withRegister_272 (lv_at hl 0 rfl) ?_
                refine lv_iload hx hb d_Mo_withRegister_274 (lv_at hl 4 rfl) ?_
                refine lv_i2l hx hb d_Mo_withRegister_276 rfl ?_
                refine lv_ldiv hx hb d_Mo_withRegister_277 (dv_R hr96 h249) ?_
                refine lv_l2i hx hb d_Mo_withRegister_278 rfl ?_
                refine cl_V (C := R_Mo) (k_Mo_setRegister l D a hA u242 ((x1 >>> ((6 : Int32) &&& 31)) &&& 15) (((((r96.toInt64) * 65536) + (r263.toInt64)) / (r56.toInt64)).toInt32)) ⟨hx, hb, hml, hown, hts⟩ (cwV 2 hts (gi_V t_537 t_539 t_34 t_66 t_540) rfl rfl rfl (by decide +kernel) ⟨Nat.le_of_ble_eq_true rfl, Nat.le_of_ble_eq_true rfl⟩) (va_recv (q0 := 0) (ci := 4) (q := (R_Mo, F_Mo, 10)) hK hP rfl rfl) hP hK hS rfl hl.1 rfl (Nat.le_of_ble_eq_true rfl) d_Mo_withRegister_279 (nm_s (fun u279 e279 H locs hP hS => ?_))
                refine lv_aload_n hx hb d_Mo_withRegister_282 rfl (lv_at hl 1 rfl) ?_
                refine lv_iload_n hx hb d_Mo_withRegister_283 rfl (lv_at hl 3 rfl) ?_
                refine lv_iconst (v := 1) hx hb d_Mo_withRegister_284 (by decide) ?_
                refine lv_iadd hx hb d_Mo_withRegister_285 ?_
                refine lv_lload hx hb d_Mo_withRegister_286 (lv_at hl 0 rfl) ?_
                refine lv_iload hx hb d_Mo_withRegister_288 (lv_at hl 4 rfl) ?_
                refine lv_i2l hx hb d_Mo_withRegister_290 rfl ?_
                refine lv_lrem hx hb d_Mo_withRegister_291 (dv_R hr96 h249) ?_
                refine lv_l2i hx hb d_Mo_withRegister_292 rfl ?_
                refine cl_V (C := R_Mo) (k_Mo_setRegister l D a hA u279 (((x1 >>> ((6 : Int32) &&& 31)) &&& 15) + 1) (((((r96.toInt64) * 65536) + (r263.toInt64)) - (((r96.toInt64) * 65536) + (r263.toInt64)) / (r56.toInt64) * (r56.toInt64)).toInt32)) ⟨hx, hb, hml, hown, hts⟩ (cwV 2 hts (gi_V t_537 t_539 t_34 t_66 t_540) rfl rfl rfl (by decide +kernel) ⟨Nat.le_of_ble_eq_true rfl, Nat.le_of_ble_eq_true rfl⟩) (va_recv (q0 := 0) (ci := 4) (q := (R_Mo, F_Mo, 10)) hK hP rfl rfl) hP hK hS rfl hl.1 rfl (Nat.le_of_ble_eq_true rfl) d_Mo_withRegister_293 (nm_s (fun u293 e293 H locs hP hS => ?_))
                subst hQ
                exact rt_v hx hb hr hlk (by simp only [C_Mo_withRegister, if_neg h16, if_neg h22, ← e48, ← f48, ← e56, if_neg h64, ← e96, ← jv129, ← jv155, ← jv180, ← jv220, if_pos h223, ← jz242, ← e242, if_neg h249, ← e263, ← e279, ← e293]) hP hS d_Mo_withRegister_296
              refine lv_icmp_gt (tgt := 241) hx hb d_Mo_withRegister_234 (by decide) (fun h234 => ?_) (fun h234 => ?_)
              · refine lv_iconst (v := 0) hx hb d_Mo_withRegister_241 (by decide) ?_
                exact hJ242 0 (by simp only [J_Mo_withRegister_242, if_pos h234])
              refine lv_iconst (v := 1) hx hb d_Mo_withRegister_237 (by decide) ?_
              refine lv_goto (tgt := 242) hx hb d_Mo_withRegister_238 (by decide) ?_
              exact hJ242 1 (by simp only [J_Mo_withRegister_242, if_neg h234])
            refine lv_icmp_ne (tgt := 220) hx hb d_Mo_withRegister_183 (by decide) (fun h183 => ?_) (fun h183 => ?_)
            · exact hJ220 v180 _ _ _ (by simp only [J_Mo_withRegister_220, if_neg h183]) hP hS (lv_sub hl [5, 4, 3, 1, 0] rfl)
            refine lv_iload hx hb d_Mo_withRegister_186 (lv_at hl 0 rfl) ?_
            refine lv_i2l hx hb d_Mo_withRegister_188 rfl ?_
            refine lv_iload hx hb d_Mo_withRegister_189 (lv_at hl 1 rfl) ?_
            refine lv_i2l hx hb d_Mo_withRegister_191 rfl ?_
            refine lv_lmul hx hb d_Mo_withRegister_192 ?_
            refine lv_lstore hx hb d_Mo_withRegister_193 hl (by decide) rfl (fun ls hl => ?_)
            have hl : lv_has ls 9 [(7, .long ((r96.toInt64) * (r56.toInt64))), (6, .int r96), (5, .int r56), (4, .int r48), (3, .int ((x1 >>> ((6 : Int32) &&& 31)) &&& 15)), (2, .int (x1 >>> ((10 : Int32) &&& 31))), (0, .ref a.1), (1, .int x1)] := hl
            refine lv_aload_n hx hb d_Mo_withRegister_195 rfl (lv_at hl 6 rfl) ?_
            refine lv_iload_n hx hb d_Mo_withRegister_196 rfl (lv_at hl 4 rfl) ?_
            refine lv_lload hx hb d_Mo_withRegister_197 (lv_at hl 0 rfl) ?_
            refine lv_bipush (v := 16) hx hb d_Mo_withRegister_199 (by decide) ?_
            refine lv_lshr hx hb d_Mo_withRegister_201 rfl ?_
            refine lv_l2i hx hb d_Mo_withRegister_202 rfl ?_
            refine cl_V (C := R_Mo) (k_Mo_setRegister l D a hA v180 ((x1 >>> ((6 : Int32) &&& 31)) &&& 15) ((((r96.toInt64) * (r56.toInt64)) >>> ((16 : Int32).toInt64 &&& 63)).toInt32)) ⟨hx, hb, hml, hown, hts⟩ (cwV 2 hts (gi_V t_537 t_539 t_34 t_66 t_540) rfl rfl rfl (by decide +kernel) ⟨Nat.le_of_ble_eq_true rfl, Nat.le_of_ble_eq_true rfl⟩) (va_recv (q0 := 0) (ci := 4) (q := (R_Mo, F_Mo, 10)) hK hP rfl rfl) hP hK hS rfl hl.1 rfl (Nat.le_of_ble_eq_true rfl) d_Mo_withRegister_203 (nm_s (fun u203 e203 H locs hP hS => ?_))
            refine lv_aload_n hx hb d_Mo_withRegister_206 rfl (lv_at hl 6 rfl) ?_
            refine lv_iload_n hx hb d_Mo_withRegister_207 rfl (lv_at hl 4 rfl) ?_
            refine lv_iconst (v := 1) hx hb d_Mo_withRegister_208 (by decide) ?_
            refine lv_iadd hx hb d_Mo_withRegister_209 ?_
            refine lv_lload hx hb d_Mo_withRegister_210 (lv_at hl 0 rfl) ?_
            refine lv_ldc2 (v := 65535) hx hb hown (hts _ (wm t_626)) d_Mo_withRegister_212 ?_
            refine lv_land hx hb d_Mo_withRegister_215 ?_
            refine lv_l2i hx hb d_Mo_withRegister_216 rfl ?_
            refine cl_V (C := R_Mo) (k_Mo_setRegister l D a hA u203 (((x1 >>> ((6 : Int32) &&& 31)) &&& 15) + 1) ((((r96.toInt64) * (r56.toInt64)) &&& 65535).toInt32)) ⟨hx, hb, hml, hown, hts⟩ (cwV 2 hts (gi_V t_537 t_539 t_34 t_66 t_540) rfl rfl rfl (by decide +kernel) ⟨Nat.le_of_ble_eq_true rfl, Nat.le_of_ble_eq_true rfl⟩) (va_recv (q0 := 0) (ci := 4) (q := (R_Mo, F_Mo, 10)) hK hP rfl rfl) hP hK hS rfl hl.1 rfl (Nat.le_of_ble_eq_true rfl) d_Mo_withRegister_217 (nm_s (fun u217 e217 H locs hP hS => ?_))
            exact hJ220 u217 _ _ _ (by simp only [J_Mo_withRegister_220, if_pos h183, ← e203, ← e217]) hP hS (lv_sub hl [6, 5, 4, 2, 1] rfl)
          refine lv_icmp_ne (tgt := 180) hx hb d_Mo_withRegister_158 (by decide) (fun h158 => ?_) (fun h158 => ?_)
          · exact hJ180 v155 _ _ (by simp only [J_Mo_withRegister_180, if_neg h158]) hP hS
          refine lv_aload_n hx hb d_Mo_withRegister_161 rfl (lv_at hl 5 rfl) ?_
          refine lv_iload hx hb d_Mo_withRegister_162 (lv_at hl 0 rfl) ?_
          refine lv_iload hx hb d_Mo_withRegister_164 (lv_at hl 1 rfl) ?_
          refine lv_ixor hx hb d_Mo_withRegister_166 ?_
          refine cl_V (C := R_Mo) (k_Mo_test l D a hA v155 (r96 ^^^ r56)) ⟨hx, hb, hml, hown, hts⟩ (cwV 1 hts (gi_V t_602 t_604 t_47 t_66 t_605) rfl rfl rfl (by decide +kernel) ⟨Nat.le_of_ble_eq_true rfl, Nat.le_of_ble_eq_true rfl⟩) (va_recv (q0 := 0) (ci := 4) (q := (R_Mo, F_Mo, 10)) hK hP rfl rfl) hP hK hS rfl hl.1 rfl (Nat.le_of_ble_eq_true rfl) d_Mo_withRegister_167 (nm_s (fun u167 e167 H locs hP hS => ?_))
          refine lv_aload_n hx hb d_Mo_withRegister_170 rfl (lv_at hl 5 rfl) ?_
          refine lv_iload_n hx hb d_Mo_withRegister_171 rfl (lv_at hl 3 rfl) ?_
          refine lv_iload hx hb d_Mo_withRegister_172 (lv_at hl 0 rfl) ?_
          refine lv_iload hx hb d_Mo_withRegister_174 (lv_at hl 1 rfl) ?_
          refine lv_ixor hx hb d_Mo_withRegister_176 ?_
          refine cl_V (C := R_Mo) (k_Mo_setRegister l D a hA u167 ((x1 >>> ((6 : Int32) &&& 31)) &&& 15) (r96 ^^^ r56)) ⟨hx, hb, hml, hown, hts⟩ (cwV 2 hts (gi_V t_537 t_539 t_34 t_66 t_540) rfl rfl rfl (by decide +kernel) ⟨Nat.le_of_ble_eq_true rfl, Nat.le_of_ble_eq_true rfl⟩) (va_recv (q0 := 0) (ci := 4) (q := (R_Mo, F_Mo, 10)) hK hP rfl rfl) hP hK hS rfl hl.1 rfl (Nat.le_of_ble_eq_true rfl) d_Mo_withRegister_177 (nm_s (fun u177 e177 H locs hP hS => ?_))
          exact hJ180 u177 _ _ (by simp only [J_Mo_withRegister_180, if_pos h158, ← e167, ← e177]) hP hS
        refine lv_icmp_ne (tgt := 155) hx hb d_Mo_withRegister_132 (by decide) (fun h132 => ?_) (fun h132 => ?_)
        · exact hJ155 v129 _ _ (by simp only [J_Mo_withRegister_155, if_neg h132]) hP hS
        refine lv_aload_n hx hb d_Mo_withRegister_135 rfl (lv_at hl 5 rfl) ?_
        refine lv_sipush (v := 8192) hx hb d_Mo_withRegister_136 (by decide) ?_
        refine lv_iload hx hb d_Mo_withRegister_139 (lv_at hl 1 rfl) ?_
        refine lv_iload hx hb d_Mo_withRegister_141 (lv_at hl 0 rfl) ?_
        refine lv_iand hx hb d_Mo_withRegister_143 ?_
        have hJ152 : ∀ (z152 : Int32), z152 = J_Mo_withRegister_152 r56 r96 → W p l e rm_Mo_withRegister s m args below meth c H locs 0 0 Q (F0 m 152 ls [.int z152, .int 8192, .ref a.1]) := by
          intro z152 jz152
          refine cl_V (C := R_Mo) (k_Mo_flag l D a hA v129 8192 z152) ⟨hx, hb, hml, hown, hts⟩ (cwV 2 hts (gi_V t_589 t_591 t_45 t_66 t_592) rfl rfl rfl (by decide +kernel) ⟨Nat.le_of_ble_eq_true rfl, Nat.le_of_ble_eq_true rfl⟩) (va_recv (q0 := 0) (ci := 4) (q := (R_Mo, F_Mo, 10)) hK hP rfl rfl) hP hK hS rfl hl.1 rfl (Nat.le_of_ble_eq_true rfl) d_Mo_withRegister_152 (nm_s (fun u152 e152 H locs hP hS => ?_))
          exact hJ155 u152 _ _ (by simp only [J_Mo_withRegister_155, if_pos h132, ← jz152, ← e152]) hP hS
        refine lv_if_ne (tgt := 151) hx hb d_Mo_withRegister_144 (by decide) (fun h144 => ?_) (fun h144 => ?_)
        · refine lv_iconst (v := 0) hx hb d_Mo_withRegister_151 (by decide) ?_
          exact hJ152 0 (by simp only [J_Mo_withRegister_152, if_neg h144])
        refine lv_iconst (v := 1) hx hb d_Mo_withRegister_147 (by decide) ?_
        refine lv_goto (tgt := 152) hx hb d_Mo_withRegister_148 (by decide) ?_
        exact hJ152 1 (by simp only [J_Mo_withRegister_152, if_pos h144])
      refine lv_icmp_ne (tgt := 129) hx hb d_Mo_withRegister_104 (by decide) (fun h104 => ?_) (fun h104 => ?_)
      · exact hJ129 u48 _ _ (by simp only [J_Mo_withRegister_129, if_neg h104]) hP hS
      refine lv_aload_n hx hb d_Mo_withRegister_107 rfl (lv_at hl 5 rfl) ?_
      refine lv_sipush (v := 8192) hx hb d_Mo_withRegister_108 (by decide) ?_
      refine lv_iload hx hb d_Mo_withRegister_111 (lv_at hl 1 rfl) ?_
      refine lv_iload hx hb d_Mo_withRegister_113 (lv_at hl 0 rfl) ?_
      refine lv_iconst (v := (-1)) hx hb d_Mo_withRegister_115 (by decide) ?_
      refine lv_ixor hx hb d_Mo_withRegister_116 ?_
      refine lv_iand hx hb d_Mo_withRegister_117 ?_
      have hJ126 : ∀ (z126 : Int32), z126 = J_Mo_withRegister_126 r56 r96 → W p l e rm_Mo_withRegister s m args below meth c H locs 0 0 Q (F0 m 126 ls [.int z126, .int 8192, .ref a.1]) := by
        intro z126 jz126
        refine cl_V (C := R_Mo) (k_Mo_flag l D a hA u48 8192 z126) ⟨hx, hb, hml, hown, hts⟩ (cwV 2 hts (gi_V t_589 t_591 t_45 t_66 t_592) rfl rfl rfl (by decide +kernel) ⟨Nat.le_of_ble_eq_true rfl, Nat.le_of_ble_eq_true rfl⟩) (va_recv (q0 := 0) (ci := 4) (q := (R_Mo, F_Mo, 10)) hK hP rfl rfl) hP hK hS rfl hl.1 rfl (Nat.le_of_ble_eq_true rfl) d_Mo_withRegister_126 (nm_s (fun u126 e126 H locs hP hS => ?_))
        exact hJ129 u126 _ _ (by simp only [J_Mo_withRegister_129, if_pos h104, ← jz126, ← e126]) hP hS
      refine lv_if_ne (tgt := 125) hx hb d_Mo_withRegister_118 (by decide) (fun h118 => ?_) (fun h118 => ?_)
      · refine lv_iconst (v := 0) hx hb d_Mo_withRegister_125 (by decide) ?_
        exact hJ126 0 (by simp only [J_Mo_withRegister_126, if_neg h118])
      refine lv_iconst (v := 1) hx hb d_Mo_withRegister_121 (by decide) ?_
      refine lv_goto (tgt := 126) hx hb d_Mo_withRegister_122 (by decide) ?_
      exact hJ126 1 (by simp only [J_Mo_withRegister_126, if_pos h118])
    refine lv_aload_n hx hb d_Mo_withRegister_67 rfl (lv_at hl 4 rfl) ?_
    refine lv_bipush (v := 64) hx hb d_Mo_withRegister_68 (by decide) ?_
    refine lv_iconst (v := 4) hx hb d_Mo_withRegister_70 (by decide) ?_
    refine lv_iload_n hx hb d_Mo_withRegister_71 rfl (lv_at hl 2 rfl) ?_
    refine lv_imul hx hb d_Mo_withRegister_72 ?_
    refine lv_iadd hx hb d_Mo_withRegister_73 ?_
    refine cl_V (C := R_Mo) (k_Mo_change l D a hA u48 (64 + (4 * ((x1 >>> ((6 : Int32) &&& 31)) &&& 15)))) ⟨hx, hb, hml, hown, hts⟩ (cwV 1 hts (gi_V t_529 t_531 t_32 t_66 t_532) rfl rfl rfl (by decide +kernel) ⟨Nat.le_of_ble_eq_true rfl, Nat.le_of_ble_eq_true rfl⟩) (va_recv (q0 := 0) (ci := 4) (q := (R_Mo, F_Mo, 10)) hK hP rfl rfl) hP hK hS rfl hl.1 rfl (Nat.le_of_ble_eq_true rfl) d_Mo_withRegister_74 (nm_s (fun u74 e74 H locs hP hS => ?_))
    refine lv_aload_n hx hb d_Mo_withRegister_77 rfl (lv_at hl 4 rfl) ?_
    refine lv_bipush (v := 11) hx hb d_Mo_withRegister_78 (by decide) ?_
    refine lv_iload hx hb d_Mo_withRegister_80 (lv_at hl 1 rfl) ?_
    refine cl_V (C := R_Mo) (k_Mo_setRegister l D a hA u74 11 r48) ⟨hx, hb, hml, hown, hts⟩ (cwV 2 hts (gi_V t_537 t_539 t_34 t_66 t_540) rfl rfl rfl (by decide +kernel) ⟨Nat.le_of_ble_eq_true rfl, Nat.le_of_ble_eq_true rfl⟩) (va_recv (q0 := 0) (ci := 4) (q := (R_Mo, F_Mo, 10)) hK hP rfl rfl) hP hK hS rfl hl.1 rfl (Nat.le_of_ble_eq_true rfl) d_Mo_withRegister_82 (nm_s (fun u82 e82 H locs hP hS => ?_))
    refine lv_aload_n hx hb d_Mo_withRegister_85 rfl (lv_at hl 4 rfl) ?_
    refine lv_sipush (v := 512) hx hb d_Mo_withRegister_86 (by decide) ?_
    refine lv_iconst (v := 1) hx hb d_Mo_withRegister_89 (by decide) ?_
    refine cl_V (C := R_Mo) (k_Mo_flag l D a hA u82 512 1) ⟨hx, hb, hml, hown, hts⟩ (cwV 2 hts (gi_V t_589 t_591 t_45 t_66 t_592) rfl rfl rfl (by decide +kernel) ⟨Nat.le_of_ble_eq_true rfl, Nat.le_of_ble_eq_true rfl⟩) (va_recv (q0 := 0) (ci := 4) (q := (R_Mo, F_Mo, 10)) hK hP rfl rfl) hP hK hS rfl hl.1 rfl (Nat.le_of_ble_eq_true rfl) d_Mo_withRegister_90 (nm_s (fun u90 e90 H locs hP hS => ?_))
    subst hQ
    exact rt_v hx hb hr hlk (by simp only [C_Mo_withRegister, if_neg h16, if_neg h22, ← e48, ← f48, ← e56, if_pos h64, ← e74, ← e82, ← e90]) hP hS d_Mo_withRegister_93
  refine lv_aload_n hx hb d_Mo_withRegister_25 rfl (lv_at hl 2 rfl) ?_
  refine lv_iload_n hx hb d_Mo_withRegister_26 rfl (lv_at hl 3 rfl) ?_
  refine lv_iload_n hx hb d_Mo_withRegister_27 rfl (lv_at hl 1 rfl) ?_
  refine lv_bipush (v := 12) hx hb d_Mo_withRegister_28 (by decide) ?_
  have hJ38 : ∀ (z38 : Int32), z38 = J_Mo_withRegister_38 x1 → W p l e rm_Mo_withRegister s m args below meth c H locs 0 0 Q (F0 m 38 ls [.int z38, .int x1, .ref a.1]) := by
    intro z38 jz38
    refine cl_V (C := R_Mo) (k_Mo_lineOperand l D a hA u0 x1 z38) ⟨hx, hb, hml, hown, hts⟩ (cwV 2 hts (gi_V t_618 t_620 t_51 t_66 t_621) rfl rfl rfl (by decide +kernel) ⟨Nat.le_of_ble_eq_true rfl, Nat.le_of_ble_eq_true rfl⟩) (va_recv (q0 := 0) (ci := 4) (q := (R_Mo, F_Mo, 10)) hK hP rfl rfl) hP hK hS rfl hl.1 rfl (Nat.le_of_ble_eq_true rfl) d_Mo_withRegister_38 (nm_s (fun u38 e38 H locs hP hS => ?_))
    subst hQ
    exact rt_v hx hb hr hlk (by simp only [C_Mo_withRegister, if_neg h16, if_pos h22, ← jz38, ← e38]) hP hS d_Mo_withRegister_41
  refine lv_icmp_ne (tgt := 37) hx hb d_Mo_withRegister_30 (by decide) (fun h30 => ?_) (fun h30 => ?_)
  · refine lv_iconst (v := 0) hx hb d_Mo_withRegister_37 (by decide) ?_
    exact hJ38 0 (by simp only [J_Mo_withRegister_38, if_neg h30])
  refine lv_iconst (v := 1) hx hb d_Mo_withRegister_33 (by decide) ?_
  refine lv_goto (tgt := 38) hx hb d_Mo_withRegister_34 (by decide) ?_
  exact hJ38 1 (by simp only [J_Mo_withRegister_38, if_pos h30])
set_option maxHeartbeats 4000000 in
set_option maxRecDepth 100000 in
theorem k_Mo_holds (l : Launch) (D : va_G) (a : RAd) (hA : ApR a) (u0 : RSt) (x1 : Int32) : MC kl (mw a) (FB a) (tyR a) l D y_Mo_holds b_Mo_holds 4 (some .boolean) rm_Mo_holds [.ref a.1, .int x1] u0 (some (.int (C_Mo_holds u0 x1))) u0 := by
  refine MC.mk (by decide) (Nat.le_of_ble_eq_true rfl) ?_
  intro p e s m below meth c ls Q args H locs hx hb hr hml hown hts hlk hl hP hK hS hQ
  have hown : s.vm.findClass R_Mo = some m.cls := hown
  have hl : lv_has ls 4 [(0, .ref a.1), (1, .int x1)] := hl
  refine lv_aload_n hx hb d_Mo_holds_0 rfl (lv_at hl 0 rfl) ?_
  refine lv_ldc (v := 32768) hx hb hown (hts _ (wm t_593)) d_Mo_holds_1 ?_
  refine cl_V (C := R_Mo) (k_Mo_has l D a hA u0 32768) ⟨hx, hb, hml, hown, hts⟩ (cwV 1 hts (gi_V t_636 t_638 t_55 t_66 t_639) rfl rfl rfl (by decide +kernel) ⟨Nat.le_of_ble_eq_true rfl, Nat.le_of_ble_eq_true rfl⟩) (va_recv (q0 := 0) (ci := 4) (q := (R_Mo, F_Mo, 10)) hK hP rfl rfl) hP hK hS rfl hl.1 rfl (Nat.le_of_ble_eq_true rfl) d_Mo_holds_3 (nm_i (fun r3 e3 H locs hP hS => ?_))
  refine lv_istore_n hx hb d_Mo_holds_6 rfl hl (by decide) rfl (fun ls hl => ?_)
  have hl : lv_has ls 4 [(2, .int r3), (0, .ref a.1), (1, .int x1)] := hl
  refine lv_aload_n hx hb d_Mo_holds_7 rfl (lv_at hl 1 rfl) ?_
  refine lv_sipush (v := 8192) hx hb d_Mo_holds_8 (by decide) ?_
  refine cl_V (C := R_Mo) (k_Mo_has l D a hA u0 8192) ⟨hx, hb, hml, hown, hts⟩ (cwV 1 hts (gi_V t_636 t_638 t_55 t_66 t_639) rfl rfl rfl (by decide +kernel) ⟨Nat.le_of_ble_eq_true rfl, Nat.le_of_ble_eq_true rfl⟩) (va_recv (q0 := 0) (ci := 4) (q := (R_Mo, F_Mo, 10)) hK hP rfl rfl) hP hK hS rfl hl.1 rfl (Nat.le_of_ble_eq_true rfl) d_Mo_holds_11 (nm_i (fun r11 e11 H locs hP hS => ?_))
  refine lv_istore_n hx hb d_Mo_holds_14 rfl hl (by decide) rfl (fun ls hl => ?_)
  have hl : lv_has ls 4 [(3, .int r11), (2, .int r3), (0, .ref a.1), (1, .int x1)] := hl
  refine lv_iload_n hx hb d_Mo_holds_15 rfl (lv_at hl 3 rfl) ?_
  by_cases h16_0 : x1 = 0
  · refine lv_tableIn (off := 64) (tgt := 80) hx hb d_Mo_holds_16 (by rw [h16_0]; decide) (by rw [h16_0]; decide) (by rw [h16_0]; decide +kernel) (by decide) ?_
    refine lv_iconst (v := 1) hx hb d_Mo_holds_80 (by decide) ?_
    subst hQ
    exact rt_z hx hb hr hlk rfl (by simp only [C_Mo_holds, ← e3, ← e11, if_pos h16_0]) rfl hP hS d_Mo_holds_81
  by_cases h16_1 : x1 = 1
  · refine lv_tableIn (off := 66) (tgt := 82) hx hb d_Mo_holds_16 (by rw [h16_1]; decide) (by rw [h16_1]; decide) (by rw [h16_1]; decide +kernel) (by decide) ?_
    refine lv_aload_n hx hb d_Mo_holds_82 rfl (lv_at hl 2 rfl) ?_
    refine lv_sipush (v := 16384) hx hb d_Mo_holds_83 (by decide) ?_
    refine cl_V (C := R_Mo) (k_Mo_has l D a hA u0 16384) ⟨hx, hb, hml, hown, hts⟩ (cwV 1 hts (gi_V t_636 t_638 t_55 t_66 t_639) rfl rfl rfl (by decide +kernel) ⟨Nat.le_of_ble_eq_true rfl, Nat.le_of_ble_eq_true rfl⟩) (va_recv (q0 := 0) (ci := 4) (q := (R_Mo, F_Mo, 10)) hK hP rfl rfl) hP hK hS rfl hl.1 rfl (Nat.le_of_ble_eq_true rfl) d_Mo_holds_86 (nm_i (fun r86 e86 H locs hP hS => ?_))
    refine lv_if_ne (tgt := 100) hx hb d_Mo_holds_89 (by decide) (fun h89 => ?_) (fun h89 => ?_)
    · refine lv_iconst (v := 0) hx hb d_Mo_holds_100 (by decide) ?_
      subst hQ
      exact rt_z hx hb hr hlk rfl (by simp only [C_Mo_holds, ← e3, ← e11, if_neg h16_0, if_pos h16_1, ← e86, if_neg h89]) rfl hP hS d_Mo_holds_101
    refine lv_iload_n hx hb d_Mo_holds_92 rfl (lv_at hl 0 rfl) ?_
    refine lv_if_ne (tgt := 100) hx hb d_Mo_holds_93 (by decide) (fun h93 => ?_) (fun h93 => ?_)
    · refine lv_iconst (v := 0) hx hb d_Mo_holds_100 (by decide) ?_
      subst hQ
      exact rt_z hx hb hr hlk rfl (by simp only [C_Mo_holds, ← e3, ← e11, if_neg h16_0, if_pos h16_1, ← e86, if_pos h89, if_neg h93]) rfl hP hS d_Mo_holds_101
    refine lv_iconst (v := 1) hx hb d_Mo_holds_96 (by decide) ?_
    refine lv_goto (tgt := 101) hx hb d_Mo_holds_97 (by decide) ?_
    subst hQ
    exact rt_z hx hb hr hlk rfl (by simp only [C_Mo_holds, ← e3, ← e11, if_neg h16_0, if_pos h16_1, ← e86, if_pos h89, if_pos h93]) rfl hP hS d_Mo_holds_101
  by_cases h16_2 : x1 = 2
  · refine lv_tableIn (off := 86) (tgt := 102) hx hb d_Mo_holds_16 (by rw [h16_2]; decide) (by rw [h16_2]; decide) (by rw [h16_2]; decide +kernel) (by decide) ?_
    refine lv_iload_n hx hb d_Mo_holds_102 rfl (lv_at hl 1 rfl) ?_
    refine lv_if_eq (tgt := 110) hx hb d_Mo_holds_103 (by decide) (fun h103 => ?_) (fun h103 => ?_)
    · refine lv_iconst (v := 1) hx hb d_Mo_holds_110 (by decide) ?_
      refine lv_goto (tgt := 115) hx hb d_Mo_holds_111 (by decide) ?_
      subst hQ
      exact rt_z hx hb hr hlk rfl (by simp only [C_Mo_holds, ← e3, ← e11, if_neg h16_0, if_neg h16_1, if_pos h16_2, if_pos h103]) rfl hP hS d_Mo_holds_115
    refine lv_iload_n hx hb d_Mo_holds_106 rfl (lv_at hl 0 rfl) ?_
    refine lv_if_eq (tgt := 114) hx hb d_Mo_holds_107 (by decide) (fun h107 => ?_) (fun h107 => ?_)
    · refine lv_iconst (v := 0) hx hb d_Mo_holds_114 (by decide) ?_
      subst hQ
      exact rt_z hx hb hr hlk rfl (by simp only [C_Mo_holds, ← e3, ← e11, if_neg h16_0, if_neg h16_1, if_pos h16_2, if_neg h103, if_pos h107]) rfl hP hS d_Mo_holds_115
    refine lv_iconst (v := 1) hx hb d_Mo_holds_110 (by decide) ?_
    refine lv_goto (tgt := 115) hx hb d_Mo_holds_111 (by decide) ?_
    subst hQ
    exact rt_z hx hb hr hlk rfl (by simp only [C_Mo_holds, ← e3, ← e11, if_neg h16_0, if_neg h16_1, if_pos h16_2, if_neg h103, if_neg h107]) rfl hP hS d_Mo_holds_115
  by_cases h16_3 : x1 = 3
  · refine lv_tableIn (off := 100) (tgt := 116) hx hb d_Mo_holds_16 (by rw [h16_3]; decide) (by rw [h16_3]; decide) (by rw [h16_3]; decide +kernel) (by decide) ?_
    refine lv_iload_n hx hb d_Mo_holds_116 rfl (lv_at hl 0 rfl) ?_
    subst hQ
    exact rt_z hx hb hr hlk (nb_z (by rw [e11]; exact zb_Mo_has _ _)) (by simp only [C_Mo_holds, ← e3, ← e11, if_neg h16_0, if_neg h16_1, if_neg h16_2, if_pos h16_3]) rfl hP hS d_Mo_holds_117
  by_cases h16_4 : x1 = 4
  · refine lv_tableIn (off := 102) (tgt := 118) hx hb d_Mo_holds_16 (by rw [h16_4]; decide) (by rw [h16_4]; decide) (by rw [h16_4]; decide +kernel) (by decide) ?_
    refine lv_iload_n hx hb d_Mo_holds_118 rfl (lv_at hl 1 rfl) ?_
    refine lv_if_ne (tgt := 126) hx hb d_Mo_holds_119 (by decide) (fun h119 => ?_) (fun h119 => ?_)
    · refine lv_iconst (v := 1) hx hb d_Mo_holds_126 (by decide) ?_
      refine lv_goto (tgt := 131) hx hb d_Mo_holds_127 (by decide) ?_
      subst hQ
      exact rt_z hx hb hr hlk rfl (by simp only [C_Mo_holds, ← e3, ← e11, if_neg h16_0, if_neg h16_1, if_neg h16_2, if_neg h16_3, if_pos h16_4, if_neg h119]) rfl hP hS d_Mo_holds_131
    refine lv_iload_n hx hb d_Mo_holds_122 rfl (lv_at hl 0 rfl) ?_
    refine lv_if_eq (tgt := 130) hx hb d_Mo_holds_123 (by decide) (fun h123 => ?_) (fun h123 => ?_)
    · refine lv_iconst (v := 0) hx hb d_Mo_holds_130 (by decide) ?_
      subst hQ
      exact rt_z hx hb hr hlk rfl (by simp only [C_Mo_holds, ← e3, ← e11, if_neg h16_0, if_neg h16_1, if_neg h16_2, if_neg h16_3, if_pos h16_4, if_pos h119, if_pos h123]) rfl hP hS d_Mo_holds_131
    refine lv_iconst (v := 1) hx hb d_Mo_holds_126 (by decide) ?_
    refine lv_goto (tgt := 131) hx hb d_Mo_holds_127 (by decide) ?_
    subst hQ
    exact rt_z hx hb hr hlk rfl (by simp only [C_Mo_holds, ← e3, ← e11, if_neg h16_0, if_neg h16_1, if_neg h16_2, if_neg h16_3, if_pos h16_4, if_pos h119, if_neg h123]) rfl hP hS d_Mo_holds_131
  by_cases h16_5 : x1 = 5
  · refine lv_tableIn (off := 116) (tgt := 132) hx hb d_Mo_holds_16 (by rw [h16_5]; decide) (by rw [h16_5]; decide) (by rw [h16_5]; decide +kernel) (by decide) ?_
    refine lv_aload_n hx hb d_Mo_holds_132 rfl (lv_at hl 2 rfl) ?_
    refine lv_sipush (v := 16384) hx hb d_Mo_holds_133 (by decide) ?_
    refine cl_V (C := R_Mo) (k_Mo_has l D a hA u0 16384) ⟨hx, hb, hml, hown, hts⟩ (cwV 1 hts (gi_V t_636 t_638 t_55 t_66 t_639) rfl rfl rfl (by decide +kernel) ⟨Nat.le_of_ble_eq_true rfl, Nat.le_of_ble_eq_true rfl⟩) (va_recv (q0 := 0) (ci := 4) (q := (R_Mo, F_Mo, 10)) hK hP rfl rfl) hP hK hS rfl hl.1 rfl (Nat.le_of_ble_eq_true rfl) d_Mo_holds_136 (nm_i (fun r136 e136 H locs hP hS => ?_))
    subst hQ
    exact rt_z hx hb hr hlk (nb_z (by rw [e136]; exact zb_Mo_has _ _)) (by simp only [C_Mo_holds, ← e3, ← e11, if_neg h16_0, if_neg h16_1, if_neg h16_2, if_neg h16_3, if_neg h16_4, if_pos h16_5, ← e136]) rfl hP hS d_Mo_holds_139
  by_cases h16_6 : x1 = 6
  · refine lv_tableIn (off := 124) (tgt := 140) hx hb d_Mo_holds_16 (by rw [h16_6]; decide) (by rw [h16_6]; decide) (by rw [h16_6]; decide +kernel) (by decide) ?_
    refine lv_iload_n hx hb d_Mo_holds_140 rfl (lv_at hl 0 rfl) ?_
    refine lv_if_ne (tgt := 148) hx hb d_Mo_holds_141 (by decide) (fun h141 => ?_) (fun h141 => ?_)
    · refine lv_iconst (v := 0) hx hb d_Mo_holds_148 (by decide) ?_
      subst hQ
      exact rt_z hx hb hr hlk rfl (by simp only [C_Mo_holds, ← e3, ← e11, if_neg h16_0, if_neg h16_1, if_neg h16_2, if_neg h16_3, if_neg h16_4, if_neg h16_5, if_pos h16_6, if_neg h141]) rfl hP hS d_Mo_holds_149
    refine lv_iconst (v := 1) hx hb d_Mo_holds_144 (by decide) ?_
    refine lv_goto (tgt := 149) hx hb d_Mo_holds_145 (by decide) ?_
    subst hQ
    exact rt_z hx hb hr hlk rfl (by simp only [C_Mo_holds, ← e3, ← e11, if_neg h16_0, if_neg h16_1, if_neg h16_2, if_neg h16_3, if_neg h16_4, if_neg h16_5, if_pos h16_6, if_pos h141]) rfl hP hS d_Mo_holds_149
  by_cases h16_7 : x1 = 7
  · refine lv_tableIn (off := 134) (tgt := 150) hx hb d_Mo_holds_16 (by rw [h16_7]; decide) (by rw [h16_7]; decide) (by rw [h16_7]; decide +kernel) (by decide) ?_
    refine lv_aload_n hx hb d_Mo_holds_150 rfl (lv_at hl 2 rfl) ?_
    refine lv_sipush (v := 4096) hx hb d_Mo_holds_151 (by decide) ?_
    refine cl_V (C := R_Mo) (k_Mo_has l D a hA u0 4096) ⟨hx, hb, hml, hown, hts⟩ (cwV 1 hts (gi_V t_636 t_638 t_55 t_66 t_639) rfl rfl rfl (by decide +kernel) ⟨Nat.le_of_ble_eq_true rfl, Nat.le_of_ble_eq_true rfl⟩) (va_recv (q0 := 0) (ci := 4) (q := (R_Mo, F_Mo, 10)) hK hP rfl rfl) hP hK hS rfl hl.1 rfl (Nat.le_of_ble_eq_true rfl) d_Mo_holds_154 (nm_i (fun r154 e154 H locs hP hS => ?_))
    refine lv_if_ne (tgt := 164) hx hb d_Mo_holds_157 (by decide) (fun h157 => ?_) (fun h157 => ?_)
    · refine lv_iconst (v := 0) hx hb d_Mo_holds_164 (by decide) ?_
      subst hQ
      exact rt_z hx hb hr hlk rfl (by simp only [C_Mo_holds, ← e3, ← e11, if_neg h16_0, if_neg h16_1, if_neg h16_2, if_neg h16_3, if_neg h16_4, if_neg h16_5, if_neg h16_6, if_pos h16_7, ← e154, if_neg h157]) rfl hP hS d_Mo_holds_165
    refine lv_iconst (v := 1) hx hb d_Mo_holds_160 (by decide) ?_
    refine lv_goto (tgt := 165) hx hb d_Mo_holds_161 (by decide) ?_
    subst hQ
    exact rt_z hx hb hr hlk rfl (by simp only [C_Mo_holds, ← e3, ← e11, if_neg h16_0, if_neg h16_1, if_neg h16_2, if_neg h16_3, if_neg h16_4, if_neg h16_5, if_neg h16_6, if_pos h16_7, ← e154, if_pos h157]) rfl hP hS d_Mo_holds_165
  by_cases h16_8 : x1 = 8
  · refine lv_tableIn (off := 150) (tgt := 166) hx hb d_Mo_holds_16 (by rw [h16_8]; decide) (by rw [h16_8]; decide) (by rw [h16_8]; decide +kernel) (by decide) ?_
    refine lv_aload_n hx hb d_Mo_holds_166 rfl (lv_at hl 2 rfl) ?_
    refine lv_sipush (v := 4096) hx hb d_Mo_holds_167 (by decide) ?_
    refine cl_V (C := R_Mo) (k_Mo_has l D a hA u0 4096) ⟨hx, hb, hml, hown, hts⟩ (cwV 1 hts (gi_V t_636 t_638 t_55 t_66 t_639) rfl rfl rfl (by decide +kernel) ⟨Nat.le_of_ble_eq_true rfl, Nat.le_of_ble_eq_true rfl⟩) (va_recv (q0 := 0) (ci := 4) (q := (R_Mo, F_Mo, 10)) hK hP rfl rfl) hP hK hS rfl hl.1 rfl (Nat.le_of_ble_eq_true rfl) d_Mo_holds_170 (nm_i (fun r170 e170 H locs hP hS => ?_))
    subst hQ
    exact rt_z hx hb hr hlk (nb_z (by rw [e170]; exact zb_Mo_has _ _)) (by simp only [C_Mo_holds, ← e3, ← e11, if_neg h16_0, if_neg h16_1, if_neg h16_2, if_neg h16_3, if_neg h16_4, if_neg h16_5, if_neg h16_6, if_neg h16_7, if_pos h16_8, ← e170]) rfl hP hS d_Mo_holds_173
  by_cases h16_9 : x1 = 9
  · refine lv_tableIn (off := 158) (tgt := 174) hx hb d_Mo_holds_16 (by rw [h16_9]; decide) (by rw [h16_9]; decide) (by rw [h16_9]; decide +kernel) (by decide) ?_
    refine lv_aload_n hx hb d_Mo_holds_174 rfl (lv_at hl 2 rfl) ?_
    refine lv_sipush (v := 2048) hx hb d_Mo_holds_175 (by decide) ?_
    refine cl_V (C := R_Mo) (k_Mo_has l D a hA u0 2048) ⟨hx, hb, hml, hown, hts⟩ (cwV 1 hts (gi_V t_636 t_638 t_55 t_66 t_639) rfl rfl rfl (by decide +kernel) ⟨Nat.le_of_ble_eq_true rfl, Nat.le_of_ble_eq_true rfl⟩) (va_recv (q0 := 0) (ci := 4) (q := (R_Mo, F_Mo, 10)) hK hP rfl rfl) hP hK hS rfl hl.1 rfl (Nat.le_of_ble_eq_true rfl) d_Mo_holds_178 (nm_i (fun r178 e178 H locs hP hS => ?_))
    refine lv_if_ne (tgt := 188) hx hb d_Mo_holds_181 (by decide) (fun h181 => ?_) (fun h181 => ?_)
    · refine lv_iconst (v := 0) hx hb d_Mo_holds_188 (by decide) ?_
      subst hQ
      exact rt_z hx hb hr hlk rfl (by simp only [C_Mo_holds, ← e3, ← e11, if_neg h16_0, if_neg h16_1, if_neg h16_2, if_neg h16_3, if_neg h16_4, if_neg h16_5, if_neg h16_6, if_neg h16_7, if_neg h16_8, if_pos h16_9, ← e178, if_neg h181]) rfl hP hS d_Mo_holds_189
    refine lv_iconst (v := 1) hx hb d_Mo_holds_184 (by decide) ?_
    refine lv_goto (tgt := 189) hx hb d_Mo_holds_185 (by decide) ?_
    subst hQ
    exact rt_z hx hb hr hlk rfl (by simp only [C_Mo_holds, ← e3, ← e11, if_neg h16_0, if_neg h16_1, if_neg h16_2, if_neg h16_3, if_neg h16_4, if_neg h16_5, if_neg h16_6, if_neg h16_7, if_neg h16_8, if_pos h16_9, ← e178, if_pos h181]) rfl hP hS d_Mo_holds_189
  by_cases h16_10 : x1 = 10
  · refine lv_tableIn (off := 174) (tgt := 190) hx hb d_Mo_holds_16 (by rw [h16_10]; decide) (by rw [h16_10]; decide) (by rw [h16_10]; decide +kernel) (by decide) ?_
    refine lv_iload_n hx hb d_Mo_holds_190 rfl (lv_at hl 1 rfl) ?_
    refine lv_if_ne (tgt := 202) hx hb d_Mo_holds_191 (by decide) (fun h191 => ?_) (fun h191 => ?_)
    · refine lv_iconst (v := 0) hx hb d_Mo_holds_202 (by decide) ?_
      subst hQ
      exact rt_z hx hb hr hlk rfl (by simp only [C_Mo_holds, ← e3, ← e11, if_neg h16_0, if_neg h16_1, if_neg h16_2, if_neg h16_3, if_neg h16_4, if_neg h16_5, if_neg h16_6, if_neg h16_7, if_neg h16_8, if_neg h16_9, if_pos h16_10, if_neg h191]) rfl hP hS d_Mo_holds_203
    refine lv_iload_n hx hb d_Mo_holds_194 rfl (lv_at hl 0 rfl) ?_
    refine lv_if_ne (tgt := 202) hx hb d_Mo_holds_195 (by decide) (fun h195 => ?_) (fun h195 => ?_)
    · refine lv_iconst (v := 0) hx hb d_Mo_holds_202 (by decide) ?_
      subst hQ
      exact rt_z hx hb hr hlk rfl (by simp only [C_Mo_holds, ← e3, ← e11, if_neg h16_0, if_neg h16_1, if_neg h16_2, if_neg h16_3, if_neg h16_4, if_neg h16_5, if_neg h16_6, if_neg h16_7, if_neg h16_8, if_neg h16_9, if_pos h16_10, if_pos h191, if_neg h195]) rfl hP hS d_Mo_holds_203
    refine lv_iconst (v := 1) hx hb d_Mo_holds_198 (by decide) ?_
    refine lv_goto (tgt := 203) hx hb d_Mo_holds_199 (by decide) ?_
    subst hQ
    exact rt_z hx hb hr hlk rfl (by simp only [C_Mo_holds, ← e3, ← e11, if_neg h16_0, if_neg h16_1, if_neg h16_2, if_neg h16_3, if_neg h16_4, if_neg h16_5, if_neg h16_6, if_neg h16_7, if_neg h16_8, if_neg h16_9, if_pos h16_10, if_pos h191, if_pos h195]) rfl hP hS d_Mo_holds_203
  by_cases h16_11 : x1 = 11
  · refine lv_tableIn (off := 188) (tgt := 204) hx hb d_Mo_holds_16 (by rw [h16_11]; decide) (by rw [h16_11]; decide) (by rw [h16_11]; decide +kernel) (by decide) ?_
    refine lv_iload_n hx hb d_Mo_holds_204 rfl (lv_at hl 1 rfl) ?_
    refine lv_if_eq (tgt := 216) hx hb d_Mo_holds_205 (by decide) (fun h205 => ?_) (fun h205 => ?_)
    · refine lv_iconst (v := 0) hx hb d_Mo_holds_216 (by decide) ?_
      subst hQ
      exact rt_z hx hb hr hlk rfl (by simp only [C_Mo_holds, ← e3, ← e11, if_neg h16_0, if_neg h16_1, if_neg h16_2, if_neg h16_3, if_neg h16_4, if_neg h16_5, if_neg h16_6, if_neg h16_7, if_neg h16_8, if_neg h16_9, if_neg h16_10, if_pos h16_11, if_pos h205]) rfl hP hS d_Mo_holds_217
    refine lv_iload_n hx hb d_Mo_holds_208 rfl (lv_at hl 0 rfl) ?_
    refine lv_if_ne (tgt := 216) hx hb d_Mo_holds_209 (by decide) (fun h209 => ?_) (fun h209 => ?_)
    · refine lv_iconst (v := 0) hx hb d_Mo_holds_216 (by decide) ?_
      subst hQ
      exact rt_z hx hb hr hlk rfl (by simp only [C_Mo_holds, ← e3, ← e11, if_neg h16_0, if_neg h16_1, if_neg h16_2, if_neg h16_3, if_neg h16_4, if_neg h16_5, if_neg h16_6, if_neg h16_7, if_neg h16_8, if_neg h16_9, if_neg h16_10, if_pos h16_11, if_neg h205, if_neg h209]) rfl hP hS d_Mo_holds_217
    refine lv_iconst (v := 1) hx hb d_Mo_holds_212 (by decide) ?_
    refine lv_goto (tgt := 217) hx hb d_Mo_holds_213 (by decide) ?_
    subst hQ
    exact rt_z hx hb hr hlk rfl (by simp only [C_Mo_holds, ← e3, ← e11, if_neg h16_0, if_neg h16_1, if_neg h16_2, if_neg h16_3, if_neg h16_4, if_neg h16_5, if_neg h16_6, if_neg h16_7, if_neg h16_8, if_neg h16_9, if_neg h16_10, if_pos h16_11, if_neg h205, if_pos h209]) rfl hP hS d_Mo_holds_217
  have n16_0 := lv_neT h16_0 (a := 0) (by decide)
  have n16_1 := lv_neT h16_1 (a := 1) (by decide)
  have n16_2 := lv_neT h16_2 (a := 2) (by decide)
  have n16_3 := lv_neT h16_3 (a := 3) (by decide)
  have n16_4 := lv_neT h16_4 (a := 4) (by decide)
  have n16_5 := lv_neT h16_5 (a := 5) (by decide)
  have n16_6 := lv_neT h16_6 (a := 6) (by decide)
  have n16_7 := lv_neT h16_7 (a := 7) (by decide)
  have n16_8 := lv_neT h16_8 (a := 8) (by decide)
  have n16_9 := lv_neT h16_9 (a := 9) (by decide)
  have n16_10 := lv_neT h16_10 (a := 10) (by decide)
  have n16_11 := lv_neT h16_11 (a := 11) (by decide)
  refine lv_tableOut (tgt := 218) hx hb d_Mo_holds_16 (by omega) (by decide) ?_
  refine lv_aload_n hx hb d_Mo_holds_218 rfl (lv_at hl 2 rfl) ?_
  refine lv_sipush (v := 1024) hx hb d_Mo_holds_219 (by decide) ?_
  refine cl_V (C := R_Mo) (k_Mo_has l D a hA u0 1024) ⟨hx, hb, hml, hown, hts⟩ (cwV 1 hts (gi_V t_636 t_638 t_55 t_66 t_639) rfl rfl rfl (by decide +kernel) ⟨Nat.le_of_ble_eq_true rfl, Nat.le_of_ble_eq_true rfl⟩) (va_recv (q0 := 0) (ci := 4) (q := (R_Mo, F_Mo, 10)) hK hP rfl rfl) hP hK hS rfl hl.1 rfl (Nat.le_of_ble_eq_true rfl) d_Mo_holds_222 (nm_i (fun r222 e222 H locs hP hS => ?_))
  subst hQ
  exact rt_z hx hb hr hlk (nb_z (by rw [e222]; exact zb_Mo_has _ _)) (by simp only [C_Mo_holds, ← e3, ← e11, if_neg h16_0, if_neg h16_1, if_neg h16_2, if_neg h16_3, if_neg h16_4, if_neg h16_5, if_neg h16_6, if_neg h16_7, if_neg h16_8, if_neg h16_9, if_neg h16_10, if_neg h16_11, ← e222]) rfl hP hS d_Mo_holds_225
set_option maxHeartbeats 4000000 in
set_option maxRecDepth 100000 in
theorem k_Mo_jumpOrLine (l : Launch) (D : va_G) (a : RAd) (hA : ApR a) (u0 : RSt) (x1 : Int32) : MC kl (mw a) (FB a) (tyR a) l D y_Mo_jumpOrLine b_Mo_jumpOrLine 5 none rm_Mo_jumpOrLine [.ref a.1, .int x1] u0 none (C_Mo_jumpOrLine u0 x1) := by
  refine MC.mk (by decide) (Nat.le_of_ble_eq_true rfl) ?_
  intro p e s m below meth c ls Q args H locs hx hb hr hml hown hts hlk hl hP hK hS hQ
  have hown : s.vm.findClass R_Mo = some m.cls := hown
  have hl : lv_has ls 5 [(0, .ref a.1), (1, .int x1)] := hl
  refine lv_iload_n hx hb d_Mo_jumpOrLine_0 rfl (lv_at hl 1 rfl) ?_
  refine lv_bipush (v := 8) hx hb d_Mo_jumpOrLine_1 (by decide) ?_
  refine lv_ishr hx hb d_Mo_jumpOrLine_3 ?_
  refine lv_bipush (v := 15) hx hb d_Mo_jumpOrLine_4 (by decide) ?_
  refine lv_iand hx hb d_Mo_jumpOrLine_6 ?_
  refine lv_istore_n hx hb d_Mo_jumpOrLine_7 rfl hl (by decide) rfl (fun ls hl => ?_)
  have hl : lv_has ls 5 [(2, .int ((x1 >>> ((8 : Int32) &&& 31)) &&& 15)), (0, .ref a.1), (1, .int x1)] := hl
  refine lv_iload_n hx hb d_Mo_jumpOrLine_8 rfl (lv_at hl 2 rfl) ?_
  refine lv_sipush (v := 255) hx hb d_Mo_jumpOrLine_9 (by decide) ?_
  refine lv_iand hx hb d_Mo_jumpOrLine_12 ?_
  refine lv_bipush (v := 127) hx hb d_Mo_jumpOrLine_13 (by decide) ?_
  have hJ35 : ∀ (z35 : Int32), z35 = J_Mo_jumpOrLine_35 x1 → W p l e rm_Mo_jumpOrLine s m args below meth c H locs 0 0 Q (F0 m 35 ls [.int z35]) := by
    intro z35 jz35
    refine lv_istore_n hx hb d_Mo_jumpOrLine_35 rfl hl (by decide) rfl (fun ls hl => ?_)
    have hl : lv_has ls 5 [(3, .int z35), (2, .int ((x1 >>> ((8 : Int32) &&& 31)) &&& 15)), (0, .ref a.1), (1, .int x1)] := hl
    refine lv_aload_n hx hb d_Mo_jumpOrLine_36 rfl (lv_at hl 2 rfl) ?_
    refine cl_V (C := R_Mo) (k_Mo_base l D a hA u0) ⟨hx, hb, hml, hown, hts⟩ (cwV 0 hts (gi_V t_622 t_624 t_52 t_66 t_625) rfl rfl rfl (by decide +kernel) ⟨Nat.le_of_ble_eq_true rfl, Nat.le_of_ble_eq_true rfl⟩) (va_recv (q0 := 0) (ci := 4) (q := (R_Mo, F_Mo, 10)) hK hP rfl rfl) hP hK hS rfl hl.1 rfl (Nat.le_of_ble_eq_true rfl) d_Mo_jumpOrLine_37 (nm_i (fun r37 e37 H locs hP hS => ?_))
    refine lv_iload_n hx hb d_Mo_jumpOrLine_40 rfl (lv_at hl 0 rfl) ?_
    refine lv_iadd hx hb d_Mo_jumpOrLine_41 ?_
    refine lv_bipush (v := 63) hx hb d_Mo_jumpOrLine_42 (by decide) ?_
    refine lv_iand hx hb d_Mo_jumpOrLine_44 ?_
    refine lv_istore hx hb d_Mo_jumpOrLine_45 hl (by decide) rfl (fun ls hl => ?_)
    have hl : lv_has ls 5 [(4, .int ((r37 + z35) &&& 63)), (3, .int z35), (2, .int ((x1 >>> ((8 : Int32) &&& 31)) &&& 15)), (0, .ref a.1), (1, .int x1)] := hl
    refine lv_iload_n hx hb d_Mo_jumpOrLine_47 rfl (lv_at hl 2 rfl) ?_
    refine lv_bipush (v := 13) hx hb d_Mo_jumpOrLine_48 (by decide) ?_
    refine lv_icmp_ge (tgt := 87) hx hb d_Mo_jumpOrLine_50 (by decide) (fun h50 => ?_) (fun h50 => ?_)
    · refine lv_iload_n hx hb d_Mo_jumpOrLine_87 rfl (lv_at hl 2 rfl) ?_
      refine lv_bipush (v := 15) hx hb d_Mo_jumpOrLine_88 (by decide) ?_
      refine lv_icmp_ge (tgt := 114) hx hb d_Mo_jumpOrLine_90 (by decide) (fun h90 => ?_) (fun h90 => ?_)
      · refine lv_aload_n hx hb d_Mo_jumpOrLine_114 rfl (lv_at hl 3 rfl) ?_
        refine lv_sipush (v := 8192) hx hb d_Mo_jumpOrLine_115 (by decide) ?_
        refine lv_aload_n hx hb d_Mo_jumpOrLine_118 rfl (lv_at hl 3 rfl) ?_
        refine va_get (D := D) (ci := 4) (v := .ref a.2.2.1) (C := R_Mo) (T := F_Mo) (N := 10) hx hb hts (fun w h => wm (ui_Mo w h)) hown hK hP 0 rfl rfl 2 (by decide) (hts _ (wm t_490)) (fun _ h9 => h9) rfl d_Mo_jumpOrLine_119 ?_
        refine lv_iload hx hb d_Mo_jumpOrLine_122 (lv_at hl 0 rfl) ?_
        refine va_zald hx hb hK hP 2 1 rfl rfl (ix_63 _) d_Mo_jumpOrLine_124 ?_
        refine cl_V (C := R_Mo) (k_Mo_flag l D a hA u0 8192 (u0.2.1 ((r37 + z35) &&& 63).toNatClampNeg)) ⟨hx, hb, hml, hown, hts⟩ (cwV 2 hts (gi_V t_589 t_591 t_45 t_66 t_592) rfl rfl rfl (by decide +kernel) ⟨Nat.le_of_ble_eq_true rfl, Nat.le_of_ble_eq_true rfl⟩) (va_recv (q0 := 0) (ci := 4) (q := (R_Mo, F_Mo, 10)) hK hP rfl rfl) hP hK hS rfl hl.1 rfl (Nat.le_of_ble_eq_true rfl) d_Mo_jumpOrLine_125 (nm_s (fun u125 e125 H locs hP hS => ?_))
        subst hQ
        exact rt_v hx hb hr hlk (by simp only [C_Mo_jumpOrLine, ← jz35, ← e37, if_pos h50, if_pos h90, ← e125]) hP hS d_Mo_jumpOrLine_128
      refine lv_aload_n hx hb d_Mo_jumpOrLine_93 rfl (lv_at hl 3 rfl) ?_
      refine va_get (D := D) (ci := 4) (v := .ref a.2.2.1) (C := R_Mo) (T := F_Mo) (N := 10) hx hb hts (fun w h => wm (ui_Mo w h)) hown hK hP 0 rfl rfl 2 (by decide) (hts _ (wm t_490)) (fun _ h9 => h9) rfl d_Mo_jumpOrLine_94 ?_
      refine lv_iload hx hb d_Mo_jumpOrLine_97 (lv_at hl 0 rfl) ?_
      refine lv_iload_n hx hb d_Mo_jumpOrLine_99 rfl (lv_at hl 2 rfl) ?_
      refine lv_bipush (v := 13) hx hb d_Mo_jumpOrLine_100 (by decide) ?_
      have hJ110 : ∀ (z110 : Int32), z110 = J_Mo_jumpOrLine_110 x1 → W p l e rm_Mo_jumpOrLine s m args below meth c H locs 0 0 Q (F0 m 110 ls [.int z110, .int ((r37 + z35) &&& 63), .ref a.2.2.1]) := by
        intro z110 jz110
        refine va_zast hx hb hK hP (dd_R hA _) hS 2 1 rfl rfl (ix_63 _) d_Mo_jumpOrLine_110 (fun H locs hP _ hS => ?_)
        have hP : va_P D kl (mw a (u0.1, (upd u0.2.1 ((r37 + z35) &&& 63).toNatClampNeg (vp_nar .boolean z110)), u0.2.2.1, u0.2.2.2.1, u0.2.2.2.2.1, u0.2.2.2.2.2.1, u0.2.2.2.2.2.2.1, u0.2.2.2.2.2.2.2.1, u0.2.2.2.2.2.2.2.2.1, u0.2.2.2.2.2.2.2.2.2)) H := hP
        refine lv_goto (tgt := 128) hx hb d_Mo_jumpOrLine_111 (by decide) ?_
        subst hQ
        exact rt_v hx hb hr hlk (by simp only [C_Mo_jumpOrLine, ← jz35, ← e37, if_pos h50, if_neg h90, ← jz110]) hP hS d_Mo_jumpOrLine_128
      refine lv_icmp_ne (tgt := 109) hx hb d_Mo_jumpOrLine_102 (by decide) (fun h102 => ?_) (fun h102 => ?_)
      · refine lv_iconst (v := 0) hx hb d_Mo_jumpOrLine_109 (by decide) ?_
        exact hJ110 0 (by simp only [J_Mo_jumpOrLine_110, if_neg h102])
      refine lv_iconst (v := 1) hx hb d_Mo_jumpOrLine_105 (by decide) ?_
      refine lv_goto (tgt := 110) hx hb d_Mo_jumpOrLine_106 (by decide) ?_
      exact hJ110 1 (by simp only [J_Mo_jumpOrLine_110, if_pos h102])
    refine lv_aload_n hx hb d_Mo_jumpOrLine_53 rfl (lv_at hl 3 rfl) ?_
    refine lv_aload_n hx hb d_Mo_jumpOrLine_54 rfl (lv_at hl 3 rfl) ?_
    refine lv_iload_n hx hb d_Mo_jumpOrLine_55 rfl (lv_at hl 2 rfl) ?_
    refine cl_V (C := R_Mo) (k_Mo_holds l D a hA u0 ((x1 >>> ((8 : Int32) &&& 31)) &&& 15)) ⟨hx, hb, hml, hown, hts⟩ (cwV 1 hts (gi_V t_632 t_634 t_54 t_66 t_635) rfl rfl rfl (by decide +kernel) ⟨Nat.le_of_ble_eq_true rfl, Nat.le_of_ble_eq_true rfl⟩) (va_recv (q0 := 0) (ci := 4) (q := (R_Mo, F_Mo, 10)) hK hP rfl rfl) hP hK hS rfl hl.1 rfl (Nat.le_of_ble_eq_true rfl) d_Mo_jumpOrLine_56 (nm_i (fun r56 e56 H locs hP hS => ?_))
    have hJ81 : ∀ (z81 : Int32), z81 = J_Mo_jumpOrLine_81 u0 z35 r56 → W p l e rm_Mo_jumpOrLine s m args below meth c H locs 0 0 Q (F0 m 81 ls [.int z81, .ref a.1]) := by
      intro z81 jz81
      refine va_put (D := D) (ci := 4) (v := .int z81) (ty := .int) (C := R_Mo) (T := F_Mo) (N := 10) hx hb hts (fun w h => wm (ui_Mo w h)) ft_Mo ft_Mo_ok fn_Mo hown hK hP (dd_R hA _) hS 0 rfl rfl 4 (by decide) (hts _ (wm t_492)) (fun _ h9 => h9) rfl (by decide +kernel) rfl rfl (Nat.le_of_ble_eq_true rfl) d_Mo_jumpOrLine_81 (fun H locs hP _ hS => ?_)
      have hP : va_P D kl (mw a (u0.1, u0.2.1, u0.2.2.1, u0.2.2.2.1, z81, u0.2.2.2.2.2.1, u0.2.2.2.2.2.2.1, u0.2.2.2.2.2.2.2.1, u0.2.2.2.2.2.2.2.2.1, u0.2.2.2.2.2.2.2.2.2)) H := hP
      refine lv_goto (tgt := 128) hx hb d_Mo_jumpOrLine_84 (by decide) ?_
      subst hQ
      exact rt_v hx hb hr hlk (by simp only [C_Mo_jumpOrLine, ← jz35, ← e37, if_neg h50, ← e56, ← jz81]) hP hS d_Mo_jumpOrLine_128
    refine lv_if_eq (tgt := 77) hx hb d_Mo_jumpOrLine_59 (by decide) (fun h59 => ?_) (fun h59 => ?_)
    · refine lv_aload_n hx hb d_Mo_jumpOrLine_77 rfl (lv_at hl 3 rfl) ?_
      refine va_get (D := D) (ci := 4) (v := .int u0.2.2.2.2.1) (C := R_Mo) (T := F_Mo) (N := 10) hx hb hts (fun w h => wm (ui_Mo w h)) hown hK hP 0 rfl rfl 4 (by decide) (hts _ (wm t_492)) (fun _ h9 => h9) rfl d_Mo_jumpOrLine_78 ?_
      exact hJ81 u0.2.2.2.2.1 (by simp only [J_Mo_jumpOrLine_81, if_pos h59])
    refine lv_aload_n hx hb d_Mo_jumpOrLine_62 rfl (lv_at hl 3 rfl) ?_
    refine va_get (D := D) (ci := 4) (v := .int u0.2.2.2.2.1) (C := R_Mo) (T := F_Mo) (N := 10) hx hb hts (fun w h => wm (ui_Mo w h)) hown hK hP 0 rfl rfl 4 (by decide) (hts _ (wm t_492)) (fun _ h9 => h9) rfl d_Mo_jumpOrLine_63 ?_
    refine lv_iconst (v := 2) hx hb d_Mo_jumpOrLine_66 (by decide) ?_
    refine lv_iload_n hx hb d_Mo_jumpOrLine_67 rfl (lv_at hl 1 rfl) ?_
    refine lv_imul hx hb d_Mo_jumpOrLine_68 ?_
    refine lv_iadd hx hb d_Mo_jumpOrLine_69 ?_
    refine lv_sipush (v := 1022) hx hb d_Mo_jumpOrLine_70 (by decide) ?_
    refine lv_iand hx hb d_Mo_jumpOrLine_73 ?_
    refine lv_goto (tgt := 81) hx hb d_Mo_jumpOrLine_74 (by decide) ?_
    exact hJ81 ((u0.2.2.2.2.1 + (2 * z35)) &&& 1022) (by simp only [J_Mo_jumpOrLine_81, if_neg h59])
  refine lv_icmp_le (tgt := 30) hx hb d_Mo_jumpOrLine_15 (by decide) (fun h15 => ?_) (fun h15 => ?_)
  · refine lv_iload_n hx hb d_Mo_jumpOrLine_30 rfl (lv_at hl 2 rfl) ?_
    refine lv_sipush (v := 255) hx hb d_Mo_jumpOrLine_31 (by decide) ?_
    refine lv_iand hx hb d_Mo_jumpOrLine_34 ?_
    exact hJ35 (x1 &&& 255) (by simp only [J_Mo_jumpOrLine_35, if_pos h15])
  refine lv_iload_n hx hb d_Mo_jumpOrLine_18 rfl (lv_at hl 2 rfl) ?_
  refine lv_sipush (v := 255) hx hb d_Mo_jumpOrLine_19 (by decide) ?_
  refine lv_iand hx hb d_Mo_jumpOrLine_22 ?_
  refine lv_sipush (v := 256) hx hb d_Mo_jumpOrLine_23 (by decide) ?_
  refine lv_isub hx hb d_Mo_jumpOrLine_26 ?_
  refine lv_goto (tgt := 35) hx hb d_Mo_jumpOrLine_27 (by decide) ?_
  exact hJ35 ((x1 &&& 255) - 256) (by simp only [J_Mo_jumpOrLine_35, if_neg h15])
set_option maxHeartbeats 4000000 in
set_option maxRecDepth 100000 in
theorem k_Mo_shift (l : Launch) (D : va_G) (a : RAd) (hA : ApR a) (u0 : RSt) (x1 : Int32) : MC kl (mw a) (FB a) (tyR a) l D y_Mo_shift b_Mo_shift 11 none rm_Mo_shift [.ref a.1, .int x1] u0 none (C_Mo_shift u0 x1) := by
  refine MC.mk (by decide) (Nat.le_of_ble_eq_true rfl) ?_
  intro p e s m below meth c ls Q args H locs hx hb hr hml hown hts hlk hl hP hK hS hQ
  have hown : s.vm.findClass R_Mo = some m.cls := hown
  have hl : lv_has ls 11 [(0, .ref a.1), (1, .int x1)] := hl
  refine lv_iload_n hx hb d_Mo_shift_0 rfl (lv_at hl 1 rfl) ?_
  refine lv_bipush (v := 15) hx hb d_Mo_shift_1 (by decide) ?_
  refine lv_iand hx hb d_Mo_shift_3 ?_
  refine lv_istore_n hx hb d_Mo_shift_4 rfl hl (by decide) rfl (fun ls hl => ?_)
  have hl : lv_has ls 11 [(2, .int (x1 &&& 15)), (0, .ref a.1), (1, .int x1)] := hl
  refine lv_iload_n hx hb d_Mo_shift_5 rfl (lv_at hl 2 rfl) ?_
  refine lv_iconst (v := 4) hx hb d_Mo_shift_6 (by decide) ?_
  refine lv_ishr hx hb d_Mo_shift_7 ?_
  refine lv_bipush (v := 15) hx hb d_Mo_shift_8 (by decide) ?_
  refine lv_iand hx hb d_Mo_shift_10 ?_
  refine lv_istore_n hx hb d_Mo_shift_11 rfl hl (by decide) rfl (fun ls hl => ?_)
  have hl : lv_has ls 11 [(3, .int ((x1 >>> ((4 : Int32) &&& 31)) &&& 15)), (2, .int (x1 &&& 15)), (0, .ref a.1), (1, .int x1)] := hl
  refine lv_iload_n hx hb d_Mo_shift_12 rfl (lv_at hl 0 rfl) ?_
  have hJ28 : ∀ (z28 : Int32) (H : Heap) (locs : List Loc), z28 = J_Mo_shift_28 u0 x1 → va_P D kl (mw a u0) H → va_S (FB a) s.heap H locs → W p l e rm_Mo_shift s m args below meth c H locs 0 0 Q (F0 m 28 ls [.int z28]) := by
    intro z28 H locs jz28 hP hS
    refine lv_istore_n hx hb d_Mo_shift_28 rfl hl (by decide) rfl (fun ls hl => ?_)
    have hl : lv_has ls 11 [(3, .int z28), (2, .int (x1 &&& 15)), (0, .ref a.1), (1, .int x1)] := hl
    refine lv_iload_n hx hb d_Mo_shift_29 rfl (lv_at hl 0 rfl) ?_
    have hJ39 : ∀ (z39 : Int32), z39 = J_Mo_shift_39 z28 → W p l e rm_Mo_shift s m args below meth c H locs 0 0 Q (F0 m 39 ls [.int z39]) := by
      intro z39 jz39
      refine lv_istore_n hx hb d_Mo_shift_39 rfl hl (by decide) rfl (fun ls hl => ?_)
      have hl : lv_has ls 11 [(3, .int z39), (2, .int (x1 &&& 15)), (0, .ref a.1), (1, .int x1)] := hl
      refine lv_iload_n hx hb d_Mo_shift_40 rfl (lv_at hl 3 rfl) ?_
      refine lv_bipush (v := 8) hx hb d_Mo_shift_41 (by decide) ?_
      refine lv_ishr hx hb d_Mo_shift_43 ?_
      refine lv_iconst (v := 3) hx hb d_Mo_shift_44 (by decide) ?_
      refine lv_iand hx hb d_Mo_shift_45 ?_
      refine lv_istore hx hb d_Mo_shift_46 hl (by decide) rfl (fun ls hl => ?_)
      have hl : lv_has ls 11 [(4, .int ((x1 >>> ((8 : Int32) &&& 31)) &&& 3)), (3, .int z39), (2, .int (x1 &&& 15)), (0, .ref a.1), (1, .int x1)] := hl
      refine lv_aload_n hx hb d_Mo_shift_48 rfl (lv_at hl 3 rfl) ?_
      refine lv_iload_n hx hb d_Mo_shift_49 rfl (lv_at hl 2 rfl) ?_
      refine cl_V (C := R_Mo) (k_Mo_register l D a hA u0 (x1 &&& 15)) ⟨hx, hb, hml, hown, hts⟩ (cwV 1 hts (gi_V t_568 t_570 t_40 t_66 t_571) rfl rfl rfl (by decide +kernel) ⟨Nat.le_of_ble_eq_true rfl, Nat.le_of_ble_eq_true rfl⟩) (va_recv (q0 := 0) (ci := 4) (q := (R_Mo, F_Mo, 10)) hK hP rfl rfl) hP hK hS rfl hl.1 rfl (Nat.le_of_ble_eq_true rfl) d_Mo_shift_50 (nm_i (fun r50 e50 H locs hP hS => ?_))
      refine lv_istore hx hb d_Mo_shift_53 hl (by decide) rfl (fun ls hl => ?_)
      have hl : lv_has ls 11 [(5, .int r50), (4, .int ((x1 >>> ((8 : Int32) &&& 31)) &&& 3)), (3, .int z39), (2, .int (x1 &&& 15)), (0, .ref a.1), (1, .int x1)] := hl
      refine lv_iconst (v := 0) hx hb d_Mo_shift_55 (by decide) ?_
      refine lv_istore hx hb d_Mo_shift_56 hl (by decide) rfl (fun ls hl => ?_)
      have hl : lv_has ls 11 [(6, .int 0), (5, .int r50), (4, .int ((x1 >>> ((8 : Int32) &&& 31)) &&& 3)), (3, .int z39), (2, .int (x1 &&& 15)), (0, .ref a.1), (1, .int x1)] := hl
      refine lv_iconst (v := 0) hx hb d_Mo_shift_58 (by decide) ?_
      refine lv_istore hx hb d_Mo_shift_59 hl (by decide) rfl (fun ls hl => ?_)
      have hl : lv_has ls 11 [(7, .int 0), (6, .int 0), (5, .int r50), (4, .int ((x1 >>> ((8 : Int32) &&& 31)) &&& 3)), (3, .int z39), (2, .int (x1 &&& 15)), (0, .ref a.1), (1, .int x1)] := hl
      refine lv_iconst (v := 0) hx hb d_Mo_shift_61 (by decide) ?_
      refine lv_istore hx hb d_Mo_shift_62 hl (by decide) rfl (fun ls hl => ?_)
      have hl : lv_has ls 11 [(8, .int 0), (7, .int 0), (6, .int 0), (5, .int r50), (4, .int ((x1 >>> ((8 : Int32) &&& 31)) &&& 3)), (3, .int z39), (2, .int (x1 &&& 15)), (0, .ref a.1), (1, .int x1)] := hl
      have hX64 : ∀ (i5_64 : Int32) (i6_64 : Int32) (i7_64 : Int32) (i8_64 : Int32) (H : Heap) (locs : List Loc) (ls : Array Slot), (i5_64, i6_64, i7_64, i8_64) = L_Mo_shift_64 x1 z39 (((z39 : Int32).toInt - (0 : Int32).toInt).toNat) (r50, 0, 0, 0) → va_P D kl (mw a u0) H → va_S (FB a) s.heap H locs → lv_has ls 11 [(0, .ref a.1), (2, .int (x1 &&& 15)), (3, .int z39), (4, .int ((x1 >>> ((8 : Int32) &&& 31)) &&& 3)), (5, .int i5_64), (6, .int i6_64), (7, .int i7_64), (8, .int i8_64)] → W p l e rm_Mo_shift s m args below meth c H locs 0 0 Q (F0 m 178 ls []) := by
        intro i5_64 i6_64 i7_64 i8_64 H locs ls hq hP hS hl
        have qi5_64 : i5_64 = (L_Mo_shift_64 x1 z39 (((z39 : Int32).toInt - (0 : Int32).toInt).toNat) (r50, 0, 0, 0)).1 := by rw [← hq]
        have qi6_64 : i6_64 = (L_Mo_shift_64 x1 z39 (((z39 : Int32).toInt - (0 : Int32).toInt).toNat) (r50, 0, 0, 0)).2.1 := by rw [← hq]
        have qi7_64 : i7_64 = (L_Mo_shift_64 x1 z39 (((z39 : Int32).toInt - (0 : Int32).toInt).toNat) (r50, 0, 0, 0)).2.2.1 := by rw [← hq]
        have qi8_64 : i8_64 = (L_Mo_shift_64 x1 z39 (((z39 : Int32).toInt - (0 : Int32).toInt).toNat) (r50, 0, 0, 0)).2.2.2 := by rw [← hq]
        refine lv_aload_n hx hb d_Mo_shift_178 rfl (lv_at hl 0 rfl) ?_
        refine lv_iload hx hb d_Mo_shift_179 (lv_at hl 4 rfl) ?_
        refine cl_V (C := R_Mo) (k_Mo_test l D a hA u0 i5_64) ⟨hx, hb, hml, hown, hts⟩ (cwV 1 hts (gi_V t_602 t_604 t_47 t_66 t_605) rfl rfl rfl (by decide +kernel) ⟨Nat.le_of_ble_eq_true rfl, Nat.le_of_ble_eq_true rfl⟩) (va_recv (q0 := 0) (ci := 4) (q := (R_Mo, F_Mo, 10)) hK hP rfl rfl) hP hK hS rfl hl.1 rfl (Nat.le_of_ble_eq_true rfl) d_Mo_shift_181 (nm_s (fun u181 e181 H locs hP hS => ?_))
        refine lv_aload_n hx hb d_Mo_shift_184 rfl (lv_at hl 0 rfl) ?_
        refine lv_sipush (v := 4096) hx hb d_Mo_shift_185 (by decide) ?_
        refine lv_iload hx hb d_Mo_shift_188 (lv_at hl 6 rfl) ?_
        refine lv_iconst (v := 1) hx hb d_Mo_shift_190 (by decide) ?_
        have hJ199 : ∀ (z199 : Int32), z199 = J_Mo_shift_199 i7_64 → W p l e rm_Mo_shift s m args below meth c H locs 0 0 Q (F0 m 199 ls [.int z199, .int 4096, .ref a.1]) := by
          intro z199 jz199
          refine cl_V (C := R_Mo) (k_Mo_flag l D a hA u181 4096 z199) ⟨hx, hb, hml, hown, hts⟩ (cwV 2 hts (gi_V t_589 t_591 t_45 t_66 t_592) rfl rfl rfl (by decide +kernel) ⟨Nat.le_of_ble_eq_true rfl, Nat.le_of_ble_eq_true rfl⟩) (va_recv (q0 := 0) (ci := 4) (q := (R_Mo, F_Mo, 10)) hK hP rfl rfl) hP hK hS rfl hl.1 rfl (Nat.le_of_ble_eq_true rfl) d_Mo_shift_199 (nm_s (fun u199 e199 H locs hP hS => ?_))
          refine lv_iload hx hb d_Mo_shift_202 (lv_at hl 3 rfl) ?_
          refine lv_iconst (v := 2) hx hb d_Mo_shift_204 (by decide) ?_
          have hJ217 : ∀ (v217 : RSt) (H : Heap) (locs : List Loc), v217 = J_Mo_shift_217 x1 i6_64 u199 → va_P D kl (mw a v217) H → va_S (FB a) s.heap H locs → W p l e rm_Mo_shift s m args below meth c H locs 0 0 Q (F0 m 217 ls []) := by
            intro v217 H locs jv217 hP hS
            refine lv_aload_n hx hb d_Mo_shift_217 rfl (lv_at hl 0 rfl) ?_
            refine lv_iload_n hx hb d_Mo_shift_218 rfl (lv_at hl 1 rfl) ?_
            refine lv_iload hx hb d_Mo_shift_219 (lv_at hl 4 rfl) ?_
            refine cl_V (C := R_Mo) (k_Mo_setRegister l D a hA v217 (x1 &&& 15) i5_64) ⟨hx, hb, hml, hown, hts⟩ (cwV 2 hts (gi_V t_537 t_539 t_34 t_66 t_540) rfl rfl rfl (by decide +kernel) ⟨Nat.le_of_ble_eq_true rfl, Nat.le_of_ble_eq_true rfl⟩) (va_recv (q0 := 0) (ci := 4) (q := (R_Mo, F_Mo, 10)) hK hP rfl rfl) hP hK hS rfl hl.1 rfl (Nat.le_of_ble_eq_true rfl) d_Mo_shift_221 (nm_s (fun u221 e221 H locs hP hS => ?_))
            subst hQ
            exact rt_v hx hb hr hlk (by simp only [C_Mo_shift, ← jz28, ← jz39, ← e50, ← qi5_64, ← qi6_64, ← qi7_64, ← qi8_64, ← e181, ← jz199, ← e199, ← jv217, ← e221]) hP hS d_Mo_shift_224
          refine lv_icmp_ne (tgt := 217) hx hb d_Mo_shift_205 (by decide) (fun h205 => ?_) (fun h205 => ?_)
          · exact hJ217 u199 _ _ (by simp only [J_Mo_shift_217, if_neg h205]) hP hS
          refine lv_aload_n hx hb d_Mo_shift_208 rfl (lv_at hl 0 rfl) ?_
          refine lv_sipush (v := 2048) hx hb d_Mo_shift_209 (by decide) ?_
          refine lv_iload hx hb d_Mo_shift_212 (lv_at hl 5 rfl) ?_
          refine cl_V (C := R_Mo) (k_Mo_flag l D a hA u199 2048 i6_64) ⟨hx, hb, hml, hown, hts⟩ (cwV 2 hts (gi_V t_589 t_591 t_45 t_66 t_592) rfl rfl rfl (by decide +kernel) ⟨Nat.le_of_ble_eq_true rfl, Nat.le_of_ble_eq_true rfl⟩) (va_recv (q0 := 0) (ci := 4) (q := (R_Mo, F_Mo, 10)) hK hP rfl rfl) hP hK hS rfl hl.1 rfl (Nat.le_of_ble_eq_true rfl) d_Mo_shift_214 (nm_s (fun u214 e214 H locs hP hS => ?_))
          exact hJ217 u214 _ _ (by simp only [J_Mo_shift_217, if_pos h205, ← e214]) hP hS
        refine lv_icmp_ne (tgt := 198) hx hb d_Mo_shift_191 (by decide) (fun h191 => ?_) (fun h191 => ?_)
        · refine lv_iconst (v := 0) hx hb d_Mo_shift_198 (by decide) ?_
          exact hJ199 0 (by simp only [J_Mo_shift_199, if_neg h191])
        refine lv_iconst (v := 1) hx hb d_Mo_shift_194 (by decide) ?_
        refine lv_goto (tgt := 199) hx hb d_Mo_shift_195 (by decide) ?_
        exact hJ199 1 (by simp only [J_Mo_shift_199, if_pos h191])
      have hL64 : ∀ (f : Nat) (i5_64 : Int32) (i6_64 : Int32) (i7_64 : Int32) (i8_64 : Int32) (H : Heap) (locs : List Loc) (ls : Array Slot), (z39.toInt - i8_64.toInt).toNat ≤ f → L_Mo_shift_64 x1 z39 f (i5_64, i6_64, i7_64, i8_64) = L_Mo_shift_64 x1 z39 (((z39 : Int32).toInt - (0 : Int32).toInt).toNat) (r50, 0, 0, 0) → va_P D kl (mw a u0) H → va_S (FB a) s.heap H locs → lv_has ls 11 [(0, .ref a.1), (2, .int (x1 &&& 15)), (3, .int z39), (4, .int ((x1 >>> ((8 : Int32) &&& 31)) &&& 3)), (5, .int i5_64), (6, .int i6_64), (7, .int i7_64), (8, .int i8_64)] → W p l e rm_Mo_shift s m args below meth c H locs 0 0 Q (F0 m 64 ls []) := by
        intro f
        induction f with
        | zero =>
          intro i5_64 i6_64 i7_64 i8_64 H locs ls hf hE hP hS hl
          refine lv_iload hx hb d_Mo_shift_64 (lv_at hl 7 rfl) ?_
          refine lv_iload_n hx hb d_Mo_shift_66 rfl (lv_at hl 2 rfl) ?_
          refine lv_icmp_ge (tgt := 178) hx hb d_Mo_shift_67 (by decide) (fun h67 => ?_) (fun h67 => ?_)
          · exact hX64 _ _ _ _ _ _ _ hE hP hS hl
          · exact (ms_zero hf h67).elim
        | succ f ih =>
          intro i5_64 i6_64 i7_64 i8_64 H locs ls hf hE hP hS hl
          refine lv_iload hx hb d_Mo_shift_64 (lv_at hl 7 rfl) ?_
          refine lv_iload_n hx hb d_Mo_shift_66 rfl (lv_at hl 2 rfl) ?_
          refine lv_icmp_ge (tgt := 178) hx hb d_Mo_shift_67 (by decide) (fun h67 => ?_) (fun h67 => ?_)
          · exact hX64 _ _ _ _ _ _ _ (by rw [← hE, L_Mo_shift_64_s, if_pos h67]) hP hS hl
          · refine lv_iload hx hb d_Mo_shift_70 (lv_at hl 4 rfl) ?_
            refine lv_istore hx hb d_Mo_shift_72 hl (by decide) rfl (fun ls hl => ?_)
            have hl : lv_has ls 11 [(9, .int i5_64), (0, .ref a.1), (2, .int (x1 &&& 15)), (3, .int z39), (4, .int ((x1 >>> ((8 : Int32) &&& 31)) &&& 3)), (5, .int i5_64), (6, .int i6_64), (7, .int i7_64), (8, .int i8_64)] := hl
            refine lv_iload hx hb d_Mo_shift_74 (lv_at hl 4 rfl) ?_
            refine lv_iconst (v := 2) hx hb d_Mo_shift_76 (by decide) ?_
            have hJ92 : ∀ (z92 : Int32), z92 = J_Mo_shift_92 x1 i5_64 → W p l e rm_Mo_shift s m args below meth c H locs 0 0 Q (F0 m 92 ls [.int z92]) := by
              intro z92 jz92
              refine lv_istore hx hb d_Mo_shift_92 hl (by decide) rfl (fun ls hl => ?_)
              have hl : lv_has ls 11 [(7, .int z92), (9, .int i5_64), (0, .ref a.1), (2, .int (x1 &&& 15)), (3, .int z39), (4, .int ((x1 >>> ((8 : Int32) &&& 31)) &&& 3)), (5, .int i5_64), (6, .int i6_64), (8, .int i8_64)] := hl
              refine lv_iload hx hb d_Mo_shift_94 (lv_at hl 5 rfl) ?_
              have hJ122 : ∀ (z122 : Int32), z122 = J_Mo_shift_122 x1 i5_64 z92 → W p l e rm_Mo_shift s m args below meth c H locs 0 0 Q (F0 m 122 ls [.int z122]) := by
                intro z122 jz122
                refine lv_istore hx hb d_Mo_shift_122 hl (by decide) rfl (fun ls hl => ?_)
                have hl : lv_has ls 11 [(10, .int z122), (7, .int z92), (9, .int i5_64), (0, .ref a.1), (2, .int (x1 &&& 15)), (3, .int z39), (4, .int ((x1 >>> ((8 : Int32) &&& 31)) &&& 3)), (5, .int i5_64), (6, .int i6_64), (8, .int i8_64)] := hl
                refine lv_iload hx hb d_Mo_shift_124 (lv_at hl 6 rfl) ?_
                refine lv_iconst (v := 2) hx hb d_Mo_shift_126 (by decide) ?_
                have hJ147 : ∀ (z147 : Int32), z147 = J_Mo_shift_147 x1 i5_64 z122 → W p l e rm_Mo_shift s m args below meth c H locs 0 0 Q (F0 m 147 ls [.int z147]) := by
                  intro z147 jz147
                  refine lv_istore hx hb d_Mo_shift_147 hl (by decide) rfl (fun ls hl => ?_)
                  have hl : lv_has ls 11 [(5, .int z147), (10, .int z122), (7, .int z92), (9, .int i5_64), (0, .ref a.1), (2, .int (x1 &&& 15)), (3, .int z39), (4, .int ((x1 >>> ((8 : Int32) &&& 31)) &&& 3)), (6, .int i6_64), (8, .int i8_64)] := hl
                  refine lv_iload hx hb d_Mo_shift_149 (lv_at hl 8 rfl) ?_
                  have hJ170 : ∀ (z170 : Int32), z170 = J_Mo_shift_170 i5_64 i6_64 z147 → W p l e rm_Mo_shift s m args below meth c H locs 0 0 Q (F0 m 170 ls [.int z170]) := by
                    intro z170 jz170
                    refine lv_istore hx hb d_Mo_shift_170 hl (by decide) rfl (fun ls hl => ?_)
                    have hl : lv_has ls 11 [(6, .int z170), (5, .int z147), (10, .int z122), (7, .int z92), (9, .int i5_64), (0, .ref a.1), (2, .int (x1 &&& 15)), (3, .int z39), (4, .int ((x1 >>> ((8 : Int32) &&& 31)) &&& 3)), (8, .int i8_64)] := hl
                    refine lv_iinc (k := 9) (v := (i8_64 + 1)) hx hb d_Mo_shift_172 hl rfl rfl (by decide) rfl (fun ls hl => ?_)
                    have hl : lv_has ls 11 [(8, .int (i8_64 + 1)), (6, .int z170), (5, .int z147), (10, .int z122), (7, .int z92), (9, .int i5_64), (0, .ref a.1), (2, .int (x1 &&& 15)), (3, .int z39), (4, .int ((x1 >>> ((8 : Int32) &&& 31)) &&& 3))] := hl
                    refine lv_goto (tgt := 64) hx hb d_Mo_shift_175 (by decide) ?_
                    exact ih z147 z170 z92 (i8_64 + 1) _ _ _ (ms_step h67 hf) ((congrArg (L_Mo_shift_64 x1 z39 f) (by simp only [B_Mo_shift_64, ← jz92, ← jz122, ← jz147, ← jz170])).trans (show L_Mo_shift_64 x1 z39 f (B_Mo_shift_64 x1 z39 (i5_64, i6_64, i7_64, i8_64)) = _ by rw [← hE, L_Mo_shift_64_s, if_neg h67])) hP hS (lv_sub hl [6, 7, 8, 9, 2, 1, 4, 0] rfl)
                  refine lv_if_ne (tgt := 165) hx hb d_Mo_shift_151 (by decide) (fun h151 => ?_) (fun h151 => ?_)
                  · refine lv_iconst (v := 1) hx hb d_Mo_shift_165 (by decide) ?_
                    refine lv_goto (tgt := 170) hx hb d_Mo_shift_166 (by decide) ?_
                    exact hJ170 1 (by simp only [J_Mo_shift_170, if_neg h151])
                  refine lv_iload hx hb d_Mo_shift_154 (lv_at hl 3 rfl) ?_
                  refine lv_iload hx hb d_Mo_shift_156 (lv_at hl 0 rfl) ?_
                  refine lv_ixor hx hb d_Mo_shift_158 ?_
                  refine lv_ldc (v := 32768) hx hb hown (hts _ (wm t_593)) d_Mo_shift_159 ?_
                  refine lv_iand hx hb d_Mo_shift_161 ?_
                  refine lv_if_eq (tgt := 169) hx hb d_Mo_shift_162 (by decide) (fun h162 => ?_) (fun h162 => ?_)
                  · refine lv_iconst (v := 0) hx hb d_Mo_shift_169 (by decide) ?_
                    exact hJ170 0 (by simp only [J_Mo_shift_170, if_pos h151, if_pos h162])
                  refine lv_iconst (v := 1) hx hb d_Mo_shift_165 (by decide) ?_
                  refine lv_goto (tgt := 170) hx hb d_Mo_shift_166 (by decide) ?_
                  exact hJ170 1 (by simp only [J_Mo_shift_170, if_pos h151, if_neg h162])
                refine lv_icmp_ne (tgt := 140) hx hb d_Mo_shift_127 (by decide) (fun h127 => ?_) (fun h127 => ?_)
                · refine lv_iload hx hb d_Mo_shift_140 (lv_at hl 7 rfl) ?_
                  refine lv_iconst (v := 1) hx hb d_Mo_shift_142 (by decide) ?_
                  refine lv_ishr hx hb d_Mo_shift_143 ?_
                  refine lv_iload hx hb d_Mo_shift_144 (lv_at hl 0 rfl) ?_
                  refine lv_ior hx hb d_Mo_shift_146 ?_
                  exact hJ147 ((i5_64 >>> ((1 : Int32) &&& 31)) ||| z122) (by simp only [J_Mo_shift_147, if_neg h127])
                refine lv_iload hx hb d_Mo_shift_130 (lv_at hl 7 rfl) ?_
                refine lv_iconst (v := 1) hx hb d_Mo_shift_132 (by decide) ?_
                refine lv_ishl hx hb d_Mo_shift_133 ?_
                refine lv_ldc (v := 65535) hx hb hown (hts _ (wm t_545)) d_Mo_shift_134 ?_
                refine lv_iand hx hb d_Mo_shift_136 ?_
                refine lv_goto (tgt := 147) hx hb d_Mo_shift_137 (by decide) ?_
                exact hJ147 ((i5_64 <<< ((1 : Int32) &&& 31)) &&& 65535) (by simp only [J_Mo_shift_147, if_pos h127])
              refine lv_if_ne (tgt := 107) hx hb d_Mo_shift_96 (by decide) (fun h96 => ?_) (fun h96 => ?_)
              · refine lv_iload hx hb d_Mo_shift_107 (lv_at hl 5 rfl) ?_
                refine lv_iconst (v := 3) hx hb d_Mo_shift_109 (by decide) ?_
                refine lv_icmp_ne (tgt := 121) hx hb d_Mo_shift_110 (by decide) (fun h110 => ?_) (fun h110 => ?_)
                · refine lv_iconst (v := 0) hx hb d_Mo_shift_121 (by decide) ?_
                  exact hJ122 0 (by simp only [J_Mo_shift_122, if_neg h96, if_neg h110])
                refine lv_iload hx hb d_Mo_shift_113 (lv_at hl 0 rfl) ?_
                refine lv_bipush (v := 15) hx hb d_Mo_shift_115 (by decide) ?_
                refine lv_ishl hx hb d_Mo_shift_117 ?_
                refine lv_goto (tgt := 122) hx hb d_Mo_shift_118 (by decide) ?_
                exact hJ122 (z92 <<< ((15 : Int32) &&& 31)) (by simp only [J_Mo_shift_122, if_neg h96, if_pos h110])
              refine lv_iload hx hb d_Mo_shift_99 (lv_at hl 6 rfl) ?_
              refine lv_ldc (v := 32768) hx hb hown (hts _ (wm t_593)) d_Mo_shift_101 ?_
              refine lv_iand hx hb d_Mo_shift_103 ?_
              refine lv_goto (tgt := 122) hx hb d_Mo_shift_104 (by decide) ?_
              exact hJ122 (i5_64 &&& 32768) (by simp only [J_Mo_shift_122, if_pos h96])
            refine lv_icmp_ne (tgt := 88) hx hb d_Mo_shift_77 (by decide) (fun h77 => ?_) (fun h77 => ?_)
            · refine lv_iload hx hb d_Mo_shift_88 (lv_at hl 5 rfl) ?_
              refine lv_iconst (v := 1) hx hb d_Mo_shift_90 (by decide) ?_
              refine lv_iand hx hb d_Mo_shift_91 ?_
              exact hJ92 (i5_64 &&& 1) (by simp only [J_Mo_shift_92, if_neg h77])
            refine lv_iload hx hb d_Mo_shift_80 (lv_at hl 5 rfl) ?_
            refine lv_bipush (v := 15) hx hb d_Mo_shift_82 (by decide) ?_
            refine lv_ishr hx hb d_Mo_shift_84 ?_
            refine lv_goto (tgt := 92) hx hb d_Mo_shift_85 (by decide) ?_
            exact hJ92 (i5_64 >>> ((15 : Int32) &&& 31)) (by simp only [J_Mo_shift_92, if_pos h77])
      exact hL64 _ r50 0 0 0 _ _ _ (Nat.le_refl _) rfl hP hS (lv_sub hl [7, 6, 5, 4, 3, 2, 1, 0] rfl)
    refine lv_if_ne (tgt := 38) hx hb d_Mo_shift_30 (by decide) (fun h30 => ?_) (fun h30 => ?_)
    · refine lv_iload_n hx hb d_Mo_shift_38 rfl (lv_at hl 0 rfl) ?_
      exact hJ39 z28 (by simp only [J_Mo_shift_39, if_neg h30])
    refine lv_bipush (v := 16) hx hb d_Mo_shift_33 (by decide) ?_
    refine lv_goto (tgt := 39) hx hb d_Mo_shift_35 (by decide) ?_
    exact hJ39 16 (by simp only [J_Mo_shift_39, if_pos h30])
  refine lv_if_ne (tgt := 27) hx hb d_Mo_shift_13 (by decide) (fun h13 => ?_) (fun h13 => ?_)
  · refine lv_iload_n hx hb d_Mo_shift_27 rfl (lv_at hl 0 rfl) ?_
    exact hJ28 ((x1 >>> ((4 : Int32) &&& 31)) &&& 15) _ _ (by simp only [J_Mo_shift_28, if_neg h13]) hP hS
  refine lv_aload_n hx hb d_Mo_shift_16 rfl (lv_at hl 2 rfl) ?_
  refine lv_iconst (v := 0) hx hb d_Mo_shift_17 (by decide) ?_
  refine cl_V (C := R_Mo) (k_Mo_register l D a hA u0 0) ⟨hx, hb, hml, hown, hts⟩ (cwV 1 hts (gi_V t_568 t_570 t_40 t_66 t_571) rfl rfl rfl (by decide +kernel) ⟨Nat.le_of_ble_eq_true rfl, Nat.le_of_ble_eq_true rfl⟩) (va_recv (q0 := 0) (ci := 4) (q := (R_Mo, F_Mo, 10)) hK hP rfl rfl) hP hK hS rfl hl.1 rfl (Nat.le_of_ble_eq_true rfl) d_Mo_shift_18 (nm_i (fun r18 e18 H locs hP hS => ?_))
  refine lv_bipush (v := 15) hx hb d_Mo_shift_21 (by decide) ?_
  refine lv_iand hx hb d_Mo_shift_23 ?_
  refine lv_goto (tgt := 28) hx hb d_Mo_shift_24 (by decide) ?_
  exact hJ28 (r18 &&& 15) _ _ (by simp only [J_Mo_shift_28, if_pos h13, ← e18]) hP hS
