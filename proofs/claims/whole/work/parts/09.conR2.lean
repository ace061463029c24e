/-! contracts, laid by gen.py -/
set_option maxHeartbeats 4000000 in
set_option maxRecDepth 100000 in
theorem k_Mo_oneOperand (l : Launch) (D : va_G) (a : RAd) (hA : ApR a) (u0 : RSt) (x1 : Int32) : MC kl (mw a) (FB a) (tyR a) l D y_Mo_oneOperand b_Mo_oneOperand 6 none rm_Mo_oneOperand [.ref a.1, .int x1] u0 none (C_Mo_oneOperand u0 x1) := by
  refine MC.mk (by decide) (Nat.le_of_ble_eq_true rfl) ?_
  intro p e s m below meth c ls Q args H locs hx hb hr hml hown hts hlk hl hP hK hS hQ
  have hown : s.vm.findClass R_Mo = some m.cls := hown
  have hl : lv_has ls 6 [(0, .ref a.1), (1, .int x1)] := hl
  refine lv_iload_n hx hb d_Mo_oneOperand_0 rfl (lv_at hl 1 rfl) ?_
  refine lv_bipush (v := 6) hx hb d_Mo_oneOperand_1 (by decide) ?_
  refine lv_ishr hx hb d_Mo_oneOperand_3 ?_
  refine lv_bipush (v := 15) hx hb d_Mo_oneOperand_4 (by decide) ?_
  refine lv_iand hx hb d_Mo_oneOperand_6 ?_
  refine lv_istore_n hx hb d_Mo_oneOperand_7 rfl hl (by decide) rfl (fun ls hl => ?_)
  have hl : lv_has ls 6 [(2, .int ((x1 >>> ((6 : Int32) &&& 31)) &&& 15)), (0, .ref a.1), (1, .int x1)] := hl
  refine lv_aload_n hx hb d_Mo_oneOperand_8 rfl (lv_at hl 1 rfl) ?_
  refine lv_iload_n hx hb d_Mo_oneOperand_9 rfl (lv_at hl 2 rfl) ?_
  refine lv_bipush (v := 63) hx hb d_Mo_oneOperand_10 (by decide) ?_
  refine lv_iand hx hb d_Mo_oneOperand_12 ?_
  refine lv_iconst (v := 0) hx hb d_Mo_oneOperand_13 (by decide) ?_
  refine cl_V (C := R_Mo) (k_Mo_address l D a hA u0 (x1 &&& 63) 0) ⟨hx, hb, hml, hown, hts⟩ (cwV 2 hts (gi_V t_564 t_566 t_39 t_66 t_567) rfl rfl rfl (by decide +kernel) ⟨Nat.le_of_ble_eq_true rfl, Nat.le_of_ble_eq_true rfl⟩) (va_recv (q0 := 0) (ci := 4) (q := (R_Mo, F_Mo, 10)) hK hP rfl rfl) hP hK hS rfl hl.1 rfl (Nat.le_of_ble_eq_true rfl) d_Mo_oneOperand_14 (nm_is (fun r14 u14 e14 f14 H locs hP hS => ?_))
  refine lv_istore_n hx hb d_Mo_oneOperand_17 rfl hl (by decide) rfl (fun ls hl => ?_)
  have hl : lv_has ls 6 [(3, .int r14), (2, .int ((x1 >>> ((6 : Int32) &&& 31)) &&& 15)), (0, .ref a.1), (1, .int x1)] := hl
  refine lv_aload_n hx hb d_Mo_oneOperand_18 rfl (lv_at hl 2 rfl) ?_
  refine lv_iload_n hx hb d_Mo_oneOperand_19 rfl (lv_at hl 0 rfl) ?_
  refine cl_V (C := R_Mo) (k_Mo_word l D a hA u14 r14) ⟨hx, hb, hml, hown, hts⟩ (cwV 1 hts (gi_V t_533 t_535 t_33 t_66 t_536) rfl rfl rfl (by decide +kernel) ⟨Nat.le_of_ble_eq_true rfl, Nat.le_of_ble_eq_true rfl⟩) (va_recv (q0 := 0) (ci := 4) (q := (R_Mo, F_Mo, 10)) hK hP rfl rfl) hP hK hS rfl hl.1 rfl (Nat.le_of_ble_eq_true rfl) d_Mo_oneOperand_20 (nm_i (fun r20 e20 H locs hP hS => ?_))
  refine lv_istore hx hb d_Mo_oneOperand_23 hl (by decide) rfl (fun ls hl => ?_)
  have hl : lv_has ls 6 [(4, .int r20), (3, .int r14), (2, .int ((x1 >>> ((6 : Int32) &&& 31)) &&& 15)), (0, .ref a.1), (1, .int x1)] := hl
  refine lv_iload_n hx hb d_Mo_oneOperand_25 rfl (lv_at hl 2 rfl) ?_
  refine lv_if_ne (tgt := 37) hx hb d_Mo_oneOperand_26 (by decide) (fun h26 => ?_) (fun h26 => ?_)
  · refine lv_iload_n hx hb d_Mo_oneOperand_37 rfl (lv_at hl 2 rfl) ?_
    refine lv_iconst (v := 1) hx hb d_Mo_oneOperand_38 (by decide) ?_
    refine lv_icmp_ne (tgt := 54) hx hb d_Mo_oneOperand_39 (by decide) (fun h39 => ?_) (fun h39 => ?_)
    · refine lv_iload_n hx hb d_Mo_oneOperand_54 rfl (lv_at hl 2 rfl) ?_
      refine lv_bipush (v := 10) hx hb d_Mo_oneOperand_55 (by decide) ?_
      refine lv_icmp_ne (tgt := 82) hx hb d_Mo_oneOperand_57 (by decide) (fun h57 => ?_) (fun h57 => ?_)
      · refine lv_iload_n hx hb d_Mo_oneOperand_82 rfl (lv_at hl 2 rfl) ?_
        refine lv_iconst (v := 5) hx hb d_Mo_oneOperand_83 (by decide) ?_
        refine lv_icmp_le (tgt := 152) hx hb d_Mo_oneOperand_84 (by decide) (fun h84 => ?_) (fun h84 => ?_)
        · refine lv_iload_n hx hb d_Mo_oneOperand_152 rfl (lv_at hl 2 rfl) ?_
          refine lv_bipush (v := 13) hx hb d_Mo_oneOperand_153 (by decide) ?_
          refine lv_icmp_ne (tgt := 210) hx hb d_Mo_oneOperand_155 (by decide) (fun h155 => ?_) (fun h155 => ?_)
          · refine lv_iload_n hx hb d_Mo_oneOperand_210 rfl (lv_at hl 2 rfl) ?_
            refine lv_iconst (v := 4) hx hb d_Mo_oneOperand_211 (by decide) ?_
            refine lv_icmp_eq (tgt := 220) hx hb d_Mo_oneOperand_212 (by decide) (fun h212 => ?_) (fun h212 => ?_)
            · refine lv_iload_n hx hb d_Mo_oneOperand_220 rfl (lv_at hl 2 rfl) ?_
              refine lv_iconst (v := 4) hx hb d_Mo_oneOperand_221 (by decide) ?_
              have hJ235 : ∀ (z235 : Int32), z235 = J_Mo_oneOperand_235 x1 r20 → W p l e rm_Mo_oneOperand s m args below meth c H locs 0 0 Q (F0 m 235 ls [.int z235]) := by
                intro z235 jz235
                refine lv_ldc (v := 65535) hx hb hown (hts _ (wm t_545)) d_Mo_oneOperand_235 ?_
                refine lv_iand hx hb d_Mo_oneOperand_237 ?_
                refine lv_istore hx hb d_Mo_oneOperand_238 hl (by decide) rfl (fun ls hl => ?_)
                have hl : lv_has ls 6 [(5, .int (z235 &&& 65535)), (4, .int r20), (3, .int r14), (2, .int ((x1 >>> ((6 : Int32) &&& 31)) &&& 15)), (0, .ref a.1), (1, .int x1)] := hl
                refine lv_aload_n hx hb d_Mo_oneOperand_240 rfl (lv_at hl 4 rfl) ?_
                refine lv_iload hx hb d_Mo_oneOperand_241 (lv_at hl 0 rfl) ?_
                refine cl_V (C := R_Mo) (k_Mo_test l D a hA u14 (z235 &&& 65535)) ⟨hx, hb, hml, hown, hts⟩ (cwV 1 hts (gi_V t_602 t_604 t_47 t_66 t_605) rfl rfl rfl (by decide +kernel) ⟨Nat.le_of_ble_eq_true rfl, Nat.le_of_ble_eq_true rfl⟩) (va_recv (q0 := 0) (ci := 4) (q := (R_Mo, F_Mo, 10)) hK hP rfl rfl) hP hK hS rfl hl.1 rfl (Nat.le_of_ble_eq_true rfl) d_Mo_oneOperand_243 (nm_s (fun u243 e243 H locs hP hS => ?_))
                refine lv_iload_n hx hb d_Mo_oneOperand_246 rfl (lv_at hl 3 rfl) ?_
                refine lv_iconst (v := 4) hx hb d_Mo_oneOperand_247 (by decide) ?_
                have hJ268 : ∀ (v268 : RSt) (H : Heap) (locs : List Loc), v268 = J_Mo_oneOperand_268 x1 r20 u243 → va_P D kl (mw a v268) H → va_S (FB a) s.heap H locs → W p l e rm_Mo_oneOperand s m args below meth c H locs 0 0 Q (F0 m 268 ls []) := by
                  intro v268 H locs jv268 hP hS
                  refine lv_iload_n hx hb d_Mo_oneOperand_268 rfl (lv_at hl 3 rfl) ?_
                  refine lv_iconst (v := 4) hx hb d_Mo_oneOperand_269 (by decide) ?_
                  have hJ292 : ∀ (v292 : RSt) (H : Heap) (locs : List Loc), v292 = J_Mo_oneOperand_292 x1 r20 v268 → va_P D kl (mw a v292) H → va_S (FB a) s.heap H locs → W p l e rm_Mo_oneOperand s m args below meth c H locs 0 0 Q (F0 m 292 ls []) := by
                    intro v292 H locs jv292 hP hS
                    refine lv_aload_n hx hb d_Mo_oneOperand_292 rfl (lv_at hl 4 rfl) ?_
                    refine lv_iload_n hx hb d_Mo_oneOperand_293 rfl (lv_at hl 2 rfl) ?_
                    refine lv_iload hx hb d_Mo_oneOperand_294 (lv_at hl 0 rfl) ?_
                    refine cl_V (C := R_Mo) (k_Mo_setWord l D a hA v292 r14 (z235 &&& 65535)) ⟨hx, hb, hml, hown, hts⟩ (cwV 2 hts (gi_V t_541 t_543 t_35 t_66 t_544) rfl rfl rfl (by decide +kernel) ⟨Nat.le_of_ble_eq_true rfl, Nat.le_of_ble_eq_true rfl⟩) (va_recv (q0 := 0) (ci := 4) (q := (R_Mo, F_Mo, 10)) hK hP rfl rfl) hP hK hS rfl hl.1 rfl (Nat.le_of_ble_eq_true rfl) d_Mo_oneOperand_296 (nm_s (fun u296 e296 H locs hP hS => ?_))
                    refine lv_goto (tgt := 338) hx hb d_Mo_oneOperand_299 (by decide) ?_
                    subst hQ
                    exact rt_v hx hb hr hlk (by simp only [C_Mo_oneOperand, ← e14, ← f14, ← e20, if_neg h26, if_neg h39, if_neg h57, if_pos h84, if_neg h155, if_pos h212, ← jz235, ← e243, ← jv268, ← jv292, ← e296]) hP hS d_Mo_oneOperand_338
                  refine lv_icmp_ne (tgt := 292) hx hb d_Mo_oneOperand_270 (by decide) (fun h270 => ?_) (fun h270 => ?_)
                  · exact hJ292 v268 _ _ (by simp only [J_Mo_oneOperand_292, if_neg h270]) hP hS
                  refine lv_aload_n hx hb d_Mo_oneOperand_273 rfl (lv_at hl 4 rfl) ?_
                  refine lv_sipush (v := 2048) hx hb d_Mo_oneOperand_274 (by decide) ?_
                  refine lv_iload hx hb d_Mo_oneOperand_277 (lv_at hl 1 rfl) ?_
                  refine lv_ldc (v := 32768) hx hb hown (hts _ (wm t_593)) d_Mo_oneOperand_279 ?_
                  have hJ289 : ∀ (z289 : Int32), z289 = J_Mo_oneOperand_289 r20 → W p l e rm_Mo_oneOperand s m args below meth c H locs 0 0 Q (F0 m 289 ls [.int z289, .int 2048, .ref a.1]) := by
                    intro z289 jz289
                    refine cl_V (C := R_Mo) (k_Mo_flag l D a hA v268 2048 z289) ⟨hx, hb, hml, hown, hts⟩ (cwV 2 hts (gi_V t_589 t_591 t_45 t_66 t_592) rfl rfl rfl (by decide +kernel) ⟨Nat.le_of_ble_eq_true rfl, Nat.le_of_ble_eq_true rfl⟩) (va_recv (q0 := 0) (ci := 4) (q := (R_Mo, F_Mo, 10)) hK hP rfl rfl) hP hK hS rfl hl.1 rfl (Nat.le_of_ble_eq_true rfl) d_Mo_oneOperand_289 (nm_s (fun u289 e289 H locs hP hS => ?_))
                    exact hJ292 u289 _ _ (by simp only [J_Mo_oneOperand_292, if_pos h270, ← jz289, ← e289]) hP hS
                  refine lv_icmp_ne (tgt := 288) hx hb d_Mo_oneOperand_281 (by decide) (fun h281 => ?_) (fun h281 => ?_)
                  · refine lv_iconst (v := 0) hx hb d_Mo_oneOperand_288 (by decide) ?_
                    exact hJ289 0 (by simp only [J_Mo_oneOperand_289, if_neg h281])
                  refine lv_iconst (v := 1) hx hb d_Mo_oneOperand_284 (by decide) ?_
                  refine lv_goto (tgt := 289) hx hb d_Mo_oneOperand_285 (by decide) ?_
                  exact hJ289 1 (by simp only [J_Mo_oneOperand_289, if_pos h281])
                refine lv_icmp_ne (tgt := 268) hx hb d_Mo_oneOperand_248 (by decide) (fun h248 => ?_) (fun h248 => ?_)
                · exact hJ268 u243 _ _ (by simp only [J_Mo_oneOperand_268, if_neg h248]) hP hS
                refine lv_aload_n hx hb d_Mo_oneOperand_251 rfl (lv_at hl 4 rfl) ?_
                refine lv_sipush (v := 4096) hx hb d_Mo_oneOperand_252 (by decide) ?_
                refine lv_iload hx hb d_Mo_oneOperand_255 (lv_at hl 1 rfl) ?_
                have hJ265 : ∀ (z265 : Int32), z265 = J_Mo_oneOperand_265 r20 → W p l e rm_Mo_oneOperand s m args below meth c H locs 0 0 Q (F0 m 265 ls [.int z265, .int 4096, .ref a.1]) := by
                  intro z265 jz265
                  refine cl_V (C := R_Mo) (k_Mo_flag l D a hA u243 4096 z265) ⟨hx, hb, hml, hown, hts⟩ (cwV 2 hts (gi_V t_589 t_591 t_45 t_66 t_592) rfl rfl rfl (by decide +kernel) ⟨Nat.le_of_ble_eq_true rfl, Nat.le_of_ble_eq_true rfl⟩) (va_recv (q0 := 0) (ci := 4) (q := (R_Mo, F_Mo, 10)) hK hP rfl rfl) hP hK hS rfl hl.1 rfl (Nat.le_of_ble_eq_true rfl) d_Mo_oneOperand_265 (nm_s (fun u265 e265 H locs hP hS => ?_))
                  exact hJ268 u265 _ _ (by simp only [J_Mo_oneOperand_268, if_pos h248, ← jz265, ← e265]) hP hS
                refine lv_if_ne (tgt := 264) hx hb d_Mo_oneOperand_257 (by decide) (fun h257 => ?_) (fun h257 => ?_)
                · refine lv_iconst (v := 0) hx hb d_Mo_oneOperand_264 (by decide) ?_
                  exact hJ265 0 (by simp only [J_Mo_oneOperand_265, if_neg h257])
                refine lv_iconst (v := 1) hx hb d_Mo_oneOperand_260 (by decide) ?_
                refine lv_goto (tgt := 265) hx hb d_Mo_oneOperand_261 (by decide) ?_
                exact hJ265 1 (by simp only [J_Mo_oneOperand_265, if_pos h257])
              refine lv_icmp_ne (tgt := 231) hx hb d_Mo_oneOperand_222 (by decide) (fun h222 => ?_) (fun h222 => ?_)
              · refine lv_iload hx hb d_Mo_oneOperand_231 (lv_at hl 0 rfl) ?_
                refine lv_iconst (v := (-1)) hx hb d_Mo_oneOperand_233 (by decide) ?_
                refine lv_ixor hx hb d_Mo_oneOperand_234 ?_
                exact hJ235 (r20 ^^^ (-1)) (by simp only [J_Mo_oneOperand_235, if_neg h222])
              refine lv_iload hx hb d_Mo_oneOperand_225 (lv_at hl 0 rfl) ?_
              refine lv_ineg hx hb d_Mo_oneOperand_227 ?_
              refine lv_goto (tgt := 235) hx hb d_Mo_oneOperand_228 (by decide) ?_
              exact hJ235 (-r20) (by simp only [J_Mo_oneOperand_235, if_pos h222])
            refine lv_iload_n hx hb d_Mo_oneOperand_215 rfl (lv_at hl 2 rfl) ?_
            refine lv_iconst (v := 5) hx hb d_Mo_oneOperand_216 (by decide) ?_
            refine lv_icmp_ne (tgt := 302) hx hb d_Mo_oneOperand_217 (by decide) (fun h217 => ?_) (fun h217 => ?_)
            · refine lv_aload_n hx hb d_Mo_oneOperand_302 rfl (lv_at hl 3 rfl) ?_
              refine lv_iload_n hx hb d_Mo_oneOperand_303 rfl (lv_at hl 1 rfl) ?_
              refine lv_iload_n hx hb d_Mo_oneOperand_304 rfl (lv_at hl 2 rfl) ?_
              refine lv_iconst (v := 3) hx hb d_Mo_oneOperand_305 (by decide) ?_
              have hJ335 : ∀ (z335 : Int32), z335 = J_Mo_oneOperand_335 x1 r20 → W p l e rm_Mo_oneOperand s m args below meth c H locs 0 0 Q (F0 m 335 ls [.int z335, .int r14, .ref a.1]) := by
                intro z335 jz335
                refine cl_V (C := R_Mo) (k_Mo_setWord l D a hA u14 r14 z335) ⟨hx, hb, hml, hown, hts⟩ (cwV 2 hts (gi_V t_541 t_543 t_35 t_66 t_544) rfl rfl rfl (by decide +kernel) ⟨Nat.le_of_ble_eq_true rfl, Nat.le_of_ble_eq_true rfl⟩) (va_recv (q0 := 0) (ci := 4) (q := (R_Mo, F_Mo, 10)) hK hP rfl rfl) hP hK hS rfl hl.1 rfl (Nat.le_of_ble_eq_true rfl) d_Mo_oneOperand_335 (nm_s (fun u335 e335 H locs hP hS => ?_))
                subst hQ
                exact rt_v hx hb hr hlk (by simp only [C_Mo_oneOperand, ← e14, ← f14, ← e20, if_neg h26, if_neg h39, if_neg h57, if_pos h84, if_neg h155, if_neg h212, if_neg h217, ← jz335, ← e335]) hP hS d_Mo_oneOperand_338
              refine lv_icmp_ne (tgt := 313) hx hb d_Mo_oneOperand_306 (by decide) (fun h306 => ?_) (fun h306 => ?_)
              · refine lv_iload_n hx hb d_Mo_oneOperand_313 rfl (lv_at hl 2 rfl) ?_
                refine lv_bipush (v := 12) hx hb d_Mo_oneOperand_314 (by decide) ?_
                refine lv_icmp_ne (tgt := 324) hx hb d_Mo_oneOperand_316 (by decide) (fun h316 => ?_) (fun h316 => ?_)
                · refine lv_iload hx hb d_Mo_oneOperand_324 (lv_at hl 0 rfl) ?_
                  refine lv_bipush (v := 8) hx hb d_Mo_oneOperand_326 (by decide) ?_
                  refine lv_ishr hx hb d_Mo_oneOperand_328 ?_
                  refine lv_iload hx hb d_Mo_oneOperand_329 (lv_at hl 0 rfl) ?_
                  refine lv_bipush (v := 8) hx hb d_Mo_oneOperand_331 (by decide) ?_
                  refine lv_ishl hx hb d_Mo_oneOperand_333 ?_
                  refine lv_ior hx hb d_Mo_oneOperand_334 ?_
                  exact hJ335 ((r20 >>> ((8 : Int32) &&& 31)) ||| (r20 <<< ((8 : Int32) &&& 31))) (by simp only [J_Mo_oneOperand_335, if_neg h306, if_neg h316])
                refine lv_ldc (v := 65535) hx hb hown (hts _ (wm t_545)) d_Mo_oneOperand_319 ?_
                refine lv_goto (tgt := 335) hx hb d_Mo_oneOperand_321 (by decide) ?_
                exact hJ335 65535 (by simp only [J_Mo_oneOperand_335, if_neg h306, if_pos h316])
              refine lv_iconst (v := 0) hx hb d_Mo_oneOperand_309 (by decide) ?_
              refine lv_goto (tgt := 335) hx hb d_Mo_oneOperand_310 (by decide) ?_
              exact hJ335 0 (by simp only [J_Mo_oneOperand_335, if_pos h306])
            refine lv_iload_n hx hb d_Mo_oneOperand_220 rfl (lv_at hl 2 rfl) ?_
            refine lv_iconst (v := 4) hx hb d_Mo_oneOperand_221 (by decide) ?_
            have hJ235 : ∀ (z235 : Int32), z235 = J_Mo_oneOperand_235 x1 r20 → W p l e rm_Mo_oneOperand s m args below meth c H locs 0 0 Q (F0 m 235 ls [.int z235]) := by
              intro z235 jz235
              refine lv_ldc (v := 65535) hx hb hown (hts _ (wm t_545)) d_Mo_oneOperand_235 ?_
              refine lv_iand hx hb d_Mo_oneOperand_237 ?_
              refine lv_istore hx hb d_Mo_oneOperand_238 hl (by decide) rfl (fun ls hl => ?_)
              have hl : lv_has ls 6 [(5, .int (z235 &&& 65535)), (4, .int r20), (3, .int r14), (2, .int ((x1 >>> ((6 : Int32) &&& 31)) &&& 15)), (0, .ref a.1), (1, .int x1)] := hl
              refine lv_aload_n hx hb d_Mo_oneOperand_240 rfl (lv_at hl 4 rfl) ?_
              refine lv_iload hx hb d_Mo_oneOperand_241 (lv_at hl 0 rfl) ?_
              refine cl_V (C := R_Mo) (k_Mo_test l D a hA u14 (z235 &&& 65535)) ⟨hx, hb, hml, hown, hts⟩ (cwV 1 hts (gi_V t_602 t_604 t_47 t_66 t_605) rfl rfl rfl (by decide +kernel) ⟨Nat.le_of_ble_eq_true rfl, Nat.le_of_ble_eq_true rfl⟩) (va_recv (q0 := 0) (ci := 4) (q := (R_Mo, F_Mo, 10)) hK hP rfl rfl) hP hK hS rfl hl.1 rfl (Nat.le_of_ble_eq_true rfl) d_Mo_oneOperand_243 (nm_s (fun u243 e243 H locs hP hS => ?_))
              refine lv_iload_n hx hb d_Mo_oneOperand_246 rfl (lv_at hl 3 rfl) ?_
              refine lv_iconst (v := 4) hx hb d_Mo_oneOperand_247 (by decide) ?_
              have hJ268 : ∀ (v268 : RSt) (H : Heap) (locs : List Loc), v268 = J_Mo_oneOperand_268 x1 r20 u243 → va_P D kl (mw a v268) H → va_S (FB a) s.heap H locs → W p l e rm_Mo_oneOperand s m args below meth c H locs 0 0 Q (F0 m 268 ls []) := by
                intro v268 H locs jv268 hP hS
                refine lv_iload_n hx hb d_Mo_oneOperand_268 rfl (lv_at hl 3 rfl) ?_
                refine lv_iconst (v := 4) hx hb d_Mo_oneOperand_269 (by decide) ?_
                have hJ292 : ∀ (v292 : RSt) (H : Heap) (locs : List Loc), v292 = J_Mo_oneOperand_292 x1 r20 v268 → va_P D kl (mw a v292) H → va_S (FB a) s.heap H locs → W p l e rm_Mo_oneOperand s m args below meth c H locs 0 0 Q (F0 m 292 ls []) := by
                  intro v292 H locs jv292 hP hS
                  refine lv_aload_n hx hb d_Mo_oneOperand_292 rfl (lv_at hl 4 rfl) ?_
                  refine lv_iload_n hx hb d_Mo_oneOperand_293 rfl (lv_at hl 2 rfl) ?_
                  refine lv_iload hx hb d_Mo_oneOperand_294 (lv_at hl 0 rfl) ?_
                  refine cl_V (C := R_Mo) (k_Mo_setWord l D a hA v292 r14 (z235 &&& 65535)) ⟨hx, hb, hml, hown, hts⟩ (cwV 2 hts (gi_V t_541 t_543 t_35 t_66 t_544) rfl rfl rfl (by decide +kernel) ⟨Nat.le_of_ble_eq_true rfl, Nat.le_of_ble_eq_true rfl⟩) (va_recv (q0 := 0) (ci := 4) (q := (R_Mo, F_Mo, 10)) hK hP rfl rfl) hP hK hS rfl hl.1 rfl (Nat.le_of_ble_eq_true rfl) d_Mo_oneOperand_296 (nm_s (fun u296 e296 H locs hP hS => ?_))
                  refine lv_goto (tgt := 338) hx hb d_Mo_oneOperand_299 (by decide) ?_
                  subst hQ
                  exact rt_v hx hb hr hlk (by simp only [C_Mo_oneOperand, ← e14, ← f14, ← e20, if_neg h26, if_neg h39, if_neg h57, if_pos h84, if_neg h155, if_neg h212, if_pos h217, ← jz235, ← e243, ← jv268, ← jv292, ← e296]) hP hS d_Mo_oneOperand_338
                refine lv_icmp_ne (tgt := 292) hx hb d_Mo_oneOperand_270 (by decide) (fun h270 => ?_) (fun h270 => ?_)
                · exact hJ292 v268 _ _ (by simp only [J_Mo_oneOperand_292, if_neg h270]) hP hS
                refine lv_aload_n hx hb d_Mo_oneOperand_273 rfl (lv_at hl 4 rfl) ?_
                refine lv_sipush (v := 2048) hx hb d_Mo_oneOperand_274 (by decide) ?_
                refine lv_iload hx hb d_Mo_oneOperand_277 (lv_at hl 1 rfl) ?_
                refine lv_ldc (v := 32768) hx hb hown (hts _ (wm t_593)) d_Mo_oneOperand_279 ?_
                have hJ289 : ∀ (z289 : Int32), z289 = J_Mo_oneOperand_289 r20 → W p l e rm_Mo_oneOperand s m args below meth c H locs 0 0 Q (F0 m 289 ls [.int z289, .int 2048, .ref a.1]) := by
                  intro z289 jz289
                  refine cl_V (C := R_Mo) (k_Mo_flag l D a hA v268 2048 z289) ⟨hx, hb, hml, hown, hts⟩ (cwV 2 hts (gi_V t_589 t_591 t_45 t_66 t_592) rfl rfl rfl (by decide +kernel) ⟨Nat.le_of_ble_eq_true rfl, Nat.le_of_ble_eq_true rfl⟩) (va_recv (q0 := 0) (ci := 4) (q := (R_Mo, F_Mo, 10)) hK hP rfl rfl) hP hK hS rfl hl.1 rfl (Nat.le_of_ble_eq_true rfl) d_Mo_oneOperand_289 (nm_s (fun u289 e289 H locs hP hS => ?_))
                  exact hJ292 u289 _ _ (by simp only [J_Mo_oneOperand_292, if_pos h270, ← jz289, ← e289]) hP hS
                refine lv_icmp_ne (tgt := 288) hx hb d_Mo_oneOperand_281 (by decide) (fun h281 => ?_) (fun h281 => ?_)
                · refine lv_iconst (v := 0) hx hb d_Mo_oneOperand_288 (by decide) ?_
                  exact hJ289 0 (by simp only [J_Mo_oneOperand_289, if_neg h281])
                refine lv_iconst (v := 1) hx hb d_Mo_oneOperand_284 (by decide) ?_
                refine lv_goto (tgt := 289) hx hb d_Mo_oneOperand_285 (by decide) ?_
                exact hJ289 1 (by simp only [J_Mo_oneOperand_289, if_pos h281])
              refine lv_icmp_ne (tgt := 268) hx hb d_Mo_oneOperand_248 (by decide) (fun h248 => ?_) (fun h248 => ?_)
              · exact hJ268 u243 _ _ (by simp only [J_Mo_oneOperand_268, if_neg h248]) hP hS
              refine lv_aload_n hx hb d_Mo_oneOperand_251 rfl (lv_at hl 4 rfl) ?_
              refine lv_sipush (v := 4096) hx hb d_Mo_oneOperand_252 (by decide) ?_
              refine lv_iload hx hb d_Mo_oneOperand_255 (lv_at hl 1 rfl) ?_
              have hJ265 : ∀ (z265 : Int32), z265 = J_Mo_oneOperand_265 r20 → W p l e rm_Mo_oneOperand s m args below meth c H locs 0 0 Q (F0 m 265 ls [.int z265, .int 4096, .ref a.1]) := by
                intro z265 jz265
                refine cl_V (C := R_Mo) (k_Mo_flag l D a hA u243 4096 z265) ⟨hx, hb, hml, hown, hts⟩ (cwV 2 hts (gi_V t_589 t_591 t_45 t_66 t_592) rfl rfl rfl (by decide +kernel) ⟨Nat.le_of_ble_eq_true rfl, Nat.le_of_ble_eq_true rfl⟩) (va_recv (q0 := 0) (ci := 4) (q := (R_Mo, F_Mo, 10)) hK hP rfl rfl) hP hK hS rfl hl.1 rfl (Nat.le_of_ble_eq_true rfl) d_Mo_oneOperand_265 (nm_s (fun u265 e265 H locs hP hS => ?_))
                exact hJ268 u265 _ _ (by simp only [J_Mo_oneOperand_268, if_pos h248, ← jz265, ← e265]) hP hS
              refine lv_if_ne (tgt := 264) hx hb d_Mo_oneOperand_257 (by decide) (fun h257 => ?_) (fun h257 => ?_)
              · refine lv_iconst (v := 0) hx hb d_Mo_oneOperand_264 (by decide) ?_
                exact hJ265 0 (by simp only [J_Mo_oneOperand_265, if_neg h257])
              refine lv_iconst (v := 1) hx hb d_Mo_oneOperand_260 (by decide) ?_
              refine lv_goto (tgt := 265) hx hb d_Mo_oneOperand_261 (by decide) ?_
              exact hJ265 1 (by simp only [J_Mo_oneOperand_265, if_pos h257])
            refine lv_icmp_ne (tgt := 231) hx hb d_Mo_oneOperand_222 (by decide) (fun h222 => ?_) (fun h222 => ?_)
            · refine lv_iload hx hb d_Mo_oneOperand_231 (lv_at hl 0 rfl) ?_
              refine lv_iconst (v := (-1)) hx hb d_Mo_oneOperand_233 (by decide) ?_
              refine lv_ixor hx hb d_Mo_oneOperand_234 ?_
              exact hJ235 (r20 ^^^ (-1)) (by simp only [J_Mo_oneOperand_235, if_neg h222])
            refine lv_iload hx hb d_Mo_oneOperand_225 (lv_at hl 0 rfl) ?_
            refine lv_ineg hx hb d_Mo_oneOperand_227 ?_
            refine lv_goto (tgt := 235) hx hb d_Mo_oneOperand_228 (by decide) ?_
            exact hJ235 (-r20) (by simp only [J_Mo_oneOperand_235, if_pos h222])
          refine lv_aload_n hx hb d_Mo_oneOperand_158 rfl (lv_at hl 3 rfl) ?_
          refine lv_iload hx hb d_Mo_oneOperand_159 (lv_at hl 0 rfl) ?_
          refine cl_V (C := R_Mo) (k_Mo_test l D a hA u14 r20) ⟨hx, hb, hml, hown, hts⟩ (cwV 1 hts (gi_V t_602 t_604 t_47 t_66 t_605) rfl rfl rfl (by decide +kernel) ⟨Nat.le_of_ble_eq_true rfl, Nat.le_of_ble_eq_true rfl⟩) (va_recv (q0 := 0) (ci := 4) (q := (R_Mo, F_Mo, 10)) hK hP rfl rfl) hP hK hS rfl hl.1 rfl (Nat.le_of_ble_eq_true rfl) d_Mo_oneOperand_161 (nm_s (fun u161 e161 H locs hP hS => ?_))
          refine lv_aload_n hx hb d_Mo_oneOperand_164 rfl (lv_at hl 3 rfl) ?_
          refine lv_sipush (v := 2048) hx hb d_Mo_oneOperand_165 (by decide) ?_
          refine lv_iload hx hb d_Mo_oneOperand_168 (lv_at hl 0 rfl) ?_
          refine lv_ldc (v := 32768) hx hb hown (hts _ (wm t_593)) d_Mo_oneOperand_170 ?_
          have hJ180 : ∀ (z180 : Int32), z180 = J_Mo_oneOperand_180 r20 → W p l e rm_Mo_oneOperand s m args below meth c H locs 0 0 Q (F0 m 180 ls [.int z180, .int 2048, .ref a.1]) := by
            intro z180 jz180
            refine cl_V (C := R_Mo) (k_Mo_flag l D a hA u161 2048 z180) ⟨hx, hb, hml, hown, hts⟩ (cwV 2 hts (gi_V t_589 t_591 t_45 t_66 t_592) rfl rfl rfl (by decide +kernel) ⟨Nat.le_of_ble_eq_true rfl, Nat.le_of_ble_eq_true rfl⟩) (va_recv (q0 := 0) (ci := 4) (q := (R_Mo, F_Mo, 10)) hK hP rfl rfl) hP hK hS rfl hl.1 rfl (Nat.le_of_ble_eq_true rfl) d_Mo_oneOperand_180 (nm_s (fun u180 e180 H locs hP hS => ?_))
            refine lv_aload_n hx hb d_Mo_oneOperand_183 rfl (lv_at hl 3 rfl) ?_
            refine lv_sipush (v := 4096) hx hb d_Mo_oneOperand_184 (by decide) ?_
            refine lv_iconst (v := 0) hx hb d_Mo_oneOperand_187 (by decide) ?_
            refine cl_V (C := R_Mo) (k_Mo_flag l D a hA u180 4096 0) ⟨hx, hb, hml, hown, hts⟩ (cwV 2 hts (gi_V t_589 t_591 t_45 t_66 t_592) rfl rfl rfl (by decide +kernel) ⟨Nat.le_of_ble_eq_true rfl, Nat.le_of_ble_eq_true rfl⟩) (va_recv (q0 := 0) (ci := 4) (q := (R_Mo, F_Mo, 10)) hK hP rfl rfl) hP hK hS rfl hl.1 rfl (Nat.le_of_ble_eq_true rfl) d_Mo_oneOperand_188 (nm_s (fun u188 e188 H locs hP hS => ?_))
            refine lv_iload hx hb d_Mo_oneOperand_191 (lv_at hl 0 rfl) ?_
            refine lv_sipush (v := 32767) hx hb d_Mo_oneOperand_193 (by decide) ?_
            refine lv_icmp_le (tgt := 338) hx hb d_Mo_oneOperand_196 (by decide) (fun h196 => ?_) (fun h196 => ?_)
            · subst hQ
              exact rt_v hx hb hr hlk (by simp only [C_Mo_oneOperand, ← e14, ← f14, ← e20, if_neg h26, if_neg h39, if_neg h57, if_pos h84, if_pos h155, ← e161, ← jz180, ← e180, ← e188, if_pos h196]) hP hS d_Mo_oneOperand_338
            refine lv_aload_n hx hb d_Mo_oneOperand_199 rfl (lv_at hl 3 rfl) ?_
            refine lv_iload_n hx hb d_Mo_oneOperand_200 rfl (lv_at hl 1 rfl) ?_
            refine lv_iload hx hb d_Mo_oneOperand_201 (lv_at hl 0 rfl) ?_
            refine lv_ineg hx hb d_Mo_oneOperand_203 ?_
            refine cl_V (C := R_Mo) (k_Mo_setWord l D a hA u188 r14 (-r20)) ⟨hx, hb, hml, hown, hts⟩ (cwV 2 hts (gi_V t_541 t_543 t_35 t_66 t_544) rfl rfl rfl (by decide +kernel) ⟨Nat.le_of_ble_eq_true rfl, Nat.le_of_ble_eq_true rfl⟩) (va_recv (q0 := 0) (ci := 4) (q := (R_Mo, F_Mo, 10)) hK hP rfl rfl) hP hK hS rfl hl.1 rfl (Nat.le_of_ble_eq_true rfl) d_Mo_oneOperand_204 (nm_s (fun u204 e204 H locs hP hS => ?_))
            refine lv_goto (tgt := 338) hx hb d_Mo_oneOperand_207 (by decide) ?_
            subst hQ
            exact rt_v hx hb hr hlk (by simp only [C_Mo_oneOperand, ← e14, ← f14, ← e20, if_neg h26, if_neg h39, if_neg h57, if_pos h84, if_pos h155, ← e161, ← jz180, ← e180, ← e188, if_neg h196, ← e204]) hP hS d_Mo_oneOperand_338
          refine lv_icmp_ne (tgt := 179) hx hb d_Mo_oneOperand_172 (by decide) (fun h172 => ?_) (fun h172 => ?_)
          · refine lv_iconst (v := 0) hx hb d_Mo_oneOperand_179 (by decide) ?_
            exact hJ180 0 (by simp only [J_Mo_oneOperand_180, if_neg h172])
          refine lv_iconst (v := 1) hx hb d_Mo_oneOperand_175 (by decide) ?_
          refine lv_goto (tgt := 180) hx hb d_Mo_oneOperand_176 (by decide) ?_
          exact hJ180 1 (by simp only [J_Mo_oneOperand_180, if_pos h172])
        refine lv_iload_n hx hb d_Mo_oneOperand_87 rfl (lv_at hl 2 rfl) ?_
        refine lv_bipush (v := 10) hx hb d_Mo_oneOperand_88 (by decide) ?_
        refine lv_icmp_ge (tgt := 152) hx hb d_Mo_oneOperand_90 (by decide) (fun h90 => ?_) (fun h90 => ?_)
        · refine lv_iload_n hx hb d_Mo_oneOperand_152 rfl (lv_at hl 2 rfl) ?_
          refine lv_bipush (v := 13) hx hb d_Mo_oneOperand_153 (by decide) ?_
          refine lv_icmp_ne (tgt := 210) hx hb d_Mo_oneOperand_155 (by decide) (fun h155 => ?_) (fun h155 => ?_)
          · refine lv_iload_n hx hb d_Mo_oneOperand_210 rfl (lv_at hl 2 rfl) ?_
            refine lv_iconst (v := 4) hx hb d_Mo_oneOperand_211 (by decide) ?_
            refine lv_icmp_eq (tgt := 220) hx hb d_Mo_oneOperand_212 (by decide) (fun h212 => ?_) (fun h212 => ?_)
            · refine lv_iload_n hx hb d_Mo_oneOperand_220 rfl (lv_at hl 2 rfl) ?_
              refine lv_iconst (v := 4) hx hb d_Mo_oneOperand_221 (by decide) ?_
              have hJ235 : ∀ (z235 : Int32), z235 = J_Mo_oneOperand_235 x1 r20 → W p l e rm_Mo_oneOperand s m args below meth c H locs 0 0 Q (F0 m 235 ls [.int z235]) := by
                intro z235 jz235
                refine lv_ldc (v := 65535) hx hb hown (hts _ (wm t_545)) d_Mo_oneOperand_235 ?_
                refine lv_iand hx hb d_Mo_oneOperand_237 ?_
                refine lv_istore hx hb d_Mo_oneOperand_238 hl (by decide) rfl (fun ls hl => ?_)
                have hl : lv_has ls 6 [(5, .int (z235 &&& 65535)), (4, .int r20), (3, .int r14), (2, .int ((x1 >>> ((6 : Int32) &&& 31)) &&& 15)), (0, .ref a.1), (1, .int x1)] := hl
                refine lv_aload_n hx hb d_Mo_oneOperand_240 rfl (lv_at hl 4 rfl) ?_
                refine lv_iload hx hb d_Mo_oneOperand_241 (lv_at hl 0 rfl) ?_
                refine cl_V (C := R_Mo) (k_Mo_test l D a hA u14 (z235 &&& 65535)) ⟨hx, hb, hml, hown, hts⟩ (cwV 1 hts (gi_V t_602 t_604 t_47 t_66 t_605) rfl rfl rfl (by decide +kernel) ⟨Nat.le_of_ble_eq_true rfl, Nat.le_of_ble_eq_true rfl⟩) (va_recv (q0 := 0) (ci := 4) (q := (R_Mo, F_Mo, 10)) hK hP rfl rfl) hP hK hS rfl hl.1 rfl (Nat.le_of_ble_eq_true rfl) d_Mo_oneOperand_243 (nm_s (fun u243 e243 H locs hP hS => ?_))
                refine lv_iload_n hx hb d_Mo_oneOperand_246 rfl (lv_at hl 3 rfl) ?_
                refine lv_iconst (v := 4) hx hb d_Mo_oneOperand_247 (by decide) ?_
                have hJ268 : ∀ (v268 : RSt) (H : Heap) (locs : List Loc), v268 = J_Mo_oneOperand_268 x1 r20 u243 → va_P D kl (mw a v268) H → va_S (FB a) s.heap H locs → W p l e rm_Mo_oneOperand s m args below meth c H locs 0 0 Q (F0 m 268 ls []) := by
                  intro v268 H locs jv268 hP hS
                  refine lv_iload_n hx hb d_Mo_oneOperand_268 rfl (lv_at hl 3 rfl) ?_
                  refine lv_iconst (v := 4) hx hb d_Mo_oneOperand_269 (by decide) ?_
                  have hJ292 : ∀ (v292 : RSt) (H : Heap) (locs : List Loc), v292 = J_Mo_oneOperand_292 x1 r20 v268 → va_P D kl (mw a v292) H → va_S (FB a) s.heap H locs → W p l e rm_Mo_oneOperand s m args below meth c H locs 0 0 Q (F0 m 292 ls []) := by
                    intro v292 H locs jv292 hP hS
                    refine lv_aload_n hx hb d_Mo_oneOperand_292 rfl (lv_at hl 4 rfl) ?_
                    refine lv_iload_n hx hb d_Mo_oneOperand_293 rfl (lv_at hl 2 rfl) ?_
                    refine lv_iload hx hb d_Mo_oneOperand_294 (lv_at hl 0 rfl) ?_
                    refine cl_V (C := R_Mo) (k_Mo_setWord l D a hA v292 r14 (z235 &&& 65535)) ⟨hx, hb, hml, hown, hts⟩ (cwV 2 hts (gi_V t_541 t_543 t_35 t_66 t_544) rfl rfl rfl (by decide +kernel) ⟨Nat.le_of_ble_eq_true rfl, Nat.le_of_ble_eq_true rfl⟩) (va_recv (q0 := 0) (ci := 4) (q := (R_Mo, F_Mo, 10)) hK hP rfl rfl) hP hK hS rfl hl.1 rfl (Nat.le_of_ble_eq_true rfl) d_Mo_oneOperand_296 (nm_s (fun u296 e296 H locs hP hS => ?_))
                    refine lv_goto (tgt := 338) hx hb d_Mo_oneOperand_299 (by decide) ?_
                    subst hQ
                    exact rt_v hx hb hr hlk (by simp only [C_Mo_oneOperand, ← e14, ← f14, ← e20, if_neg h26, if_neg h39, if_neg h57, if_neg h84, if_pos h90, if_neg h155, if_pos h212, ← jz235, ← e243, ← jv268, ← jv292, ← e296]) hP hS d_Mo_oneOperand_338
                  refine lv_icmp_ne (tgt := 292) hx hb d_Mo_oneOperand_270 (by decide) (fun h270 => ?_) (fun h270 => ?_)
                  · exact hJ292 v268 _ _ (by simp only [J_Mo_oneOperand_292, if_neg h270]) hP hS
                  refine lv_aload_n hx hb d_Mo_oneOperand_273 rfl (lv_at hl 4 rfl) ?_
                  refine lv_sipush (v := 2048) hx hb d_Mo_oneOperand_274 (by decide) ?_
                  refine lv_iload hx hb d_Mo_oneOperand_277 (lv_at hl 1 rfl) ?_
                  refine lv_ldc (v := 32768) hx hb hown (hts _ (wm t_593)) d_Mo_oneOperand_279 ?_
                  have hJ289 : ∀ (z289 : Int32), z289 = J_Mo_oneOperand_289 r20 → W p l e rm_Mo_oneOperand s m args below meth c H locs 0 0 Q (F0 m 289 ls [.int z289, .int 2048, .ref a.1]) := by
                    intro z289 jz289
                    refine cl_V (C := R_Mo) (k_Mo_flag l D a hA v268 2048 z289) ⟨hx, hb, hml, hown, hts⟩ (cwV 2 hts (gi_V t_589 t_591 t_45 t_66 t_592) rfl rfl rfl (by decide +kernel) ⟨Nat.le_of_ble_eq_true rfl, Nat.le_of_ble_eq_true rfl⟩) (va_recv (q0 := 0) (ci := 4) (q := (R_Mo, F_Mo, 10)) hK hP rfl rfl) hP hK hS rfl hl.1 rfl (Nat.le_of_ble_eq_true rfl) d_Mo_oneOperand_289 (nm_s (fun u289 e289 H locs hP hS => ?_))
                    exact hJ292 u289 _ _ (by simp only [J_Mo_oneOperand_292, if_pos h270, ← jz289, ← e289]) hP hS
                  refine lv_icmp_ne (tgt := 288) hx hb d_Mo_oneOperand_281 (by decide) (fun h281 => ?_) (fun h281 => ?_)
                  · refine lv_iconst (v := 0) hx hb d_Mo_oneOperand_288 (by decide) ?_
                    exact hJ289 0 (by simp only [J_Mo_oneOperand_289, if_neg h281])
                  refine lv_iconst (v := 1) hx hb d_Mo_oneOperand_284 (by decide) ?_
                  refine lv_goto (tgt := 289) hx hb d_Mo_oneOperand_285 (by decide) ?_
                  exact hJ289 1 (by simp only [J_Mo_oneOperand_289, if_pos h281])
                refine lv_icmp_ne (tgt := 268) hx hb d_Mo_oneOperand_248 (by decide) (fun h248 => ?_) (fun h248 => ?_)
                · exact hJ268 u243 _ _ (by simp only [J_Mo_oneOperand_268, if_neg h248]) hP hS
                refine lv_aload_n hx hb d_Mo_oneOperand_251 rfl (lv_at hl 4 rfl) ?_
                refine lv_sipush (v := 4096) hx hb d_Mo_oneOperand_252 (by decide) ?_
                refine lv_iload hx hb d_Mo_oneOperand_255 (lv_at hl 1 rfl) ?_
                have hJ265 : ∀ (z265 : Int32), z265 = J_Mo_oneOperand_265 r20 → W p l e rm_Mo_oneOperand s m args below meth c H locs 0 0 Q (F0 m 265 ls [.int z265, .int 4096, .ref a.1]) := by
                  intro z265 jz265
                  refine cl_V (C := R_Mo) (k_Mo_flag l D a hA u243 4096 z265) ⟨hx, hb, hml, hown, hts⟩ (cwV 2 hts (gi_V t_589 t_591 t_45 t_66 t_592) rfl rfl rfl (by decide +kernel) ⟨Nat.le_of_ble_eq_true rfl, Nat.le_of_ble_eq_true rfl⟩) (va_recv (q0 := 0) (ci := 4) (q := (R_Mo, F_Mo, 10)) hK hP rfl rfl) hP hK hS rfl hl.1 rfl (Nat.le_of_ble_eq_true rfl) d_Mo_oneOperand_265 (nm_s (fun u265 e265 H locs hP hS => ?_))
                  exact hJ268 u265 _ _ (by simp only [J_Mo_oneOperand_268, if_pos h248, ← jz265, ← e265]) hP hS
                refine lv_if_ne (tgt := 264) hx hb d_Mo_oneOperand_257 (by decide) (fun h257 => ?_) (fun h257 => ?_)
                · refine lv_iconst (v := 0) hx hb d_Mo_oneOperand_264 (by decide) ?_
                  exact hJ265 0 (by simp only [J_Mo_oneOperand_265, if_neg h257])
                refine lv_iconst (v := 1) hx hb d_Mo_oneOperand_260 (by decide) ?_
                refine lv_goto (tgt := 265) hx hb d_Mo_oneOperand_261 (by decide) ?_
                exact hJ265 1 (by simp only [J_Mo_oneOperand_265, if_pos h257])
              refine lv_icmp_ne (tgt := 231) hx hb d_Mo_oneOperand_222 (by decide) (fun h222 => ?_) (fun h222 => ?_)
              · refine lv_iload hx hb d_Mo_oneOperand_231 (lv_at hl 0 rfl) ?_
                refine lv_iconst (v := (-1)) hx hb d_Mo_oneOperand_233 (by decide) ?_
                refine lv_ixor hx hb d_Mo_oneOperand_234 ?_
                exact hJ235 (r20 ^^^ (-1)) (by simp only [J_Mo_oneOperand_235, if_neg h222])
              refine lv_iload hx hb d_Mo_oneOperand_225 (lv_at hl 0 rfl) ?_
              refine lv_ineg hx hb d_Mo_oneOperand_227 ?_
              refine lv_goto (tgt := 235) hx hb d_Mo_oneOperand_228 (by decide) ?_
              exact hJ235 (-r20) (by simp only [J_Mo_oneOperand_235, if_pos h222])
            refine lv_iload_n hx hb d_Mo_oneOperand_215 rfl (lv_at hl 2 rfl) ?_
            refine lv_iconst (v := 5) hx hb d_Mo_oneOperand_216 (by decide) ?_
            refine lv_icmp_ne (tgt := 302) hx hb d_Mo_oneOperand_217 (by decide) (fun h217 => ?_) (fun h217 => ?_)
            · refine lv_aload_n hx hb d_Mo_oneOperand_302 rfl (lv_at hl 3 rfl) ?_
              refine lv_iload_n hx hb d_Mo_oneOperand_303 rfl (lv_at hl 1 rfl) ?_
              refine lv_iload_n hx hb d_Mo_oneOperand_304 rfl (lv_at hl 2 rfl) ?_
              refine lv_iconst (v := 3) hx hb d_Mo_oneOperand_305 (by decide) ?_
              have hJ335 : ∀ (z335 : Int32), z335 = J_Mo_oneOperand_335 x1 r20 → W p l e rm_Mo_oneOperand s m args below meth c H locs 0 0 Q (F0 m 335 ls [.int z335, .int r14, .ref a.1]) := by
                intro z335 jz335
                refine cl_V (C := R_Mo) (k_Mo_setWord l D a hA u14 r14 z335) ⟨hx, hb, hml, hown, hts⟩ (cwV 2 hts (gi_V t_541 t_543 t_35 t_66 t_544) rfl rfl rfl (by decide +kernel) ⟨Nat.le_of_ble_eq_true rfl, Nat.le_of_ble_eq_true rfl⟩) (va_recv (q0 := 0) (ci := 4) (q := (R_Mo, F_Mo, 10)) hK hP rfl rfl) hP hK hS rfl hl.1 rfl (Nat.le_of_ble_eq_true rfl) d_Mo_oneOperand_335 (nm_s (fun u335 e335 H locs hP hS => ?_))
                subst hQ
                exact rt_v hx hb hr hlk (by simp only [C_Mo_oneOperand, ← e14, ← f14, ← e20, if_neg h26, if_neg h39, if_neg h57, if_neg h84, if_pos h90, if_neg h155, if_neg h212, if_neg h217, ← jz335, ← e335]) hP hS d_Mo_oneOperand_338
              refine lv_icmp_ne (tgt := 313) hx hb d_Mo_oneOperand_306 (by decide) (fun h306 => ?_) (fun h306 => ?_)
              · refine lv_iload_n hx hb d_Mo_oneOperand_313 rfl (lv_at hl 2 rfl) ?_
                refine lv_bipush (v := 12) hx hb d_Mo_oneOperand_314 (by decide) ?_
                refine lv_icmp_ne (tgt := 324) hx hb d_Mo_oneOperand_316 (by decide) (fun h316 => ?_) (fun h316 => ?_)
                · refine lv_iload hx hb d_Mo_oneOperand_324 (lv_at hl 0 rfl) ?_
                  refine lv_bipush (v := 8) hx hb d_Mo_oneOperand_326 (by decide) ?_
                  refine lv_ishr hx hb d_Mo_oneOperand_328 ?_
                  refine lv_iload hx hb d_Mo_oneOperand_329 (lv_at hl 0 rfl) ?_
                  refine lv_bipush (v := 8) hx hb d_Mo_oneOperand_331 (by decide) ?_
                  refine lv_ishl hx hb d_Mo_oneOperand_333 ?_
                  refine lv_ior hx hb d_Mo_oneOperand_334 ?_
                  exact hJ335 ((r20 >>> ((8 : Int32) &&& 31)) ||| (r20 <<< ((8 : Int32) &&& 31))) (by simp only [J_Mo_oneOperand_335, if_neg h306, if_neg h316])
                refine lv_ldc (v := 65535) hx hb hown (hts _ (wm t_545)) d_Mo_oneOperand_319 ?_
                refine lv_goto (tgt := 335) hx hb d_Mo_oneOperand_321 (by decide) ?_
                exact hJ335 65535 (by simp only [J_Mo_oneOperand_335, if_neg h306, if_pos h316])
              refine lv_iconst (v := 0) hx hb d_Mo_oneOperand_309 (by decide) ?_
              refine lv_goto (tgt := 335) hx hb d_Mo_oneOperand_310 (by decide) ?_
              exact hJ335 0 (by simp only [J_Mo_oneOperand_335, if_pos h306])
            refine lv_iload_n hx hb d_Mo_oneOperand_220 rfl (lv_at hl 2 rfl) ?_
            refine lv_iconst (v := 4) hx hb d_Mo_oneOperand_221 (by decide) ?_
            have hJ235 : ∀ (z235 : Int32), z235 = J_Mo_oneOperand_235 x1 r20 → W p l e rm_Mo_oneOperand s m args below meth c H locs 0 0 Q (F0 m 235 ls [.int z235]) := by
              intro z235 jz235
              refine lv_ldc (v := 65535) hx hb hown (hts _ (wm t_545)) d_Mo_oneOperand_235 ?_
              refine lv_iand hx hb d_Mo_oneOperand_237 ?_
              refine lv_istore hx hb d_Mo_oneOperand_238 hl (by decide) rfl (fun ls hl => ?_)
              have hl : lv_has ls 6 [(5, .int (z235 &&& 65535)), (4, .int r20), (3, .int r14), (2, .int ((x1 >>> ((6 : Int32) &&& 31)) &&& 15)), (0, .ref a.1), (1, .int x1)] := hl
              refine lv_aload_n hx hb d_Mo_oneOperand_240 rfl (lv_at hl 4 rfl) ?_
              refine lv_iload hx hb d_Mo_oneOperand_241 (lv_at hl 0 rfl) ?_
              refine cl_V (C := R_Mo) (k_Mo_test l D a hA u14 (z235 &&& 65535)) ⟨hx, hb, hml, hown, hts⟩ (cwV 1 hts (gi_V t_602 t_604 t_47 t_66 t_605) rfl rfl rfl (by decide +kernel) ⟨Nat.le_of_ble_eq_true rfl, Nat.le_of_ble_eq_true rfl⟩) (va_recv (q0 := 0) (ci := 4) (q := (R_Mo, F_Mo, 10)) hK hP rfl rfl) hP hK hS rfl hl.1 rfl (Nat.le_of_ble_eq_true rfl) d_Mo_oneOperand_243 (nm_s (fun u243 e243 H locs hP hS => ?_))
              refine lv_iload_n hx hb d_Mo_oneOperand_246 rfl (lv_at hl 3 rfl) ?_
              refine lv_iconst (v := 4) hx hb d_Mo_oneOperand_247 (by decide) ?_
              have hJ268 : ∀ (v268 : RSt) (H : Heap) (locs : List Loc), v268 = J_Mo_oneOperand_268 x1 r20 u243 → va_P D kl (mw a v268) H → va_S (FB a) s.heap H locs → W p l e rm_Mo_oneOperand s m args below meth c H locs 0 0 Q (F0 m 268 ls []) := by
                intro v268 H locs jv268 hP hS
                refine lv_iload_n hx hb d_Mo_oneOperand_268 rfl (lv_at hl 3 rfl) ?_
                refine lv_iconst (v := 4) hx hb d_Mo_oneOperand_269 (by decide) ?_
                have hJ292 : ∀ (v292 : RSt) (H : Heap) (locs : List Loc), v292 = J_Mo_oneOperand_292 x1 r20 v268 → va_P D kl (mw a v292) H → va_S (FB a) s.heap H locs → W p l e rm_Mo_oneOperand s m args below meth c H locs 0 0 Q (F0 m 292 ls []) := by
                  intro v292 H locs jv292 hP hS
                  refine lv_aload_n hx hb d_Mo_oneOperand_292 rfl (lv_at hl 4 rfl) ?_
                  refine lv_iload_n hx hb d_Mo_oneOperand_293 rfl (lv_at hl 2 rfl) ?_
                  refine lv_iload hx hb d_Mo_oneOperand_294 (lv_at hl 0 rfl) ?_
                  refine cl_V (C := R_Mo) (k_Mo_setWord l D a hA v292 r14 (z235 &&& 65535)) ⟨hx, hb, hml, hown, hts⟩ (cwV 2 hts (gi_V t_541 t_543 t_35 t_66 t_544) rfl rfl rfl (by decide +kernel) ⟨Nat.le_of_ble_eq_true rfl, Nat.le_of_ble_eq_true rfl⟩) (va_recv (q0 := 0) (ci := 4) (q := (R_Mo, F_Mo, 10)) hK hP rfl rfl) hP hK hS rfl hl.1 rfl (Nat.le_of_ble_eq_true rfl) d_Mo_oneOperand_296 (nm_s (fun u296 e296 H locs hP hS => ?_))
                  refine lv_goto (tgt := 338) hx hb d_Mo_oneOperand_299 (by decide) ?_
                  subst hQ
                  exact rt_v hx hb hr hlk (by simp only [C_Mo_oneOperand, ← e14, ← f14, ← e20, if_neg h26, if_neg h39, if_neg h57, if_neg h84, if_pos h90, if_neg h155, if_neg h212, if_pos h217, ← jz235, ← e243, ← jv268, ← jv292, ← e296]) hP hS d_Mo_oneOperand_338
                refine lv_icmp_ne (tgt := 292) hx hb d_Mo_oneOperand_270 (by decide) (fun h270 => ?_) (fun h270 => ?_)
                · exact hJ292 v268 _ _ (by simp only [J_Mo_oneOperand_292, if_neg h270]) hP hS
                refine lv_aload_n hx hb d_Mo_oneOperand_273 rfl (lv_at hl 4 rfl) ?_
                refine lv_sipush (v := 2048) hx hb d_Mo_oneOperand_274 (by decide) ?_
                refine lv_iload hx hb d_Mo_oneOperand_277 (lv_at hl 1 rfl) ?_
                refine lv_ldc (v := 32768) hx hb hown (hts _ (wm t_593)) d_Mo_oneOperand_279 ?_
                have hJ289 : ∀ (z289 : Int32), z289 = J_Mo_oneOperand_289 r20 → W p l e rm_Mo_oneOperand s m args below meth c H locs 0 0 Q (F0 m 289 ls [.int z289, .int 2048, .ref a.1]) := by
                  intro z289 jz289
                  refine cl_V (C := R_Mo) (k_Mo_flag l D a hA v268 2048 z289) ⟨hx, hb, hml, hown, hts⟩ (cwV 2 hts (gi_V t_589 t_591 t_45 t_66 t_592) rfl rfl rfl (by decide +kernel) ⟨Nat.le_of_ble_eq_true rfl, Nat.le_of_ble_eq_true rfl⟩) (va_recv (q0 := 0) (ci := 4) (q := (R_Mo, F_Mo, 10)) hK hP rfl rfl) hP hK hS rfl hl.1 rfl (Nat.le_of_ble_eq_true rfl) d_Mo_oneOperand_289 (nm_s (fun u289 e289 H locs hP hS => ?_))
                  exact hJ292 u289 _ _ (by simp only [J_Mo_oneOperand_292, if_pos h270, ← jz289, ← e289]) hP hS
                refine lv_icmp_ne (tgt := 288) hx hb d_Mo_oneOperand_281 (by decide) (fun h281 => ?_) (fun h281 => ?_)
                · refine lv_iconst (v := 0) hx hb d_Mo_oneOperand_288 (by decide) ?_
                  exact hJ289 0 (by simp only [J_Mo_oneOperand_289, if_neg h281])
                refine lv_iconst (v := 1) hx hb d_Mo_oneOperand_284 (by decide) ?_
                refine lv_goto (tgt := 289) hx hb d_Mo_oneOperand_285 (by decide) ?_
                exact hJ289 1 (by simp only [J_Mo_oneOperand_289, if_pos h281])
              refine lv_icmp_ne (tgt := 268) hx hb d_Mo_oneOperand_248 (by decide) (fun h248 => ?_) (fun h248 => ?_)
              · exact hJ268 u243 _ _ (by simp only [J_Mo_oneOperand_268, if_neg h248]) hP hS
              refine lv_aload_n hx hb d_Mo_oneOperand_251 rfl (lv_at hl 4 rfl) ?_
              refine lv_sipush (v := 4096) hx hb d_Mo_oneOperand_252 (by decide) ?_
              refine lv_iload hx hb d_Mo_oneOperand_255 (lv_at hl 1 rfl) ?_
              have hJ265 : ∀ (z265 : Int32), z265 = J_Mo_oneOperand_265 r20 → W p l e rm_Mo_oneOperand s m args below meth c H locs 0 0 Q (F0 m 265 ls [.int z265, .int 4096, .ref a.1]) := by
                intro z265 jz265
                refine cl_V (C := R_Mo) (k_Mo_flag l D a hA u243 4096 z265) ⟨hx, hb, hml, hown, hts⟩ (cwV 2 hts (gi_V t_589 t_591 t_45 t_66 t_592) rfl rfl rfl (by decide +kernel) ⟨Nat.le_of_ble_eq_true rfl, Nat.le_of_ble_eq_true rfl⟩) (va_recv (q0 := 0) (ci := 4) (q := (R_Mo, F_Mo, 10)) hK hP rfl rfl) hP hK hS rfl hl.1 rfl (Nat.le_of_ble_eq_true rfl) d_Mo_oneOperand_265 (nm_s (fun u265 e265 H locs hP hS => ?_))
                exact hJ268 u265 _ _ (by simp only [J_Mo_oneOperand_268, if_pos h248, ← jz265, ← e265]) hP hS
              refine lv_if_ne (tgt := 264) hx hb d_Mo_oneOperand_257 (by decide) (fun h257 => ?_) (fun h257 => ?_)
              · refine lv_iconst (v := 0) hx hb d_Mo_oneOperand_264 (by decide) ?_
                exact hJ265 0 (by simp only [J_Mo_oneOperand_265, if_neg h257])
              refine lv_iconst (v := 1) hx hb d_Mo_oneOperand_260 (by decide) ?_
              refine lv_goto (tgt := 265) hx hb d_Mo_oneOperand_261 (by decide) ?_
              exact hJ265 1 (by simp only [J_Mo_oneOperand_265, if_pos h257])
            refine lv_icmp_ne (tgt := 231) hx hb d_Mo_oneOperand_222 (by decide) (fun h222 => ?_) (fun h222 => ?_)
            · refine lv_iload hx hb d_Mo_oneOperand_231 (lv_at hl 0 rfl) ?_
              refine lv_iconst (v := (-1)) hx hb d_Mo_oneOperand_233 (by decide) ?_
              refine lv_ixor hx hb d_Mo_oneOperand_234 ?_
              exact hJ235 (r20 ^^^ (-1)) (by simp only [J_Mo_oneOperand_235, if_neg h222])
            refine lv_iload hx hb d_Mo_oneOperand_225 (lv_at hl 0 rfl) ?_
            refine lv_ineg hx hb d_Mo_oneOperand_227 ?_
            refine lv_goto (tgt := 235) hx hb d_Mo_oneOperand_228 (by decide) ?_
            exact hJ235 (-r20) (by simp only [J_Mo_oneOperand_235, if_pos h222])
          refine lv_aload_n hx hb d_Mo_oneOperand_158 rfl (lv_at hl 3 rfl) ?_
          refine lv_iload hx hb d_Mo_oneOperand_159 (lv_at hl 0 rfl) ?_
          refine cl_V (C := R_Mo) (k_Mo_test l D a hA u14 r20) ⟨hx, hb, hml, hown, hts⟩ (cwV 1 hts (gi_V t_602 t_604 t_47 t_66 t_605) rfl rfl rfl (by decide +kernel) ⟨Nat.le_of_ble_eq_true rfl, Nat.le_of_ble_eq_true rfl⟩) (va_recv (q0 := 0) (ci := 4) (q := (R_Mo, F_Mo, 10)) hK hP rfl rfl) hP hK hS rfl hl.1 rfl (Nat.le_of_ble_eq_true rfl) d_Mo_oneOperand_161 (nm_s (fun u161 e161 H locs hP hS => ?_))
          refine lv_aload_n hx hb d_Mo_oneOperand_164 rfl (lv_at hl 3 rfl) ?_
          refine lv_sipush (v := 2048) hx hb d_Mo_oneOperand_165 (by decide) ?_
          refine lv_iload hx hb d_Mo_oneOperand_168 (lv_at hl 0 rfl) ?_
          refine lv_ldc (v := 32768) hx hb hown (hts _ (wm t_593)) d_Mo_oneOperand_170 ?_
          have hJ180 : ∀ (z180 : Int32), z180 = J_Mo_oneOperand_180 r20 → W p l e rm_Mo_oneOperand s m args below meth c H locs 0 0 Q (F0 m 180 ls [.int z180, .int 2048, .ref a.1]) := by
            intro z180 jz180
            refine cl_V (C := R_Mo) (k_Mo_flag l D a hA u161 2048 z180) ⟨hx, hb, hml, hown, hts⟩ (cwV 2 hts (gi_V t_589 t_591 t_45 t_66 t_592) rfl rfl rfl (by decide +kernel) ⟨Nat.le_of_ble_eq_true rfl, Nat.le_of_ble_eq_true rfl⟩) (va_recv (q0 := 0) (ci := 4) (q := (R_Mo, F_Mo, 10)) hK hP rfl rfl) hP hK hS rfl hl.1 rfl (Nat.le_of_ble_eq_true rfl) d_Mo_oneOperand_180 (nm_s (fun u180 e180 H locs hP hS => ?_))
            refine lv_aload_n hx hb d_Mo_oneOperand_183 rfl (lv_at hl 3 rfl) ?_
            refine lv_sipush (v := 4096) hx hb d_Mo_oneOperand_184 (by decide) ?_
            refine lv_iconst (v := 0) hx hb d_Mo_oneOperand_187 (by decide) ?_
            refine cl_V (C := R_Mo) (k_Mo_flag l D a hA u180 4096 0) ⟨hx, hb, hml, hown, hts⟩ (cwV 2 hts (gi_V t_589 t_591 t_45 t_66 t_592) rfl rfl rfl (by decide +kernel) ⟨Nat.le_of_ble_eq_true rfl, Nat.le_of_ble_eq_true rfl⟩) (va_recv (q0 := 0) (ci := 4) (q := (R_Mo, F_Mo, 10)) hK hP rfl rfl) hP hK hS rfl hl.1 rfl (Nat.le_of_ble_eq_true rfl) d_Mo_oneOperand_188 (nm_s (fun u188 e188 H locs hP hS => ?_))
            refine lv_iload hx hb d_Mo_oneOperand_191 (lv_at hl 0 rfl) ?_
            refine lv_sipush (v := 32767) hx hb d_Mo_oneOperand_193 (by decide) ?_
            refine lv_icmp_le (tgt := 338) hx hb d_Mo_oneOperand_196 (by decide) (fun h196 => ?_) (fun h196 => ?_)
            · subst hQ
              exact rt_v hx hb hr hlk (by simp only [C_Mo_oneOperand, ← e14, ← f14, ← e20, if_neg h26, if_neg h39, if_neg h57, if_neg h84, if_pos h90, if_pos h155, ← e161, ← jz180, ← e180, ← e188, if_pos h196]) hP hS d_Mo_oneOperand_338
            refine lv_aload_n hx hb d_Mo_oneOperand_199 rfl (lv_at hl 3 rfl) ?_
            refine lv_iload_n hx hb d_Mo_oneOperand_200 rfl (lv_at hl 1 rfl) ?_
            refine lv_iload hx hb d_Mo_oneOperand_201 (lv_at hl 0 rfl) ?_
            refine lv_ineg hx hb d_Mo_oneOperand_203 ?_
            refine cl_V (C := R_Mo) (k_Mo_setWord l D a hA u188 r14 (-r20)) ⟨hx, hb, hml, hown, hts⟩ (cwV 2 hts (gi_V t_541 t_543 t_35 t_66 t_544) rfl rfl rfl (by decide +kernel) ⟨Nat.le_of_ble_eq_true rfl, Nat.le_of_ble_eq_true rfl⟩) (va_recv (q0 := 0) (ci := 4) (q := (R_Mo, F_Mo, 10)) hK hP rfl rfl) hP hK hS rfl hl.1 rfl (Nat.le_of_ble_eq_true rfl) d_Mo_oneOperand_204 (nm_s (fun u204 e204 H locs hP hS => ?_))
            refine lv_goto (tgt := 338) hx hb d_Mo_oneOperand_207 (by decide) ?_
            subst hQ
            exact rt_v hx hb hr hlk (by simp only [C_Mo_oneOperand, ← e14, ← f14, ← e20, if_neg h26, if_neg h39, if_neg h57, if_neg h84, if_pos h90, if_pos h155, ← e161, ← jz180, ← e180, ← e188, if_neg h196, ← e204]) hP hS d_Mo_oneOperand_338
          refine lv_icmp_ne (tgt := 179) hx hb d_Mo_oneOperand_172 (by decide) (fun h172 => ?_) (fun h172 => ?_)
          · refine lv_iconst (v := 0) hx hb d_Mo_oneOperand_179 (by decide) ?_
            exact hJ180 0 (by simp only [J_Mo_oneOperand_180, if_neg h172])
          refine lv_iconst (v := 1) hx hb d_Mo_oneOperand_175 (by decide) ?_
          refine lv_goto (tgt := 180) hx hb d_Mo_oneOperand_176 (by decide) ?_
          exact hJ180 1 (by simp only [J_Mo_oneOperand_180, if_pos h172])
        refine lv_aload_n hx hb d_Mo_oneOperand_93 rfl (lv_at hl 3 rfl) ?_
        refine lv_iload hx hb d_Mo_oneOperand_94 (lv_at hl 0 rfl) ?_
        refine lv_iload_n hx hb d_Mo_oneOperand_96 rfl (lv_at hl 2 rfl) ?_
        refine lv_bipush (v := 6) hx hb d_Mo_oneOperand_97 (by decide) ?_
        have hJ129 : ∀ (z129 : Int32), z129 = J_Mo_oneOperand_129 x1 → W p l e rm_Mo_oneOperand s m args below meth c H locs 0 0 Q (F0 m 129 ls [.int z129, .int r20, .ref a.1]) := by
          intro z129 jz129
          refine lv_iconst (v := 0) hx hb d_Mo_oneOperand_129 (by decide) ?_
          refine lv_iconst (v := 0) hx hb d_Mo_oneOperand_130 (by decide) ?_
          refine cl_V (C := R_Mo) (k_Mo_sum l D a hA u14 r20 z129 0 0) ⟨hx, hb, hml, hown, hts⟩ (cwV 4 hts (gi_V t_585 t_587 t_44 t_66 t_588) rfl rfl rfl (by decide +kernel) ⟨Nat.le_of_ble_eq_true rfl, Nat.le_of_ble_eq_true rfl⟩) (va_recv (q0 := 0) (ci := 4) (q := (R_Mo, F_Mo, 10)) hK hP rfl rfl) hP hK hS rfl hl.1 rfl (Nat.le_of_ble_eq_true rfl) d_Mo_oneOperand_131 (nm_is (fun r131 u131 e131 f131 H locs hP hS => ?_))
          refine lv_istore hx hb d_Mo_oneOperand_134 hl (by decide) rfl (fun ls hl => ?_)
          have hl : lv_has ls 6 [(5, .int r131), (4, .int r20), (3, .int r14), (2, .int ((x1 >>> ((6 : Int32) &&& 31)) &&& 15)), (0, .ref a.1), (1, .int x1)] := hl
          refine lv_aload_n hx hb d_Mo_oneOperand_136 rfl (lv_at hl 4 rfl) ?_
          refine lv_iload hx hb d_Mo_oneOperand_137 (lv_at hl 0 rfl) ?_
          refine cl_V (C := R_Mo) (k_Mo_test l D a hA u131 r131) ⟨hx, hb, hml, hown, hts⟩ (cwV 1 hts (gi_V t_602 t_604 t_47 t_66 t_605) rfl rfl rfl (by decide +kernel) ⟨Nat.le_of_ble_eq_true rfl, Nat.le_of_ble_eq_true rfl⟩) (va_recv (q0 := 0) (ci := 4) (q := (R_Mo, F_Mo, 10)) hK hP rfl rfl) hP hK hS rfl hl.1 rfl (Nat.le_of_ble_eq_true rfl) d_Mo_oneOperand_139 (nm_s (fun u139 e139 H locs hP hS => ?_))
          refine lv_aload_n hx hb d_Mo_oneOperand_142 rfl (lv_at hl 4 rfl) ?_
          refine lv_iload_n hx hb d_Mo_oneOperand_143 rfl (lv_at hl 2 rfl) ?_
          refine lv_iload hx hb d_Mo_oneOperand_144 (lv_at hl 0 rfl) ?_
          refine cl_V (C := R_Mo) (k_Mo_setWord l D a hA u139 r14 r131) ⟨hx, hb, hml, hown, hts⟩ (cwV 2 hts (gi_V t_541 t_543 t_35 t_66 t_544) rfl rfl rfl (by decide +kernel) ⟨Nat.le_of_ble_eq_true rfl, Nat.le_of_ble_eq_true rfl⟩) (va_recv (q0 := 0) (ci := 4) (q := (R_Mo, F_Mo, 10)) hK hP rfl rfl) hP hK hS rfl hl.1 rfl (Nat.le_of_ble_eq_true rfl) d_Mo_oneOperand_146 (nm_s (fun u146 e146 H locs hP hS => ?_))
          refine lv_goto (tgt := 338) hx hb d_Mo_oneOperand_149 (by decide) ?_
          subst hQ
          exact rt_v hx hb hr hlk (by simp only [C_Mo_oneOperand, ← e14, ← f14, ← e20, if_neg h26, if_neg h39, if_neg h57, if_neg h84, if_neg h90, ← jz129, ← e131, ← f131, ← e139, ← e146]) hP hS d_Mo_oneOperand_338
        refine lv_icmp_ne (tgt := 106) hx hb d_Mo_oneOperand_99 (by decide) (fun h99 => ?_) (fun h99 => ?_)
        · refine lv_iload_n hx hb d_Mo_oneOperand_106 rfl (lv_at hl 2 rfl) ?_
          refine lv_bipush (v := 7) hx hb d_Mo_oneOperand_107 (by decide) ?_
          refine lv_icmp_ne (tgt := 116) hx hb d_Mo_oneOperand_109 (by decide) (fun h109 => ?_) (fun h109 => ?_)
          · refine lv_iload_n hx hb d_Mo_oneOperand_116 rfl (lv_at hl 2 rfl) ?_
            refine lv_bipush (v := 8) hx hb d_Mo_oneOperand_117 (by decide) ?_
            refine lv_icmp_ne (tgt := 127) hx hb d_Mo_oneOperand_119 (by decide) (fun h119 => ?_) (fun h119 => ?_)
            · refine lv_ldc (v := 65534) hx hb hown (hts _ (wm t_648)) d_Mo_oneOperand_127 ?_
              exact hJ129 65534 (by simp only [J_Mo_oneOperand_129, if_neg h99, if_neg h109, if_neg h119])
            refine lv_ldc (v := 65535) hx hb hown (hts _ (wm t_545)) d_Mo_oneOperand_122 ?_
            refine lv_goto (tgt := 129) hx hb d_Mo_oneOperand_124 (by decide) ?_
            exact hJ129 65535 (by simp only [J_Mo_oneOperand_129, if_neg h99, if_neg h109, if_pos h119])
          refine lv_iconst (v := 2) hx hb d_Mo_oneOperand_112 (by decide) ?_
          refine lv_goto (tgt := 129) hx hb d_Mo_oneOperand_113 (by decide) ?_
          exact hJ129 2 (by simp only [J_Mo_oneOperand_129, if_neg h99, if_pos h109])
        refine lv_iconst (v := 1) hx hb d_Mo_oneOperand_102 (by decide) ?_
        refine lv_goto (tgt := 129) hx hb d_Mo_oneOperand_103 (by decide) ?_
        exact hJ129 1 (by simp only [J_Mo_oneOperand_129, if_pos h99])
      refine lv_aload_n hx hb d_Mo_oneOperand_60 rfl (lv_at hl 3 rfl) ?_
      refine lv_bipush (v := 11) hx hb d_Mo_oneOperand_61 (by decide) ?_
      refine lv_aload_n hx hb d_Mo_oneOperand_63 rfl (lv_at hl 3 rfl) ?_
      refine va_get (D := D) (ci := 4) (v := .int u14.2.2.2.2.1) (C := R_Mo) (T := F_Mo) (N := 10) hx hb hts (fun w h => wm (ui_Mo w h)) hown hK hP 0 rfl rfl 4 (by decide) (hts _ (wm t_492)) (fun _ h9 => h9) rfl d_Mo_oneOperand_64 ?_
      refine cl_V (C := R_Mo) (k_Mo_setRegister l D a hA u14 11 u14.2.2.2.2.1) ⟨hx, hb, hml, hown, hts⟩ (cwV 2 hts (gi_V t_537 t_539 t_34 t_66 t_540) rfl rfl rfl (by decide +kernel) ⟨Nat.le_of_ble_eq_true rfl, Nat.le_of_ble_eq_true rfl⟩) (va_recv (q0 := 0) (ci := 4) (q := (R_Mo, F_Mo, 10)) hK hP rfl rfl) hP hK hS rfl hl.1 rfl (Nat.le_of_ble_eq_true rfl) d_Mo_oneOperand_67 (nm_s (fun u67 e67 H locs hP hS => ?_))
      refine lv_aload_n hx hb d_Mo_oneOperand_70 rfl (lv_at hl 3 rfl) ?_
      refine lv_iload_n hx hb d_Mo_oneOperand_71 rfl (lv_at hl 1 rfl) ?_
      refine lv_sipush (v := 1022) hx hb d_Mo_oneOperand_72 (by decide) ?_
      refine lv_iand hx hb d_Mo_oneOperand_75 ?_
      refine va_put (D := D) (ci := 4) (v := .int (r14 &&& 1022)) (ty := .int) (C := R_Mo) (T := F_Mo) (N := 10) hx hb hts (fun w h => wm (ui_Mo w h)) ft_Mo ft_Mo_ok fn_Mo hown hK hP (dd_R hA _) hS 0 rfl rfl 4 (by decide) (hts _ (wm t_492)) (fun _ h9 => h9) rfl (by decide +kernel) rfl rfl (Nat.le_of_ble_eq_true rfl) d_Mo_oneOperand_76 (fun H locs hP _ hS => ?_)
      have hP : va_P D kl (mw a (u67.1, u67.2.1, u67.2.2.1, u67.2.2.2.1, (r14 &&& 1022), u67.2.2.2.2.2.1, u67.2.2.2.2.2.2.1, u67.2.2.2.2.2.2.2.1, u67.2.2.2.2.2.2.2.2.1, u67.2.2.2.2.2.2.2.2.2)) H := hP
      refine lv_goto (tgt := 338) hx hb d_Mo_oneOperand_79 (by decide) ?_
      subst hQ
      exact rt_v hx hb hr hlk (by simp only [C_Mo_oneOperand, ← e14, ← f14, ← e20, if_neg h26, if_neg h39, if_pos h57, ← e67]) hP hS d_Mo_oneOperand_338
    refine lv_aload_n hx hb d_Mo_oneOperand_42 rfl (lv_at hl 3 rfl) ?_
    refine lv_iload_n hx hb d_Mo_oneOperand_43 rfl (lv_at hl 1 rfl) ?_
    refine lv_sipush (v := 1022) hx hb d_Mo_oneOperand_44 (by decide) ?_
    refine lv_iand hx hb d_Mo_oneOperand_47 ?_
    refine va_put (D := D) (ci := 4) (v := .int (r14 &&& 1022)) (ty := .int) (C := R_Mo) (T := F_Mo) (N := 10) hx hb hts (fun w h => wm (ui_Mo w h)) ft_Mo ft_Mo_ok fn_Mo hown hK hP (dd_R hA _) hS 0 rfl rfl 4 (by decide) (hts _ (wm t_492)) (fun _ h9 => h9) rfl (by decide +kernel) rfl rfl (Nat.le_of_ble_eq_true rfl) d_Mo_oneOperand_48 (fun H locs hP _ hS => ?_)
    have hP : va_P D kl (mw a (u14.1, u14.2.1, u14.2.2.1, u14.2.2.2.1, (r14 &&& 1022), u14.2.2.2.2.2.1, u14.2.2.2.2.2.2.1, u14.2.2.2.2.2.2.2.1, u14.2.2.2.2.2.2.2.2.1, u14.2.2.2.2.2.2.2.2.2)) H := hP
    refine lv_goto (tgt := 338) hx hb d_Mo_oneOperand_51 (by decide) ?_
    subst hQ
    exact rt_v hx hb hr hlk (by simp only [C_Mo_oneOperand, ← e14, ← f14, ← e20, if_neg h26, if_pos h39]) hP hS d_Mo_oneOperand_338
  refine lv_aload_n hx hb d_Mo_oneOperand_29 rfl (lv_at hl 3 rfl) ?_
  refine lv_iload_n hx hb d_Mo_oneOperand_30 rfl (lv_at hl 1 rfl) ?_
  refine cl_V (C := R_Mo) (k_Mo_change l D a hA u14 r14) ⟨hx, hb, hml, hown, hts⟩ (cwV 1 hts (gi_V t_529 t_531 t_32 t_66 t_532) rfl rfl rfl (by decide +kernel) ⟨Nat.le_of_ble_eq_true rfl, Nat.le_of_ble_eq_true rfl⟩) (va_recv (q0 := 0) (ci := 4) (q := (R_Mo, F_Mo, 10)) hK hP rfl rfl) hP hK hS rfl hl.1 rfl (Nat.le_of_ble_eq_true rfl) d_Mo_oneOperand_31 (nm_s (fun u31 e31 H locs hP hS => ?_))
  refine lv_goto (tgt := 338) hx hb d_Mo_oneOperand_34 (by decide) ?_
  subst hQ
  exact rt_v hx hb hr hlk (by simp only [C_Mo_oneOperand, ← e14, ← f14, ← e20, if_pos h26, ← e31]) hP hS d_Mo_oneOperand_338
set_option maxHeartbeats 4000000 in
set_option maxRecDepth 100000 in
theorem k_Mo_immediate (l : Launch) (D : va_G) (a : RAd) (hA : ApR a) (u0 : RSt) (x1 : Int32) (x2 : Int32) : MC kl (mw a) (FB a) (tyR a) l D y_Mo_immediate b_Mo_immediate 6 none rm_Mo_immediate [.ref a.1, .int x1, .int x2] u0 none (C_Mo_immediate u0 x1 x2) := by
  refine MC.mk (by decide) (Nat.le_of_ble_eq_true rfl) ?_
  intro p e s m below meth c ls Q args H locs hx hb hr hml hown hts hlk hl hP hK hS hQ
  have hown : s.vm.findClass R_Mo = some m.cls := hown
  have hl : lv_has ls 6 [(0, .ref a.1), (1, .int x1), (2, .int x2)] := hl
  refine lv_aload_n hx hb d_Mo_immediate_0 rfl (lv_at hl 0 rfl) ?_
  refine cl_V (C := R_Mo) (k_Mo_next l D a hA u0) ⟨hx, hb, hml, hown, hts⟩ (cwV 0 hts (gi_V t_554 t_556 t_38 t_66 t_557) rfl rfl rfl (by decide +kernel) ⟨Nat.le_of_ble_eq_true rfl, Nat.le_of_ble_eq_true rfl⟩) (va_recv (q0 := 0) (ci := 4) (q := (R_Mo, F_Mo, 10)) hK hP rfl rfl) hP hK hS rfl hl.1 rfl (Nat.le_of_ble_eq_true rfl) d_Mo_immediate_1 (nm_is (fun r1 u1 e1 f1 H locs hP hS => ?_))
  refine lv_istore_n hx hb d_Mo_immediate_4 rfl hl (by decide) rfl (fun ls hl => ?_)
  have hl : lv_has ls 6 [(3, .int r1), (0, .ref a.1), (1, .int x1), (2, .int x2)] := hl
  refine lv_aload_n hx hb d_Mo_immediate_5 rfl (lv_at hl 1 rfl) ?_
  refine lv_iload_n hx hb d_Mo_immediate_6 rfl (lv_at hl 3 rfl) ?_
  refine cl_V (C := R_Mo) (k_Mo_register l D a hA u1 x2) ⟨hx, hb, hml, hown, hts⟩ (cwV 1 hts (gi_V t_568 t_570 t_40 t_66 t_571) rfl rfl rfl (by decide +kernel) ⟨Nat.le_of_ble_eq_true rfl, Nat.le_of_ble_eq_true rfl⟩) (va_recv (q0 := 0) (ci := 4) (q := (R_Mo, F_Mo, 10)) hK hP rfl rfl) hP hK hS rfl hl.1 rfl (Nat.le_of_ble_eq_true rfl) d_Mo_immediate_7 (nm_i (fun r7 e7 H locs hP hS => ?_))
  refine lv_istore hx hb d_Mo_immediate_10 hl (by decide) rfl (fun ls hl => ?_)
  have hl : lv_has ls 6 [(4, .int r7), (3, .int r1), (0, .ref a.1), (1, .int x1), (2, .int x2)] := hl
  refine lv_iload_n hx hb d_Mo_immediate_12 rfl (lv_at hl 3 rfl) ?_
  refine lv_bipush (v := 7) hx hb d_Mo_immediate_13 (by decide) ?_
  refine lv_icmp_ne (tgt := 30) hx hb d_Mo_immediate_15 (by decide) (fun h15 => ?_) (fun h15 => ?_)
  · refine lv_iload_n hx hb d_Mo_immediate_30 rfl (lv_at hl 3 rfl) ?_
    refine lv_bipush (v := 8) hx hb d_Mo_immediate_31 (by decide) ?_
    refine lv_icmp_ne (tgt := 44) hx hb d_Mo_immediate_33 (by decide) (fun h33 => ?_) (fun h33 => ?_)
    · refine lv_iload_n hx hb d_Mo_immediate_44 rfl (lv_at hl 3 rfl) ?_
      refine lv_iconst (v := 4) hx hb d_Mo_immediate_45 (by decide) ?_
      refine lv_icmp_ne (tgt := 59) hx hb d_Mo_immediate_46 (by decide) (fun h46 => ?_) (fun h46 => ?_)
      · refine lv_iload_n hx hb d_Mo_immediate_59 rfl (lv_at hl 3 rfl) ?_
        have hJ100 : ∀ (z100 : Int32) (v100 : RSt) (H : Heap) (locs : List Loc), z100 = (J_Mo_immediate_100 x1 r1 u1 r7).1 → v100 = (J_Mo_immediate_100 x1 r1 u1 r7).2 → va_P D kl (mw a v100) H → va_S (FB a) s.heap H locs → W p l e rm_Mo_immediate s m args below meth c H locs 0 0 Q (F0 m 100 ls [.int z100]) := by
          intro z100 v100 H locs jz100 jv100 hP hS
          refine lv_istore hx hb d_Mo_immediate_100 hl (by decide) rfl (fun ls hl => ?_)
          have hl : lv_has ls 6 [(5, .int z100), (4, .int r7), (3, .int r1), (0, .ref a.1), (1, .int x1), (2, .int x2)] := hl
          refine lv_aload_n hx hb d_Mo_immediate_102 rfl (lv_at hl 3 rfl) ?_
          refine lv_iload hx hb d_Mo_immediate_103 (lv_at hl 0 rfl) ?_
          refine cl_V (C := R_Mo) (k_Mo_test l D a hA v100 z100) ⟨hx, hb, hml, hown, hts⟩ (cwV 1 hts (gi_V t_602 t_604 t_47 t_66 t_605) rfl rfl rfl (by decide +kernel) ⟨Nat.le_of_ble_eq_true rfl, Nat.le_of_ble_eq_true rfl⟩) (va_recv (q0 := 0) (ci := 4) (q := (R_Mo, F_Mo, 10)) hK hP rfl rfl) hP hK hS rfl hl.1 rfl (Nat.le_of_ble_eq_true rfl) d_Mo_immediate_105 (nm_s (fun u105 e105 H locs hP hS => ?_))
          refine lv_aload_n hx hb d_Mo_immediate_108 rfl (lv_at hl 3 rfl) ?_
          refine lv_iload_n hx hb d_Mo_immediate_109 rfl (lv_at hl 5 rfl) ?_
          refine lv_iload hx hb d_Mo_immediate_110 (lv_at hl 0 rfl) ?_
          refine cl_V (C := R_Mo) (k_Mo_setRegister l D a hA u105 x2 z100) ⟨hx, hb, hml, hown, hts⟩ (cwV 2 hts (gi_V t_537 t_539 t_34 t_66 t_540) rfl rfl rfl (by decide +kernel) ⟨Nat.le_of_ble_eq_true rfl, Nat.le_of_ble_eq_true rfl⟩) (va_recv (q0 := 0) (ci := 4) (q := (R_Mo, F_Mo, 10)) hK hP rfl rfl) hP hK hS rfl hl.1 rfl (Nat.le_of_ble_eq_true rfl) d_Mo_immediate_112 (nm_s (fun u112 e112 H locs hP hS => ?_))
          subst hQ
          exact rt_v hx hb hr hlk (by simp only [C_Mo_immediate, ← e1, ← f1, ← e7, if_neg h15, if_neg h33, if_neg h46, ← jz100, ← jv100, ← e105, ← e112]) hP hS d_Mo_immediate_115
        refine lv_if_ne (tgt := 67) hx hb d_Mo_immediate_60 (by decide) (fun h60 => ?_) (fun h60 => ?_)
        · refine lv_iload_n hx hb d_Mo_immediate_67 rfl (lv_at hl 3 rfl) ?_
          refine lv_iconst (v := 1) hx hb d_Mo_immediate_68 (by decide) ?_
          refine lv_icmp_ne (tgt := 84) hx hb d_Mo_immediate_69 (by decide) (fun h69 => ?_) (fun h69 => ?_)
          · refine lv_iload_n hx hb d_Mo_immediate_84 rfl (lv_at hl 3 rfl) ?_
            refine lv_iconst (v := 2) hx hb d_Mo_immediate_85 (by decide) ?_
            refine lv_icmp_ne (tgt := 96) hx hb d_Mo_immediate_86 (by decide) (fun h86 => ?_) (fun h86 => ?_)
            · refine lv_iload hx hb d_Mo_immediate_96 (lv_at hl 0 rfl) ?_
              refine lv_iload_n hx hb d_Mo_immediate_98 rfl (lv_at hl 1 rfl) ?_
              refine lv_ior hx hb d_Mo_immediate_99 ?_
              exact hJ100 (r7 ||| r1) u1 _ _ (by simp only [J_Mo_immediate_100, if_neg h60, if_neg h69, if_neg h86]) (by simp only [J_Mo_immediate_100, if_neg h60, if_neg h69, if_neg h86]) hP hS
            refine lv_iload hx hb d_Mo_immediate_89 (lv_at hl 0 rfl) ?_
            refine lv_iload_n hx hb d_Mo_immediate_91 rfl (lv_at hl 1 rfl) ?_
            refine lv_iand hx hb d_Mo_immediate_92 ?_
            refine lv_goto (tgt := 100) hx hb d_Mo_immediate_93 (by decide) ?_
            exact hJ100 (r7 &&& r1) u1 _ _ (by simp only [J_Mo_immediate_100, if_neg h60, if_neg h69, if_pos h86]) (by simp only [J_Mo_immediate_100, if_neg h60, if_neg h69, if_pos h86]) hP hS
          refine lv_aload_n hx hb d_Mo_immediate_72 rfl (lv_at hl 2 rfl) ?_
          refine lv_iload hx hb d_Mo_immediate_73 (lv_at hl 0 rfl) ?_
          refine lv_iload_n hx hb d_Mo_immediate_75 rfl (lv_at hl 1 rfl) ?_
          refine lv_iconst (v := 0) hx hb d_Mo_immediate_76 (by decide) ?_
          refine lv_iconst (v := 0) hx hb d_Mo_immediate_77 (by decide) ?_
          refine cl_V (C := R_Mo) (k_Mo_sum l D a hA u1 r7 r1 0 0) ⟨hx, hb, hml, hown, hts⟩ (cwV 4 hts (gi_V t_585 t_587 t_44 t_66 t_588) rfl rfl rfl (by decide +kernel) ⟨Nat.le_of_ble_eq_true rfl, Nat.le_of_ble_eq_true rfl⟩) (va_recv (q0 := 0) (ci := 4) (q := (R_Mo, F_Mo, 10)) hK hP rfl rfl) hP hK hS rfl hl.1 rfl (Nat.le_of_ble_eq_true rfl) d_Mo_immediate_78 (nm_is (fun r78 u78 e78 f78 H locs hP hS => ?_))
          refine lv_goto (tgt := 100) hx hb d_Mo_immediate_81 (by decide) ?_
          exact hJ100 r78 u78 _ _ (by simp only [J_Mo_immediate_100, if_neg h60, if_pos h69, ← e78, ← f78]) (by simp only [J_Mo_immediate_100, if_neg h60, if_pos h69, ← e78, ← f78]) hP hS
        refine lv_iload_n hx hb d_Mo_immediate_63 rfl (lv_at hl 1 rfl) ?_
        refine lv_goto (tgt := 100) hx hb d_Mo_immediate_64 (by decide) ?_
        exact hJ100 r1 u1 _ _ (by simp only [J_Mo_immediate_100, if_pos h60]) (by simp only [J_Mo_immediate_100, if_pos h60]) hP hS
      refine lv_aload_n hx hb d_Mo_immediate_49 rfl (lv_at hl 2 rfl) ?_
      refine lv_iload hx hb d_Mo_immediate_50 (lv_at hl 0 rfl) ?_
      refine lv_iload_n hx hb d_Mo_immediate_52 rfl (lv_at hl 1 rfl) ?_
      refine cl_V (C := R_Mo) (k_Mo_compare l D a hA u1 r7 r1) ⟨hx, hb, hml, hown, hts⟩ (cwV 2 hts (gi_V t_594 t_596 t_46 t_66 t_597) rfl rfl rfl (by decide +kernel) ⟨Nat.le_of_ble_eq_true rfl, Nat.le_of_ble_eq_true rfl⟩) (va_recv (q0 := 0) (ci := 4) (q := (R_Mo, F_Mo, 10)) hK hP rfl rfl) hP hK hS rfl hl.1 rfl (Nat.le_of_ble_eq_true rfl) d_Mo_immediate_53 (nm_s (fun u53 e53 H locs hP hS => ?_))
      refine lv_goto (tgt := 115) hx hb d_Mo_immediate_56 (by decide) ?_
      subst hQ
      exact rt_v hx hb hr hlk (by simp only [C_Mo_immediate, ← e1, ← f1, ← e7, if_neg h15, if_neg h33, if_pos h46, ← e53]) hP hS d_Mo_immediate_115
    refine lv_aload_n hx hb d_Mo_immediate_36 rfl (lv_at hl 2 rfl) ?_
    refine lv_iload_n hx hb d_Mo_immediate_37 rfl (lv_at hl 1 rfl) ?_
    refine cl_V (C := R_Mo) (k_Mo_setMask l D a hA u1 r1) ⟨hx, hb, hml, hown, hts⟩ (cwV 1 hts (gi_V t_546 t_548 t_36 t_66 t_549) rfl rfl rfl (by decide +kernel) ⟨Nat.le_of_ble_eq_true rfl, Nat.le_of_ble_eq_true rfl⟩) (va_recv (q0 := 0) (ci := 4) (q := (R_Mo, F_Mo, 10)) hK hP rfl rfl) hP hK hS rfl hl.1 rfl (Nat.le_of_ble_eq_true rfl) d_Mo_immediate_38 (nm_s (fun u38 e38 H locs hP hS => ?_))
    refine lv_goto (tgt := 115) hx hb d_Mo_immediate_41 (by decide) ?_
    subst hQ
    exact rt_v hx hb hr hlk (by simp only [C_Mo_immediate, ← e1, ← f1, ← e7, if_neg h15, if_pos h33, ← e38]) hP hS d_Mo_immediate_115
  refine lv_aload_n hx hb d_Mo_immediate_18 rfl (lv_at hl 2 rfl) ?_
  refine lv_iload_n hx hb d_Mo_immediate_19 rfl (lv_at hl 1 rfl) ?_
  refine lv_sipush (v := 1022) hx hb d_Mo_immediate_20 (by decide) ?_
  refine lv_iand hx hb d_Mo_immediate_23 ?_
  refine va_put (D := D) (ci := 4) (v := .int (r1 &&& 1022)) (ty := .int) (C := R_Mo) (T := F_Mo) (N := 10) hx hb hts (fun w h => wm (ui_Mo w h)) ft_Mo ft_Mo_ok fn_Mo hown hK hP (dd_R hA _) hS 0 rfl rfl 3 (by decide) (hts _ (wm t_491)) (fun _ h9 => h9) rfl (by decide +kernel) rfl rfl (Nat.le_of_ble_eq_true rfl) d_Mo_immediate_24 (fun H locs hP _ hS => ?_)
  have hP : va_P D kl (mw a (u1.1, u1.2.1, u1.2.2.1, (r1 &&& 1022), u1.2.2.2.2.1, u1.2.2.2.2.2.1, u1.2.2.2.2.2.2.1, u1.2.2.2.2.2.2.2.1, u1.2.2.2.2.2.2.2.2.1, u1.2.2.2.2.2.2.2.2.2)) H := hP
  refine lv_goto (tgt := 115) hx hb d_Mo_immediate_27 (by decide) ?_
  subst hQ
  exact rt_v hx hb hr hlk (by simp only [C_Mo_immediate, ← e1, ← f1, ← e7, if_pos h15]) hP hS d_Mo_immediate_115
set_option maxHeartbeats 4000000 in
set_option maxRecDepth 100000 in
theorem k_Mo_inner (l : Launch) (D : va_G) (a : RAd) (hA : ApR a) (u0 : RSt) (x1 : Int32) : MC kl (mw a) (FB a) (tyR a) l D y_Mo_inner b_Mo_inner 4 (some .int) rm_Mo_inner [.ref a.1, .int x1] u0 (some (.int (C_Mo_inner u0 x1).1)) (C_Mo_inner u0 x1).2 := by
  refine MC.mk (by decide) (Nat.le_of_ble_eq_true rfl) ?_
  intro p e s m below meth c ls Q args H locs hx hb hr hml hown hts hlk hl hP hK hS hQ
  have hown : s.vm.findClass R_Mo = some m.cls := hown
  have hl : lv_has ls 4 [(0, .ref a.1), (1, .int x1)] := hl
  refine lv_iload_n hx hb d_Mo_inner_0 rfl (lv_at hl 1 rfl) ?_
  refine lv_iconst (v := 5) hx hb d_Mo_inner_1 (by decide) ?_
  refine lv_ishr hx hb d_Mo_inner_2 ?_
  refine lv_bipush (v := 15) hx hb d_Mo_inner_3 (by decide) ?_
  refine lv_iand hx hb d_Mo_inner_5 ?_
  refine lv_istore_n hx hb d_Mo_inner_6 rfl hl (by decide) rfl (fun ls hl => ?_)
  have hl : lv_has ls 4 [(2, .int ((x1 >>> ((5 : Int32) &&& 31)) &&& 15)), (0, .ref a.1), (1, .int x1)] := hl
  refine lv_iload_n hx hb d_Mo_inner_7 rfl (lv_at hl 0 rfl) ?_
  refine lv_iconst (v := 5) hx hb d_Mo_inner_8 (by decide) ?_
  have hJ33 : ∀ (v33 : RSt) (H : Heap) (locs : List Loc), v33 = J_Mo_inner_33 u0 x1 → va_P D kl (mw a v33) H → va_S (FB a) s.heap H locs → W p l e rm_Mo_inner s m args below meth c H locs 0 0 Q (F0 m 33 ls []) := by
    intro v33 H locs jv33 hP hS
    refine lv_iload_n hx hb d_Mo_inner_33 rfl (lv_at hl 0 rfl) ?_
    refine lv_iconst (v := 5) hx hb d_Mo_inner_34 (by decide) ?_
    have hJ50 : ∀ (v50 : RSt) (H : Heap) (locs : List Loc), v50 = J_Mo_inner_50 x1 v33 → va_P D kl (mw a v50) H → va_S (FB a) s.heap H locs → W p l e rm_Mo_inner s m args below meth c H locs 0 0 Q (F0 m 50 ls []) := by
      intro v50 H locs jv50 hP hS
      refine lv_iload_n hx hb d_Mo_inner_50 rfl (lv_at hl 0 rfl) ?_
      refine lv_bipush (v := 6) hx hb d_Mo_inner_51 (by decide) ?_
      have hJ68 : ∀ (v68 : RSt) (H : Heap) (locs : List Loc), v68 = J_Mo_inner_68 x1 v50 → va_P D kl (mw a v68) H → va_S (FB a) s.heap H locs → W p l e rm_Mo_inner s m args below meth c H locs 0 0 Q (F0 m 68 ls []) := by
        intro v68 H locs jv68 hP hS
        refine lv_iload_n hx hb d_Mo_inner_68 rfl (lv_at hl 0 rfl) ?_
        refine lv_bipush (v := 10) hx hb d_Mo_inner_69 (by decide) ?_
        have hJ79 : ∀ (v79 : RSt) (H : Heap) (locs : List Loc), v79 = J_Mo_inner_79 x1 v68 → va_P D kl (mw a v79) H → va_S (FB a) s.heap H locs → W p l e rm_Mo_inner s m args below meth c H locs 0 0 Q (F0 m 79 ls []) := by
          intro v79 H locs jv79 hP hS
          refine lv_iload_n hx hb d_Mo_inner_79 rfl (lv_at hl 0 rfl) ?_
          refine lv_bipush (v := 11) hx hb d_Mo_inner_80 (by decide) ?_
          have hJ90 : ∀ (v90 : RSt) (H : Heap) (locs : List Loc), v90 = J_Mo_inner_90 x1 v79 → va_P D kl (mw a v90) H → va_S (FB a) s.heap H locs → W p l e rm_Mo_inner s m args below meth c H locs 0 0 Q (F0 m 90 ls []) := by
            intro v90 H locs jv90 hP hS
            refine lv_iload_n hx hb d_Mo_inner_90 rfl (lv_at hl 0 rfl) ?_
            refine lv_bipush (v := 12) hx hb d_Mo_inner_91 (by decide) ?_
            have hJ136 : ∀ (v136 : RSt) (H : Heap) (locs : List Loc) (ls : Array Slot), v136 = J_Mo_inner_136 x1 v90 → va_P D kl (mw a v136) H → va_S (FB a) s.heap H locs → lv_has ls 4 [(2, .int ((x1 >>> ((5 : Int32) &&& 31)) &&& 15))] → W p l e rm_Mo_inner s m args below meth c H locs 0 0 Q (F0 m 136 ls []) := by
              intro v136 H locs ls jv136 hP hS hl
              refine lv_iload_n hx hb d_Mo_inner_136 rfl (lv_at hl 0 rfl) ?_
              refine lv_bipush (v := 10) hx hb d_Mo_inner_137 (by decide) ?_
              refine lv_icmp_ne (tgt := 146) hx hb d_Mo_inner_139 (by decide) (fun h139 => ?_) (fun h139 => ?_)
              · refine lv_iconst (v := 0) hx hb d_Mo_inner_146 (by decide) ?_
                have hc : (0, v136) = C_Mo_inner u0 x1 := by simp only [C_Mo_inner, ← jv33, ← jv50, ← jv68, ← jv79, ← jv90, ← jv136, if_neg h139]
                subst hQ
                exact rt_i hx hb hr hlk (congrArg Prod.fst hc) (congrArg Prod.snd hc) hP hS d_Mo_inner_147
              refine lv_iconst (v := 1) hx hb d_Mo_inner_142 (by decide) ?_
              refine lv_goto (tgt := 147) hx hb d_Mo_inner_143 (by decide) ?_
              have hc : (1, v136) = C_Mo_inner u0 x1 := by simp only [C_Mo_inner, ← jv33, ← jv50, ← jv68, ← jv79, ← jv90, ← jv136, if_pos h139]
              subst hQ
              exact rt_i hx hb hr hlk (congrArg Prod.fst hc) (congrArg Prod.snd hc) hP hS d_Mo_inner_147
            refine lv_icmp_ne (tgt := 136) hx hb d_Mo_inner_93 (by decide) (fun h93 => ?_) (fun h93 => ?_)
            · exact hJ136 v90 _ _ _ (by simp only [J_Mo_inner_136, if_neg h93]) hP hS (lv_sub hl [0] rfl)
            refine lv_aload_n hx hb d_Mo_inner_96 rfl (lv_at hl 1 rfl) ?_
            refine lv_bipush (v := 13) hx hb d_Mo_inner_97 (by decide) ?_
            refine cl_V (C := R_Mo) (k_Mo_register l D a hA v90 13) ⟨hx, hb, hml, hown, hts⟩ (cwV 1 hts (gi_V t_568 t_570 t_40 t_66 t_571) rfl rfl rfl (by decide +kernel) ⟨Nat.le_of_ble_eq_true rfl, Nat.le_of_ble_eq_true rfl⟩) (va_recv (q0 := 0) (ci := 4) (q := (R_Mo, F_Mo, 10)) hK hP rfl rfl) hP hK hS rfl hl.1 rfl (Nat.le_of_ble_eq_true rfl) d_Mo_inner_99 (nm_i (fun r99 e99 H locs hP hS => ?_))
            refine lv_istore_n hx hb d_Mo_inner_102 rfl hl (by decide) rfl (fun ls hl => ?_)
            have hl : lv_has ls 4 [(3, .int r99), (2, .int ((x1 >>> ((5 : Int32) &&& 31)) &&& 15)), (0, .ref a.1), (1, .int x1)] := hl
            refine lv_aload_n hx hb d_Mo_inner_103 rfl (lv_at hl 2 rfl) ?_
            refine lv_aload_n hx hb d_Mo_inner_104 rfl (lv_at hl 2 rfl) ?_
            refine lv_bipush (v := 14) hx hb d_Mo_inner_105 (by decide) ?_
            refine cl_V (C := R_Mo) (k_Mo_register l D a hA v90 14) ⟨hx, hb, hml, hown, hts⟩ (cwV 1 hts (gi_V t_568 t_570 t_40 t_66 t_571) rfl rfl rfl (by decide +kernel) ⟨Nat.le_of_ble_eq_true rfl, Nat.le_of_ble_eq_true rfl⟩) (va_recv (q0 := 0) (ci := 4) (q := (R_Mo, F_Mo, 10)) hK hP rfl rfl) hP hK hS rfl hl.1 rfl (Nat.le_of_ble_eq_true rfl) d_Mo_inner_107 (nm_i (fun r107 e107 H locs hP hS => ?_))
            refine lv_sipush (v := 1022) hx hb d_Mo_inner_110 (by decide) ?_
            refine lv_iand hx hb d_Mo_inner_113 ?_
            refine va_put (D := D) (ci := 4) (v := .int (r107 &&& 1022)) (ty := .int) (C := R_Mo) (T := F_Mo) (N := 10) hx hb hts (fun w h => wm (ui_Mo w h)) ft_Mo ft_Mo_ok fn_Mo hown hK hP (dd_R hA _) hS 0 rfl rfl 4 (by decide) (hts _ (wm t_492)) (fun _ h9 => h9) rfl (by decide +kernel) rfl rfl (Nat.le_of_ble_eq_true rfl) d_Mo_inner_114 (fun H locs hP _ hS => ?_)
            have hP : va_P D kl (mw a (v90.1, v90.2.1, v90.2.2.1, v90.2.2.2.1, (r107 &&& 1022), v90.2.2.2.2.2.1, v90.2.2.2.2.2.2.1, v90.2.2.2.2.2.2.2.1, v90.2.2.2.2.2.2.2.2.1, v90.2.2.2.2.2.2.2.2.2)) H := hP
            refine lv_aload_n hx hb d_Mo_inner_117 rfl (lv_at hl 2 rfl) ?_
            refine lv_aload_n hx hb d_Mo_inner_118 rfl (lv_at hl 2 rfl) ?_
            refine lv_bipush (v := 15) hx hb d_Mo_inner_119 (by decide) ?_
            refine cl_V (C := R_Mo) (k_Mo_register l D a hA (v90.1, v90.2.1, v90.2.2.1, v90.2.2.2.1, (r107 &&& 1022), v90.2.2.2.2.2.1, v90.2.2.2.2.2.2.1, v90.2.2.2.2.2.2.2.1, v90.2.2.2.2.2.2.2.2.1, v90.2.2.2.2.2.2.2.2.2) 15) ⟨hx, hb, hml, hown, hts⟩ (cwV 1 hts (gi_V t_568 t_570 t_40 t_66 t_571) rfl rfl rfl (by decide +kernel) ⟨Nat.le_of_ble_eq_true rfl, Nat.le_of_ble_eq_true rfl⟩) (va_recv (q0 := 0) (ci := 4) (q := (R_Mo, F_Mo, 10)) hK hP rfl rfl) hP hK hS rfl hl.1 rfl (Nat.le_of_ble_eq_true rfl) d_Mo_inner_121 (nm_i (fun r121 e121 H locs hP hS => ?_))
            refine va_put (D := D) (ci := 4) (v := .int r121) (ty := .int) (C := R_Mo) (T := F_Mo) (N := 10) hx hb hts (fun w h => wm (ui_Mo w h)) ft_Mo ft_Mo_ok fn_Mo hown hK hP (dd_R hA _) hS 0 rfl rfl 5 (by decide) (hts _ (wm t_493)) (fun _ h9 => h9) rfl (by decide +kernel) rfl rfl (Nat.le_of_ble_eq_true rfl) d_Mo_inner_124 (fun H locs hP _ hS => ?_)
            have hP : va_P D kl (mw a (v90.1, v90.2.1, v90.2.2.1, v90.2.2.2.1, (r107 &&& 1022), r121, v90.2.2.2.2.2.2.1, v90.2.2.2.2.2.2.2.1, v90.2.2.2.2.2.2.2.2.1, v90.2.2.2.2.2.2.2.2.2)) H := hP
            refine lv_aload_n hx hb d_Mo_inner_127 rfl (lv_at hl 2 rfl) ?_
            refine lv_iload_n hx hb d_Mo_inner_128 rfl (lv_at hl 0 rfl) ?_
            refine lv_sipush (v := 1022) hx hb d_Mo_inner_129 (by decide) ?_
            refine lv_iand hx hb d_Mo_inner_132 ?_
            refine va_put (D := D) (ci := 4) (v := .int (r99 &&& 1022)) (ty := .int) (C := R_Mo) (T := F_Mo) (N := 10) hx hb hts (fun w h => wm (ui_Mo w h)) ft_Mo ft_Mo_ok fn_Mo hown hK hP (dd_R hA _) hS 0 rfl rfl 3 (by decide) (hts _ (wm t_491)) (fun _ h9 => h9) rfl (by decide +kernel) rfl rfl (Nat.le_of_ble_eq_true rfl) d_Mo_inner_133 (fun H locs hP _ hS => ?_)
            have hP : va_P D kl (mw a (v90.1, v90.2.1, v90.2.2.1, (r99 &&& 1022), (r107 &&& 1022), r121, v90.2.2.2.2.2.2.1, v90.2.2.2.2.2.2.2.1, v90.2.2.2.2.2.2.2.2.1, v90.2.2.2.2.2.2.2.2.2)) H := hP
            exact hJ136 (v90.1, v90.2.1, v90.2.2.1, (r99 &&& 1022), (r107 &&& 1022), r121, v90.2.2.2.2.2.2.1, v90.2.2.2.2.2.2.2.1, v90.2.2.2.2.2.2.2.2.1, v90.2.2.2.2.2.2.2.2.2) _ _ _ (by simp only [J_Mo_inner_136, if_pos h93, ← e99, ← e107, ← e121]) hP hS (lv_sub hl [1] rfl)
          refine lv_icmp_ne (tgt := 90) hx hb d_Mo_inner_82 (by decide) (fun h82 => ?_) (fun h82 => ?_)
          · exact hJ90 v79 _ _ (by simp only [J_Mo_inner_90, if_neg h82]) hP hS
          refine lv_aload_n hx hb d_Mo_inner_85 rfl (lv_at hl 1 rfl) ?_
          refine lv_iconst (v := 0) hx hb d_Mo_inner_86 (by decide) ?_
          refine cl_V (C := R_Mo) (k_Mo_setMask l D a hA v79 0) ⟨hx, hb, hml, hown, hts⟩ (cwV 1 hts (gi_V t_546 t_548 t_36 t_66 t_549) rfl rfl rfl (by decide +kernel) ⟨Nat.le_of_ble_eq_true rfl, Nat.le_of_ble_eq_true rfl⟩) (va_recv (q0 := 0) (ci := 4) (q := (R_Mo, F_Mo, 10)) hK hP rfl rfl) hP hK hS rfl hl.1 rfl (Nat.le_of_ble_eq_true rfl) d_Mo_inner_87 (nm_s (fun u87 e87 H locs hP hS => ?_))
          exact hJ90 u87 _ _ (by simp only [J_Mo_inner_90, if_pos h82, ← e87]) hP hS
        refine lv_icmp_ne (tgt := 79) hx hb d_Mo_inner_71 (by decide) (fun h71 => ?_) (fun h71 => ?_)
        · exact hJ79 v68 _ _ (by simp only [J_Mo_inner_79, if_neg h71]) hP hS
        refine lv_aload_n hx hb d_Mo_inner_74 rfl (lv_at hl 1 rfl) ?_
        refine lv_iconst (v := 1) hx hb d_Mo_inner_75 (by decide) ?_
        refine va_put (D := D) (ci := 4) (v := .int 1) (ty := .boolean) (C := R_Mo) (T := F_Mo) (N := 10) hx hb hts (fun w h => wm (ui_Mo w h)) ft_Mo ft_Mo_ok fn_Mo hown hK hP (dd_R hA _) hS 0 rfl rfl 7 (by decide) (hts _ (wm t_495)) (fun _ h9 => h9) rfl (by decide +kernel) rfl rfl (Nat.le_of_ble_eq_true rfl) d_Mo_inner_76 (fun H locs hP _ hS => ?_)
        have hP : va_P D kl (mw a (v68.1, v68.2.1, v68.2.2.1, v68.2.2.2.1, v68.2.2.2.2.1, v68.2.2.2.2.2.1, v68.2.2.2.2.2.2.1, 1, v68.2.2.2.2.2.2.2.2.1, v68.2.2.2.2.2.2.2.2.2)) H := hP
        exact hJ79 (v68.1, v68.2.1, v68.2.2.1, v68.2.2.2.1, v68.2.2.2.2.1, v68.2.2.2.2.2.1, v68.2.2.2.2.2.2.1, 1, v68.2.2.2.2.2.2.2.2.1, v68.2.2.2.2.2.2.2.2.2) _ _ (by simp only [J_Mo_inner_79, if_pos h71]) hP hS
      refine lv_icmp_ne (tgt := 68) hx hb d_Mo_inner_53 (by decide) (fun h53 => ?_) (fun h53 => ?_)
      · exact hJ68 v50 _ _ (by simp only [J_Mo_inner_68, if_neg h53]) hP hS
      refine lv_aload_n hx hb d_Mo_inner_56 rfl (lv_at hl 1 rfl) ?_
      refine lv_iload_n hx hb d_Mo_inner_57 rfl (lv_at hl 2 rfl) ?_
      refine lv_bipush (v := 15) hx hb d_Mo_inner_58 (by decide) ?_
      refine lv_iand hx hb d_Mo_inner_60 ?_
      refine lv_aload_n hx hb d_Mo_inner_61 rfl (lv_at hl 1 rfl) ?_
      refine va_get (D := D) (ci := 4) (v := .int v50.2.2.2.2.2.1) (C := R_Mo) (T := F_Mo) (N := 10) hx hb hts (fun w h => wm (ui_Mo w h)) hown hK hP 0 rfl rfl 5 (by decide) (hts _ (wm t_493)) (fun _ h9 => h9) rfl d_Mo_inner_62 ?_
      refine cl_V (C := R_Mo) (k_Mo_setRegister l D a hA v50 (x1 &&& 15) v50.2.2.2.2.2.1) ⟨hx, hb, hml, hown, hts⟩ (cwV 2 hts (gi_V t_537 t_539 t_34 t_66 t_540) rfl rfl rfl (by decide +kernel) ⟨Nat.le_of_ble_eq_true rfl, Nat.le_of_ble_eq_true rfl⟩) (va_recv (q0 := 0) (ci := 4) (q := (R_Mo, F_Mo, 10)) hK hP rfl rfl) hP hK hS rfl hl.1 rfl (Nat.le_of_ble_eq_true rfl) d_Mo_inner_65 (nm_s (fun u65 e65 H locs hP hS => ?_))
      exact hJ68 u65 _ _ (by simp only [J_Mo_inner_68, if_pos h53, ← e65]) hP hS
    refine lv_icmp_ne (tgt := 50) hx hb d_Mo_inner_35 (by decide) (fun h35 => ?_) (fun h35 => ?_)
    · exact hJ50 v33 _ _ (by simp only [J_Mo_inner_50, if_neg h35]) hP hS
    refine lv_aload_n hx hb d_Mo_inner_38 rfl (lv_at hl 1 rfl) ?_
    refine lv_iload_n hx hb d_Mo_inner_39 rfl (lv_at hl 2 rfl) ?_
    refine lv_bipush (v := 15) hx hb d_Mo_inner_40 (by decide) ?_
    refine lv_iand hx hb d_Mo_inner_42 ?_
    refine lv_aload_n hx hb d_Mo_inner_43 rfl (lv_at hl 1 rfl) ?_
    refine va_get (D := D) (ci := 4) (v := .int v33.2.2.2.1) (C := R_Mo) (T := F_Mo) (N := 10) hx hb hts (fun w h => wm (ui_Mo w h)) hown hK hP 0 rfl rfl 3 (by decide) (hts _ (wm t_491)) (fun _ h9 => h9) rfl d_Mo_inner_44 ?_
    refine cl_V (C := R_Mo) (k_Mo_setRegister l D a hA v33 (x1 &&& 15) v33.2.2.2.1) ⟨hx, hb, hml, hown, hts⟩ (cwV 2 hts (gi_V t_537 t_539 t_34 t_66 t_540) rfl rfl rfl (by decide +kernel) ⟨Nat.le_of_ble_eq_true rfl, Nat.le_of_ble_eq_true rfl⟩) (va_recv (q0 := 0) (ci := 4) (q := (R_Mo, F_Mo, 10)) hK hP rfl rfl) hP hK hS rfl hl.1 rfl (Nat.le_of_ble_eq_true rfl) d_Mo_inner_47 (nm_s (fun u47 e47 H locs hP hS => ?_))
    exact hJ50 u47 _ _ (by simp only [J_Mo_inner_50, if_pos h35, ← e47]) hP hS
  refine lv_icmp_lt (tgt := 24) hx hb d_Mo_inner_9 (by decide) (fun h9 => ?_) (fun h9 => ?_)
  · refine lv_aload_n hx hb d_Mo_inner_24 rfl (lv_at hl 1 rfl) ?_
    refine lv_iload_n hx hb d_Mo_inner_25 rfl (lv_at hl 0 rfl) ?_
    refine lv_iload_n hx hb d_Mo_inner_26 rfl (lv_at hl 2 rfl) ?_
    refine lv_bipush (v := 15) hx hb d_Mo_inner_27 (by decide) ?_
    refine lv_iand hx hb d_Mo_inner_29 ?_
    refine cl_V (C := R_Mo) (k_Mo_immediate l D a hA u0 ((x1 >>> ((5 : Int32) &&& 31)) &&& 15) (x1 &&& 15)) ⟨hx, hb, hml, hown, hts⟩ (cwV 2 hts (gi_V t_653 t_655 t_59 t_66 t_656) rfl rfl rfl (by decide +kernel) ⟨Nat.le_of_ble_eq_true rfl, Nat.le_of_ble_eq_true rfl⟩) (va_recv (q0 := 0) (ci := 4) (q := (R_Mo, F_Mo, 10)) hK hP rfl rfl) hP hK hS rfl hl.1 rfl (Nat.le_of_ble_eq_true rfl) d_Mo_inner_30 (nm_s (fun u30 e30 H locs hP hS => ?_))
    exact hJ33 u30 _ _ (by simp only [J_Mo_inner_33, if_pos h9, ← e30]) hP hS
  refine lv_iload_n hx hb d_Mo_inner_12 rfl (lv_at hl 0 rfl) ?_
  refine lv_bipush (v := 7) hx hb d_Mo_inner_13 (by decide) ?_
  refine lv_icmp_eq (tgt := 24) hx hb d_Mo_inner_15 (by decide) (fun h15 => ?_) (fun h15 => ?_)
  · refine lv_aload_n hx hb d_Mo_inner_24 rfl (lv_at hl 1 rfl) ?_
    refine lv_iload_n hx hb d_Mo_inner_25 rfl (lv_at hl 0 rfl) ?_
    refine lv_iload_n hx hb d_Mo_inner_26 rfl (lv_at hl 2 rfl) ?_
    refine lv_bipush (v := 15) hx hb d_Mo_inner_27 (by decide) ?_
    refine lv_iand hx hb d_Mo_inner_29 ?_
    refine cl_V (C := R_Mo) (k_Mo_immediate l D a hA u0 ((x1 >>> ((5 : Int32) &&& 31)) &&& 15) (x1 &&& 15)) ⟨hx, hb, hml, hown, hts⟩ (cwV 2 hts (gi_V t_653 t_655 t_59 t_66 t_656) rfl rfl rfl (by decide +kernel) ⟨Nat.le_of_ble_eq_true rfl, Nat.le_of_ble_eq_true rfl⟩) (va_recv (q0 := 0) (ci := 4) (q := (R_Mo, F_Mo, 10)) hK hP rfl rfl) hP hK hS rfl hl.1 rfl (Nat.le_of_ble_eq_true rfl) d_Mo_inner_30 (nm_s (fun u30 e30 H locs hP hS => ?_))
    exact hJ33 u30 _ _ (by simp only [J_Mo_inner_33, if_neg h9, if_pos h15, ← e30]) hP hS
  refine lv_iload_n hx hb d_Mo_inner_18 rfl (lv_at hl 0 rfl) ?_
  refine lv_bipush (v := 8) hx hb d_Mo_inner_19 (by decide) ?_
  refine lv_icmp_ne (tgt := 33) hx hb d_Mo_inner_21 (by decide) (fun h21 => ?_) (fun h21 => ?_)
  · exact hJ33 u0 _ _ (by simp only [J_Mo_inner_33, if_neg h9, if_neg h15, if_neg h21]) hP hS
  refine lv_aload_n hx hb d_Mo_inner_24 rfl (lv_at hl 1 rfl) ?_
  refine lv_iload_n hx hb d_Mo_inner_25 rfl (lv_at hl 0 rfl) ?_
  refine lv_iload_n hx hb d_Mo_inner_26 rfl (lv_at hl 2 rfl) ?_
  refine lv_bipush (v := 15) hx hb d_Mo_inner_27 (by decide) ?_
  refine lv_iand hx hb d_Mo_inner_29 ?_
  refine cl_V (C := R_Mo) (k_Mo_immediate l D a hA u0 ((x1 >>> ((5 : Int32) &&& 31)) &&& 15) (x1 &&& 15)) ⟨hx, hb, hml, hown, hts⟩ (cwV 2 hts (gi_V t_653 t_655 t_59 t_66 t_656) rfl rfl rfl (by decide +kernel) ⟨Nat.le_of_ble_eq_true rfl, Nat.le_of_ble_eq_true rfl⟩) (va_recv (q0 := 0) (ci := 4) (q := (R_Mo, F_Mo, 10)) hK hP rfl rfl) hP hK hS rfl hl.1 rfl (Nat.le_of_ble_eq_true rfl) d_Mo_inner_30 (nm_s (fun u30 e30 H locs hP hS => ?_))
  exact hJ33 u30 _ _ (by simp only [J_Mo_inner_33, if_neg h9, if_neg h15, if_pos h21, ← e30]) hP hS
set_option maxHeartbeats 4000000 in
set_option maxRecDepth 100000 in
theorem k_Mo_does (l : Launch) (D : va_G) (a : RAd) (hA : ApR a) (u0 : RSt) (x1 : Int32) (hI : ∀ j, 0 ≤ u0.1 j) : MC kl (mw a) (FB a) (tyR a) l D y_Mo_does b_Mo_does 2 (some .int) rm_Mo_does [.ref a.1, .int x1] u0 (some (.int (C_Mo_does u0 x1).1)) (C_Mo_does u0 x1).2 := by
  refine MC.mk (by decide) (Nat.le_of_ble_eq_true rfl) ?_
  intro p e s m below meth c ls Q args H locs hx hb hr hml hown hts hlk hl hP hK hS hQ
  have hown : s.vm.findClass R_Mo = some m.cls := hown
  have hl : lv_has ls 2 [(0, .ref a.1), (1, .int x1)] := hl
  refine lv_iload_n hx hb d_Mo_does_0 rfl (lv_at hl 1 rfl) ?_
  refine lv_sipush (v := 16384) hx hb d_Mo_does_1 (by decide) ?_
  refine lv_icmp_lt (tgt := 15) hx hb d_Mo_does_4 (by decide) (fun h4 => ?_) (fun h4 => ?_)
  · refine lv_iload_n hx hb d_Mo_does_15 rfl (lv_at hl 1 rfl) ?_
    refine lv_sipush (v := 8192) hx hb d_Mo_does_16 (by decide) ?_
    refine lv_icmp_lt (tgt := 30) hx hb d_Mo_does_19 (by decide) (fun h19 => ?_) (fun h19 => ?_)
    · refine lv_iload_n hx hb d_Mo_does_30 rfl (lv_at hl 1 rfl) ?_
      refine lv_sipush (v := 4096) hx hb d_Mo_does_31 (by decide) ?_
      refine lv_icmp_lt (tgt := 45) hx hb d_Mo_does_34 (by decide) (fun h34 => ?_) (fun h34 => ?_)
      · refine lv_iload_n hx hb d_Mo_does_45 rfl (lv_at hl 1 rfl) ?_
        refine lv_sipush (v := 2048) hx hb d_Mo_does_46 (by decide) ?_
        refine lv_icmp_lt (tgt := 60) hx hb d_Mo_does_49 (by decide) (fun h49 => ?_) (fun h49 => ?_)
        · refine lv_iload_n hx hb d_Mo_does_60 rfl (lv_at hl 1 rfl) ?_
          refine lv_sipush (v := 1024) hx hb d_Mo_does_61 (by decide) ?_
          refine lv_icmp_lt (tgt := 75) hx hb d_Mo_does_64 (by decide) (fun h64 => ?_) (fun h64 => ?_)
          · refine lv_aload_n hx hb d_Mo_does_75 rfl (lv_at hl 0 rfl) ?_
            refine lv_iload_n hx hb d_Mo_does_76 rfl (lv_at hl 1 rfl) ?_
            refine cl_V (C := R_Mo) (k_Mo_inner l D a hA u0 x1) ⟨hx, hb, hml, hown, hts⟩ (cwV 1 hts (gi_V t_649 t_651 t_58 t_66 t_652) rfl rfl rfl (by decide +kernel) ⟨Nat.le_of_ble_eq_true rfl, Nat.le_of_ble_eq_true rfl⟩) (va_recv (q0 := 0) (ci := 4) (q := (R_Mo, F_Mo, 10)) hK hP rfl rfl) hP hK hS rfl hl.1 rfl (Nat.le_of_ble_eq_true rfl) d_Mo_does_77 (nm_is (fun r77 u77 e77 f77 H locs hP hS => ?_))
            have hc : (r77, u77) = C_Mo_does u0 x1 := by simp only [C_Mo_does, if_pos h4, if_pos h19, if_pos h34, if_pos h49, if_pos h64, ← e77, ← f77]
            subst hQ
            exact rt_i hx hb hr hlk (congrArg Prod.fst hc) (congrArg Prod.snd hc) hP hS d_Mo_does_80
          refine lv_aload_n hx hb d_Mo_does_67 rfl (lv_at hl 0 rfl) ?_
          refine lv_iload_n hx hb d_Mo_does_68 rfl (lv_at hl 1 rfl) ?_
          refine cl_V (C := R_Mo) (k_Mo_oneOperand l D a hA u0 x1) ⟨hx, hb, hml, hown, hts⟩ (cwV 1 hts (gi_V t_644 t_646 t_57 t_66 t_647) rfl rfl rfl (by decide +kernel) ⟨Nat.le_of_ble_eq_true rfl, Nat.le_of_ble_eq_true rfl⟩) (va_recv (q0 := 0) (ci := 4) (q := (R_Mo, F_Mo, 10)) hK hP rfl rfl) hP hK hS rfl hl.1 rfl (Nat.le_of_ble_eq_true rfl) d_Mo_does_69 (nm_s (fun u69 e69 H locs hP hS => ?_))
          refine lv_goto (tgt := 81) hx hb d_Mo_does_72 (by decide) ?_
          refine lv_iconst (v := 0) hx hb d_Mo_does_81 (by decide) ?_
          have hc : (0, u69) = C_Mo_does u0 x1 := by simp only [C_Mo_does, if_pos h4, if_pos h19, if_pos h34, if_pos h49, if_neg h64, ← e69]
          subst hQ
          exact rt_i hx hb hr hlk (congrArg Prod.fst hc) (congrArg Prod.snd hc) hP hS d_Mo_does_82
        refine lv_aload_n hx hb d_Mo_does_52 rfl (lv_at hl 0 rfl) ?_
        refine lv_iload_n hx hb d_Mo_does_53 rfl (lv_at hl 1 rfl) ?_
        refine cl_V (C := R_Mo) (k_Mo_shift l D a hA u0 x1) ⟨hx, hb, hml, hown, hts⟩ (cwV 1 hts (gi_V t_640 t_642 t_56 t_66 t_643) rfl rfl rfl (by decide +kernel) ⟨Nat.le_of_ble_eq_true rfl, Nat.le_of_ble_eq_true rfl⟩) (va_recv (q0 := 0) (ci := 4) (q := (R_Mo, F_Mo, 10)) hK hP rfl rfl) hP hK hS rfl hl.1 rfl (Nat.le_of_ble_eq_true rfl) d_Mo_does_54 (nm_s (fun u54 e54 H locs hP hS => ?_))
        refine lv_goto (tgt := 81) hx hb d_Mo_does_57 (by decide) ?_
        refine lv_iconst (v := 0) hx hb d_Mo_does_81 (by decide) ?_
        have hc : (0, u54) = C_Mo_does u0 x1 := by simp only [C_Mo_does, if_pos h4, if_pos h19, if_pos h34, if_neg h49, ← e54]
        subst hQ
        exact rt_i hx hb hr hlk (congrArg Prod.fst hc) (congrArg Prod.snd hc) hP hS d_Mo_does_82
      refine lv_aload_n hx hb d_Mo_does_37 rfl (lv_at hl 0 rfl) ?_
      refine lv_iload_n hx hb d_Mo_does_38 rfl (lv_at hl 1 rfl) ?_
      refine cl_V (C := R_Mo) (k_Mo_jumpOrLine l D a hA u0 x1) ⟨hx, hb, hml, hown, hts⟩ (cwV 1 hts (gi_V t_628 t_630 t_53 t_66 t_631) rfl rfl rfl (by decide +kernel) ⟨Nat.le_of_ble_eq_true rfl, Nat.le_of_ble_eq_true rfl⟩) (va_recv (q0 := 0) (ci := 4) (q := (R_Mo, F_Mo, 10)) hK hP rfl rfl) hP hK hS rfl hl.1 rfl (Nat.le_of_ble_eq_true rfl) d_Mo_does_39 (nm_s (fun u39 e39 H locs hP hS => ?_))
      refine lv_goto (tgt := 81) hx hb d_Mo_does_42 (by decide) ?_
      refine lv_iconst (v := 0) hx hb d_Mo_does_81 (by decide) ?_
      have hc : (0, u39) = C_Mo_does u0 x1 := by simp only [C_Mo_does, if_pos h4, if_pos h19, if_neg h34, ← e39]
      subst hQ
      exact rt_i hx hb hr hlk (congrArg Prod.fst hc) (congrArg Prod.snd hc) hP hS d_Mo_does_82
    refine lv_aload_n hx hb d_Mo_does_22 rfl (lv_at hl 0 rfl) ?_
    refine lv_iload_n hx hb d_Mo_does_23 rfl (lv_at hl 1 rfl) ?_
    refine cl_V (C := R_Mo) (k_Mo_withRegister l D a hA u0 x1 hI) ⟨hx, hb, hml, hown, hts⟩ (cwV 1 hts (gi_V t_614 t_616 t_50 t_66 t_617) rfl rfl rfl (by decide +kernel) ⟨Nat.le_of_ble_eq_true rfl, Nat.le_of_ble_eq_true rfl⟩) (va_recv (q0 := 0) (ci := 4) (q := (R_Mo, F_Mo, 10)) hK hP rfl rfl) hP hK hS rfl hl.1 rfl (Nat.le_of_ble_eq_true rfl) d_Mo_does_24 (nm_s (fun u24 e24 H locs hP hS => ?_))
    refine lv_goto (tgt := 81) hx hb d_Mo_does_27 (by decide) ?_
    refine lv_iconst (v := 0) hx hb d_Mo_does_81 (by decide) ?_
    have hc : (0, u24) = C_Mo_does u0 x1 := by simp only [C_Mo_does, if_pos h4, if_neg h19, ← e24]
    subst hQ
    exact rt_i hx hb hr hlk (congrArg Prod.fst hc) (congrArg Prod.snd hc) hP hS d_Mo_does_82
  refine lv_aload_n hx hb d_Mo_does_7 rfl (lv_at hl 0 rfl) ?_
  refine lv_iload_n hx hb d_Mo_does_8 rfl (lv_at hl 1 rfl) ?_
  refine cl_V (C := R_Mo) (k_Mo_twoOperands l D a hA u0 x1) ⟨hx, hb, hml, hown, hts⟩ (cwV 1 hts (gi_V t_576 t_578 t_42 t_66 t_579) rfl rfl rfl (by decide +kernel) ⟨Nat.le_of_ble_eq_true rfl, Nat.le_of_ble_eq_true rfl⟩) (va_recv (q0 := 0) (ci := 4) (q := (R_Mo, F_Mo, 10)) hK hP rfl rfl) hP hK hS rfl hl.1 rfl (Nat.le_of_ble_eq_true rfl) d_Mo_does_9 (nm_s (fun u9 e9 H locs hP hS => ?_))
  refine lv_goto (tgt := 81) hx hb d_Mo_does_12 (by decide) ?_
  refine lv_iconst (v := 0) hx hb d_Mo_does_81 (by decide) ?_
  have hc : (0, u9) = C_Mo_does u0 x1 := by simp only [C_Mo_does, if_neg h4, ← e9]
  subst hQ
  exact rt_i hx hb hr hlk (congrArg Prod.fst hc) (congrArg Prod.snd hc) hP hS d_Mo_does_82
set_option maxHeartbeats 4000000 in
set_option maxRecDepth 100000 in
theorem k_Mo_fetched (l : Launch) (D : va_G) (a : RAd) (hA : ApR a) (u0 : RSt) (hI : ∀ j, 0 ≤ u0.1 j) : MC kl (mw a) (FB a) (tyR a) l D y_Mo_fetched b_Mo_fetched 4 (some .int) rm_Mo_fetched [.ref a.1] u0 (some (.int (C_Mo_fetched u0).1)) (C_Mo_fetched u0).2 := by
  refine MC.mk (by decide) (Nat.le_of_ble_eq_true rfl) ?_
  intro p e s m below meth c ls Q args H locs hx hb hr hml hown hts hlk hl hP hK hS hQ
  have hown : s.vm.findClass R_Mo = some m.cls := hown
  have hl : lv_has ls 4 [(0, .ref a.1)] := hl
  refine lv_aload_n hx hb d_Mo_fetched_0 rfl (lv_at hl 0 rfl) ?_
  refine va_get (D := D) (ci := 4) (v := .int u0.2.2.2.2.1) (C := R_Mo) (T := F_Mo) (N := 10) hx hb hts (fun w h => wm (ui_Mo w h)) hown hK hP 0 rfl rfl 4 (by decide) (hts _ (wm t_492)) (fun _ h9 => h9) rfl d_Mo_fetched_1 ?_
  refine lv_istore_n hx hb d_Mo_fetched_4 rfl hl (by decide) rfl (fun ls hl => ?_)
  have hl : lv_has ls 4 [(1, .int u0.2.2.2.2.1), (0, .ref a.1)] := hl
  refine lv_aload_n hx hb d_Mo_fetched_5 rfl (lv_at hl 1 rfl) ?_
  refine cl_V (C := R_Mo) (k_Mo_next l D a hA u0) ⟨hx, hb, hml, hown, hts⟩ (cwV 0 hts (gi_V t_554 t_556 t_38 t_66 t_557) rfl rfl rfl (by decide +kernel) ⟨Nat.le_of_ble_eq_true rfl, Nat.le_of_ble_eq_true rfl⟩) (va_recv (q0 := 0) (ci := 4) (q := (R_Mo, F_Mo, 10)) hK hP rfl rfl) hP hK hS rfl hl.1 rfl (Nat.le_of_ble_eq_true rfl) d_Mo_fetched_6 (nm_is (fun r6 u6 e6 f6 H locs hP hS => ?_))
  refine lv_istore_n hx hb d_Mo_fetched_9 rfl hl (by decide) rfl (fun ls hl => ?_)
  have hl : lv_has ls 4 [(2, .int r6), (1, .int u0.2.2.2.2.1), (0, .ref a.1)] := hl
  refine lv_aload_n hx hb d_Mo_fetched_10 rfl (lv_at hl 2 rfl) ?_
  refine lv_iconst (v := (-1)) hx hb d_Mo_fetched_11 (by decide) ?_
  refine va_put (D := D) (ci := 4) (v := .int (-1)) (ty := .int) (C := R_Mo) (T := F_Mo) (N := 10) hx hb hts (fun w h => wm (ui_Mo w h)) ft_Mo ft_Mo_ok fn_Mo hown hK hP (dd_R hA _) hS 0 rfl rfl 8 (by decide) (hts _ (wm t_496)) (fun _ h9 => h9) rfl (by decide +kernel) rfl rfl (Nat.le_of_ble_eq_true rfl) d_Mo_fetched_12 (fun H locs hP _ hS => ?_)
  have hP : va_P D kl (mw a (u6.1, u6.2.1, u6.2.2.1, u6.2.2.2.1, u6.2.2.2.2.1, u6.2.2.2.2.2.1, u6.2.2.2.2.2.2.1, u6.2.2.2.2.2.2.2.1, (-1), u6.2.2.2.2.2.2.2.2.2)) H := hP
  refine lv_iload_n hx hb d_Mo_fetched_15 rfl (lv_at hl 0 rfl) ?_
  refine cl_S (k_Mo_known l D a hA (u6.1, u6.2.1, u6.2.2.1, u6.2.2.2.1, u6.2.2.2.2.1, u6.2.2.2.2.2.1, u6.2.2.2.2.2.2.1, u6.2.2.2.2.2.2.2.1, (-1), u6.2.2.2.2.2.2.2.2.2) r6) ⟨hx, hb, hml, hown, hts⟩ (va_cwS 1 hts (gi_S t_558 t_559 t_66 t_560) rfl rfl rfl (by decide +kernel) ⟨Nat.le_of_ble_eq_true rfl, Nat.le_of_ble_eq_true rfl⟩) hP hK hS rfl hl.1 rfl (Nat.le_of_ble_eq_true rfl) d_Mo_fetched_16 (nm_i (fun r16 e16 H locs hP hS => ?_))
  have hJ27 : ∀ (z27 : Int32), z27 = J_Mo_fetched_27 r16 → W p l e rm_Mo_fetched s m args below meth c H locs 0 0 Q (F0 m 27 ls [.int z27]) := by
    intro z27 jz27
    refine lv_istore_n hx hb d_Mo_fetched_27 rfl hl (by decide) rfl (fun ls hl => ?_)
    have hl : lv_has ls 4 [(3, .int z27), (2, .int r6), (1, .int u0.2.2.2.2.1), (0, .ref a.1)] := hl
    refine lv_iload_n hx hb d_Mo_fetched_28 rfl (lv_at hl 0 rfl) ?_
    have hJ77 : ∀ (z77_l2 : Int32) (z77_l3 : Int32) (v77 : RSt) (H : Heap) (locs : List Loc) (ls : Array Slot), z77_l2 = (J_Mo_fetched_77 r6 u6 z27).1 → z77_l3 = (J_Mo_fetched_77 r6 u6 z27).2.1 → v77 = (J_Mo_fetched_77 r6 u6 z27).2.2 → va_P D kl (mw a v77) H → va_S (FB a) s.heap H locs → lv_has ls 4 [(0, .ref a.1), (1, .int u0.2.2.2.2.1), (2, .int z77_l2), (3, .int z77_l3)] → W p l e rm_Mo_fetched s m args below meth c H locs 0 0 Q (F0 m 77 ls []) := by
      intro z77_l2 z77_l3 v77 H locs ls jz77_l2 jz77_l3 jv77 hP hS hl
      refine lv_iload_n hx hb d_Mo_fetched_77 rfl (lv_at hl 3 rfl) ?_
      refine lv_if_ne (tgt := 87) hx hb d_Mo_fetched_78 (by decide) (fun h78 => ?_) (fun h78 => ?_)
      · refine lv_aload_n hx hb d_Mo_fetched_87 rfl (lv_at hl 0 rfl) ?_
        refine lv_iload_n hx hb d_Mo_fetched_88 rfl (lv_at hl 1 rfl) ?_
        refine va_put (D := D) (ci := 4) (v := .int u0.2.2.2.2.1) (ty := .int) (C := R_Mo) (T := F_Mo) (N := 10) hx hb hts (fun w h => wm (ui_Mo w h)) ft_Mo ft_Mo_ok fn_Mo hown hK hP (dd_R hA _) hS 0 rfl rfl 4 (by decide) (hts _ (wm t_492)) (fun _ h9 => h9) rfl (by decide +kernel) rfl rfl (Nat.le_of_ble_eq_true rfl) d_Mo_fetched_89 (fun H locs hP _ hS => ?_)
        have hP : va_P D kl (mw a (v77.1, v77.2.1, v77.2.2.1, v77.2.2.2.1, u0.2.2.2.2.1, v77.2.2.2.2.2.1, v77.2.2.2.2.2.2.1, v77.2.2.2.2.2.2.2.1, v77.2.2.2.2.2.2.2.2.1, v77.2.2.2.2.2.2.2.2.2)) H := hP
        refine lv_aload_n hx hb d_Mo_fetched_92 rfl (lv_at hl 0 rfl) ?_
        refine va_get (D := D) (ci := 4) (v := .int v77.2.2.2.2.2.2.2.2.1) (C := R_Mo) (T := F_Mo) (N := 10) hx hb hts (fun w h => wm (ui_Mo w h)) hown hK hP 0 rfl rfl 8 (by decide) (hts _ (wm t_496)) (fun _ h9 => h9) rfl d_Mo_fetched_93 ?_
        refine lv_if_lt (tgt := 111) hx hb d_Mo_fetched_96 (by decide) (fun h96 => ?_) (fun h96 => ?_)
        · refine lv_iload_n hx hb d_Mo_fetched_111 rfl (lv_at hl 3 rfl) ?_
          have hc : (z77_l3, (v77.1, v77.2.1, v77.2.2.1, v77.2.2.2.1, u0.2.2.2.2.1, v77.2.2.2.2.2.1, v77.2.2.2.2.2.2.1, v77.2.2.2.2.2.2.2.1, v77.2.2.2.2.2.2.2.2.1, v77.2.2.2.2.2.2.2.2.2)) = C_Mo_fetched u0 := by simp only [C_Mo_fetched, ← e6, ← f6, ← e16, ← jz27, ← jz77_l2, ← jz77_l3, ← jv77, if_neg h78, if_pos h96]
          subst hQ
          exact rt_i hx hb hr hlk (congrArg Prod.fst hc) (congrArg Prod.snd hc) hP hS d_Mo_fetched_112
        refine lv_aload_n hx hb d_Mo_fetched_99 rfl (lv_at hl 0 rfl) ?_
        refine lv_aload_n hx hb d_Mo_fetched_100 rfl (lv_at hl 0 rfl) ?_
        refine va_get (D := D) (ci := 4) (v := .int v77.2.2.2.2.2.2.2.2.1) (C := R_Mo) (T := F_Mo) (N := 10) hx hb hts (fun w h => wm (ui_Mo w h)) hown hK hP 0 rfl rfl 8 (by decide) (hts _ (wm t_496)) (fun _ h9 => h9) rfl d_Mo_fetched_101 ?_
        refine lv_aload_n hx hb d_Mo_fetched_104 rfl (lv_at hl 0 rfl) ?_
        refine va_get (D := D) (ci := 4) (v := .int v77.2.2.2.2.2.2.2.2.2) (C := R_Mo) (T := F_Mo) (N := 10) hx hb hts (fun w h => wm (ui_Mo w h)) hown hK hP 0 rfl rfl 9 (by decide) (hts _ (wm t_497)) (fun _ h9 => h9) rfl d_Mo_fetched_105 ?_
        refine cl_V (C := R_Mo) (k_Mo_setWord l D a hA (v77.1, v77.2.1, v77.2.2.1, v77.2.2.2.1, u0.2.2.2.2.1, v77.2.2.2.2.2.1, v77.2.2.2.2.2.2.1, v77.2.2.2.2.2.2.2.1, v77.2.2.2.2.2.2.2.2.1, v77.2.2.2.2.2.2.2.2.2) v77.2.2.2.2.2.2.2.2.1 v77.2.2.2.2.2.2.2.2.2) ⟨hx, hb, hml, hown, hts⟩ (cwV 2 hts (gi_V t_541 t_543 t_35 t_66 t_544) rfl rfl rfl (by decide +kernel) ⟨Nat.le_of_ble_eq_true rfl, Nat.le_of_ble_eq_true rfl⟩) (va_recv (q0 := 0) (ci := 4) (q := (R_Mo, F_Mo, 10)) hK hP rfl rfl) hP hK hS rfl hl.1 rfl (Nat.le_of_ble_eq_true rfl) d_Mo_fetched_108 (nm_s (fun u108 e108 H locs hP hS => ?_))
        refine lv_iload_n hx hb d_Mo_fetched_111 rfl (lv_at hl 3 rfl) ?_
        have hc : (z77_l3, u108) = C_Mo_fetched u0 := by simp only [C_Mo_fetched, ← e6, ← f6, ← e16, ← jz27, ← jz77_l2, ← jz77_l3, ← jv77, if_neg h78, if_neg h96, ← e108]
        subst hQ
        exact rt_i hx hb hr hlk (congrArg Prod.fst hc) (congrArg Prod.snd hc) hP hS d_Mo_fetched_112
      refine lv_aload_n hx hb d_Mo_fetched_81 rfl (lv_at hl 0 rfl) ?_
      refine lv_iload_n hx hb d_Mo_fetched_82 rfl (lv_at hl 2 rfl) ?_
      refine cl_V (C := R_Mo) (k_Mo_does l D a hA v77 z77_l2 (by rw [jv77]; exact iv_J_Mo_fetched_77 (by rw [f6]; exact iv_Mo_next hI) _ _)) ⟨hx, hb, hml, hown, hts⟩ (cwV 1 hts (gi_V t_572 t_574 t_41 t_66 t_575) rfl rfl rfl (by decide +kernel) ⟨Nat.le_of_ble_eq_true rfl, Nat.le_of_ble_eq_true rfl⟩) (va_recv (q0 := 0) (ci := 4) (q := (R_Mo, F_Mo, 10)) hK hP rfl rfl) hP hK hS rfl hl.1 rfl (Nat.le_of_ble_eq_true rfl) d_Mo_fetched_83 (nm_is (fun r83 u83 e83 f83 H locs hP hS => ?_))
      have hc : (r83, u83) = C_Mo_fetched u0 := by simp only [C_Mo_fetched, ← e6, ← f6, ← e16, ← jz27, ← jz77_l2, ← jz77_l3, ← jv77, if_pos h78, ← e83, ← f83]
      subst hQ
      exact rt_i hx hb hr hlk (congrArg Prod.fst hc) (congrArg Prod.snd hc) hP hS d_Mo_fetched_86
    refine lv_if_ne (tgt := 77) hx hb d_Mo_fetched_29 (by decide) (fun h29 => ?_) (fun h29 => ?_)
    · exact hJ77 r6 z27 (u6.1, u6.2.1, u6.2.2.1, u6.2.2.2.1, u6.2.2.2.2.1, u6.2.2.2.2.2.1, u6.2.2.2.2.2.2.1, u6.2.2.2.2.2.2.2.1, (-1), u6.2.2.2.2.2.2.2.2.2) _ _ _ (by simp only [J_Mo_fetched_77, if_neg h29]) (by simp only [J_Mo_fetched_77, if_neg h29]) (by simp only [J_Mo_fetched_77, if_neg h29]) hP hS (lv_sub hl [3, 2, 1, 0] rfl)
    refine lv_iload_n hx hb d_Mo_fetched_32 rfl (lv_at hl 1 rfl) ?_
    refine cl_S (k_Mo_isX l D a hA (u6.1, u6.2.1, u6.2.2.1, u6.2.2.2.1, u6.2.2.2.2.1, u6.2.2.2.2.2.1, u6.2.2.2.2.2.2.1, u6.2.2.2.2.2.2.2.1, (-1), u6.2.2.2.2.2.2.2.2.2) r6) ⟨hx, hb, hml, hown, hts⟩ (va_cwS 1 hts (gi_S t_561 t_562 t_66 t_563) rfl rfl rfl (by decide +kernel) ⟨Nat.le_of_ble_eq_true rfl, Nat.le_of_ble_eq_true rfl⟩) hP hK hS rfl hl.1 rfl (Nat.le_of_ble_eq_true rfl) d_Mo_fetched_33 (nm_i (fun r33 e33 H locs hP hS => ?_))
    refine lv_if_eq (tgt := 77) hx hb d_Mo_fetched_36 (by decide) (fun h36 => ?_) (fun h36 => ?_)
    · exact hJ77 r6 z27 (u6.1, u6.2.1, u6.2.2.1, u6.2.2.2.1, u6.2.2.2.2.1, u6.2.2.2.2.2.1, u6.2.2.2.2.2.2.1, u6.2.2.2.2.2.2.2.1, (-1), u6.2.2.2.2.2.2.2.2.2) _ _ _ (by simp only [J_Mo_fetched_77, if_pos h29, ← e33, if_pos h36]) (by simp only [J_Mo_fetched_77, if_pos h29, ← e33, if_pos h36]) (by simp only [J_Mo_fetched_77, if_pos h29, ← e33, if_pos h36]) hP hS (lv_sub hl [3, 2, 1, 0] rfl)
    refine lv_aload_n hx hb d_Mo_fetched_39 rfl (lv_at hl 3 rfl) ?_
    refine lv_aload_n hx hb d_Mo_fetched_40 rfl (lv_at hl 3 rfl) ?_
    refine lv_iload_n hx hb d_Mo_fetched_41 rfl (lv_at hl 1 rfl) ?_
    refine lv_bipush (v := 63) hx hb d_Mo_fetched_42 (by decide) ?_
    refine lv_iand hx hb d_Mo_fetched_44 ?_
    refine lv_iconst (v := 0) hx hb d_Mo_fetched_45 (by decide) ?_
    refine cl_V (C := R_Mo) (k_Mo_address l D a hA (u6.1, u6.2.1, u6.2.2.1, u6.2.2.2.1, u6.2.2.2.2.1, u6.2.2.2.2.2.1, u6.2.2.2.2.2.2.1, u6.2.2.2.2.2.2.2.1, (-1), u6.2.2.2.2.2.2.2.2.2) (r6 &&& 63) 0) ⟨hx, hb, hml, hown, hts⟩ (cwV 2 hts (gi_V t_564 t_566 t_39 t_66 t_567) rfl rfl rfl (by decide +kernel) ⟨Nat.le_of_ble_eq_true rfl, Nat.le_of_ble_eq_true rfl⟩) (va_recv (q0 := 0) (ci := 4) (q := (R_Mo, F_Mo, 10)) hK hP rfl rfl) hP hK hS rfl hl.1 rfl (Nat.le_of_ble_eq_true rfl) d_Mo_fetched_46 (nm_is (fun r46 u46 e46 f46 H locs hP hS => ?_))
    refine cl_V (C := R_Mo) (k_Mo_word l D a hA u46 r46) ⟨hx, hb, hml, hown, hts⟩ (cwV 1 hts (gi_V t_533 t_535 t_33 t_66 t_536) rfl rfl rfl (by decide +kernel) ⟨Nat.le_of_ble_eq_true rfl, Nat.le_of_ble_eq_true rfl⟩) (va_recv (q0 := 0) (ci := 4) (q := (R_Mo, F_Mo, 10)) hK hP rfl rfl) hP hK hS rfl hl.1 rfl (Nat.le_of_ble_eq_true rfl) d_Mo_fetched_49 (nm_i (fun r49 e49 H locs hP hS => ?_))
    refine lv_istore_n hx hb d_Mo_fetched_52 rfl hl (by decide) rfl (fun ls hl => ?_)
    have hl : lv_has ls 4 [(2, .int r49), (3, .int z27), (1, .int u0.2.2.2.2.1), (0, .ref a.1)] := hl
    refine lv_iload_n hx hb d_Mo_fetched_53 rfl (lv_at hl 0 rfl) ?_
    refine cl_S (k_Mo_known l D a hA u46 r49) ⟨hx, hb, hml, hown, hts⟩ (va_cwS 1 hts (gi_S t_558 t_559 t_66 t_560) rfl rfl rfl (by decide +kernel) ⟨Nat.le_of_ble_eq_true rfl, Nat.le_of_ble_eq_true rfl⟩) hP hK hS rfl hl.1 rfl (Nat.le_of_ble_eq_true rfl) d_Mo_fetched_54 (nm_i (fun r54 e54 H locs hP hS => ?_))
    have hJ76 : ∀ (z76 : Int32) (H : Heap) (locs : List Loc), z76 = J_Mo_fetched_76 r49 r54 → va_P D kl (mw a u46) H → va_S (FB a) s.heap H locs → W p l e rm_Mo_fetched s m args below meth c H locs 0 0 Q (F0 m 76 ls [.int z76]) := by
      intro z76 H locs jz76 hP hS
      refine lv_istore_n hx hb d_Mo_fetched_76 rfl hl (by decide) rfl (fun ls hl => ?_)
      have hl : lv_has ls 4 [(3, .int z76), (2, .int r49), (1, .int u0.2.2.2.2.1), (0, .ref a.1)] := hl
      exact hJ77 r49 z76 u46 _ _ _ (by simp only [J_Mo_fetched_77, if_pos h29, ← e33, if_neg h36, ← e46, ← f46, ← e49, ← e54, ← jz76]) (by simp only [J_Mo_fetched_77, if_pos h29, ← e33, if_neg h36, ← e46, ← f46, ← e49, ← e54, ← jz76]) (by simp only [J_Mo_fetched_77, if_pos h29, ← e33, if_neg h36, ← e46, ← f46, ← e49, ← e54, ← jz76]) hP hS (lv_sub hl [3, 2, 1, 0] rfl)
    refine lv_if_ne (tgt := 64) hx hb d_Mo_fetched_57 (by decide) (fun h57 => ?_) (fun h57 => ?_)
    · refine lv_iload_n hx hb d_Mo_fetched_64 rfl (lv_at hl 0 rfl) ?_
      refine cl_S (k_Mo_isX l D a hA u46 r49) ⟨hx, hb, hml, hown, hts⟩ (va_cwS 1 hts (gi_S t_561 t_562 t_66 t_563) rfl rfl rfl (by decide +kernel) ⟨Nat.le_of_ble_eq_true rfl, Nat.le_of_ble_eq_true rfl⟩) hP hK hS rfl hl.1 rfl (Nat.le_of_ble_eq_true rfl) d_Mo_fetched_65 (nm_i (fun r65 e65 H locs hP hS => ?_))
      refine lv_if_eq (tgt := 75) hx hb d_Mo_fetched_68 (by decide) (fun h68 => ?_) (fun h68 => ?_)
      · refine lv_iconst (v := 0) hx hb d_Mo_fetched_75 (by decide) ?_
        exact hJ76 0 _ _ (by simp only [J_Mo_fetched_76, if_neg h57, ← e65, if_pos h68]) hP hS
      refine lv_iconst (v := 3) hx hb d_Mo_fetched_71 (by decide) ?_
      refine lv_goto (tgt := 76) hx hb d_Mo_fetched_72 (by decide) ?_
      exact hJ76 3 _ _ (by simp only [J_Mo_fetched_76, if_neg h57, ← e65, if_neg h68]) hP hS
    refine lv_iconst (v := 2) hx hb d_Mo_fetched_60 (by decide) ?_
    refine lv_goto (tgt := 76) hx hb d_Mo_fetched_61 (by decide) ?_
    exact hJ76 2 _ _ (by simp only [J_Mo_fetched_76, if_pos h57]) hP hS
  refine lv_if_eq (tgt := 26) hx hb d_Mo_fetched_19 (by decide) (fun h19 => ?_) (fun h19 => ?_)
  · refine lv_iconst (v := 2) hx hb d_Mo_fetched_26 (by decide) ?_
    exact hJ27 2 (by simp only [J_Mo_fetched_27, if_pos h19])
  refine lv_iconst (v := 0) hx hb d_Mo_fetched_22 (by decide) ?_
  refine lv_goto (tgt := 27) hx hb d_Mo_fetched_23 (by decide) ?_
  exact hJ27 0 (by simp only [J_Mo_fetched_27, if_neg h19])
