/-! 14e.begin: the law from its entry to its loop, laid by gen6.py -/
theorem t_74 : Cond.methodLink R_La 35 y_M_init ∈ TB := mt 74 (by decide +kernel) (by decide +kernel)
theorem t_484 : Cond.methodLink R_La 38 y_Mo_init ∈ TB := mt 484 (by decide +kernel) (by decide +kernel)
theorem t_72 : Cond.classLink R_La 8 R_M ∈ TB := mt 72 (by decide +kernel) (by decide +kernel)
theorem t_482 : Cond.classLink R_La 36 R_Mo ∈ TB := mt 482 (by decide +kernel) (by decide +kernel)
theorem t_73 : Cond.instantiable R_M 7 ∈ TB := mt 73 (by decide +kernel) (by decide +kernel)
theorem t_483 : Cond.instantiable R_Mo 10 ∈ TB := mt 483 (by decide +kernel) (by decide +kernel)
theorem t_75 : Cond.instanceMethod y_M_init ∈ TB := mt 75 (by decide +kernel) (by decide +kernel)
theorem t_485 : Cond.instanceMethod y_Mo_init ∈ TB := mt 485 (by decide +kernel) (by decide +kernel)
theorem t_76 : Cond.code y_M_init b_M_init 1 none ∈ TB := mt 76 (by decide +kernel) (by decide +kernel)
theorem t_486 : Cond.code y_Mo_init b_Mo_init 1 none ∈ TB := mt 486 (by decide +kernel) (by decide +kernel)
theorem t_67 : Cond.initialized R_T ∈ TB := mt 67 (by decide +kernel) (by decide +kernel)
/-- the classes of our world are known at the start -/
theorem lw_D {s : State} {b : Nat} (hts : ∀ w ∈ lw_tbl, w.before #[Value.ref b] s = true) : ∃ D : va_G, va_K D kl [] s := by
  obtain ⟨c0, i0, h0⟩ := u_known (C := R_Li) (T := F_Li) (N := 1) hts (fun w h => hB w (ui_Li w h)) (hts _ (hB _ t_92))
  obtain ⟨c1, i1, h1⟩ := u_known (C := R_Me) (T := F_Me) (N := 1) hts (fun w h => hB w (ui_Me w h)) (hts _ (hB _ t_81))
  obtain ⟨c2, i2, h2⟩ := u_known (C := R_St) (T := F_St) (N := 1) hts (fun w h => hB w (ui_St w h)) (hts _ (hB _ t_102))
  obtain ⟨c3, i3, h3⟩ := u_known (C := R_M) (T := F_M) (N := 7) hts (fun w h => hB w (ui_M w h)) (hts _ (hB _ t_73))
  obtain ⟨c4, i4, h4⟩ := u_known (C := R_Mo) (T := F_Mo) (N := 10) hts (fun w h => hB w (ui_Mo w h)) (hts _ (hB _ t_483))
  refine ⟨(fun k => match k with | 0 => c0 | 1 => c1 | 2 => c2 | 3 => c3 | _ => c4, fun k => match k with | 0 => i0 | 1 => i1 | 2 => i2 | 3 => i3 | _ => i4), fun c q hq => ?_, fun k q hk => by simp at hk⟩
  have hc : c < 5 := (List.getElem?_eq_some_iff.mp hq).1
  rcases (show c = 0 ∨ c = 1 ∨ c = 2 ∨ c = 3 ∨ c = 4 by omega) with rfl | rfl | rfl | rfl | rfl <;> cases hq
  · exact h0
  · exact h1
  · exact h2
  · exact h3
  · exact h4
theorem lw_str {s : State} {b k : Nat} {tx : String} {D : va_G} (hK : va_K D kl [] s) (h : (Cond.stringRef R_M k tx).before #[Value.ref b] s = true) : ∃ q, vk_R R_M k tx q s := by
  have hcur : s.vm.findClass R_M = some (D.1 3) := (hK.1 3 _ rfl).2.1
  obtain ⟨k', cf, j, q, -, -, -, -, -, hev⟩ := Cond.stringRef_spec hcur h
  exact ⟨q, vk_R.of h hev⟩
set_option maxHeartbeats 8000000 in
theorem lw_begin {p : Program} {e : Env} {s : State} {m : MethodId} {below : List Frame} {meth : Method} {c : Code} (l : Launch) (hfl : l.flags = pinnedFlags ++ [noTraceFlag]) {b L : Nat} {xs : Nat → Int32} (hL : L ≤ 1536)
    (hx : p.tables.exec = Jvm.exec) (hb : c.code = code) (hr : meth.sig.returnType = ret) (hml : c.maxLocals = 7) (hown : s.vm.findClass R_La = some m.cls) (hts : ∀ w ∈ lw_tbl, w.before #[Value.ref b] s = true) (hX : va_X b L xs s s.heap) (hbl : b < s.heap.size) (hlk : meth.locks = false) (hgv : (Jvm.Cond.and given_1 narrow_1).before #[Value.ref b] s = true) {Q : State → Prop}
    (hexit : ∀ (H : Heap) (locs : List Loc) (ls : Array Slot) (k : Nat), va_S (An0 s) s.heap H locs → k ≤ 512 → W p l e room_1 s m #[Value.ref b] below meth c H locs (9 + k) (1109 + 6 * k) Q (F0 m 439 ls [])) :
    W p l e room_1 s m #[Value.ref b] below meth c s.heap [] 0 0 Q (entryFrame m ([Value.ref b] : List Value).toArray 7) := by
  have hl := lv_entry [Value.ref b] (n := 7) (Nat.le_of_ble_eq_true rfl)
  rw [lg_entry_eq]
  generalize (lg_sl [Value.ref b] ++ List.replicate (7 - (lg_sl [Value.ref b]).length) Slot.unset).toArray = ls at hl ⊢
  have hl : lv_has ls 7 [(0, .ref b)] := hl
  obtain ⟨D, hK0⟩ := lw_D hts
  have hgw := flat_of_before _ hgv
  have hno : ∀ q : Nat, q < s.heap.size → ¬ An0 s q := fun q h z => absurd h (Nat.not_lt.mpr z)
  have hTA : TA (An0 s) s s.heap := ⟨⟨va_Zqof (hts (Cond.laysStatic R_T S1 E1) (List.mem_of_getElem? (i := 402) (by decide +kernel))) (hts _ (hB _ t_67)) (hgw (.isRef (.static R_T S1 E1)) (by decide +kernel)) hno, va_Zqof (hts (Cond.laysStatic R_T S2 E2) (List.mem_of_getElem? (i := 404) (by decide +kernel))) (hts _ (hB _ t_67)) (hgw (.isRef (.static R_T S2 E2)) (by decide +kernel)) hno⟩, tls_of (hts (Cond.laysStatic R_T S1 E1) (List.mem_of_getElem? (i := 402) (by decide +kernel))) hno, tls_of (hts (Cond.laysStatic R_T S2 E2) (List.mem_of_getElem? (i := 404) (by decide +kernel))) hno⟩
  have hTN : TN s := by
    intro w hw
    simp only [NW, List.mem_cons, List.not_mem_nil, or_false] at hw
    rcases hw with rfl | rfl | rfl | rfl
    · exact va_Nw.of rfl (hts (Cond.declares (Bundle.initS "java/lang/RuntimeException")) (List.mem_of_getElem? (i := 379) (by decide +kernel)))
    · exact va_Nw.of rfl (hts (Cond.declares (Bundle.initS "java/lang/Exception")) (List.mem_of_getElem? (i := 381) (by decide +kernel)))
    · exact va_Nw.of rfl (hts (Cond.declares (Bundle.initS "java/lang/Throwable")) (List.mem_of_getElem? (i := 383) (by decide +kernel)))
    · exact va_Nw.of rfl (hts (Cond.castable R_X R_X) (List.mem_of_getElem? (i := 377) (by decide +kernel)))
  have hstr : (∃ q, vk_R R_M 51 T51 q s) ∧ (∃ q, vk_R R_M 93 T93 q s) ∧ (∃ q, vk_R R_M 98 T98 q s) ∧ ∃ q, vk_R R_M 113 T113 q s := ⟨lw_str hK0 (hts (Cond.stringRef R_M 51 T51) (List.mem_of_getElem? (i := 414) (by decide +kernel))), lw_str hK0 (hts (Cond.stringRef R_M 93 T93) (List.mem_of_getElem? (i := 455) (by decide +kernel))), lw_str hK0 (hts (Cond.stringRef R_M 98 T98) (List.mem_of_getElem? (i := 466) (by decide +kernel))), lw_str hK0 (hts (Cond.stringRef R_M 113 T113) (List.mem_of_getElem? (i := 481) (by decide +kernel)))⟩
  have hN : NN s := ⟨va_Nw.of rfl (hts (Cond.methodLinkNest R_M 11 y_Me_init R_M) (List.mem_of_getElem? (i := 82) (by decide +kernel))), va_Nw.of rfl (hts (Cond.methodLinkNest R_M 18 y_Li_init R_M) (List.mem_of_getElem? (i := 93) (by decide +kernel))), va_Nw.of rfl (hts (Cond.methodLinkNest R_M 25 y_St_init R_M) (List.mem_of_getElem? (i := 103) (by decide +kernel)))⟩
  have hS : va_S (An0 s) s.heap s.heap [] := va_S.rf
  have hP : va_P D kl [] s.heap := fun k q h => by simp at h
  have hD : va_D (An0 s) ([] : va_W) := ⟨fun i j x y h => by simp at h, fun k q h => by simp at h⟩
  refine va_new (C := R_M) (T := F_M) (N := 7) (ci := 3) (fs := [.null, .null, .null, .int 0, .int 0, .int 0, .int 0]) hx hb hts (fun w h => hB w (ui_M w h)) ft_M ft_M_ok hown (hts _ (hB _ t_72)) (hts _ (hB _ t_73)) (hts _ (hB _ t_62)) hK0 hP hD hS (fun q h => h) rfl (by decide +kernel) (by decide) (by decide) d_lw_0 (fun q1 H hP hD hS => ?_)
  have hP : va_P D kl [(q1, .inr (3, [.null, .null, .null, .int 0, .int 0, .int 0, .int 0]))] H := hP
  have hD : va_D (An0 s) [(q1, .inr (3, [.null, .null, .null, .int 0, .int 0, .int 0, .int 0]))] := hD
  have hq1 : An0 s q1 := hD.2 0 _ rfl
  have hq1H : q1 < H.size := (hP 0 _ rfl).lt
  refine lv_dup hx hb d_lw_3 rfl ?_
  refine run_go (va_runI (g := F0 m 4 ls [.ref q1, .ref q1]) (rest := [.ref q1]) (As := []) (b := q1) ⟨hx, hb, hml, hown, hts⟩ (ki_M l D q1 H.size) ⟨callB_of 0 hts (gg_c hB t_76) rfl rfl rfl (hts _ (hB _ t_62)) (hts _ (hB _ t_74)) (by decide +kernel) ⟨Nat.le_of_ble_eq_true rfl, Nat.le_of_ble_eq_true rfl⟩, rfl, hts _ (hB _ t_75)⟩ ⟨fun a' U g mk q => ⟨q.1, ⟨⟨q.2.1.1.1, va_K.moved (u := U) (U := U.calling g mk a') (Vm.Alike.refl U.vm) q.2.1.1.2⟩, q.2.1.2⟩, va_Nw.same rfl rfl q.2.2.1, va_Nw.same rfl rfl q.2.2.2.1, va_Nw.same rfl rfl q.2.2.2.2⟩, fun U hU hW => ⟨rfl, ⟨⟨by rw [hU]; exact hP, va_K.moved hW.alike hK0⟩, by rw [hU]; exact Nat.le_refl _⟩, va_Nw.warmM hW hN.1, va_Nw.warmM hW hN.2.1, va_Nw.warmM hW hN.2.2⟩⟩ rfl rfl hl.1 rfl (lv_room (Nat.le_of_ble_eq_true rfl)) d_lw_4 ⟨by decide, by decide⟩) (fun v st₀ t L1 h0 hq hL1 hAl => ?_)
  obtain ⟨hv, a, ha1, hAp, hPa, hKa, hFa, hF⟩ := hq
  cases hv
  rw [va_F, h0] at hF
  have hHs : s.heap.size ≤ H.size := hS.1
  have hAA : ∀ q, An q1 H.size q → An0 s q := fun q h => h.elim (fun z => z ▸ hq1) (fun z => Nat.le_trans hHs z)
  have hS := S_call hS hF.1 hF.2 hL1 hAA
  have hKa : va_K D kl (tyC a) s := va_K.moved hAl.symm hKa
  have hFA : ∀ q, FA a q → An0 s q := fun q h => hAA q (hFa q h)
  clear hF h0 hAl hP hD
  generalize t.heap = H2 at *
  generalize ([] : List Loc) ++ L1 = locs at *
  refine lv_astore_n hx hb d_lw_7 rfl hl (by decide) rfl (fun ls hl => ?_)
  have hl : lv_has ls 7 [(1, .ref q1), (0, .ref b)] := hl
  have hDa : va_D (An0 s) (cw a u00) := (dd_C hAp u00).weaken fun k q _ h => hFA q.1 h
  refine va_new (C := R_Mo) (T := F_Mo) (N := 10) (ci := 4) (fs := [.int 0, .null, .null, .int 0, .int 0, .int 0, .int 0, .int 0, .int 0, .int 0]) hx hb hts (fun w h => hB w (ui_Mo w h)) ft_Mo ft_Mo_ok hown (hts _ (hB _ t_482)) (hts _ (hB _ t_483)) (hts _ (hB _ t_66)) hK0 hPa hDa hS (fun q h => h) rfl (by decide +kernel) (by decide) (by decide) d_lw_8 (fun q2 H hP hD hS => ?_)
  have hq2 : An0 s q2 := hD.2 5 _ rfl
  have hq2H : q2 < H.size := (hP 5 _ rfl).lt
  have hPa : va_P D kl (cw a u00) H := fun k q hk => hP k q (by rw [List.getElem?_append_left (List.getElem?_eq_some_iff.mp hk).1]; exact hk)
  have hFq : ∀ q, FA a q → q < H.size ∧ q ≠ q2 := by
    intro q hq
    have hq' : q ∈ (cw a u00).map (·.1) := hq
    obtain ⟨x, hx1, rfl⟩ := List.mem_map.mp hq'
    obtain ⟨k, hk, ek⟩ := List.getElem_of_mem hx1
    have hkk : (cw a u00)[k]? = some x := by rw [List.getElem?_eq_getElem hk, ek]
    refine ⟨(hPa k x hkk).lt, fun z => ?_⟩
    have hk5 : k < 5 := hk
    have := hD.1 k 5 x _ (by rw [List.getElem?_append_left hk]; exact hkk) rfl z
    omega
  refine lv_dup hx hb d_lw_11 rfl ?_
  refine run_go (va_runI (g := F0 m 12 ls [.ref q2, .ref q2]) (rest := [.ref q2]) (As := []) (b := q2) ⟨hx, hb, hml, hown, hts⟩ (ki_Mo l D q2 H.size) ⟨callB_of 0 hts (gg_c hB t_486) rfl rfl rfl (hts _ (hB _ t_66)) (hts _ (hB _ t_484)) (by decide +kernel) ⟨Nat.le_of_ble_eq_true rfl, Nat.le_of_ble_eq_true rfl⟩, rfl, hts _ (hB _ t_485)⟩ ⟨fun a' U g mk q => ⟨q.1, ⟨q.2.1.1, va_K.moved (u := U) (U := U.calling g mk a') (Vm.Alike.refl U.vm) q.2.1.2⟩, q.2.2⟩, fun U hU hW => ⟨rfl, ⟨by rw [hU]; exact hP.sub [5] rfl, va_K.moved hW.alike hK0⟩, by rw [hU]; exact Nat.le_refl _⟩⟩ rfl rfl hl.1 rfl (lv_room (Nat.le_of_ble_eq_true rfl)) d_lw_12 ⟨by decide, by decide⟩) (fun v st₀ t L2 h0 hq hL2 hAl => ?_)
  obtain ⟨hv, r, hr1, hApR, hPr, hKr, hFr, hF⟩ := hq
  cases hv
  rw [va_F, h0] at hF
  have hHs2 : s.heap.size ≤ H.size := hS.1
  have hAA2 : ∀ q, An q2 H.size q → An0 s q := fun q h => h.elim (fun z => z ▸ hq2) (fun z => Nat.le_trans hHs2 z)
  have hPa : va_P D kl (cw a u00) t.heap := hPa.kept fun k x hx1 => by
    have hq := (dd_C hAp u00).2 k x hx1
    exact hF.2 x.1 (hFq x.1 hq).1 (fun z => z.elim (hFq x.1 hq).2 (fun y => absurd (hFq x.1 hq).1 (Nat.not_lt.mpr y)))
  have hS := S_call hS hF.1 hF.2 hL2 hAA2
  have hKr : va_K D kl (tyR r) s := va_K.moved hAl.symm hKr
  have hFB : ∀ q, FB r q → An0 s q := fun q h => hAA2 q (hFr q h)
  have hdis : ∀ q, FA a q → ¬ FB r q := fun q h z => (hFr q z).elim (hFq q h).2 (fun y => absurd (hFq q h).1 (Nat.not_lt.mpr y))
  clear hF h0 hAl hP hD
  generalize t.heap = H3 at *
  generalize _ ++ L2 = locs2 at *
  refine lv_astore_n hx hb d_lw_15 rfl hl (by decide) rfl (fun ls hl => ?_)
  have hl : lv_has ls 7 [(2, .ref q2), (1, .ref q1), (0, .ref b)] := hl
  refine lv_iconst (v := 1) hx hb d_lw_16 (by decide) ?_
  have hDr : va_D (An0 s) (mw r v00) := (dd_R hApR v00).weaken fun k q _ h => hFB q.1 h
  have hD12 : va_D (An0 s) (cw a u00 ++ mw r v00) := va_D.app ((dd_C hAp u00).weaken fun k q _ h => hFA q.1 h) hDr fun i j x y hi hj hxy => hdis x.1 ((dd_C hAp u00).2 i x hi) (hxy ▸ (dd_R hApR v00).2 j y hj)
  refine va_newa (atype := .long) (ty := .long) (a0 := (1, .inr (.inl (fun _ => 0)))) (N' := 1) hx hb (hts _ (hB _ t_692)) rfl hKa (hPa.app hPr) hD12 hS (fun q h => h) (fun cA => vp_cell_l cA 1 (fun _ => 0)) (by decide) (by decide) (by decide) (by decide) (by decide) d_lw_17 (fun q3 cL H4 hK hP hD hS => ?_)
  refine lv_astore_n hx hb d_lw_19 rfl hl (by decide) rfl (fun ls hl => ?_)
  have hl : lv_has ls 7 [(3, .ref q3), (2, .ref q2), (1, .ref q1), (0, .ref b)] := hl
  refine lv_iconst (v := 0) hx hb d_lw_20 (by decide) ?_
  refine lv_istore hx hb d_lw_21 hl (by decide) rfl (fun ls hl => ?_)
  have hl : lv_has ls 7 [(4, .int 0), (3, .ref q3), (2, .ref q2), (1, .ref q1), (0, .ref b)] := hl
  have hP1 : va_P D kl (cwo a (q3, cL) (u00, fun _ => 0)) H4 := hP.sub [0, 1, 2, 3, 4, 8] rfl
  have hP2 : va_P D kl (mw r (ra u00 0 0 0)) H4 := by rw [← ra_00]; exact hP.sub [5, 6, 7] rfl
  have hq3 : An0 s q3 := hD.2 8 _ rfl
  have hnA : ∀ (k : Nat) (q : Nat × va_E), k < 8 → ((cw a u00 ++ mw r v00) ++ [(q3, .inl (cL, 1, .inr (.inl (fun _ => 0))))])[k]? = some q → q.1 ≠ q3 := fun k q hk hkq z => absurd (hD.1 k 8 q _ hkq rfl z) (by omega)
  have hO : ¬ FA a q3 := by
    intro hq
    have hq' : q3 ∈ (cw a u00).map (·.1) := hq
    obtain ⟨x, hx1, ex⟩ := List.mem_map.mp hq'
    obtain ⟨k, hk, ek⟩ := List.getElem_of_mem hx1
    have hk5 : k < 5 := hk
    refine hnA k x (by omega) ?_ ex
    rw [List.getElem?_append_left (by simp [cw, mw]; omega), List.getElem?_append_left hk, List.getElem?_eq_getElem hk, ek]
  have hOB : ¬ FB r q3 := by
    intro hq
    have hq' : q3 ∈ (mw r v00).map (·.1) := hq
    obtain ⟨x, hx1, ex⟩ := List.mem_map.mp hq'
    obtain ⟨k, hk, ek⟩ := List.getElem_of_mem hx1
    have hk3 : k < 3 := hk
    refine hnA (5 + k) x (by omega) ?_ ex
    rw [List.getElem?_append_left (by simp [cw, mw]; omega), List.getElem?_append_right (by simp [cw])]
    rw [show 5 + k - (cw a u00).length = k by simp [cw], List.getElem?_eq_getElem hk, ek]
  subst ha1; subst hr1
  have F : LF p l s m meth c b L xs D a (q3, cL) r := ⟨⟨hx, hb, hr, hml, hown, hts, hX, hbl, hlk⟩, hfl, ⟨hK, hKr⟩, ⟨⟨hAp, hO⟩, hApR⟩, ⟨fun q h => h.elim (hFA q) (fun z => z ▸ hq3), hFB, fun q h z => h.elim (fun y => hdis q y z) (fun y => hOB ((show q = q3 from y) ▸ z))⟩, ⟨hTA, hTN⟩, hstr⟩
  exact lw_loop F hL hexit 512 0 H4 _ ls u00 (fun _ => 0) 0 0 0 (by omega) (by omega) hP1 hP2 hS i_u00 (lv_sub hl [4, 3, 2, 1, 0] rfl)
