/-! 13d.ctor: the constructors, laid by gen4.py -/
theorem d_Li_init_0 : decode b_Li_init 0 = .ok (.aload_n 0, 1) := by decide +kernel
theorem d_Li_init_1 : decode b_Li_init 1 = .ok (.invokespecial 3, 3) := by decide +kernel
theorem d_Li_init_4 : decode b_Li_init 4 = .ok (.return_, 1) := by decide +kernel
theorem d_St_init_0 : decode b_St_init 0 = .ok (.aload_n 0, 1) := by decide +kernel
theorem d_St_init_1 : decode b_St_init 1 = .ok (.invokespecial 3, 3) := by decide +kernel
theorem d_St_init_4 : decode b_St_init 4 = .ok (.return_, 1) := by decide +kernel
theorem d_Me_init_0 : decode b_Me_init 0 = .ok (.aload_n 0, 1) := by decide +kernel
theorem d_Me_init_1 : decode b_Me_init 1 = .ok (.invokespecial 3, 3) := by decide +kernel
theorem d_Me_init_4 : decode b_Me_init 4 = .ok (.aload_n 0, 1) := by decide +kernel
theorem d_Me_init_5 : decode b_Me_init 5 = .ok (.sipush 512, 3) := by decide +kernel
theorem d_Me_init_8 : decode b_Me_init 8 = .ok (.newarray .char, 2) := by decide +kernel
theorem d_Me_init_10 : decode b_Me_init 10 = .ok (.putfield 9, 3) := by decide +kernel
theorem d_Me_init_13 : decode b_Me_init 13 = .ok (.return_, 1) := by decide +kernel
theorem d_M_init_0 : decode b_M_init 0 = .ok (.aload_n 0, 1) := by decide +kernel
theorem d_M_init_1 : decode b_M_init 1 = .ok (.invokespecial 3, 3) := by decide +kernel
theorem d_M_init_4 : decode b_M_init 4 = .ok (.aload_n 0, 1) := by decide +kernel
theorem d_M_init_5 : decode b_M_init 5 = .ok (.new 9, 3) := by decide +kernel
theorem d_M_init_8 : decode b_M_init 8 = .ok (.dup, 1) := by decide +kernel
theorem d_M_init_9 : decode b_M_init 9 = .ok (.invokespecial 11, 3) := by decide +kernel
theorem d_M_init_12 : decode b_M_init 12 = .ok (.putfield 12, 3) := by decide +kernel
theorem d_M_init_15 : decode b_M_init 15 = .ok (.aload_n 0, 1) := by decide +kernel
theorem d_M_init_16 : decode b_M_init 16 = .ok (.new 16, 3) := by decide +kernel
theorem d_M_init_19 : decode b_M_init 19 = .ok (.dup, 1) := by decide +kernel
theorem d_M_init_20 : decode b_M_init 20 = .ok (.invokespecial 18, 3) := by decide +kernel
theorem d_M_init_23 : decode b_M_init 23 = .ok (.putfield 19, 3) := by decide +kernel
theorem d_M_init_26 : decode b_M_init 26 = .ok (.aload_n 0, 1) := by decide +kernel
theorem d_M_init_27 : decode b_M_init 27 = .ok (.new 23, 3) := by decide +kernel
theorem d_M_init_30 : decode b_M_init 30 = .ok (.dup, 1) := by decide +kernel
theorem d_M_init_31 : decode b_M_init 31 = .ok (.invokespecial 25, 3) := by decide +kernel
theorem d_M_init_34 : decode b_M_init 34 = .ok (.putfield 26, 3) := by decide +kernel
theorem d_M_init_37 : decode b_M_init 37 = .ok (.aload_n 0, 1) := by decide +kernel
theorem d_M_init_38 : decode b_M_init 38 = .ok (.bipush 16, 2) := by decide +kernel
theorem d_M_init_40 : decode b_M_init 40 = .ok (.putfield 30, 3) := by decide +kernel
theorem d_M_init_43 : decode b_M_init 43 = .ok (.return_, 1) := by decide +kernel
theorem d_Mo_init_0 : decode b_Mo_init 0 = .ok (.aload_n 0, 1) := by decide +kernel
theorem d_Mo_init_1 : decode b_Mo_init 1 = .ok (.invokespecial 1, 3) := by decide +kernel
theorem d_Mo_init_4 : decode b_Mo_init 4 = .ok (.aload_n 0, 1) := by decide +kernel
theorem d_Mo_init_5 : decode b_Mo_init 5 = .ok (.sipush 512, 3) := by decide +kernel
theorem d_Mo_init_8 : decode b_Mo_init 8 = .ok (.newarray .int, 2) := by decide +kernel
theorem d_Mo_init_10 : decode b_Mo_init 10 = .ok (.putfield 7, 3) := by decide +kernel
theorem d_Mo_init_13 : decode b_Mo_init 13 = .ok (.aload_n 0, 1) := by decide +kernel
theorem d_Mo_init_14 : decode b_Mo_init 14 = .ok (.bipush 64, 2) := by decide +kernel
theorem d_Mo_init_16 : decode b_Mo_init 16 = .ok (.newarray .boolean, 2) := by decide +kernel
theorem d_Mo_init_18 : decode b_Mo_init 18 = .ok (.putfield 13, 3) := by decide +kernel
theorem d_Mo_init_21 : decode b_Mo_init 21 = .ok (.aload_n 0, 1) := by decide +kernel
theorem d_Mo_init_22 : decode b_Mo_init 22 = .ok (.bipush 16, 2) := by decide +kernel
theorem d_Mo_init_24 : decode b_Mo_init 24 = .ok (.putfield 17, 3) := by decide +kernel
theorem d_Mo_init_27 : decode b_Mo_init 27 = .ok (.return_, 1) := by decide +kernel
theorem t_96 : Cond.methodLink R_Li 3 Lib.objectInit ∈ TB := mt 96 (by decide +kernel) (by decide +kernel)
theorem t_106 : Cond.methodLink R_St 3 Lib.objectInit ∈ TB := mt 106 (by decide +kernel) (by decide +kernel)
theorem t_85 : Cond.methodLink R_Me 3 Lib.objectInit ∈ TB := mt 85 (by decide +kernel) (by decide +kernel)
theorem t_77 : Cond.methodLink R_M 3 Lib.objectInit ∈ TB := mt 77 (by decide +kernel) (by decide +kernel)
theorem t_487 : Cond.methodLink R_Mo 1 Lib.objectInit ∈ TB := mt 487 (by decide +kernel) (by decide +kernel)
theorem t_78 : Cond.instanceMethod Lib.objectInit ∈ TB := mt 78 (by decide +kernel) (by decide +kernel)
theorem t_79 : Cond.code Lib.objectInit ⟨#[0xb1]⟩ 1 none ∈ TB := mt 79 (by decide +kernel) (by decide +kernel)
theorem t_90 : Cond.arrayClass .char ∈ TB := mt 90 (by decide +kernel) (by decide +kernel)
theorem t_519 : Cond.arrayClass .int ∈ TB := mt 519 (by decide +kernel) (by decide +kernel)
theorem t_520 : Cond.arrayClass .boolean ∈ TB := mt 520 (by decide +kernel) (by decide +kernel)
theorem t_692 : Cond.arrayClass .long ∈ TB := mt 692 (by decide +kernel) (by decide +kernel)
theorem t_80 : Cond.classLink R_M 9 R_Me ∈ TB := mt 80 (by decide +kernel) (by decide +kernel)
theorem t_81 : Cond.instantiable R_Me 1 ∈ TB := mt 81 (by decide +kernel) (by decide +kernel)
theorem t_84 : Cond.code y_Me_init b_Me_init 1 none ∈ TB := mt 84 (by decide +kernel) (by decide +kernel)
theorem t_83 : Cond.instanceMethod y_Me_init ∈ TB := mt 83 (by decide +kernel) (by decide +kernel)
theorem t_91 : Cond.classLink R_M 16 R_Li ∈ TB := mt 91 (by decide +kernel) (by decide +kernel)
theorem t_92 : Cond.instantiable R_Li 1 ∈ TB := mt 92 (by decide +kernel) (by decide +kernel)
theorem t_95 : Cond.code y_Li_init b_Li_init 1 none ∈ TB := mt 95 (by decide +kernel) (by decide +kernel)
theorem t_94 : Cond.instanceMethod y_Li_init ∈ TB := mt 94 (by decide +kernel) (by decide +kernel)
theorem t_101 : Cond.classLink R_M 23 R_St ∈ TB := mt 101 (by decide +kernel) (by decide +kernel)
theorem t_102 : Cond.instantiable R_St 1 ∈ TB := mt 102 (by decide +kernel) (by decide +kernel)
theorem t_105 : Cond.code y_St_init b_St_init 1 none ∈ TB := mt 105 (by decide +kernel) (by decide +kernel)
theorem t_104 : Cond.instanceMethod y_St_init ∈ TB := mt 104 (by decide +kernel) (by decide +kernel)
theorem MG.mk {l : Launch} {y : MethodName} {b : ByteArray} {n mc ms : Nat} {r : Option FieldType} {rm : Room} {av : List Value} {K : State → Prop} {Qc : Array Value → State → Outcome → State → Prop} {free : Addr → Prop} (hy : plainName y.cls = true) (hn : (lg_sl av).length ≤ n)
    (body : ∀ (p : Program) (e : Env) (s : State) (m : MethodId) (below : List Frame) (meth : Method) (c : Code) (ls : Array Slot) (args : Array Value), p.tables.exec = Jvm.exec → c.code = b → meth.sig.returnType = r → c.maxLocals = n → s.vm.findClass y.cls = some m.cls → (∀ w ∈ wC y b n r, w.before args s = true) → meth.locks = false → meth.name = y.name →
      lv_has ls n (lv_args 0 av) → K s → W p l e rm s m args below meth c s.heap [] 0 0 (MQ below Qc args s mc ms free) (F0 m 0 ls [])) : Met l y (wC y b n r) rm (va_Pc av K) Qc mc ms free := by
  refine Met.ofW (cc := b) (maxL := n) (ret := r) hy rfl ?_
  intro p e s m args below meth c s₁ B hml hv
  obtain ⟨rfl, hK⟩ := hv
  have hts := atoms_spec (ws := wC y b n r) B.pre
  have hown : s.vm.findClass y.cls = some m.cls := findClass_of_methodNamed B.named
  have hl := lv_entry av (n := n) hn
  rw [lg_entry_eq]
  exact body p e s m below meth c _ _ B.exec B.bytes B.returns hml hown hts B.notSynchronized (name_of_methodNamed B.named B.method).1 hl hK
section RG
variable {p : Program} {l : Launch} {e : Env} {R : Room} {s : State} {m : MethodId} {args : Array Value} {below : List Frame} {meth : Method} {c : Code} {H : Heap} {locs : List Loc} {cells slots mc ms : Nat} {Q : State → Prop} {g : JFrame} {rest : List Value} {Qa : State → Outcome → State → Prop} {free : Addr → Prop}
/-- behind any call -/
theorem run_go (hr : va_Run p l e R s m args below meth c H locs cells slots mc ms g rest Qa free)
    (kk : ∀ (v : Option Value) (st₀ t : State) (L : List Loc), st₀.heap = H → Qa st₀ (.returned v) t → (∀ q ∈ L, free q.base) → s.vm.Alike t.vm → W p l e R s m args below meth c t.heap (locs ++ L) (cells + mc) (slots + ms) Q { g with pc := g.pc + 3, stack := v.toList ++ rest }) : W p l e R s m args below meth c H locs cells slots Q g := by
  intro T hT X
  obtain ⟨v, st₀, t, T', L, h0, X', hL, e1, e2, hq, st⟩ := hr T hT X
  obtain ⟨t2, a1, b1⟩ := kk v st₀ t L h0 hq hL (by rw [← e2]; exact X'.warmed.alike) T' e1 X'
  exact ⟨t2, st t2 a1, b1⟩
end RG
theorem S_call {A A' : Nat → Prop} {H0 H H1 : Heap} {locs L : List Loc} (hS : va_S A H0 H locs) (h1 : H.size ≤ H1.size) (h2 : ∀ x : Nat, x < H.size → ¬ A' x → H1[x]? = H[x]?) (hL : ∀ q ∈ L, A' q.base) (hAA : ∀ q, A' q → A q) : va_S A H0 H1 (locs ++ L) := by
  refine ⟨Nat.le_trans hS.1 h1, fun q z1 z2 => ?_, fun q hq => ?_⟩
  · rw [h2 q (Nat.lt_of_lt_of_le z1 hS.1) (fun z => z2 (hAA q z))]
    exact hS.2.1 q z1 z2
  · rcases List.mem_append.mp hq with h | h
    · exact hS.2.2 q h
    · exact hAA _ (hL q h)
theorem J_of {ws : va_W} {A : Nat → Prop} (h : va_D A ws) : va_J (ws.map (·.1)) := by
  refine ⟨fun i j x y hi hj hxy => ?_, fun _ _ _ => trivial⟩
  rw [List.map_map, List.getElem?_map] at hi hj
  cases h1 : ws[i]? with
  | none => rw [h1] at hi; cases hi
  | some u =>
    cases h2 : ws[j]? with
    | none => rw [h2] at hj; cases hj
    | some v =>
      rw [h1] at hi
      rw [h2] at hj
      cases hi
      cases hj
      exact h.1 i j u v h1 h2 hxy
theorem F_of {ws : va_W} {A : Nat → Prop} (h : va_D A ws) : ∀ q, q ∈ ws.map (·.1) → A q := by
  intro q hq
  obtain ⟨x, hx, rfl⟩ := List.mem_map.mp hq
  obtain ⟨k, hk, e⟩ := List.getElem_of_mem hx
  exact h.2 k x (by rw [List.getElem?_eq_getElem hk, e])
abbrev rmO : Room := { frames := 1, cells := 0, slots := 0, locals := 12 }
abbrev rmMe : Room := { frames := 1, cells := 1, slots := 512, locals := 12 }
abbrev rmMi : Room := { frames := 2, cells := 4, slots := 515, locals := 32 }
abbrev rmMoi : Room := { frames := 1, cells := 2, slots := 576, locals := 12 }
def An (o M : Nat) : Nat → Prop := fun q => q = o ∨ M ≤ q
theorem ki_Li (l : Launch) (o : Nat) : Met l y_Li_init (wC y_Li_init b_Li_init 1 none) rmO (va_Pc [.ref o] (fun _ => True)) (fun _ st oc t => oc = .returned none ∧ t.heap = st.heap) 0 0 (fun _ => False) := by
  refine MG.mk (by decide) (Nat.le_of_ble_eq_true rfl) ?_
  intro p e s m below meth c ls args hx hb hr hml hown hts hlk hnm hl hK
  have hown : s.vm.findClass R_Li = some m.cls := hown
  have hl : lv_has ls 1 [(0, .ref o)] := hl
  refine lv_aload_n hx hb d_Li_init_0 rfl (lv_at hl 0 rfl) ?_
  refine W.objInit (g := F0 m 1 ls [.ref o]) hx hb hown (hts _ (wm t_96)) (hts _ (wm t_78)) (hts _ (wm t_79)) rfl (hl.1.trans hml.symm) rfl d_Li_init_1 (by decide) (by simp [JFrame.monitorRoom]) ?_
  exact W.vret hx hb hr (fun t ht _ => ⟨rfl, ht⟩) (fun q h => by cases h) d_Li_init_4 hlk
theorem ki_St (l : Launch) (o : Nat) : Met l y_St_init (wC y_St_init b_St_init 1 none) rmO (va_Pc [.ref o] (fun _ => True)) (fun _ st oc t => oc = .returned none ∧ t.heap = st.heap) 0 0 (fun _ => False) := by
  refine MG.mk (by decide) (Nat.le_of_ble_eq_true rfl) ?_
  intro p e s m below meth c ls args hx hb hr hml hown hts hlk hnm hl hK
  have hown : s.vm.findClass R_St = some m.cls := hown
  have hl : lv_has ls 1 [(0, .ref o)] := hl
  refine lv_aload_n hx hb d_St_init_0 rfl (lv_at hl 0 rfl) ?_
  refine W.objInit (g := F0 m 1 ls [.ref o]) hx hb hown (hts _ (wm t_106)) (hts _ (wm t_78)) (hts _ (wm t_79)) rfl (hl.1.trans hml.symm) rfl d_St_init_1 (by decide) (by simp [JFrame.monitorRoom]) ?_
  exact W.vret hx hb hr (fun t ht _ => ⟨rfl, ht⟩) (fun q h => by cases h) d_St_init_4 hlk
def QMe (D : va_G) (o M : Nat) : Array Value → State → Outcome → State → Prop := fun _ st oc t => oc = .returned none ∧ ∃ (w : Nat) (cA : ClassId), va_P D kl [(o, .inr (1, [.ref w])), (w, .inl (cA, 512, .inl (fun _ => 0)))] t.heap ∧ va_K D kl [(cA, .char)] t ∧ va_D (An o M) [(o, .inr (1, [.ref w])), (w, .inl (cA, 512, .inl (fun _ => 0)))] ∧ va_F (An o M) st t
set_option maxHeartbeats 4000000 in
theorem ki_Me (l : Launch) (D : va_G) (o M : Nat) : Met l y_Me_init (wC y_Me_init b_Me_init 1 none) rmMe (va_Pc [.ref o] (fun U => (va_P D kl [(o, .inr (1, [.null]))] U.heap ∧ va_K D kl [] U) ∧ M ≤ U.heap.size)) (QMe D o M) 1 512 (An o M) := by
  refine MG.mk (by decide) (Nat.le_of_ble_eq_true rfl) ?_
  intro p e s m below meth c ls args hx hb hr hml hown hts hlk hnm hl hK
  have hown : s.vm.findClass R_Me = some m.cls := hown
  have hl : lv_has ls 1 [(0, .ref o)] := hl
  refine lv_aload_n hx hb d_Me_init_0 rfl (lv_at hl 0 rfl) ?_
  refine W.objInit (g := F0 m 1 ls [.ref o]) hx hb hown (hts _ (wm t_85)) (hts _ (wm t_78)) (hts _ (wm t_79)) rfl (hl.1.trans hml.symm) rfl d_Me_init_1 (by decide) (by simp [JFrame.monitorRoom]) ?_
  obtain ⟨⟨hP, hK⟩, hM⟩ := hK
  have hD : va_D (An o M) [(o, .inr (1, [.null]))] := ⟨fun i j x y hi hj _ => by
      have h1 : i < 1 := (List.getElem?_eq_some_iff.mp hi).1
      have h2 : j < 1 := (List.getElem?_eq_some_iff.mp hj).1
      omega, fun k q hk => by
      have hz : k < 1 := (List.getElem?_eq_some_iff.mp hk).1
      rw [show k = 0 by omega] at hk
      cases hk
      exact Or.inl rfl⟩
  have hS : va_S (An o M) s.heap s.heap [] := va_S.rf
  refine lv_aload_n hx hb d_Me_init_4 rfl (lv_at hl 0 rfl) ?_
  refine lv_sipush (v := 512) hx hb d_Me_init_5 (by decide) ?_
  refine va_newa (atype := .char) (ty := .char) (a0 := (512, .inl (fun _ => 0))) (N' := 512) hx hb (hts _ (wm t_90)) rfl hK hP hD hS (fun q h => Or.inr (Nat.le_trans hM h)) (fun cA => vp_cell_i cA 512 (fun _ => 0)) (by decide) (by decide) (by decide) (by decide) (by decide) d_Me_init_8 (fun w cA H hK hP hD hS => ?_)
  refine va_putF (D := D) (ci := 1) (v := .ref w) (ty := .array .char) (C := R_Me) (T := F_Me) (N := 1) hx hb hts (fun w h => wm (ui_Me w h)) ft_Me ft_Me_ok fn_Me hown hK hP hD hS 0 rfl rfl 0 (by decide) (hts _ (wm t_86)) (fun _ h9 => h9) rfl hnm rfl (by decide +kernel) rfl rfl (Nat.le_of_ble_eq_true rfl) d_Me_init_10 (fun H locs hP hD hS => ?_)
  have hP : va_P D kl [(o, .inr (1, [.ref w])), (w, .inl (cA, 512, .inl (fun _ => 0)))] H := hP
  have hD : va_D _ [(o, .inr (1, [.ref w])), (w, .inl (cA, 512, .inl (fun _ => 0)))] := hD
  exact W.vret hx hb hr (fun t ht hW => ⟨rfl, w, cA, by rw [ht]; exact hP, va_K.moved hW.alike hK, hD, hS.F ht⟩) hS.2.2 d_Me_init_13 hlk
def v00 : RSt := (fun _ => 0, fun _ => 0, 0, 0, 0, 0, 16, 0, 0, 0)
def QMo (D : va_G) (o M : Nat) : Array Value → State → Outcome → State → Prop := fun _ st oc t => oc = .returned none ∧ ∃ b : RAd, b.1 = o ∧ ApR b ∧ va_P D kl (mw b v00) t.heap ∧ va_K D kl (tyR b) t ∧ (∀ q, FB b q → An o M q) ∧ va_F (An o M) st t
set_option maxHeartbeats 4000000 in
theorem ki_Mo (l : Launch) (D : va_G) (o M : Nat) : Met l y_Mo_init (wC y_Mo_init b_Mo_init 1 none) rmMoi (va_Pc [.ref o] (fun U => (va_P D kl [(o, .inr (4, [.int 0, .null, .null, .int 0, .int 0, .int 0, .int 0, .int 0, .int 0, .int 0]))] U.heap ∧ va_K D kl [] U) ∧ M ≤ U.heap.size)) (QMo D o M) 2 576 (An o M) := by
  refine MG.mk (by decide) (Nat.le_of_ble_eq_true rfl) ?_
  intro p e s m below meth c ls args hx hb hr hml hown hts hlk hnm hl hK
  have hown : s.vm.findClass R_Mo = some m.cls := hown
  have hl : lv_has ls 1 [(0, .ref o)] := hl
  refine lv_aload_n hx hb d_Mo_init_0 rfl (lv_at hl 0 rfl) ?_
  refine W.objInit (g := F0 m 1 ls [.ref o]) hx hb hown (hts _ (wm t_487)) (hts _ (wm t_78)) (hts _ (wm t_79)) rfl (hl.1.trans hml.symm) rfl d_Mo_init_1 (by decide) (by simp [JFrame.monitorRoom]) ?_
  obtain ⟨⟨hP, hK⟩, hM⟩ := hK
  have hD : va_D (An o M) [(o, .inr (4, [.int 0, .null, .null, .int 0, .int 0, .int 0, .int 0, .int 0, .int 0, .int 0]))] := ⟨fun i j x y hi hj _ => by
      have h1 : i < 1 := (List.getElem?_eq_some_iff.mp hi).1
      have h2 : j < 1 := (List.getElem?_eq_some_iff.mp hj).1
      omega, fun k q hk => by
      have hz : k < 1 := (List.getElem?_eq_some_iff.mp hk).1
      rw [show k = 0 by omega] at hk
      cases hk
      exact Or.inl rfl⟩
  have hS : va_S (An o M) s.heap s.heap [] := va_S.rf
  refine lv_aload_n hx hb d_Mo_init_4 rfl (lv_at hl 0 rfl) ?_
  refine lv_sipush (v := 512) hx hb d_Mo_init_5 (by decide) ?_
  refine va_newa (atype := .int) (ty := .int) (a0 := (512, .inl (fun _ => 0))) (N' := 512) hx hb (hts _ (wm t_519)) rfl hK hP hD hS (fun q h => Or.inr (Nat.le_trans hM h)) (fun cA => vp_cell_i cA 512 (fun _ => 0)) (by decide) (by decide) (by decide) (by decide) (by decide) d_Mo_init_8 (fun w cA H hK hP hD hS => ?_)
  refine va_putF (D := D) (ci := 4) (v := .ref w) (ty := .array .int) (C := R_Mo) (T := F_Mo) (N := 10) hx hb hts (fun w h => wm (ui_Mo w h)) ft_Mo ft_Mo_ok fn_Mo hown hK hP hD hS 0 rfl rfl 1 (by decide) (hts _ (wm t_489)) (fun _ h9 => h9) rfl hnm rfl (by decide +kernel) rfl rfl (Nat.le_of_ble_eq_true rfl) d_Mo_init_10 (fun H locs hP hD hS => ?_)
  have hP : va_P D kl [(o, .inr (4, [.int 0, .ref w, .null, .int 0, .int 0, .int 0, .int 0, .int 0, .int 0, .int 0])), (w, .inl (cA, 512, .inl (fun _ => 0)))] H := hP
  have hD : va_D _ [(o, .inr (4, [.int 0, .ref w, .null, .int 0, .int 0, .int 0, .int 0, .int 0, .int 0, .int 0])), (w, .inl (cA, 512, .inl (fun _ => 0)))] := hD
  refine lv_aload_n hx hb d_Mo_init_13 rfl (lv_at hl 0 rfl) ?_
  refine lv_bipush (v := 64) hx hb d_Mo_init_14 (by decide) ?_
  refine va_newa (atype := .boolean) (ty := .boolean) (a0 := (64, .inl (fun _ => 0))) (N' := 64) hx hb (hts _ (wm t_520)) rfl hK hP hD hS (fun q h => Or.inr (Nat.le_trans hM h)) (fun cA => vp_cell_i cA 64 (fun _ => 0)) (by decide) (by decide) (by decide) (by decide) (by decide) d_Mo_init_16 (fun z cB H hK hP hD hS => ?_)
  refine va_putF (D := D) (ci := 4) (v := .ref z) (ty := .array .boolean) (C := R_Mo) (T := F_Mo) (N := 10) hx hb hts (fun w h => wm (ui_Mo w h)) ft_Mo ft_Mo_ok fn_Mo hown hK hP hD hS 0 rfl rfl 2 (by decide) (hts _ (wm t_490)) (fun _ h9 => h9) rfl hnm rfl (by decide +kernel) rfl rfl (Nat.le_of_ble_eq_true rfl) d_Mo_init_18 (fun H locs hP hD hS => ?_)
  have hP : va_P D kl [(o, .inr (4, [.int 0, .ref w, .ref z, .int 0, .int 0, .int 0, .int 0, .int 0, .int 0, .int 0])), (w, .inl (cA, 512, .inl (fun _ => 0))), (z, .inl (cB, 64, .inl (fun _ => 0)))] H := hP
  have hD : va_D _ [(o, .inr (4, [.int 0, .ref w, .ref z, .int 0, .int 0, .int 0, .int 0, .int 0, .int 0, .int 0])), (w, .inl (cA, 512, .inl (fun _ => 0))), (z, .inl (cB, 64, .inl (fun _ => 0)))] := hD
  refine lv_aload_n hx hb d_Mo_init_21 rfl (lv_at hl 0 rfl) ?_
  refine lv_bipush (v := 16) hx hb d_Mo_init_22 (by decide) ?_
  refine va_put (D := D) (ci := 4) (v := .int 16) (ty := .int) (C := R_Mo) (T := F_Mo) (N := 10) hx hb hts (fun w h => wm (ui_Mo w h)) ft_Mo ft_Mo_ok fn_Mo hown hK hP hD hS 0 rfl rfl 6 (by decide) (hts _ (wm t_494)) (fun _ h9 => h9) rfl (by decide +kernel) rfl rfl (Nat.le_of_ble_eq_true rfl) d_Mo_init_24 (fun H locs hP hD hS => ?_)
  have hP : va_P D kl [(o, .inr (4, [.int 0, .ref w, .ref z, .int 0, .int 0, .int 0, .int 16, .int 0, .int 0, .int 0])), (w, .inl (cA, 512, .inl (fun _ => 0))), (z, .inl (cB, 64, .inl (fun _ => 0)))] H := hP
  have hD : va_D _ [(o, .inr (4, [.int 0, .ref w, .ref z, .int 0, .int 0, .int 0, .int 16, .int 0, .int 0, .int 0])), (w, .inl (cA, 512, .inl (fun _ => 0))), (z, .inl (cB, 64, .inl (fun _ => 0)))] := hD
  exact W.vret hx hb hr (fun t ht hW => ⟨rfl, (o, w, z, cA, cB), rfl, J_of hD, by rw [ht]; exact hP, va_K.moved hW.alike hK, F_of hD, hS.F ht⟩) hS.2.2 d_Mo_init_27 hlk
def u00 : CSt := (fun _ => 0, 0, 0, 0, 0, 16, 0)
def QM (D : va_G) (o M : Nat) : Array Value → State → Outcome → State → Prop := fun _ st oc t => oc = .returned none ∧ ∃ a : CAd, a.1 = o ∧ ApC a ∧ va_P D kl (cw a u00) t.heap ∧ va_K D kl (tyC a) t ∧ (∀ q, FA a q → An o M q) ∧ va_F (An o M) st t
def NN (U : State) : Prop := va_Nw (.methodLinkNest R_M 11 y_Me_init R_M) U ∧ va_Nw (.methodLinkNest R_M 18 y_Li_init R_M) U ∧ va_Nw (.methodLinkNest R_M 25 y_St_init R_M) U
set_option maxHeartbeats 8000000 in
theorem ki_M (l : Launch) (D : va_G) (o M : Nat) : Met l y_M_init (wC y_M_init b_M_init 1 none) rmMi (va_Pc [.ref o] (fun U => ((va_P D kl [(o, .inr (3, [.null, .null, .null, .int 0, .int 0, .int 0, .int 0]))] U.heap ∧ va_K D kl [] U) ∧ M ≤ U.heap.size) ∧ NN U)) (QM D o M) 4 515 (An o M) := by
  refine MG.mk (by decide) (Nat.le_of_ble_eq_true rfl) ?_
  intro p e s m below meth c ls args hx hb hr hml hown hts hlk hnm hl hK
  have hown : s.vm.findClass R_M = some m.cls := hown
  have hl : lv_has ls 1 [(0, .ref o)] := hl
  refine lv_aload_n hx hb d_M_init_0 rfl (lv_at hl 0 rfl) ?_
  refine W.objInit (g := F0 m 1 ls [.ref o]) hx hb hown (hts _ (wm t_77)) (hts _ (wm t_78)) (hts _ (wm t_79)) rfl (hl.1.trans hml.symm) rfl d_M_init_1 (by decide) (by simp [JFrame.monitorRoom]) ?_
  obtain ⟨⟨⟨hP, hK⟩, hM⟩, hN⟩ := hK
  have hD : va_D (An o M) [(o, .inr (3, [.null, .null, .null, .int 0, .int 0, .int 0, .int 0]))] := ⟨fun i j x y hi hj _ => by
      have h1 : i < 1 := (List.getElem?_eq_some_iff.mp hi).1
      have h2 : j < 1 := (List.getElem?_eq_some_iff.mp hj).1
      omega, fun k q hk => by
      have hz : k < 1 := (List.getElem?_eq_some_iff.mp hk).1
      rw [show k = 0 by omega] at hk
      cases hk
      exact Or.inl rfl⟩
  have hS : va_S (An o M) s.heap s.heap [] := va_S.rf
  refine lv_aload_n hx hb d_M_init_4 rfl (lv_at hl 0 rfl) ?_
  refine va_new (C := R_Me) (T := F_Me) (N := 1) (ci := 1) (fs := [.null]) hx hb hts (fun w h => wm (ui_Me w h)) ft_Me ft_Me_ok hown (hts _ (wm t_80)) (hts _ (wm t_81)) (hts _ (wm t_63)) hK hP hD hS (fun q h => Or.inr (Nat.le_trans hM h)) rfl (by decide +kernel) (by decide) (by decide) d_M_init_5 (fun q1 H hP hD hS => ?_)
  have hP : va_P D kl [(o, .inr (3, [.null, .null, .null, .int 0, .int 0, .int 0, .int 0])), (q1, .inr (1, [.null]))] H := hP
  have hD : va_D (An o M) [(o, .inr (3, [.null, .null, .null, .int 0, .int 0, .int 0, .int 0])), (q1, .inr (1, [.null]))] := hD
  refine lv_dup hx hb d_M_init_8 rfl ?_
  refine run_go (va_runIN (g := F0 m 9 ls [.ref q1, .ref q1, .ref o]) (rest := [.ref q1, .ref o]) (As := []) (b := q1) (host := R_M) ⟨hx, hb, hml, hown, hts⟩ (ki_Me l D q1 H.size) ⟨va_cnB 0 hts (gi_c t_84) rfl rfl rfl hN.1 (hts _ (wm t_63)) (by decide +kernel) ⟨Nat.le_of_ble_eq_true rfl, Nat.le_of_ble_eq_true rfl⟩, rfl, hts _ (wm t_83)⟩ ⟨fun a U g mk q => ⟨q.1, ⟨q.2.1.1, va_K.moved (u := U) (U := U.calling g mk a) (Vm.Alike.refl U.vm) q.2.1.2⟩, q.2.2⟩, fun U hU hW => ⟨rfl, ⟨by rw [hU]; exact hP.sub [1] rfl, va_K.moved hW.alike hK⟩, by rw [hU]; exact Nat.le_refl _⟩⟩ rfl rfl hl.1 rfl (lv_room (Nat.le_of_ble_eq_true rfl)) d_M_init_9 ⟨by decide, by decide⟩) (fun v st₀ t L h0 hq hL hAl => ?_)
  obtain ⟨hv, w, cA, hP2, hK2, hD2, hF⟩ := hq
  cases hv
  rw [va_F, h0] at hF
  have ho : o < H.size := (hP 0 _ rfl).lt
  have hq1 : q1 < H.size := (hP 1 _ rfl).lt
  have hoq : o ≠ q1 := fun z => absurd (hD.1 0 1 _ _ rfl rfl z) (by decide)
  have hqA : An o M q1 := hD.2 1 _ rfl
  have hMH : M ≤ H.size := Nat.le_trans hM hS.1
  have hAA : ∀ q, An q1 H.size q → An o M q := fun q h => h.elim (fun z => z ▸ hqA) (fun z => Or.inr (Nat.le_trans hMH z))
  have hwq : w ≠ q1 := fun z => absurd (hD2.1 1 0 _ _ rfl rfl z) (by decide)
  have hwH : H.size ≤ w := (hD2.2 1 _ rfl).resolve_left hwq
  have hS := S_call hS hF.1 hF.2 hL hAA
  have hP0 : va_P D kl [(o, .inr (3, [.null, .null, .null, .int 0, .int 0, .int 0, .int 0]))] t.heap := (hP.sub [0] rfl).kept fun k x hx => by
    have hz : k < 1 := (List.getElem?_eq_some_iff.mp hx).1
    rw [show k = 0 by omega] at hx
    cases hx
    exact hF.2 o ho (fun z => z.elim hoq (fun y => absurd ho (Nat.not_lt.mpr y)))
  have hP : va_P D kl [(o, .inr (3, [.null, .null, .null, .int 0, .int 0, .int 0, .int 0])), (q1, .inr (1, [.ref w])), (w, .inl (cA, 512, .inl (fun _ => 0)))] t.heap := hP0.app hP2
  have hD : va_D (An o M) [(o, .inr (3, [.null, .null, .null, .int 0, .int 0, .int 0, .int 0])), (q1, .inr (1, [.ref w])), (w, .inl (cA, 512, .inl (fun _ => 0)))] := by
    refine va_D.app (w1 := [(o, .inr (3, [.null, .null, .null, .int 0, .int 0, .int 0, .int 0]))]) ⟨fun i j x y hi hj _ => ?_, fun k q hk => ?_⟩ (hD2.weaken fun k q _ h => hAA q.1 h) fun i j x y hi hj hxy => ?_
    · have h1 : i < 1 := (List.getElem?_eq_some_iff.mp hi).1
      have h2 : j < 1 := (List.getElem?_eq_some_iff.mp hj).1
      omega
    · have hz : k < 1 := (List.getElem?_eq_some_iff.mp hk).1
      rw [show k = 0 by omega] at hk
      cases hk
      exact Or.inl rfl
    · have hz : i < 1 := (List.getElem?_eq_some_iff.mp hi).1
      rw [show i = 0 by omega] at hi
      cases hi
      have hj2 : j < 2 := (List.getElem?_eq_some_iff.mp hj).1
      rcases (show j = 0 ∨ j = 1 by omega) with rfl | rfl
      · cases hj
        exact hoq hxy
      · cases hj
        exact absurd (show o = w from hxy) (by omega)
  have hK : va_K D kl [(cA, .char)] s := va_K.moved hAl.symm hK2
  have hM1 : M ≤ t.heap.size := Nat.le_trans hMH hF.1
  clear hP0 hP2 hD2 hF hq1 hoq hqA hAA hwq hwH h0 hK2 ho hMH
  generalize hHt : t.heap = H at *
  generalize hloc : _ ++ L = locs at *
  refine va_putF (D := D) (ci := 3) (v := .ref q1) (ty := .object "WorkspaceMachine$Memory") (C := R_M) (T := F_M) (N := 7) hx hb hts (fun w h => wm (ui_M w h)) ft_M ft_M_ok fn_M hown hK hP hD hS 0 rfl rfl 0 (by decide) (hts _ (wm t_111)) (fun _ h9 => h9) rfl hnm rfl (by decide +kernel) rfl rfl (Nat.le_of_ble_eq_true rfl) d_M_init_12 (fun H locs hP hD hS => ?_)
  have hP : va_P D kl [(o, .inr (3, [.ref q1, .null, .null, .int 0, .int 0, .int 0, .int 0])), (q1, .inr (1, [.ref w])), (w, .inl (cA, 512, .inl (fun _ => 0)))] H := hP
  have hD : va_D _ [(o, .inr (3, [.ref q1, .null, .null, .int 0, .int 0, .int 0, .int 0])), (q1, .inr (1, [.ref w])), (w, .inl (cA, 512, .inl (fun _ => 0)))] := hD
  refine lv_aload_n hx hb d_M_init_15 rfl (lv_at hl 0 rfl) ?_
  refine va_new (C := R_Li) (T := F_Li) (N := 1) (ci := 0) (fs := [.long 0]) hx hb hts (fun w h => wm (ui_Li w h)) ft_Li ft_Li_ok hown (hts _ (wm t_91)) (hts _ (wm t_92)) (hts _ (wm t_64)) hK hP hD hS (fun q h => Or.inr (Nat.le_trans hM h)) rfl (by decide +kernel) (by decide) (by decide) d_M_init_16 (fun q2 H hP hD hS => ?_)
  have hP : va_P D kl [(o, .inr (3, [.ref q1, .null, .null, .int 0, .int 0, .int 0, .int 0])), (q1, .inr (1, [.ref w])), (w, .inl (cA, 512, .inl (fun _ => 0))), (q2, .inr (0, [.long 0]))] H := hP
  have hD : va_D (An o M) [(o, .inr (3, [.ref q1, .null, .null, .int 0, .int 0, .int 0, .int 0])), (q1, .inr (1, [.ref w])), (w, .inl (cA, 512, .inl (fun _ => 0))), (q2, .inr (0, [.long 0]))] := hD
  refine lv_dup hx hb d_M_init_19 rfl ?_
  refine run_go (va_runIN (g := F0 m 20 ls [.ref q2, .ref q2, .ref o]) (rest := [.ref q2, .ref o]) (As := []) (b := q2) (host := R_M) ⟨hx, hb, hml, hown, hts⟩ (ki_Li l q2) ⟨va_cnB 0 hts (gi_c t_95) rfl rfl rfl hN.2.1 (hts _ (wm t_64)) (by decide +kernel) ⟨Nat.le_of_ble_eq_true rfl, Nat.le_of_ble_eq_true rfl⟩, rfl, hts _ (wm t_94)⟩ ⟨fun a U g mk q => ⟨q.1, trivial⟩, fun U hU hW => ⟨rfl, trivial⟩⟩ rfl rfl hl.1 rfl (lv_room (Nat.le_of_ble_eq_true rfl)) d_M_init_20 ⟨by decide, by decide⟩) (fun v st₀ t L h0 hq hL hAl => ?_)
  obtain ⟨hv, hth⟩ := hq
  cases hv
  rw [hth, h0]
  have hS := S_call (A' := fun _ => False) (H1 := H) hS (Nat.le_refl _) (fun _ _ _ => rfl) hL (fun _ h => h.elim)
  clear hth h0 hL hAl
  generalize hloc : _ ++ L = locs at *
  refine va_putF (D := D) (ci := 3) (v := .ref q2) (ty := .object "WorkspaceMachine$Lines") (C := R_M) (T := F_M) (N := 7) hx hb hts (fun w h => wm (ui_M w h)) ft_M ft_M_ok fn_M hown hK hP hD hS 0 rfl rfl 1 (by decide) (hts _ (wm t_112)) (fun _ h9 => h9) rfl hnm rfl (by decide +kernel) rfl rfl (Nat.le_of_ble_eq_true rfl) d_M_init_23 (fun H locs hP hD hS => ?_)
  have hP : va_P D kl [(o, .inr (3, [.ref q1, .ref q2, .null, .int 0, .int 0, .int 0, .int 0])), (q1, .inr (1, [.ref w])), (w, .inl (cA, 512, .inl (fun _ => 0))), (q2, .inr (0, [.long 0]))] H := hP
  have hD : va_D _ [(o, .inr (3, [.ref q1, .ref q2, .null, .int 0, .int 0, .int 0, .int 0])), (q1, .inr (1, [.ref w])), (w, .inl (cA, 512, .inl (fun _ => 0))), (q2, .inr (0, [.long 0]))] := hD
  refine lv_aload_n hx hb d_M_init_26 rfl (lv_at hl 0 rfl) ?_
  refine va_new (C := R_St) (T := F_St) (N := 1) (ci := 2) (fs := [.int 0]) hx hb hts (fun w h => wm (ui_St w h)) ft_St ft_St_ok hown (hts _ (wm t_101)) (hts _ (wm t_102)) (hts _ (wm t_65)) hK hP hD hS (fun q h => Or.inr (Nat.le_trans hM h)) rfl (by decide +kernel) (by decide) (by decide) d_M_init_27 (fun q3 H hP hD hS => ?_)
  have hP : va_P D kl [(o, .inr (3, [.ref q1, .ref q2, .null, .int 0, .int 0, .int 0, .int 0])), (q1, .inr (1, [.ref w])), (w, .inl (cA, 512, .inl (fun _ => 0))), (q2, .inr (0, [.long 0])), (q3, .inr (2, [.int 0]))] H := hP
  have hD : va_D (An o M) [(o, .inr (3, [.ref q1, .ref q2, .null, .int 0, .int 0, .int 0, .int 0])), (q1, .inr (1, [.ref w])), (w, .inl (cA, 512, .inl (fun _ => 0))), (q2, .inr (0, [.long 0])), (q3, .inr (2, [.int 0]))] := hD
  refine lv_dup hx hb d_M_init_30 rfl ?_
  refine run_go (va_runIN (g := F0 m 31 ls [.ref q3, .ref q3, .ref o]) (rest := [.ref q3, .ref o]) (As := []) (b := q3) (host := R_M) ⟨hx, hb, hml, hown, hts⟩ (ki_St l q3) ⟨va_cnB 0 hts (gi_c t_105) rfl rfl rfl hN.2.2 (hts _ (wm t_65)) (by decide +kernel) ⟨Nat.le_of_ble_eq_true rfl, Nat.le_of_ble_eq_true rfl⟩, rfl, hts _ (wm t_104)⟩ ⟨fun a U g mk q => ⟨q.1, trivial⟩, fun U hU hW => ⟨rfl, trivial⟩⟩ rfl rfl hl.1 rfl (lv_room (Nat.le_of_ble_eq_true rfl)) d_M_init_31 ⟨by decide, by decide⟩) (fun v st₀ t L h0 hq hL hAl => ?_)
  obtain ⟨hv, hth⟩ := hq
  cases hv
  rw [hth, h0]
  have hS := S_call (A' := fun _ => False) (H1 := H) hS (Nat.le_refl _) (fun _ _ _ => rfl) hL (fun _ h => h.elim)
  clear hth h0 hL hAl
  generalize hloc : _ ++ L = locs at *
  refine va_putF (D := D) (ci := 3) (v := .ref q3) (ty := .object "WorkspaceMachine$Status") (C := R_M) (T := F_M) (N := 7) hx hb hts (fun w h => wm (ui_M w h)) ft_M ft_M_ok fn_M hown hK hP hD hS 0 rfl rfl 2 (by decide) (hts _ (wm t_113)) (fun _ h9 => h9) rfl hnm rfl (by decide +kernel) rfl rfl (Nat.le_of_ble_eq_true rfl) d_M_init_34 (fun H locs hP hD hS => ?_)
  have hP : va_P D kl [(o, .inr (3, [.ref q1, .ref q2, .ref q3, .int 0, .int 0, .int 0, .int 0])), (q1, .inr (1, [.ref w])), (w, .inl (cA, 512, .inl (fun _ => 0))), (q2, .inr (0, [.long 0])), (q3, .inr (2, [.int 0]))] H := hP
  have hD : va_D _ [(o, .inr (3, [.ref q1, .ref q2, .ref q3, .int 0, .int 0, .int 0, .int 0])), (q1, .inr (1, [.ref w])), (w, .inl (cA, 512, .inl (fun _ => 0))), (q2, .inr (0, [.long 0])), (q3, .inr (2, [.int 0]))] := hD
  refine lv_aload_n hx hb d_M_init_37 rfl (lv_at hl 0 rfl) ?_
  refine lv_bipush (v := 16) hx hb d_M_init_38 (by decide) ?_
  refine va_put (D := D) (ci := 3) (v := .int 16) (ty := .int) (C := R_M) (T := F_M) (N := 7) hx hb hts (fun w h => wm (ui_M w h)) ft_M ft_M_ok fn_M hown hK hP hD hS 0 rfl rfl 5 (by decide) (hts _ (wm t_116)) (fun _ h9 => h9) rfl (by decide +kernel) rfl rfl (Nat.le_of_ble_eq_true rfl) d_M_init_40 (fun H locs hP hD hS => ?_)
  have hP : va_P D kl [(o, .inr (3, [.ref q1, .ref q2, .ref q3, .int 0, .int 0, .int 16, .int 0])), (q1, .inr (1, [.ref w])), (w, .inl (cA, 512, .inl (fun _ => 0))), (q2, .inr (0, [.long 0])), (q3, .inr (2, [.int 0]))] H := hP
  have hD : va_D _ [(o, .inr (3, [.ref q1, .ref q2, .ref q3, .int 0, .int 0, .int 16, .int 0])), (q1, .inr (1, [.ref w])), (w, .inl (cA, 512, .inl (fun _ => 0))), (q2, .inr (0, [.long 0])), (q3, .inr (2, [.int 0]))] := hD
  exact W.vret hx hb hr (fun t ht hW => ⟨rfl, (o, q1, w, q2, q3, cA), rfl, J_of hD, by rw [ht]; exact hP, va_K.moved hW.alike hK, F_of hD, hS.F ht⟩) hS.2.2 d_M_init_43 hlk
