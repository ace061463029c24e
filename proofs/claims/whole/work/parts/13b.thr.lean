/-! 13b.thr: the roads of the class that throw, laid by gen2.py -/
def R_X : String := "java/lang/IllegalArgumentException"
def R_T : String := "java/lang/Throwable"
abbrev NX : List String := ["java/lang/RuntimeException", "java/lang/Exception"]
theorem t_375 : Cond.classLink R_M 49 R_X ∈ TB := mt 375 (by decide +kernel) (by decide +kernel)
theorem t_376 : Cond.instantiable R_X 6 ∈ TB := mt 376 (by decide +kernel) (by decide +kernel)
theorem t_70 : Cond.initialized R_X ∈ TB := mt 70 (by decide +kernel) (by decide +kernel)
abbrev S1 : String := "UNASSIGNED_STACK"
abbrev S2 : String := "SUPPRESSED_SENTINEL"
abbrev E1 : String := "[Ljava/lang/StackTraceElement;"
abbrev E2 : String := "Ljava/util/List;"
abbrev NW : List Cond := [.declares (Bundle.initS "java/lang/RuntimeException"), .declares (Bundle.initS "java/lang/Exception"), .declares (Bundle.initS "java/lang/Throwable"), .castable R_X R_X]
theorem oa_in : ∀ w ∈ Bundle.ownAtoms R_M 53 R_X NX, (w ∈ TB ∨ w ∈ NW) ∨ (w = .isRef (.static R_T S1 E1) ∨ w = .isRef (.static R_T S2 E2)) ∨ (w = .laysStatic R_T S1 E1 ∨ w = .laysStatic R_T S2 E2) := by decide +kernel
/-- a static field that is laid, in a cell that nobody writes -/
def tls_L (C n d : String) (A : Nat → Prop) (U : State) (H : Heap) : Prop := ∃ (c : ClassId) (k : Class) (i : Nat) (f : Field) (a : Nat) (cell : Cell), U.vm.findClass C = some c ∧ U.fieldFound? C n d = some (c, k, i, f) ∧ f.isStatic = true ∧ k.statics = some a ∧ H[a]? = some cell ∧ cell.vm.isStatics = true ∧ cell.cls = c ∧ f.slot < cell.slots.size ∧ k.staticTypes[f.slot]? = some f.type ∧ ¬ A a
theorem tls_of {args : Array Value} {s : State} {C n d : String} {A : Nat → Prop} (h : (Cond.laysStatic C n d).before args s = true) (hA : ∀ a : Nat, a < s.heap.size → ¬ A a) : tls_L C n d A s s.heap := by
  obtain ⟨c, k, i, f, a, cell, h1, h2, h3, h4, h5, h6, h7, h8, h9⟩ := Cond.laysStatic_spec h
  exact ⟨c, k, i, f, a, cell, h1, h2, h3, h4, h5, h6, h7, h8, h9, hA a (Array.getElem?_eq_some_iff.mp h5).1⟩
theorem tls_L.word {C n d : String} {A : Nat → Prop} {s : State} (h : tls_L C n d A s s.heap) (args : Array Value) : (Cond.laysStatic C n d).before args s = true := by
  obtain ⟨c, k, i, f, a, cell, h1, h2, h3, h4, h5, h6, h7, h8, h9, -⟩ := h
  simp [Cond.before, Cond.holds, Cond.value, h1, h2, h3, h4, h5, h6, h7, h8, h9]
theorem tls_L.moved {C n d : String} {A : Nat → Prop} {u U : State} {H : Heap} (hvm : u.vm.Alike U.vm) (h : tls_L C n d A u H) : tls_L C n d A U H := by
  obtain ⟨c, k, i, f, a, cell, h1, h2, h3, h4, h5⟩ := h
  obtain ⟨k', hi', he⟩ := State.fieldFound?_setVm hvm h2
  exact ⟨c, k', i, f, a, cell, by rw [hvm.findClass]; exact h1, hi', h3, by rw [he]; exact h4, h5.1, h5.2.1, h5.2.2.1, h5.2.2.2.1, by rw [he]; exact h5.2.2.2.2.1, h5.2.2.2.2.2⟩
theorem tls_L.kept {C n d : String} {A : Nat → Prop} {U : State} {H H1 : Heap} (h : tls_L C n d A U H) (hq : ∀ a : Nat, a < H.size → ¬ A a → H1[a]? = H[a]?) : tls_L C n d A U H1 := by
  obtain ⟨c, k, i, f, a, cell, h1, h2, h3, h4, h5, h6, h7, h8, h9, h10⟩ := h
  exact ⟨c, k, i, f, a, cell, h1, h2, h3, h4, by rw [hq a (Array.getElem?_eq_some_iff.mp h5).1 h10]; exact h5, h6, h7, h8, h9, h10⟩
theorem tls_L.narrow {C n d : String} {A B : Nat → Prop} {U : State} {H : Heap} (h : tls_L C n d A U H) (hAB : ∀ q, B q → A q) : tls_L C n d B U H := by
  obtain ⟨c, k, i, f, a, cell, h1, h2, h3, h4, h5, h6, h7, h8, h9, h10⟩ := h
  exact ⟨c, k, i, f, a, cell, h1, h2, h3, h4, h5, h6, h7, h8, h9, fun z => h10 (hAB a z)⟩
theorem zq_ref {C n d : String} {A : Nat → Prop} {s : State} (h : va_Zq C n d A s s.heap) (args : Array Value) : (Cond.isRef (.static C n d)).before args s = true := by
  rcases h with h | ⟨t, h⟩ <;> obtain ⟨cf, kf, fi, f, a, cell, h1, h2, h3, h4, h5, h6, h7, h8⟩ := h <;> simp [Cond.before, Cond.holds, Cond.value, Term.eval, State.fieldNamed?, h1, h2, h4, h5, h6, h7]
/-- words that stay, though not of TB -/
def TN (U : State) : Prop := ∀ w ∈ NW, va_Nw w U
theorem TN.warm {s U : State} (hW : s.WarmedH U.vm) (h : TN s) : TN U := by
  intro w hw
  have h1 := h w hw
  simp only [NW, List.mem_cons, List.not_mem_nil, or_false] at hw
  rcases hw with rfl | rfl | rfl | rfl
  · exact va_Nw.warmD hW h1
  · exact va_Nw.warmD hW h1
  · exact va_Nw.warmD hW h1
  · exact va_Nw.warmC hW h1
theorem TN.same {s U : State} (hv : s.vm = U.vm) (h : TN s) : TN U := by
  intro w hw
  have h1 := h w hw
  simp only [NW, List.mem_cons, List.not_mem_nil, or_false] at hw
  rcases hw with rfl | rfl | rfl | rfl <;> exact va_Nw.same rfl hv h1
theorem TN.word {s : State} (h : TN s) {w : Cond} (hw : w ∈ NW) (args : Array Value) : w.before args s = true := by
  have h1 := h w hw
  simp only [NW, List.mem_cons, List.not_mem_nil, or_false] at hw
  rcases hw with rfl | rfl | rfl | rfl <;> exact va_Nw.use rfl h1
/-- what a throwing road needs of the statics: A, what may be written -/
def TA (A : Nat → Prop) (U : State) (H : Heap) : Prop := (va_Zq R_T S1 E1 A U H ∧ va_Zq R_T S2 E2 A U H) ∧ tls_L R_T S1 E1 A U H ∧ tls_L R_T S2 E2 A U H
def TK (U : State) : Prop := TA (fun _ => False) U U.heap ∧ TN U
theorem TA.moved {A : Nat → Prop} {u U : State} {H : Heap} (hvm : u.vm.Alike U.vm) (h : TA A u H) : TA A U H := ⟨⟨h.1.1.moved hvm, h.1.2.moved hvm⟩, h.2.1.moved hvm, h.2.2.moved hvm⟩
theorem TA.kept {A : Nat → Prop} {U : State} {H H1 : Heap} (h : TA A U H) (hq : ∀ a : Nat, a < H.size → ¬ A a → H1[a]? = H[a]?) : TA A U H1 := ⟨⟨h.1.1.kept hq, h.1.2.kept hq⟩, h.2.1.kept hq, h.2.2.kept hq⟩
theorem TA.narrow {A B : Nat → Prop} {U : State} {H : Heap} (h : TA A U H) (hAB : ∀ q, B q → A q) : TA B U H := ⟨⟨h.1.1.narrow hAB, h.1.2.narrow hAB⟩, h.2.1.narrow hAB, h.2.2.narrow hAB⟩
theorem TK.words {s : State} (h : TK s) {args : Array Value} {y : MethodName} {b : ByteArray} {n : Nat} {r : Option FieldType} (hts : ∀ w ∈ wC y b n r, w.before args s = true) : ∀ w ∈ Bundle.ownAtoms R_M 53 R_X NX, w.before args s = true := by
  intro w hw
  rcases oa_in w hw with (h1 | h1) | (h1 | h1) | (h1 | h1)
  · exact hts w (wm h1)
  · exact h.2.word h1 args
  · rw [h1]; exact zq_ref h.1.1.1 args
  · rw [h1]; exact zq_ref h.1.1.2 args
  · rw [h1]; exact h.1.2.1.word args
  · rw [h1]; exact h.1.2.2.word args
/-- the start of a contract that throws -/
theorem MT.mk {l : Launch} {y : MethodName} {b : ByteArray} {n : Nat} {r : Option FieldType} {rm : Room} {av : List Value} {K : State → Prop} {nm : String} (hy : plainName y.cls = true) (hn : (lg_sl av).length ≤ n)
    (body : ∀ (p : Program) (e : Env) (s : State) (m : MethodId) (below : List Frame) (meth : Method) (c : Code) (ls : Array Slot) (args : Array Value), p.tables.exec = Jvm.exec → c.code = b → meth.sig.returnType = r → c.maxLocals = n → s.vm.findClass y.cls = some m.cls → (∀ w ∈ wC y b n r, w.before args s = true) → meth.locks = false → l.admits e → c.exceptionTable.isEmpty = true →
      lv_has ls n (lv_args 0 av) → K s → W p l e rm s m args below meth c s.heap [] 0 0 (WT below (QT nm) args s 1 6) (F0 m 0 ls [])) : MT l y (wC y b n r) rm (va_Pc av K) (QT nm) 1 6 := by
  refine MT.ofW (cc := b) (maxL := n) (ret := r) hy rfl ?_
  intro p e s m args below meth c s₁ B hml hv
  obtain ⟨rfl, hK⟩ := hv
  have hts := atoms_spec (ws := wC y b n r) B.pre
  have hown : s.vm.findClass y.cls = some m.cls := findClass_of_methodNamed B.named
  have hl := lv_entry av (n := n) hn
  rw [lg_entry_eq]
  exact body p e s m below meth c _ _ B.exec B.bytes B.returns hml hown hts B.notSynchronized (Stand.of_body B).admits (B.noHandlers (hts _ List.mem_cons_self)) hl hK
abbrev rmT : Room := { frames := 6, cells := 1, slots := 6, locals := 82 }
abbrev D0 : va_G := (fun _ => 0, fun _ _ => 0)
theorem K0 (D : va_G) (s : State) : va_K D [] [] s := ⟨fun c q h => by simp at h, fun k q h => by simp at h⟩
theorem P0 (D : va_G) (H : Heap) : va_P D [] [] H := fun k q h => by simp at h
theorem nil_of {H0 H : Heap} {locs : List Loc} (h : va_S (fun _ => False) H0 H locs) : locs = [] := List.eq_nil_iff_forall_not_mem.mpr fun q hq => h.2.2 q hq
set_option maxHeartbeats 4000000 in
set_option maxRecDepth 100000 in
theorem kz_M_isWordAddress (l : Launch) (D : va_G) (x0 : Int32) : MC (S := Unit) [] (fun _ => []) (fun _ => False) [] l D y_M_isWordAddress b_M_isWordAddress 1 (some .boolean) rm_M_isWordAddress [.int x0] () (some (.int (C_M_isWordAddress x0))) () := by
  refine MC.mk (by decide) (Nat.le_of_ble_eq_true rfl) ?_
  intro p e s m below meth c ls Q args H locs hx hb hr hml hown hts hlk hl hP hK hS hQ
  have hown : s.vm.findClass R_M = some m.cls := hown
  have hl : lv_has ls 1 [(0, .int x0)] := hl
  refine lv_iload_n hx hb d_M_isWordAddress_0 rfl (lv_at hl 0 rfl) ?_
  refine lv_sipush (v := 1022) hx hb d_M_isWordAddress_1 (by decide) ?_
  refine lv_iand hx hb d_M_isWordAddress_4 ?_
  refine lv_iload_n hx hb d_M_isWordAddress_5 rfl (lv_at hl 0 rfl) ?_
  refine lv_icmp_ne (tgt := 13) hx hb d_M_isWordAddress_6 (by decide) (fun h6 => ?_) (fun h6 => ?_)
  · refine lv_iconst (v := 0) hx hb d_M_isWordAddress_13 (by decide) ?_
    subst hQ
    exact rt_z hx hb hr hlk rfl (by simp only [C_M_isWordAddress, if_neg h6]) rfl hP hS d_M_isWordAddress_14
  refine lv_iconst (v := 1) hx hb d_M_isWordAddress_9 (by decide) ?_
  refine lv_goto (tgt := 14) hx hb d_M_isWordAddress_10 (by decide) ?_
  subst hQ
  exact rt_z hx hb hr hlk rfl (by simp only [C_M_isWordAddress, if_pos h6]) rfl hP hS d_M_isWordAddress_14
set_option maxHeartbeats 4000000 in
set_option maxRecDepth 100000 in
theorem kz_M_isLine (l : Launch) (D : va_G) (x0 : Int32) : MC (S := Unit) [] (fun _ => []) (fun _ => False) [] l D y_M_isLine b_M_isLine 1 (some .boolean) rm_M_isLine [.int x0] () (some (.int (C_M_isLine x0))) () := by
  refine MC.mk (by decide) (Nat.le_of_ble_eq_true rfl) ?_
  intro p e s m below meth c ls Q args H locs hx hb hr hml hown hts hlk hl hP hK hS hQ
  have hown : s.vm.findClass R_M = some m.cls := hown
  have hl : lv_has ls 1 [(0, .int x0)] := hl
  refine lv_iload_n hx hb d_M_isLine_0 rfl (lv_at hl 0 rfl) ?_
  refine lv_if_lt (tgt := 14) hx hb d_M_isLine_1 (by decide) (fun h1 => ?_) (fun h1 => ?_)
  · refine lv_iconst (v := 0) hx hb d_M_isLine_14 (by decide) ?_
    subst hQ
    exact rt_z hx hb hr hlk rfl (by simp only [C_M_isLine, if_pos h1]) rfl hP hS d_M_isLine_15
  refine lv_iload_n hx hb d_M_isLine_4 rfl (lv_at hl 0 rfl) ?_
  refine lv_bipush (v := 64) hx hb d_M_isLine_5 (by decide) ?_
  refine lv_icmp_ge (tgt := 14) hx hb d_M_isLine_7 (by decide) (fun h7 => ?_) (fun h7 => ?_)
  · refine lv_iconst (v := 0) hx hb d_M_isLine_14 (by decide) ?_
    subst hQ
    exact rt_z hx hb hr hlk rfl (by simp only [C_M_isLine, if_neg h1, if_pos h7]) rfl hP hS d_M_isLine_15
  refine lv_iconst (v := 1) hx hb d_M_isLine_10 (by decide) ?_
  refine lv_goto (tgt := 15) hx hb d_M_isLine_11 (by decide) ?_
  subst hQ
  exact rt_z hx hb hr hlk rfl (by simp only [C_M_isLine, if_neg h1, if_neg h7]) rfl hP hS d_M_isLine_15
set_option maxHeartbeats 4000000 in
theorem kt_M_poke (l : Launch) (hfl : l.flags = pinnedFlags ++ [noTraceFlag]) (o : Nat) (x1 : Int32) (x2 : Int32) (hg : C_M_isWordAddress x1 = 0) : MT l y_M_poke (wC y_M_poke b_M_poke 3 none) rmT (va_Pc [.ref o, .int x1, .int x2] (fun U => TK U ∧ ∃ q, vk_R R_M 51 "no word has this address" q U)) (QT R_X) 1 6 := by
  refine MT.mk (by decide) (Nat.le_of_ble_eq_true rfl) ?_
  intro p e s m below meth c ls args hx hb hr hml hown hts hlk hadm hno hl hK
  have hown : s.vm.findClass R_M = some m.cls := hown
  have hl : lv_has ls 3 [(0, .ref o), (1, .int x1), (2, .int x2)] := hl
  obtain ⟨hz, q, hq⟩ := hK
  refine lv_iload_n hx hb d_M_poke_0 rfl (lv_at hl 1 rfl) ?_
  refine cl_S (S := Unit) (kz_M_isWordAddress l D0 x1) ⟨hx, hb, hml, hown, hts⟩ (va_cwS 1 hts (gi_S t_372 t_373 t_62 t_374) rfl rfl rfl (by decide +kernel) ⟨Nat.le_of_ble_eq_true rfl, Nat.le_of_ble_eq_true rfl⟩) (P0 _ _) (K0 _ _) va_S.rf rfl hl.1 rfl (Nat.le_of_ble_eq_true rfl) d_M_poke_1 (fun H locs hP hS => ?_)
  obtain rfl := nil_of hS
  refine lv_if_ne (tgt := 17) hx hb d_M_poke_4 (by decide) (fun h4 => ?_) (fun h4 => ?_)
  · exact absurd hg h4
  exact th_seg (nm := R_X) (own := R_M) (ix := 49) (ic := 53) (im := 51) (names := NX) hx hb (Launch.traces_off hfl hadm) hown hlk (hts _ (wm t_375)) (hts _ (wm t_376)) (hts _ (wm t_70)) (by decide +kernel) (by decide +kernel) (hz.words hts) hq hno (hl.1.trans hml.symm) hS.1 (by decide) (by decide) ⟨by decide, by decide⟩ d_M_poke_7 d_M_poke_10 d_M_poke_11 d_M_poke_13 d_M_poke_16
set_option maxHeartbeats 4000000 in
theorem kt_M_peek (l : Launch) (hfl : l.flags = pinnedFlags ++ [noTraceFlag]) (o : Nat) (x1 : Int32) (hg : C_M_isWordAddress x1 = 0) : MT l y_M_peek (wC y_M_peek b_M_peek 2 (some .char)) rmT (va_Pc [.ref o, .int x1] (fun U => TK U ∧ ∃ q, vk_R R_M 51 "no word has this address" q U)) (QT R_X) 1 6 := by
  refine MT.mk (by decide) (Nat.le_of_ble_eq_true rfl) ?_
  intro p e s m below meth c ls args hx hb hr hml hown hts hlk hadm hno hl hK
  have hown : s.vm.findClass R_M = some m.cls := hown
  have hl : lv_has ls 2 [(0, .ref o), (1, .int x1)] := hl
  obtain ⟨hz, q, hq⟩ := hK
  refine lv_iload_n hx hb d_M_peek_0 rfl (lv_at hl 1 rfl) ?_
  refine cl_S (S := Unit) (kz_M_isWordAddress l D0 x1) ⟨hx, hb, hml, hown, hts⟩ (va_cwS 1 hts (gi_S t_372 t_373 t_62 t_374) rfl rfl rfl (by decide +kernel) ⟨Nat.le_of_ble_eq_true rfl, Nat.le_of_ble_eq_true rfl⟩) (P0 _ _) (K0 _ _) va_S.rf rfl hl.1 rfl (Nat.le_of_ble_eq_true rfl) d_M_peek_1 (fun H locs hP hS => ?_)
  obtain rfl := nil_of hS
  refine lv_if_ne (tgt := 17) hx hb d_M_peek_4 (by decide) (fun h4 => ?_) (fun h4 => ?_)
  · exact absurd hg h4
  exact th_seg (nm := R_X) (own := R_M) (ix := 49) (ic := 53) (im := 51) (names := NX) hx hb (Launch.traces_off hfl hadm) hown hlk (hts _ (wm t_375)) (hts _ (wm t_376)) (hts _ (wm t_70)) (by decide +kernel) (by decide +kernel) (hz.words hts) hq hno (hl.1.trans hml.symm) hS.1 (by decide) (by decide) ⟨by decide, by decide⟩ d_M_peek_7 d_M_peek_10 d_M_peek_11 d_M_peek_13 d_M_peek_16
set_option maxHeartbeats 4000000 in
theorem kt_M_wire (l : Launch) (hfl : l.flags = pinnedFlags ++ [noTraceFlag]) (o : Nat) (x1 : Int32) (x2 : Int32) (hg : C_M_isLine x1 = 0) : MT l y_M_wire (wC y_M_wire b_M_wire 3 none) rmT (va_Pc [.ref o, .int x1, .int x2] (fun U => TK U ∧ ∃ q, vk_R R_M 98 "no line has this number" q U)) (QT R_X) 1 6 := by
  refine MT.mk (by decide) (Nat.le_of_ble_eq_true rfl) ?_
  intro p e s m below meth c ls args hx hb hr hml hown hts hlk hadm hno hl hK
  have hown : s.vm.findClass R_M = some m.cls := hown
  have hl : lv_has ls 3 [(0, .ref o), (1, .int x1), (2, .int x2)] := hl
  obtain ⟨hz, q, hq⟩ := hK
  refine lv_iload_n hx hb d_M_wire_0 rfl (lv_at hl 1 rfl) ?_
  refine cl_S (S := Unit) (kz_M_isLine l D0 x1) ⟨hx, hb, hml, hown, hts⟩ (va_cwS 1 hts (gi_S t_463 t_464 t_62 t_465) rfl rfl rfl (by decide +kernel) ⟨Nat.le_of_ble_eq_true rfl, Nat.le_of_ble_eq_true rfl⟩) (P0 _ _) (K0 _ _) va_S.rf rfl hl.1 rfl (Nat.le_of_ble_eq_true rfl) d_M_wire_1 (fun H locs hP hS => ?_)
  obtain rfl := nil_of hS
  refine lv_if_ne (tgt := 17) hx hb d_M_wire_4 (by decide) (fun h4 => ?_) (fun h4 => ?_)
  · exact absurd hg h4
  exact th_seg (nm := R_X) (own := R_M) (ix := 49) (ic := 53) (im := 98) (names := NX) hx hb (Launch.traces_off hfl hadm) hown hlk (hts _ (wm t_375)) (hts _ (wm t_376)) (hts _ (wm t_70)) (by decide +kernel) (by decide +kernel) (hz.words hts) hq hno (hl.1.trans hml.symm) hS.1 (by decide) (by decide) ⟨by decide, by decide⟩ d_M_wire_7 d_M_wire_10 d_M_wire_11 d_M_wire_13 d_M_wire_16
set_option maxHeartbeats 4000000 in
theorem kt_M_line (l : Launch) (hfl : l.flags = pinnedFlags ++ [noTraceFlag]) (o : Nat) (x1 : Int32) (hg : C_M_isLine x1 = 0) : MT l y_M_line (wC y_M_line b_M_line 2 (some .boolean)) rmT (va_Pc [.ref o, .int x1] (fun U => TK U ∧ ∃ q, vk_R R_M 98 "no line has this number" q U)) (QT R_X) 1 6 := by
  refine MT.mk (by decide) (Nat.le_of_ble_eq_true rfl) ?_
  intro p e s m below meth c ls args hx hb hr hml hown hts hlk hadm hno hl hK
  have hown : s.vm.findClass R_M = some m.cls := hown
  have hl : lv_has ls 2 [(0, .ref o), (1, .int x1)] := hl
  obtain ⟨hz, q, hq⟩ := hK
  refine lv_iload_n hx hb d_M_line_0 rfl (lv_at hl 1 rfl) ?_
  refine cl_S (S := Unit) (kz_M_isLine l D0 x1) ⟨hx, hb, hml, hown, hts⟩ (va_cwS 1 hts (gi_S t_463 t_464 t_62 t_465) rfl rfl rfl (by decide +kernel) ⟨Nat.le_of_ble_eq_true rfl, Nat.le_of_ble_eq_true rfl⟩) (P0 _ _) (K0 _ _) va_S.rf rfl hl.1 rfl (Nat.le_of_ble_eq_true rfl) d_M_line_1 (fun H locs hP hS => ?_)
  obtain rfl := nil_of hS
  refine lv_if_ne (tgt := 17) hx hb d_M_line_4 (by decide) (fun h4 => ?_) (fun h4 => ?_)
  · exact absurd hg h4
  exact th_seg (nm := R_X) (own := R_M) (ix := 49) (ic := 53) (im := 98) (names := NX) hx hb (Launch.traces_off hfl hadm) hown hlk (hts _ (wm t_375)) (hts _ (wm t_376)) (hts _ (wm t_70)) (by decide +kernel) (by decide +kernel) (hz.words hts) hq hno (hl.1.trans hml.symm) hS.1 (by decide) (by decide) ⟨by decide, by decide⟩ d_M_line_7 d_M_line_10 d_M_line_11 d_M_line_13 d_M_line_16
set_option maxHeartbeats 4000000 in
theorem kt_M_level (l : Launch) (hfl : l.flags = pinnedFlags ++ [noTraceFlag]) (o : Nat) (x1 : Int32) (hg : ¬ (¬ x1 < 0 ∧ x1 ≤ 16)) : MT l y_M_level (wC y_M_level b_M_level 2 none) rmT (va_Pc [.ref o, .int x1] (fun U => TK U ∧ ∃ q, vk_R R_M 93 "no level has this number" q U)) (QT R_X) 1 6 := by
  refine MT.mk (by decide) (Nat.le_of_ble_eq_true rfl) ?_
  intro p e s m below meth c ls args hx hb hr hml hown hts hlk hadm hno hl hK
  have hown : s.vm.findClass R_M = some m.cls := hown
  have hl : lv_has ls 2 [(0, .ref o), (1, .int x1)] := hl
  obtain ⟨hz, q, hq⟩ := hK
  refine lv_iload_n hx hb d_M_level_0 rfl (lv_at hl 1 rfl) ?_
  refine lv_if_lt (tgt := 10) hx hb d_M_level_1 (by decide) (fun h1 => ?_) (fun h1 => ?_)
  · exact th_seg (nm := R_X) (own := R_M) (ix := 49) (ic := 53) (im := 93) (names := NX) hx hb (Launch.traces_off hfl hadm) hown hlk (hts _ (wm t_375)) (hts _ (wm t_376)) (hts _ (wm t_70)) (by decide +kernel) (by decide +kernel) (hz.words hts) hq hno (hl.1.trans hml.symm) (Nat.le_refl _) (by decide) (by decide) ⟨by decide, by decide⟩ d_M_level_10 d_M_level_13 d_M_level_14 d_M_level_16 d_M_level_19
  refine lv_iload_n hx hb d_M_level_4 rfl (lv_at hl 1 rfl) ?_
  refine lv_bipush (v := 16) hx hb d_M_level_5 (by decide) ?_
  refine lv_icmp_le (tgt := 20) hx hb d_M_level_7 (by decide) (fun h7 => ?_) (fun h7 => ?_)
  · exact absurd ⟨h1, h7⟩ hg
  exact th_seg (nm := R_X) (own := R_M) (ix := 49) (ic := 53) (im := 93) (names := NX) hx hb (Launch.traces_off hfl hadm) hown hlk (hts _ (wm t_375)) (hts _ (wm t_376)) (hts _ (wm t_70)) (by decide +kernel) (by decide +kernel) (hz.words hts) hq hno (hl.1.trans hml.symm) (Nat.le_refl _) (by decide) (by decide) ⟨by decide, by decide⟩ d_M_level_10 d_M_level_13 d_M_level_14 d_M_level_16 d_M_level_19
set_option maxHeartbeats 4000000 in
theorem kt_M_state (l : Launch) (hfl : l.flags = pinnedFlags ++ [noTraceFlag]) (o : Nat) (x1 : Int32) (hg : ¬ (x1 = 0 ∨ x1 = 1 ∨ x1 = 2 ∨ x1 = 3 ∨ x1 = 4)) : MT l y_M_state (wC y_M_state b_M_state 2 (some .int)) rmT (va_Pc [.ref o, .int x1] (fun U => TK U ∧ ∃ q, vk_R R_M 113 "no part of the state has this number" q U)) (QT R_X) 1 6 := by
  refine MT.mk (by decide) (Nat.le_of_ble_eq_true rfl) ?_
  intro p e s m below meth c ls args hx hb hr hml hown hts hlk hadm hno hl hK
  have hown : s.vm.findClass R_M = some m.cls := hown
  have hl : lv_has ls 2 [(0, .ref o), (1, .int x1)] := hl
  obtain ⟨hz, q, hq⟩ := hK
  refine lv_iload_n hx hb d_M_state_0 rfl (lv_at hl 1 rfl) ?_
  have n1_0 := lv_neT (x := x1) (k := 0) (fun h => hg (by rw [h]; decide)) (a := 0) (by decide)
  have n1_1 := lv_neT (x := x1) (k := 1) (fun h => hg (by rw [h]; decide)) (a := 1) (by decide)
  have n1_2 := lv_neT (x := x1) (k := 2) (fun h => hg (by rw [h]; decide)) (a := 2) (by decide)
  have n1_3 := lv_neT (x := x1) (k := 3) (fun h => hg (by rw [h]; decide)) (a := 3) (by decide)
  have n1_4 := lv_neT (x := x1) (k := 4) (fun h => hg (by rw [h]; decide)) (a := 4) (by decide)
  refine lv_tableOut (tgt := 72) hx hb d_M_state_1 (by omega) (by decide) ?_
  exact th_seg (nm := R_X) (own := R_M) (ix := 49) (ic := 53) (im := 113) (names := NX) hx hb (Launch.traces_off hfl hadm) hown hlk (hts _ (wm t_375)) (hts _ (wm t_376)) (hts _ (wm t_70)) (by decide +kernel) (by decide +kernel) (hz.words hts) hq hno (hl.1.trans hml.symm) (Nat.le_refl _) (by decide) (by decide) ⟨by decide, by decide⟩ d_M_state_72 d_M_state_75 d_M_state_76 d_M_state_78 d_M_state_81
