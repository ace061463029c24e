/-! 13c.wrap: the law's wrappers, laid by gen3.py -/
def R_La : String := "WorkspaceMachineLaw"
def y_La_poke : MethodName := ⟨R_La, "poke", "(LWorkspaceMachine;IC)I"⟩
abbrev b_La_poke : ByteArray := method_3_code
theorem d_La_poke_0 : decode b_La_poke 0 = .ok (.aload_n 0, 1) := by decide +kernel
theorem d_La_poke_1 : decode b_La_poke 1 = .ok (.iload_n 1, 1) := by decide +kernel
theorem d_La_poke_2 : decode b_La_poke 2 = .ok (.iload_n 2, 1) := by decide +kernel
theorem d_La_poke_3 : decode b_La_poke 3 = .ok (.invokevirtual 7, 3) := by decide +kernel
theorem d_La_poke_6 : decode b_La_poke 6 = .ok (.goto 6, 3) := by decide +kernel
theorem d_La_poke_9 : decode b_La_poke 9 = .ok (.astore_n 3, 1) := by decide +kernel
theorem d_La_poke_10 : decode b_La_poke 10 = .ok (.iconst 1, 1) := by decide +kernel
theorem d_La_poke_11 : decode b_La_poke 11 = .ok (.ireturn, 1) := by decide +kernel
theorem d_La_poke_12 : decode b_La_poke 12 = .ok (.iconst 0, 1) := by decide +kernel
theorem d_La_poke_13 : decode b_La_poke 13 = .ok (.ireturn, 1) := by decide +kernel
def y_La_peek : MethodName := ⟨R_La, "peek", "(LWorkspaceMachine;I[J)I"⟩
abbrev b_La_peek : ByteArray := method_4_code
theorem d_La_peek_0 : decode b_La_peek 0 = .ok (.aload_n 2, 1) := by decide +kernel
theorem d_La_peek_1 : decode b_La_peek 1 = .ok (.iconst 0, 1) := by decide +kernel
theorem d_La_peek_2 : decode b_La_peek 2 = .ok (.aload_n 0, 1) := by decide +kernel
theorem d_La_peek_3 : decode b_La_peek 3 = .ok (.iload_n 1, 1) := by decide +kernel
theorem d_La_peek_4 : decode b_La_peek 4 = .ok (.invokevirtual 15, 3) := by decide +kernel
theorem d_La_peek_7 : decode b_La_peek 7 = .ok (.i2l, 1) := by decide +kernel
theorem d_La_peek_8 : decode b_La_peek 8 = .ok (.lastore, 1) := by decide +kernel
theorem d_La_peek_9 : decode b_La_peek 9 = .ok (.goto 6, 3) := by decide +kernel
theorem d_La_peek_12 : decode b_La_peek 12 = .ok (.astore_n 3, 1) := by decide +kernel
theorem d_La_peek_13 : decode b_La_peek 13 = .ok (.iconst 1, 1) := by decide +kernel
theorem d_La_peek_14 : decode b_La_peek 14 = .ok (.ireturn, 1) := by decide +kernel
theorem d_La_peek_15 : decode b_La_peek 15 = .ok (.iconst 0, 1) := by decide +kernel
theorem d_La_peek_16 : decode b_La_peek 16 = .ok (.ireturn, 1) := by decide +kernel
def y_La_level : MethodName := ⟨R_La, "level", "(LWorkspaceMachine;I)I"⟩
abbrev b_La_level : ByteArray := method_5_code
theorem d_La_level_0 : decode b_La_level 0 = .ok (.aload_n 0, 1) := by decide +kernel
theorem d_La_level_1 : decode b_La_level 1 = .ok (.iload_n 1, 1) := by decide +kernel
theorem d_La_level_2 : decode b_La_level 2 = .ok (.invokevirtual 19, 3) := by decide +kernel
theorem d_La_level_5 : decode b_La_level 5 = .ok (.goto 6, 3) := by decide +kernel
theorem d_La_level_8 : decode b_La_level 8 = .ok (.astore_n 2, 1) := by decide +kernel
theorem d_La_level_9 : decode b_La_level 9 = .ok (.iconst 1, 1) := by decide +kernel
theorem d_La_level_10 : decode b_La_level 10 = .ok (.ireturn, 1) := by decide +kernel
theorem d_La_level_11 : decode b_La_level 11 = .ok (.iconst 0, 1) := by decide +kernel
theorem d_La_level_12 : decode b_La_level 12 = .ok (.ireturn, 1) := by decide +kernel
def y_La_wire : MethodName := ⟨R_La, "wire", "(LWorkspaceMachine;IZ)I"⟩
abbrev b_La_wire : ByteArray := method_6_code
theorem d_La_wire_0 : decode b_La_wire 0 = .ok (.aload_n 0, 1) := by decide +kernel
theorem d_La_wire_1 : decode b_La_wire 1 = .ok (.iload_n 1, 1) := by decide +kernel
theorem d_La_wire_2 : decode b_La_wire 2 = .ok (.iload_n 2, 1) := by decide +kernel
theorem d_La_wire_3 : decode b_La_wire 3 = .ok (.invokevirtual 23, 3) := by decide +kernel
theorem d_La_wire_6 : decode b_La_wire 6 = .ok (.goto 6, 3) := by decide +kernel
theorem d_La_wire_9 : decode b_La_wire 9 = .ok (.astore_n 3, 1) := by decide +kernel
theorem d_La_wire_10 : decode b_La_wire 10 = .ok (.iconst 1, 1) := by decide +kernel
theorem d_La_wire_11 : decode b_La_wire 11 = .ok (.ireturn, 1) := by decide +kernel
theorem d_La_wire_12 : decode b_La_wire 12 = .ok (.iconst 0, 1) := by decide +kernel
theorem d_La_wire_13 : decode b_La_wire 13 = .ok (.ireturn, 1) := by decide +kernel
def y_La_line : MethodName := ⟨R_La, "line", "(LWorkspaceMachine;I[J)I"⟩
abbrev b_La_line : ByteArray := method_7_code
theorem d_La_line_0 : decode b_La_line 0 = .ok (.aload_n 2, 1) := by decide +kernel
theorem d_La_line_1 : decode b_La_line 1 = .ok (.iconst 0, 1) := by decide +kernel
theorem d_La_line_2 : decode b_La_line 2 = .ok (.aload_n 0, 1) := by decide +kernel
theorem d_La_line_3 : decode b_La_line 3 = .ok (.iload_n 1, 1) := by decide +kernel
theorem d_La_line_4 : decode b_La_line 4 = .ok (.invokevirtual 27, 3) := by decide +kernel
theorem d_La_line_7 : decode b_La_line 7 = .ok (.ifCond .eq 7, 3) := by decide +kernel
theorem d_La_line_10 : decode b_La_line 10 = .ok (.lconst 1, 1) := by decide +kernel
theorem d_La_line_11 : decode b_La_line 11 = .ok (.goto 4, 3) := by decide +kernel
theorem d_La_line_14 : decode b_La_line 14 = .ok (.lconst 0, 1) := by decide +kernel
theorem d_La_line_15 : decode b_La_line 15 = .ok (.lastore, 1) := by decide +kernel
theorem d_La_line_16 : decode b_La_line 16 = .ok (.goto 6, 3) := by decide +kernel
theorem d_La_line_19 : decode b_La_line 19 = .ok (.astore_n 3, 1) := by decide +kernel
theorem d_La_line_20 : decode b_La_line 20 = .ok (.iconst 1, 1) := by decide +kernel
theorem d_La_line_21 : decode b_La_line 21 = .ok (.ireturn, 1) := by decide +kernel
theorem d_La_line_22 : decode b_La_line 22 = .ok (.iconst 0, 1) := by decide +kernel
theorem d_La_line_23 : decode b_La_line 23 = .ok (.ireturn, 1) := by decide +kernel
def y_La_state : MethodName := ⟨R_La, "state", "(LWorkspaceMachine;I[J)I"⟩
abbrev b_La_state : ByteArray := method_8_code
theorem d_La_state_0 : decode b_La_state 0 = .ok (.aload_n 2, 1) := by decide +kernel
theorem d_La_state_1 : decode b_La_state 1 = .ok (.iconst 0, 1) := by decide +kernel
theorem d_La_state_2 : decode b_La_state 2 = .ok (.aload_n 0, 1) := by decide +kernel
theorem d_La_state_3 : decode b_La_state 3 = .ok (.iload_n 1, 1) := by decide +kernel
theorem d_La_state_4 : decode b_La_state 4 = .ok (.invokevirtual 31, 3) := by decide +kernel
theorem d_La_state_7 : decode b_La_state 7 = .ok (.i2l, 1) := by decide +kernel
theorem d_La_state_8 : decode b_La_state 8 = .ok (.lastore, 1) := by decide +kernel
theorem d_La_state_9 : decode b_La_state 9 = .ok (.goto 6, 3) := by decide +kernel
theorem d_La_state_12 : decode b_La_state 12 = .ok (.astore_n 3, 1) := by decide +kernel
theorem d_La_state_13 : decode b_La_state 13 = .ok (.iconst 1, 1) := by decide +kernel
theorem d_La_state_14 : decode b_La_state 14 = .ok (.ireturn, 1) := by decide +kernel
theorem d_La_state_15 : decode b_La_state 15 = .ok (.iconst 0, 1) := by decide +kernel
theorem d_La_state_16 : decode b_La_state 16 = .ok (.ireturn, 1) := by decide +kernel
abbrev OAd : Type := Nat × ClassId
abbrev LSt : Type := CSt × (Nat → Int64)
/-- the class's world and the law's array of one long -/
def cwo (a : CAd) (o : OAd) (σ : LSt) : va_W := cw a σ.1 ++ [(o.1, .inl (o.2, 1, .inr (.inl σ.2)))]
def FAo (a : CAd) (o : OAd) : Nat → Prop := fun q => FA a q ∨ q = o.1
def ApO (a : CAd) (o : OAd) : Prop := ApC a ∧ ¬ FA a o.1
abbrev tyO (a : CAd) (o : OAd) : List (ClassId × FieldType) := [(a.2.2.2.2.2, .char), (o.2, .long)]
section OW
variable {D : va_G} {a : CAd} {o : OAd} {σ : LSt} {H H1 : Heap} {s : State}
theorem P_c (h : va_P D kl (cwo a o σ) H) : va_P D kl (cw a σ.1) H := fun k q hk => h k q (by
  unfold cwo
  rw [List.getElem?_append_left (List.getElem?_eq_some_iff.mp hk).1]
  exact hk)
theorem P_o (h : va_P D kl (cwo a o σ) H) : H[o.1]? = some (vp_cell o.2 (1, .inr (.inl σ.2))) := h 5 _ rfl
theorem P_co {u : CSt} {f : Nat → Int64} (h1 : va_P D kl (cw a u) H) (h2 : H[o.1]? = some (vp_cell o.2 (1, .inr (.inl f)))) : va_P D kl (cwo a o (u, f)) H := h1.app fun k q hk => by
  have hz : k < 1 := (List.getElem?_eq_some_iff.mp hk).1
  rw [show k = 0 by omega] at hk
  cases hk
  exact h2
theorem K_c (h : va_K D kl (tyO a o) s) : va_K D kl (tyC a) s := ⟨h.1, fun k q hk => h.2 k q (by
  have hz : k < 1 := (List.getElem?_eq_some_iff.mp hk).1
  rw [show k = 0 by omega] at hk ⊢
  exact hk)⟩
theorem P_k {ws : va_W} {cl : List vw_C} (h : va_P D cl ws H) (hk : ∀ q : Nat, q < H.size → H1[q]? = H[q]?) : va_P D cl ws H1 := h.kept fun k q hq => hk q.1 (h k q hq).lt
theorem D_o (hA : ApO a o) (σ : LSt) : va_D (FAo a o) (cwo a o σ) := by
  refine va_D.app ((dd_C hA.1 σ.1).weaken fun k q _ h => Or.inl h) ⟨fun i j x y hi hj _ => ?_, fun k q hk => ?_⟩ fun i j x y hi hj hxy => ?_
  · have h1 : i < 1 := (List.getElem?_eq_some_iff.mp hi).1
    have h2 : j < 1 := (List.getElem?_eq_some_iff.mp hj).1
    omega
  · have hz : k < 1 := (List.getElem?_eq_some_iff.mp hk).1
    rw [show k = 0 by omega] at hk
    cases hk
    exact Or.inr rfl
  · have hz : j < 1 := (List.getElem?_eq_some_iff.mp hj).1
    rw [show j = 0 by omega] at hj
    cases hj
    exact hA.2 (hxy ▸ (dd_C hA.1 σ.1).2 i x hi)
end OW
theorem S_mono {A B : Nat → Prop} {H0 H : Heap} {locs : List Loc} (h : va_S A H0 H locs) (hAB : ∀ q, A q → B q) : va_S B H0 H locs := ⟨h.1, fun q h1 h2 => h.2.1 q h1 fun z => h2 (hAB q z), fun q hq => hAB _ (h.2.2 q hq)⟩
/-- words of a big list that has TB -/
theorem gg_c {big : List Cond} (hB : ∀ w ∈ TB, w ∈ big) {y : MethodName} {b : ByteArray} {n : Nat} {r : Option FieldType} (h : Cond.code y b n r ∈ TB) : GoodIn big (wC y b n r) := by
  intro w hw
  rcases List.mem_cons.mp hw with rfl | hw
  · exact ⟨hB _ h, tb_good h⟩
  · exact ⟨hB _ hw, tb_good hw⟩
theorem gg_V {big : List Cond} (hB : ∀ w ∈ TB, w ∈ big) {y : MethodName} {b : ByteArray} {n : Nat} {r : Option FieldType} {own C : String} {idx : Nat} (h1 : Cond.methodLink own idx y ∈ TB) (h2 : Cond.instanceMethod y ∈ TB) (h3 : Cond.selects C y y ∈ TB) (h4 : Cond.initialized C ∈ TB) (h5 : Cond.code y b n r ∈ TB) : GoodIn big (wsV own idx C y (wC y b n r)) := by
  intro w hw
  rcases List.mem_append.mp hw with hw | hw
  · have hx : w ∈ TB := by
      rcases List.mem_cons.mp hw with rfl | hw
      · exact h1
      rcases List.mem_cons.mp hw with rfl | hw
      · exact h2
      rcases List.mem_cons.mp hw with rfl | hw
      · exact h3
      rcases List.mem_cons.mp hw with rfl | hw
      · exact h4
      cases hw
    exact ⟨hB _ hx, tb_good hx⟩
  · exact gg_c hB h5 w hw
def wW (y : MethodName) (b : ByteArray) (n : Nat) (r : Option FieldType) (hh : List (Nat × Nat × Nat × Nat)) : List Cond := .codeWith y b n r hh :: TB
theorem wB {x : Cond} : ∀ w ∈ TB, w ∈ x :: TB := fun _ h => List.mem_cons_of_mem _ h
theorem gg_W {big : List Cond} (hB : ∀ w ∈ TB, w ∈ big) {y : MethodName} {b : ByteArray} {n : Nat} {r : Option FieldType} {hh : List (Nat × Nat × Nat × Nat)} (h : Cond.codeWith y b n r hh ∈ TB) : GoodIn big (wW y b n r hh) := by
  intro w hw
  rcases List.mem_cons.mp hw with rfl | hw
  · exact ⟨hB _ h, tb_good h⟩
  · exact ⟨hB _ hw, tb_good hw⟩
theorem tab1 {l : List ExceptionTableEntry} {a b h c : Nat} (e : l.map (fun h => (h.startPc, h.endPc, h.handlerPc, h.catchType)) = [(a, b, h, c)]) : ∃ x : ExceptionTableEntry, l = [x] ∧ x.startPc = a ∧ x.endPc = b ∧ x.handlerPc = h ∧ x.catchType = c := by
  cases l with
  | nil => cases e
  | cons x t =>
    cases t with
    | nil =>
      simp only [List.map_cons, List.map_nil, List.cons.injEq, Prod.mk.injEq, and_true] at e
      exact ⟨x, rfl, e⟩
    | cons y t => simp at e
/-- what a wrapper needs beyond the world -/
def KT (im : Nat) (tx : String) (U : State) : Prop := TK U ∧ ∃ q, vk_R R_M im tx q U
theorem KT.warm {im : Nat} {tx : String} {s U : State} (hW : s.WarmedH U.vm) (hH : U.heap = s.heap) (h : KT im tx s) : KT im tx U := by
  obtain ⟨⟨h1, h2⟩, q, h3⟩ := h
  refine ⟨⟨?_, h2.warm hW⟩, q, h3.warm hW⟩
  rw [hH]
  exact h1.moved hW.alike
theorem KT.same {im : Nat} {tx : String} {s U : State} (hv : s.vm = U.vm) (hH : U.heap = s.heap) (h : KT im tx s) : KT im tx U := by
  obtain ⟨⟨h1, h2⟩, q, h3⟩ := h
  refine ⟨⟨?_, h2.same hv⟩, q, h3.same hv.symm⟩
  rw [hH]
  exact h1.moved (hv ▸ Vm.Alike.refl s.vm)
theorem KT.blind {im : Nat} {tx : String} {av : List Value} : FrameBlind (va_Pc av (KT im tx)) := fun a U g mk q => ⟨q.1, KT.same (s := U) (U := U.calling g mk a) rfl rfl q.2⟩
def QW (a : CAd) (o : OAd) (D : va_G) (rv : Option Value) (σ' : LSt) : Array Value → State → Outcome → State → Prop := fun _ st oc t => oc = .returned rv ∧ va_P D kl (cwo a o σ') t.heap ∧ va_F (FAo a o) st t
/-- the form of a wrapper's contract -/
def MW (a : CAd) (o : OAd) (l : Launch) (D : va_G) (y : MethodName) (b : ByteArray) (n : Nat) (hh : List (Nat × Nat × Nat × Nat)) (rm : Room) (av : List Value) (K : State → Prop) (σ : LSt) (v : Int32) (σ' : LSt) : Prop :=
  Met l y (wW y b n (some .int) hh) rm (va_Pc av (fun U => (va_P D kl (cwo a o σ) U.heap ∧ va_K D kl (tyO a o) U) ∧ K U)) (QW a o D (some (.int v)) σ') 1 6 (FAo a o)
theorem MW.mk {a : CAd} {o : OAd} {l : Launch} {D : va_G} {y : MethodName} {b : ByteArray} {n a0 b0 h0 c0 : Nat} {rm : Room} {av : List Value} {K : State → Prop} {σ σ' : LSt} {v : Int32} (hy : plainName y.cls = true) (hn : (lg_sl av).length ≤ n)
    (body : ∀ (p : Program) (e : Env) (s : State) (m : MethodId) (below : List Frame) (meth : Method) (c : Code) (ls : Array Slot) (Q : State → Prop) (args : Array Value) (x : ExceptionTableEntry), p.tables.exec = Jvm.exec → c.code = b → meth.sig.returnType = some .int → c.maxLocals = n → s.vm.findClass y.cls = some m.cls → (∀ w ∈ wW y b n (some .int) [(a0, b0, h0, c0)], w.before args s = true) → meth.locks = false →
      lv_has ls n (lv_args 0 av) → va_P D kl (cwo a o σ) s.heap → va_K D kl (tyO a o) s → K s → c.exceptionTable.toList = [x] → (x.startPc = a0 ∧ x.endPc = b0 ∧ x.handlerPc = h0 ∧ x.catchType = c0) → Q = MQ below (QW a o D (some (.int v)) σ') args s 1 6 (FAo a o) →
      W p l e rm s m args below meth c s.heap [] 0 0 Q (F0 m 0 ls [])) : MW a o l D y b n [(a0, b0, h0, c0)] rm av K σ v σ' := by
  refine va_MetW (cc := b) (maxL := n) (ret := some .int) (hh := [(a0, b0, h0, c0)]) hy rfl ?_
  intro p e s m args below meth c s₁ B hml hv
  obtain ⟨rfl, ⟨hP, hK⟩, hT⟩ := hv
  have hts := atoms_spec (ws := wW y b n (some .int) [(a0, b0, h0, c0)]) B.pre
  have hown : s.vm.findClass y.cls = some m.cls := findClass_of_methodNamed B.named
  obtain ⟨m9, meth9, c9, hn9, h1, h2, -, -, hex, -⟩ := Cond.codeWith_spec (hts _ List.mem_cons_self)
  cases B.named.symm.trans hn9
  cases B.method.symm.trans h1
  cases (Stand.of_body B).code.symm.trans h2
  obtain ⟨x, hx1, hx2⟩ := tab1 hex
  have hl := lv_entry av (n := n) hn
  rw [lg_entry_eq]
  exact body p e s m below meth c _ _ _ x B.exec B.bytes B.returns hml hown hts B.notSynchronized hl hP hK hT hx1 hx2 rfl
section WR
variable {p : Program} {l : Launch} {e : Env} {R : Room} {s : State} {m : MethodId} {args : Array Value} {below : List Frame} {meth : Method} {c : Code} {H : Heap} {locs : List Loc} {cc : ByteArray} {pc : Nat} {ls : Array Slot} {a : CAd} {o : OAd} {D : va_G} {σ' : LSt} {Q : State → Prop}
theorem wr_i {k n : Nat} {v v' : Int32} (hk : k ≤ 1) (hn : n ≤ 6) (hx : p.tables.exec = Jvm.exec) (hb : c.code = cc) (hr : meth.sig.returnType = some .int) (hlk : meth.locks = false) (hv : v = v') (hP : va_P D kl (cwo a o σ') H) (hS : va_S (FAo a o) s.heap H locs) (d : decode cc pc = .ok (.ireturn, 1)) :
    W p l e R s m args below meth c H locs k n (MQ below (QW a o D (some (.int v')) σ') args s 1 6 (FAo a o)) (F0 m pc ls [.int v]) := by
  subst hv
  have w : W p l e R s m args below meth c H locs 1 6 (MQ below (QW a o D (some (.int v)) σ') args s 1 6 (FAo a o)) (F0 m pc ls [.int v]) := W.iret hx hb hr (fun t ht _ => ⟨rfl, by rw [ht]; exact hP, hS.F ht⟩) hS.2.2 d
  exact fun T hT X => w T hT (stand_widen X hk hn)
theorem th_V2 {y : MethodName} {bytes : ByteArray} {maxL nL n index hpc : Nat} {ret : Option FieldType} {ws : List Cond} {rm : Room} {K : State → Prop} {Ts : List Cond} {own C nm : String} {b : Addr} {As rest st0 : List Value}
    (S : CallFix p m c cc nL s args Ts own) (hM : MT l y ws rm (va_Pc (.ref b :: As) K) (QT nm) 1 6) (cw : CallW R s args own C index y bytes maxL ret ws rm 1 6 n) (hp : PreV s H C b (va_Pc (.ref b :: As) K) As)
    (hn : As.length = n) (hsize : ls.size = nL) (hst : st0 = As.reverse ++ .ref b :: rest) (h8 : (rest.map fun v => v.category).sum ≤ 8) (hdg : decode cc pc = .ok (.invokevirtual index, 3)) (hf : 1 ≤ R.cells ∧ 6 ≤ R.slots)
    {x : ExceptionTableEntry} (ht : c.exceptionTable.toList = [x]) (hx : covers x pc = true) (h0 : x.catchType ≠ 0) (hlink : (Cond.classLink own x.catchType nm).before args s = true) (hh : x.handlerPc = hpc)
    (kk : ∀ (H1 : Heap) (z : Addr), H.size ≤ H1.size → (∀ q : Nat, q < H.size → H1[q]? = H[q]?) → W p l e R s m args below meth c H1 locs 1 6 Q (F0 m hpc ls [.ref z])) :
    W p l e R s m args below meth c H locs 0 0 Q (F0 m pc ls st0) := by
  subst hst; subst hh
  exact th_V S hM cw hp hn hsize h8 hdg (by simpa using hf) ht hx h0 hlink (by simpa using kk)
end WR
abbrev rmW : Room := { frames := 7, cells := 1, slots := 6, locals := 104 }
theorem t_367 : Cond.classLink R_La 13 R_X ∈ TB := mt 367 (by decide +kernel) (by decide +kernel)
theorem t_368 : Cond.methodLink R_La 7 y_M_poke ∈ TB := mt 368 (by decide +kernel) (by decide +kernel)
theorem t_369 : Cond.instanceMethod y_M_poke ∈ TB := mt 369 (by decide +kernel) (by decide +kernel)
theorem t_370 : Cond.selects R_M y_M_poke y_M_poke ∈ TB := mt 370 (by decide +kernel) (by decide +kernel)
theorem t_371 : Cond.code y_M_poke b_M_poke 3 none ∈ TB := mt 371 (by decide +kernel) (by decide +kernel)
theorem t_451 : Cond.methodLink R_La 19 y_M_level ∈ TB := mt 451 (by decide +kernel) (by decide +kernel)
theorem t_452 : Cond.instanceMethod y_M_level ∈ TB := mt 452 (by decide +kernel) (by decide +kernel)
theorem t_453 : Cond.selects R_M y_M_level y_M_level ∈ TB := mt 453 (by decide +kernel) (by decide +kernel)
theorem t_454 : Cond.code y_M_level b_M_level 2 none ∈ TB := mt 454 (by decide +kernel) (by decide +kernel)
theorem t_459 : Cond.methodLink R_La 23 y_M_wire ∈ TB := mt 459 (by decide +kernel) (by decide +kernel)
theorem t_460 : Cond.instanceMethod y_M_wire ∈ TB := mt 460 (by decide +kernel) (by decide +kernel)
theorem t_461 : Cond.selects R_M y_M_wire y_M_wire ∈ TB := mt 461 (by decide +kernel) (by decide +kernel)
theorem t_462 : Cond.code y_M_wire b_M_wire 3 none ∈ TB := mt 462 (by decide +kernel) (by decide +kernel)
theorem t_444 : Cond.methodLink R_La 15 y_M_peek ∈ TB := mt 444 (by decide +kernel) (by decide +kernel)
theorem t_445 : Cond.instanceMethod y_M_peek ∈ TB := mt 445 (by decide +kernel) (by decide +kernel)
theorem t_446 : Cond.selects R_M y_M_peek y_M_peek ∈ TB := mt 446 (by decide +kernel) (by decide +kernel)
theorem t_447 : Cond.code y_M_peek b_M_peek 2 (some .char) ∈ TB := mt 447 (by decide +kernel) (by decide +kernel)
theorem t_470 : Cond.methodLink R_La 27 y_M_line ∈ TB := mt 470 (by decide +kernel) (by decide +kernel)
theorem t_471 : Cond.instanceMethod y_M_line ∈ TB := mt 471 (by decide +kernel) (by decide +kernel)
theorem t_472 : Cond.selects R_M y_M_line y_M_line ∈ TB := mt 472 (by decide +kernel) (by decide +kernel)
theorem t_473 : Cond.code y_M_line b_M_line 2 (some .boolean) ∈ TB := mt 473 (by decide +kernel) (by decide +kernel)
theorem t_477 : Cond.methodLink R_La 31 y_M_state ∈ TB := mt 477 (by decide +kernel) (by decide +kernel)
theorem t_478 : Cond.instanceMethod y_M_state ∈ TB := mt 478 (by decide +kernel) (by decide +kernel)
theorem t_479 : Cond.selects R_M y_M_state y_M_state ∈ TB := mt 479 (by decide +kernel) (by decide +kernel)
theorem t_480 : Cond.code y_M_state b_M_state 2 (some .int) ∈ TB := mt 480 (by decide +kernel) (by decide +kernel)
set_option maxHeartbeats 4000000 in
theorem kw_poke (l : Launch) (hfl : l.flags = pinnedFlags ++ [noTraceFlag]) (D : va_G) (a : CAd) (o : OAd) (hA : ApO a o) (σ : LSt) (x1 : Int32) (x2 : Int32) : MW a o l D y_La_poke b_La_poke 4 [(0, 6, 9, 13)] rmW [.ref a.1, .int x1, .int x2] (KT 51 "no word has this address") σ (if C_M_isWordAddress x1 = 0 then 1 else 0) (C_M_poke σ.1 x1 x2, σ.2) := by
  refine MW.mk (by decide) (Nat.le_of_ble_eq_true rfl) ?_
  intro p e s m below meth c ls Q args x hx hb hr hml hown hts hlk hl hP hK hT hxt hxs hQ
  have hown : s.vm.findClass R_La = some m.cls := hown
  have hl : lv_has ls 4 [(0, .ref a.1), (1, .int x1), (2, .int x2)] := hl
  refine lv_aload_n hx hb d_La_poke_0 rfl (lv_at hl 0 rfl) ?_
  refine lv_iload_n hx hb d_La_poke_1 rfl (lv_at hl 1 rfl) ?_
  refine lv_iload_n hx hb d_La_poke_2 rfl (lv_at hl 2 rfl) ?_
  by_cases hg : C_M_isWordAddress x1 = 0
  · refine th_V2 (As := [.int x1, .int x2]) (rest := []) (hpc := 9) ⟨hx, hb, hml, hown, hts⟩ (kt_M_poke l hfl a.1 x1 x2 hg) (cwV 2 hts (gg_V wB t_368 t_369 t_370 t_62 t_371) rfl rfl rfl (by decide +kernel) ⟨Nat.le_of_ble_eq_true rfl, Nat.le_of_ble_eq_true rfl⟩) ⟨KT.blind, (va_recv (q0 := 0) (ci := 3) (q := (R_M, F_M, 7)) hK (P_c hP) rfl rfl), fun U hU hW => ⟨rfl, hT.warm hW hU⟩⟩ rfl hl.1 rfl (Nat.le_of_ble_eq_true rfl) d_La_poke_3 ⟨by decide, by decide⟩ hxt (by rw [covers, hxs.1, hxs.2.1]; rfl) (by rw [hxs.2.2.2]; decide) (by rw [hxs.2.2.2]; exact hts _ (wB _ t_367)) hxs.2.2.1 (fun H1 z hs hk => ?_)
    refine lv_astore_n hx hb d_La_poke_9 rfl hl (by decide) rfl (fun ls hl => ?_)
    refine lv_iconst (v := 1) hx hb d_La_poke_10 (by decide) ?_
    have hP1 : va_P D kl (cwo a o (C_M_poke σ.1 x1 x2, σ.2)) H1 := by
      rw [show C_M_poke σ.1 x1 x2 = σ.1 by unfold C_M_poke; rw [hg]; rfl]
      exact P_k hP hk
    subst hQ
    exact wr_i (Nat.le_refl _) (Nat.le_refl _) hx hb hr hlk (by rw [if_pos hg]) hP1 ⟨hs, fun q h1 _ => hk q h1, fun q h => by cases h⟩ d_La_poke_11
  · refine cl_V (C := R_M) (k_M_poke l D a hA.1 σ.1 x1 x2 hg) ⟨hx, hb, hml, hown, hts⟩ (cwV 2 hts (gg_V wB t_368 t_369 t_370 t_62 t_371) rfl rfl rfl (by decide +kernel) ⟨Nat.le_of_ble_eq_true rfl, Nat.le_of_ble_eq_true rfl⟩) (va_recv (q0 := 0) (ci := 3) (q := (R_M, F_M, 7)) hK (P_c hP) rfl rfl) (P_c hP) (K_c hK) va_S.rf rfl hl.1 (rest := []) rfl (Nat.le_of_ble_eq_true rfl) d_La_poke_3 (fun H1 locs1 hP1 hS1 => ?_)
    have hO : H1[o.1]? = some (vp_cell o.2 (1, .inr (.inl σ.2))) := by rw [hS1.2.1 o.1 (Array.getElem?_eq_some_iff.mp (P_o hP)).1 hA.2]; exact P_o hP
    have hP2 : va_P D kl (cwo a o (C_M_poke σ.1 x1 x2, σ.2)) H1 := P_co hP1 hO
    refine lv_goto (tgt := 12) hx hb d_La_poke_6 (by decide) ?_
    refine lv_iconst (v := 0) hx hb d_La_poke_12 (by decide) ?_
    subst hQ
    exact wr_i (Nat.zero_le _) (Nat.zero_le _) hx hb hr hlk (by rw [if_neg hg]) hP2 (S_mono hS1 fun q h => Or.inl h) d_La_poke_13
set_option maxHeartbeats 4000000 in
theorem kw_level (l : Launch) (hfl : l.flags = pinnedFlags ++ [noTraceFlag]) (D : va_G) (a : CAd) (o : OAd) (hA : ApO a o) (σ : LSt) (x1 : Int32) : MW a o l D y_La_level b_La_level 3 [(0, 5, 8, 13)] rmW [.ref a.1, .int x1] (KT 93 "no level has this number") σ (if ¬ (¬ x1 < 0 ∧ x1 ≤ 16) then 1 else 0) (C_M_level σ.1 x1, σ.2) := by
  refine MW.mk (by decide) (Nat.le_of_ble_eq_true rfl) ?_
  intro p e s m below meth c ls Q args x hx hb hr hml hown hts hlk hl hP hK hT hxt hxs hQ
  have hown : s.vm.findClass R_La = some m.cls := hown
  have hl : lv_has ls 3 [(0, .ref a.1), (1, .int x1)] := hl
  refine lv_aload_n hx hb d_La_level_0 rfl (lv_at hl 0 rfl) ?_
  refine lv_iload_n hx hb d_La_level_1 rfl (lv_at hl 1 rfl) ?_
  by_cases hg : ¬ (¬ x1 < 0 ∧ x1 ≤ 16)
  · refine th_V2 (As := [.int x1]) (rest := []) (hpc := 8) ⟨hx, hb, hml, hown, hts⟩ (kt_M_level l hfl a.1 x1 hg) (cwV 1 hts (gg_V wB t_451 t_452 t_453 t_62 t_454) rfl rfl rfl (by decide +kernel) ⟨Nat.le_of_ble_eq_true rfl, Nat.le_of_ble_eq_true rfl⟩) ⟨KT.blind, (va_recv (q0 := 0) (ci := 3) (q := (R_M, F_M, 7)) hK (P_c hP) rfl rfl), fun U hU hW => ⟨rfl, hT.warm hW hU⟩⟩ rfl hl.1 rfl (Nat.le_of_ble_eq_true rfl) d_La_level_2 ⟨by decide, by decide⟩ hxt (by rw [covers, hxs.1, hxs.2.1]; rfl) (by rw [hxs.2.2.2]; decide) (by rw [hxs.2.2.2]; exact hts _ (wB _ t_367)) hxs.2.2.1 (fun H1 z hs hk => ?_)
    refine lv_astore_n hx hb d_La_level_8 rfl hl (by decide) rfl (fun ls hl => ?_)
    refine lv_iconst (v := 1) hx hb d_La_level_9 (by decide) ?_
    have hP1 : va_P D kl (cwo a o (C_M_level σ.1 x1, σ.2)) H1 := by
      rw [show C_M_level σ.1 x1 = σ.1 by unfold C_M_level; by_cases h1 : x1 < 0 <;> by_cases h2 : x1 ≤ 16 <;> first | (rw [if_pos h1]) | (rw [if_neg h1, if_neg h2]) | exact absurd ⟨h1, h2⟩ hg]
      exact P_k hP hk
    subst hQ
    exact wr_i (Nat.le_refl _) (Nat.le_refl _) hx hb hr hlk (by rw [if_pos hg]) hP1 ⟨hs, fun q h1 _ => hk q h1, fun q h => by cases h⟩ d_La_level_10
  · refine cl_V (C := R_M) (k_M_level l D a hA.1 σ.1 x1 (Classical.byContradiction hg)) ⟨hx, hb, hml, hown, hts⟩ (cwV 1 hts (gg_V wB t_451 t_452 t_453 t_62 t_454) rfl rfl rfl (by decide +kernel) ⟨Nat.le_of_ble_eq_true rfl, Nat.le_of_ble_eq_true rfl⟩) (va_recv (q0 := 0) (ci := 3) (q := (R_M, F_M, 7)) hK (P_c hP) rfl rfl) (P_c hP) (K_c hK) va_S.rf rfl hl.1 (rest := []) rfl (Nat.le_of_ble_eq_true rfl) d_La_level_2 (fun H1 locs1 hP1 hS1 => ?_)
    have hO : H1[o.1]? = some (vp_cell o.2 (1, .inr (.inl σ.2))) := by rw [hS1.2.1 o.1 (Array.getElem?_eq_some_iff.mp (P_o hP)).1 hA.2]; exact P_o hP
    have hP2 : va_P D kl (cwo a o (C_M_level σ.1 x1, σ.2)) H1 := P_co hP1 hO
    refine lv_goto (tgt := 11) hx hb d_La_level_5 (by decide) ?_
    refine lv_iconst (v := 0) hx hb d_La_level_11 (by decide) ?_
    subst hQ
    exact wr_i (Nat.zero_le _) (Nat.zero_le _) hx hb hr hlk (by rw [if_neg hg]) hP2 (S_mono hS1 fun q h => Or.inl h) d_La_level_12
set_option maxHeartbeats 4000000 in
theorem kw_wire (l : Launch) (hfl : l.flags = pinnedFlags ++ [noTraceFlag]) (D : va_G) (a : CAd) (o : OAd) (hA : ApO a o) (σ : LSt) (x1 : Int32) (x2 : Int32) : MW a o l D y_La_wire b_La_wire 4 [(0, 6, 9, 13)] rmW [.ref a.1, .int x1, .int x2] (KT 98 "no line has this number") σ (if C_M_isLine x1 = 0 then 1 else 0) (C_M_wire σ.1 x1 x2, σ.2) := by
  refine MW.mk (by decide) (Nat.le_of_ble_eq_true rfl) ?_
  intro p e s m below meth c ls Q args x hx hb hr hml hown hts hlk hl hP hK hT hxt hxs hQ
  have hown : s.vm.findClass R_La = some m.cls := hown
  have hl : lv_has ls 4 [(0, .ref a.1), (1, .int x1), (2, .int x2)] := hl
  refine lv_aload_n hx hb d_La_wire_0 rfl (lv_at hl 0 rfl) ?_
  refine lv_iload_n hx hb d_La_wire_1 rfl (lv_at hl 1 rfl) ?_
  refine lv_iload_n hx hb d_La_wire_2 rfl (lv_at hl 2 rfl) ?_
  by_cases hg : C_M_isLine x1 = 0
  · refine th_V2 (As := [.int x1, .int x2]) (rest := []) (hpc := 9) ⟨hx, hb, hml, hown, hts⟩ (kt_M_wire l hfl a.1 x1 x2 hg) (cwV 2 hts (gg_V wB t_459 t_460 t_461 t_62 t_462) rfl rfl rfl (by decide +kernel) ⟨Nat.le_of_ble_eq_true rfl, Nat.le_of_ble_eq_true rfl⟩) ⟨KT.blind, (va_recv (q0 := 0) (ci := 3) (q := (R_M, F_M, 7)) hK (P_c hP) rfl rfl), fun U hU hW => ⟨rfl, hT.warm hW hU⟩⟩ rfl hl.1 rfl (Nat.le_of_ble_eq_true rfl) d_La_wire_3 ⟨by decide, by decide⟩ hxt (by rw [covers, hxs.1, hxs.2.1]; rfl) (by rw [hxs.2.2.2]; decide) (by rw [hxs.2.2.2]; exact hts _ (wB _ t_367)) hxs.2.2.1 (fun H1 z hs hk => ?_)
    refine lv_astore_n hx hb d_La_wire_9 rfl hl (by decide) rfl (fun ls hl => ?_)
    refine lv_iconst (v := 1) hx hb d_La_wire_10 (by decide) ?_
    have hP1 : va_P D kl (cwo a o (C_M_wire σ.1 x1 x2, σ.2)) H1 := by
      rw [show C_M_wire σ.1 x1 x2 = σ.1 by unfold C_M_wire; rw [hg]; rfl]
      exact P_k hP hk
    subst hQ
    exact wr_i (Nat.le_refl _) (Nat.le_refl _) hx hb hr hlk (by rw [if_pos hg]) hP1 ⟨hs, fun q h1 _ => hk q h1, fun q h => by cases h⟩ d_La_wire_11
  · refine cl_V (C := R_M) (k_M_wire l D a hA.1 σ.1 x1 x2 hg) ⟨hx, hb, hml, hown, hts⟩ (cwV 2 hts (gg_V wB t_459 t_460 t_461 t_62 t_462) rfl rfl rfl (by decide +kernel) ⟨Nat.le_of_ble_eq_true rfl, Nat.le_of_ble_eq_true rfl⟩) (va_recv (q0 := 0) (ci := 3) (q := (R_M, F_M, 7)) hK (P_c hP) rfl rfl) (P_c hP) (K_c hK) va_S.rf rfl hl.1 (rest := []) rfl (Nat.le_of_ble_eq_true rfl) d_La_wire_3 (fun H1 locs1 hP1 hS1 => ?_)
    have hO : H1[o.1]? = some (vp_cell o.2 (1, .inr (.inl σ.2))) := by rw [hS1.2.1 o.1 (Array.getElem?_eq_some_iff.mp (P_o hP)).1 hA.2]; exact P_o hP
    have hP2 : va_P D kl (cwo a o (C_M_wire σ.1 x1 x2, σ.2)) H1 := P_co hP1 hO
    refine lv_goto (tgt := 12) hx hb d_La_wire_6 (by decide) ?_
    refine lv_iconst (v := 0) hx hb d_La_wire_12 (by decide) ?_
    subst hQ
    exact wr_i (Nat.zero_le _) (Nat.zero_le _) hx hb hr hlk (by rw [if_neg hg]) hP2 (S_mono hS1 fun q h => Or.inl h) d_La_wire_13
set_option maxHeartbeats 4000000 in
theorem kw_peek (l : Launch) (hfl : l.flags = pinnedFlags ++ [noTraceFlag]) (D : va_G) (a : CAd) (o : OAd) (hA : ApO a o) (σ : LSt) (x1 : Int32) : MW a o l D y_La_peek b_La_peek 4 [(0, 9, 12, 13)] rmW [.ref a.1, .int x1, .ref o.1] (KT 51 "no word has this address") σ (if C_M_isWordAddress x1 = 0 then 1 else 0) (σ.1, if C_M_isWordAddress x1 = 0 then σ.2 else vp_updL σ.2 0 (C_M_peek σ.1 x1).toInt64) := by
  refine MW.mk (by decide) (Nat.le_of_ble_eq_true rfl) ?_
  intro p e s m below meth c ls Q args x hx hb hr hml hown hts hlk hl hP hK hT hxt hxs hQ
  have hown : s.vm.findClass R_La = some m.cls := hown
  have hl : lv_has ls 4 [(0, .ref a.1), (1, .int x1), (2, .ref o.1)] := hl
  refine lv_aload_n hx hb d_La_peek_0 rfl (lv_at hl 2 rfl) ?_
  refine lv_iconst (v := 0) hx hb d_La_peek_1 (by decide) ?_
  refine lv_aload_n hx hb d_La_peek_2 rfl (lv_at hl 0 rfl) ?_
  refine lv_iload_n hx hb d_La_peek_3 rfl (lv_at hl 1 rfl) ?_
  by_cases hg : C_M_isWordAddress x1 = 0
  · refine th_V2 (As := [.int x1]) (rest := [.int 0, .ref o.1]) (hpc := 12) ⟨hx, hb, hml, hown, hts⟩ (kt_M_peek l hfl a.1 x1 hg) (cwV 1 hts (gg_V wB t_444 t_445 t_446 t_62 t_447) rfl rfl rfl (by decide +kernel) ⟨Nat.le_of_ble_eq_true rfl, Nat.le_of_ble_eq_true rfl⟩) ⟨KT.blind, (va_recv (q0 := 0) (ci := 3) (q := (R_M, F_M, 7)) hK (P_c hP) rfl rfl), fun U hU hW => ⟨rfl, hT.warm hW hU⟩⟩ rfl hl.1 rfl (Nat.le_of_ble_eq_true rfl) d_La_peek_4 ⟨by decide, by decide⟩ hxt (by rw [covers, hxs.1, hxs.2.1]; rfl) (by rw [hxs.2.2.2]; decide) (by rw [hxs.2.2.2]; exact hts _ (wB _ t_367)) hxs.2.2.1 (fun H1 z hs hk => ?_)
    refine lv_astore_n hx hb d_La_peek_12 rfl hl (by decide) rfl (fun ls hl => ?_)
    refine lv_iconst (v := 1) hx hb d_La_peek_13 (by decide) ?_
    have hP1 : va_P D kl (cwo a o (σ.1, if C_M_isWordAddress x1 = 0 then σ.2 else vp_updL σ.2 0 (C_M_peek σ.1 x1).toInt64)) H1 := by
      rw [if_pos hg]
      exact P_k hP hk
    subst hQ
    exact wr_i (Nat.le_refl _) (Nat.le_refl _) hx hb hr hlk (by rw [if_pos hg]) hP1 ⟨hs, fun q h1 _ => hk q h1, fun q h => by cases h⟩ d_La_peek_14
  · refine cl_V (C := R_M) (k_M_peek l D a hA.1 σ.1 x1 hg) ⟨hx, hb, hml, hown, hts⟩ (cwV 1 hts (gg_V wB t_444 t_445 t_446 t_62 t_447) rfl rfl rfl (by decide +kernel) ⟨Nat.le_of_ble_eq_true rfl, Nat.le_of_ble_eq_true rfl⟩) (va_recv (q0 := 0) (ci := 3) (q := (R_M, F_M, 7)) hK (P_c hP) rfl rfl) (P_c hP) (K_c hK) va_S.rf rfl hl.1 (rest := [.int 0, .ref o.1]) rfl (Nat.le_of_ble_eq_true rfl) d_La_peek_4 (fun H1 locs1 hP1 hS1 => ?_)
    have hO : H1[o.1]? = some (vp_cell o.2 (1, .inr (.inl σ.2))) := by rw [hS1.2.1 o.1 (Array.getElem?_eq_some_iff.mp (P_o hP)).1 hA.2]; exact P_o hP
    have hP2 : va_P D kl (cwo a o (σ.1, σ.2)) H1 := P_co hP1 hO
    refine lv_i2l hx hb d_La_peek_7 rfl ?_
    refine va_last hx hb hK hP2 (D_o hA _) (S_mono hS1 fun q h => Or.inl h) 5 1 rfl rfl (pk_in 0 1 (by decide)) d_La_peek_8 (fun H2 locs2 hP3 _ hS3 => ?_)
    have hP4 : va_P D kl (cwo a o (σ.1, vp_updL σ.2 0 (C_M_peek σ.1 x1).toInt64)) H2 := hP3
    refine lv_goto (tgt := 15) hx hb d_La_peek_9 (by decide) ?_
    refine lv_iconst (v := 0) hx hb d_La_peek_15 (by decide) ?_
    have hP5 : va_P D kl (cwo a o (σ.1, if C_M_isWordAddress x1 = 0 then σ.2 else vp_updL σ.2 0 (C_M_peek σ.1 x1).toInt64)) H2 := by
      rw [if_neg hg]
      exact hP4
    subst hQ
    exact wr_i (Nat.zero_le _) (Nat.zero_le _) hx hb hr hlk (by rw [if_neg hg]) hP5 hS3 d_La_peek_16
set_option maxHeartbeats 4000000 in
theorem kw_line (l : Launch) (hfl : l.flags = pinnedFlags ++ [noTraceFlag]) (D : va_G) (a : CAd) (o : OAd) (hA : ApO a o) (σ : LSt) (x1 : Int32) : MW a o l D y_La_line b_La_line 4 [(0, 16, 19, 13)] rmW [.ref a.1, .int x1, .ref o.1] (KT 98 "no line has this number") σ (if C_M_isLine x1 = 0 then 1 else 0) (σ.1, if C_M_isLine x1 = 0 then σ.2 else vp_updL σ.2 0 (if C_M_line σ.1 x1 = 0 then (0 : Int64) else 1)) := by
  refine MW.mk (by decide) (Nat.le_of_ble_eq_true rfl) ?_
  intro p e s m below meth c ls Q args x hx hb hr hml hown hts hlk hl hP hK hT hxt hxs hQ
  have hown : s.vm.findClass R_La = some m.cls := hown
  have hl : lv_has ls 4 [(0, .ref a.1), (1, .int x1), (2, .ref o.1)] := hl
  refine lv_aload_n hx hb d_La_line_0 rfl (lv_at hl 2 rfl) ?_
  refine lv_iconst (v := 0) hx hb d_La_line_1 (by decide) ?_
  refine lv_aload_n hx hb d_La_line_2 rfl (lv_at hl 0 rfl) ?_
  refine lv_iload_n hx hb d_La_line_3 rfl (lv_at hl 1 rfl) ?_
  by_cases hg : C_M_isLine x1 = 0
  · refine th_V2 (As := [.int x1]) (rest := [.int 0, .ref o.1]) (hpc := 19) ⟨hx, hb, hml, hown, hts⟩ (kt_M_line l hfl a.1 x1 hg) (cwV 1 hts (gg_V wB t_470 t_471 t_472 t_62 t_473) rfl rfl rfl (by decide +kernel) ⟨Nat.le_of_ble_eq_true rfl, Nat.le_of_ble_eq_true rfl⟩) ⟨KT.blind, (va_recv (q0 := 0) (ci := 3) (q := (R_M, F_M, 7)) hK (P_c hP) rfl rfl), fun U hU hW => ⟨rfl, hT.warm hW hU⟩⟩ rfl hl.1 rfl (Nat.le_of_ble_eq_true rfl) d_La_line_4 ⟨by decide, by decide⟩ hxt (by rw [covers, hxs.1, hxs.2.1]; rfl) (by rw [hxs.2.2.2]; decide) (by rw [hxs.2.2.2]; exact hts _ (wB _ t_367)) hxs.2.2.1 (fun H1 z hs hk => ?_)
    refine lv_astore_n hx hb d_La_line_19 rfl hl (by decide) rfl (fun ls hl => ?_)
    refine lv_iconst (v := 1) hx hb d_La_line_20 (by decide) ?_
    have hP1 : va_P D kl (cwo a o (σ.1, if C_M_isLine x1 = 0 then σ.2 else vp_updL σ.2 0 (if C_M_line σ.1 x1 = 0 then (0 : Int64) else 1))) H1 := by
      rw [if_pos hg]
      exact P_k hP hk
    subst hQ
    exact wr_i (Nat.le_refl _) (Nat.le_refl _) hx hb hr hlk (by rw [if_pos hg]) hP1 ⟨hs, fun q h1 _ => hk q h1, fun q h => by cases h⟩ d_La_line_21
  · refine cl_V (C := R_M) (k_M_line l D a hA.1 σ.1 x1 hg) ⟨hx, hb, hml, hown, hts⟩ (cwV 1 hts (gg_V wB t_470 t_471 t_472 t_62 t_473) rfl rfl rfl (by decide +kernel) ⟨Nat.le_of_ble_eq_true rfl, Nat.le_of_ble_eq_true rfl⟩) (va_recv (q0 := 0) (ci := 3) (q := (R_M, F_M, 7)) hK (P_c hP) rfl rfl) (P_c hP) (K_c hK) va_S.rf rfl hl.1 (rest := [.int 0, .ref o.1]) rfl (Nat.le_of_ble_eq_true rfl) d_La_line_4 (fun H1 locs1 hP1 hS1 => ?_)
    have hO : H1[o.1]? = some (vp_cell o.2 (1, .inr (.inl σ.2))) := by rw [hS1.2.1 o.1 (Array.getElem?_eq_some_iff.mp (P_o hP)).1 hA.2]; exact P_o hP
    have hP2 : va_P D kl (cwo a o (σ.1, σ.2)) H1 := P_co hP1 hO
    refine lv_if_eq (tgt := 14) hx hb d_La_line_7 (by decide) (fun h7 => ?_) (fun h7 => ?_)
    · refine lv_lconst (v := 0) hx hb d_La_line_14 (by decide) ?_
      refine va_last hx hb hK hP2 (D_o hA _) (S_mono hS1 fun q h => Or.inl h) 5 1 rfl rfl (pk_in 0 1 (by decide)) d_La_line_15 (fun H2 locs2 hP3 _ hS3 => ?_)
      have hP4 : va_P D kl (cwo a o (σ.1, vp_updL σ.2 0 (0 : Int64))) H2 := hP3
      refine lv_goto (tgt := 22) hx hb d_La_line_16 (by decide) ?_
      refine lv_iconst (v := 0) hx hb d_La_line_22 (by decide) ?_
      have hP5 : va_P D kl (cwo a o (σ.1, if C_M_isLine x1 = 0 then σ.2 else vp_updL σ.2 0 (if C_M_line σ.1 x1 = 0 then (0 : Int64) else 1))) H2 := by
        rw [if_neg hg, if_pos h7]
        exact hP4
      subst hQ
      exact wr_i (Nat.zero_le _) (Nat.zero_le _) hx hb hr hlk (by rw [if_neg hg]) hP5 hS3 d_La_line_23
    · refine lv_lconst (v := 1) hx hb d_La_line_10 (by decide) ?_
      refine lv_goto (tgt := 15) hx hb d_La_line_11 (by decide) ?_
      refine va_last hx hb hK hP2 (D_o hA _) (S_mono hS1 fun q h => Or.inl h) 5 1 rfl rfl (pk_in 0 1 (by decide)) d_La_line_15 (fun H2 locs2 hP3 _ hS3 => ?_)
      have hP4 : va_P D kl (cwo a o (σ.1, vp_updL σ.2 0 (1 : Int64))) H2 := hP3
      refine lv_goto (tgt := 22) hx hb d_La_line_16 (by decide) ?_
      refine lv_iconst (v := 0) hx hb d_La_line_22 (by decide) ?_
      have hP5 : va_P D kl (cwo a o (σ.1, if C_M_isLine x1 = 0 then σ.2 else vp_updL σ.2 0 (if C_M_line σ.1 x1 = 0 then (0 : Int64) else 1))) H2 := by
        rw [if_neg hg, if_neg h7]
        exact hP4
      subst hQ
      exact wr_i (Nat.zero_le _) (Nat.zero_le _) hx hb hr hlk (by rw [if_neg hg]) hP5 hS3 d_La_line_23
set_option maxHeartbeats 4000000 in
theorem kw_state (l : Launch) (hfl : l.flags = pinnedFlags ++ [noTraceFlag]) (D : va_G) (a : CAd) (o : OAd) (hA : ApO a o) (σ : LSt) (x1 : Int32) : MW a o l D y_La_state b_La_state 4 [(0, 9, 12, 13)] rmW [.ref a.1, .int x1, .ref o.1] (KT 113 "no part of the state has this number") σ (if ¬ (x1 = 0 ∨ x1 = 1 ∨ x1 = 2 ∨ x1 = 3 ∨ x1 = 4) then 1 else 0) (σ.1, if ¬ (x1 = 0 ∨ x1 = 1 ∨ x1 = 2 ∨ x1 = 3 ∨ x1 = 4) then σ.2 else vp_updL σ.2 0 (C_M_state σ.1 x1).toInt64) := by
  refine MW.mk (by decide) (Nat.le_of_ble_eq_true rfl) ?_
  intro p e s m below meth c ls Q args x hx hb hr hml hown hts hlk hl hP hK hT hxt hxs hQ
  have hown : s.vm.findClass R_La = some m.cls := hown
  have hl : lv_has ls 4 [(0, .ref a.1), (1, .int x1), (2, .ref o.1)] := hl
  refine lv_aload_n hx hb d_La_state_0 rfl (lv_at hl 2 rfl) ?_
  refine lv_iconst (v := 0) hx hb d_La_state_1 (by decide) ?_
  refine lv_aload_n hx hb d_La_state_2 rfl (lv_at hl 0 rfl) ?_
  refine lv_iload_n hx hb d_La_state_3 rfl (lv_at hl 1 rfl) ?_
  by_cases hg : ¬ (x1 = 0 ∨ x1 = 1 ∨ x1 = 2 ∨ x1 = 3 ∨ x1 = 4)
  · refine th_V2 (As := [.int x1]) (rest := [.int 0, .ref o.1]) (hpc := 12) ⟨hx, hb, hml, hown, hts⟩ (kt_M_state l hfl a.1 x1 hg) (cwV 1 hts (gg_V wB t_477 t_478 t_479 t_62 t_480) rfl rfl rfl (by decide +kernel) ⟨Nat.le_of_ble_eq_true rfl, Nat.le_of_ble_eq_true rfl⟩) ⟨KT.blind, (va_recv (q0 := 0) (ci := 3) (q := (R_M, F_M, 7)) hK (P_c hP) rfl rfl), fun U hU hW => ⟨rfl, hT.warm hW hU⟩⟩ rfl hl.1 rfl (Nat.le_of_ble_eq_true rfl) d_La_state_4 ⟨by decide, by decide⟩ hxt (by rw [covers, hxs.1, hxs.2.1]; rfl) (by rw [hxs.2.2.2]; decide) (by rw [hxs.2.2.2]; exact hts _ (wB _ t_367)) hxs.2.2.1 (fun H1 z hs hk => ?_)
    refine lv_astore_n hx hb d_La_state_12 rfl hl (by decide) rfl (fun ls hl => ?_)
    refine lv_iconst (v := 1) hx hb d_La_state_13 (by decide) ?_
    have hP1 : va_P D kl (cwo a o (σ.1, if ¬ (x1 = 0 ∨ x1 = 1 ∨ x1 = 2 ∨ x1 = 3 ∨ x1 = 4) then σ.2 else vp_updL σ.2 0 (C_M_state σ.1 x1).toInt64)) H1 := by
      rw [if_pos hg]
      exact P_k hP hk
    subst hQ
    exact wr_i (Nat.le_refl _) (Nat.le_refl _) hx hb hr hlk (by rw [if_pos hg]) hP1 ⟨hs, fun q h1 _ => hk q h1, fun q h => by cases h⟩ d_La_state_14
  · refine cl_V (C := R_M) (k_M_state l D a hA.1 σ.1 x1 (Classical.byContradiction hg)) ⟨hx, hb, hml, hown, hts⟩ (cwV 1 hts (gg_V wB t_477 t_478 t_479 t_62 t_480) rfl rfl rfl (by decide +kernel) ⟨Nat.le_of_ble_eq_true rfl, Nat.le_of_ble_eq_true rfl⟩) (va_recv (q0 := 0) (ci := 3) (q := (R_M, F_M, 7)) hK (P_c hP) rfl rfl) (P_c hP) (K_c hK) va_S.rf rfl hl.1 (rest := [.int 0, .ref o.1]) rfl (Nat.le_of_ble_eq_true rfl) d_La_state_4 (fun H1 locs1 hP1 hS1 => ?_)
    have hO : H1[o.1]? = some (vp_cell o.2 (1, .inr (.inl σ.2))) := by rw [hS1.2.1 o.1 (Array.getElem?_eq_some_iff.mp (P_o hP)).1 hA.2]; exact P_o hP
    have hP2 : va_P D kl (cwo a o (σ.1, σ.2)) H1 := P_co hP1 hO
    refine lv_i2l hx hb d_La_state_7 rfl ?_
    refine va_last hx hb hK hP2 (D_o hA _) (S_mono hS1 fun q h => Or.inl h) 5 1 rfl rfl (pk_in 0 1 (by decide)) d_La_state_8 (fun H2 locs2 hP3 _ hS3 => ?_)
    have hP4 : va_P D kl (cwo a o (σ.1, vp_updL σ.2 0 (C_M_state σ.1 x1).toInt64)) H2 := hP3
    refine lv_goto (tgt := 15) hx hb d_La_state_9 (by decide) ?_
    refine lv_iconst (v := 0) hx hb d_La_state_15 (by decide) ?_
    have hP5 : va_P D kl (cwo a o (σ.1, if ¬ (x1 = 0 ∨ x1 = 1 ∨ x1 = 2 ∨ x1 = 3 ∨ x1 = 4) then σ.2 else vp_updL σ.2 0 (C_M_state σ.1 x1).toInt64)) H2 := by
      rw [if_neg hg]
      exact hP4
    subst hQ
    exact wr_i (Nat.zero_le _) (Nat.zero_le _) hx hb hr hlk (by rw [if_neg hg]) hP5 hS3 d_La_state_16
