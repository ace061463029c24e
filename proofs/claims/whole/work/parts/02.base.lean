/-! 02.base: the words that every contract takes, the form of a contract, calls and returns in one row each. DRAFT of 2026-11-15, not yet compiled. -/
/-- the words that stay true while the tables grow warmer -/
def TB : List Cond := lw_tbl.filter goodWord
theorem mt (i : Nat) {w : Cond} (h : lw_tbl[i]? = some w) (g : goodWord w = true) : w ∈ TB := List.mem_filter.mpr ⟨List.mem_of_getElem? h, g⟩
def wC (y : MethodName) (b : ByteArray) (n : Nat) (r : Option FieldType) : List Cond := .code y b n r :: TB
theorem wm {y : MethodName} {b : ByteArray} {n : Nat} {r : Option FieldType} {w : Cond} (h : w ∈ TB) : w ∈ wC y b n r := List.mem_cons_of_mem _ h
theorem tb_good {w : Cond} (h : w ∈ TB) : (w.onTables && w.keeps) = true ∨ ∃ ty, w = .arrayClass ty := good_of_word (List.mem_filter.mp h).2
theorem gi_c {y0 y : MethodName} {b0 b : ByteArray} {n0 n : Nat} {r0 r : Option FieldType} (h : Cond.code y b n r ∈ TB) : GoodIn (wC y0 b0 n0 r0) (wC y b n r) := by
  intro w hw
  rcases List.mem_cons.mp hw with rfl | hw
  · exact ⟨wm h, tb_good h⟩
  · exact ⟨wm hw, tb_good hw⟩
theorem gi_V {y0 y : MethodName} {b0 b : ByteArray} {n0 n : Nat} {r0 r : Option FieldType} {own C : String} {idx : Nat} (h1 : Cond.methodLink own idx y ∈ TB) (h2 : Cond.instanceMethod y ∈ TB) (h3 : Cond.selects C y y ∈ TB) (h4 : Cond.initialized C ∈ TB) (h5 : Cond.code y b n r ∈ TB) : GoodIn (wC y0 b0 n0 r0) (wsV own idx C y (wC y b n r)) := by
  intro w hw
  rcases List.mem_append.mp hw with hw | hw
  · have hx : w ∈ TB := by
      rcases List.mem_cons.mp hw with rfl | hw
      · exact h1
      rcases List.mem_cons.mp hw with rfl | hw
      · exact h2
      rcases List.mem_cons.mp hw with rfl | hw
      · exact h3
      rcases List.mem_cons.mp hw with rfl | hw
      · exact h4
      cases hw
    exact ⟨wm hx, tb_good hx⟩
  · exact gi_c h5 w hw
theorem gi_S {y0 y : MethodName} {b0 b : ByteArray} {n0 n : Nat} {r0 r : Option FieldType} {own : String} {idx : Nat} (h1 : Cond.methodLink own idx y ∈ TB) (h2 : Cond.static y ∈ TB) (h4 : Cond.initialized y.cls ∈ TB) (h5 : Cond.code y b n r ∈ TB) : GoodIn (wC y0 b0 n0 r0) (va_wsS own idx y (wC y b n r)) := by
  intro w hw
  rcases List.mem_append.mp hw with hw | hw
  · have hx : w ∈ TB := by
      rcases List.mem_cons.mp hw with rfl | hw
      · exact h1
      rcases List.mem_cons.mp hw with rfl | hw
      · exact h2
      rcases List.mem_cons.mp hw with rfl | hw
      · exact h4
      cases hw
    exact ⟨wm hx, tb_good hx⟩
  · exact gi_c h5 w hw
/-- the places of a world are apart: whatever they hold -/
theorem d_of {ws : va_W} (h : va_J (ws.map (·.1))) : va_D (fun q => q ∈ ws.map (·.1)) ws := by
  refine ⟨fun i j x y hi hj hxy => ?_, fun k q hk => List.mem_map.mpr ⟨q, List.mem_of_getElem? hk, rfl⟩⟩
  refine h.1 i j (x.1, .inr (0, [])) (y.1, .inr (0, [])) ?_ ?_ hxy
  · simp [List.getElem?_map, hi]
  · simp [List.getElem?_map, hj]
/-- THE FORM OF A CONTRACT: from a heap that holds the picture w σ the method answers rv and leaves the picture w σ'; nothing outside F changes; nothing is made -/
def MC {S : Type} (kl : List vw_C) (w : S → va_W) (F : Nat → Prop) (tys : List (ClassId × FieldType)) (l : Launch) (D : va_G) (y : MethodName) (b : ByteArray) (n : Nat) (r : Option FieldType) (rm : Room) (av : List Value) (σ : S) (rv : Option Value) (σ' : S) : Prop :=
  Met l y (wC y b n r) rm (va_Pc av (fun U => va_P D kl (w σ) U.heap ∧ va_K D kl tys U)) (fun _ st oc t => oc = .returned rv ∧ va_P D kl (w σ') t.heap ∧ va_F F st t) 0 0 F
def QC {S : Type} (kl : List vw_C) (w : S → va_W) (F : Nat → Prop) (D : va_G) (rv : Option Value) (σ' : S) : Array Value → State → Outcome → State → Prop := fun _ st oc t => oc = .returned rv ∧ va_P D kl (w σ') t.heap ∧ va_F F st t
/-- its start -/
theorem MC.mk {S : Type} {kl : List vw_C} {w : S → va_W} {F : Nat → Prop} {tys : List (ClassId × FieldType)} {l : Launch} {D : va_G} {y : MethodName} {b : ByteArray} {n : Nat} {r : Option FieldType} {rm : Room} {av : List Value} {σ σ' : S} {rv : Option Value}
    (hy : plainName y.cls = true) (hn : (lg_sl av).length ≤ n)
    (body : ∀ (p : Program) (e : Env) (s : State) (m : MethodId) (below : List Frame) (meth : Method) (c : Code) (ls : Array Slot) (Q : State → Prop) (args : Array Value) (H : Heap) (locs : List Loc), p.tables.exec = Jvm.exec → c.code = b → meth.sig.returnType = r → c.maxLocals = n → s.vm.findClass y.cls = some m.cls → (∀ w ∈ wC y b n r, w.before args s = true) → meth.locks = false →
      lv_has ls n (lv_args 0 av) → va_P D kl (w σ) H → va_K D kl tys s → va_S F s.heap H locs → Q = MQ below (QC kl w F D rv σ') args s 0 0 F →
      W p l e rm s m args below meth c H locs 0 0 Q (F0 m 0 ls [])) : MC kl w F tys l D y b n r rm av σ rv σ' := by
  refine Met.ofW (cc := b) (maxL := n) (ret := r) hy rfl ?_
  intro p e s m args below meth c s₁ B hml hv
  obtain ⟨rfl, hP, hK⟩ := hv
  have hts := atoms_spec (ws := wC y b n r) B.pre
  have hown : s.vm.findClass y.cls = some m.cls := findClass_of_methodNamed B.named
  have hl := lv_entry av (n := n) hn
  rw [lg_entry_eq]
  exact body p e s m below meth c _ _ _ s.heap [] B.exec B.bytes B.returns hml hown hts B.notSynchronized hl hP hK va_S.rf rfl
section RT
variable {S : Type} {kl : List vw_C} {w : S → va_W} {F : Nat → Prop} {tys : List (ClassId × FieldType)} {l : Launch} {D : va_G} {p : Program} {e : Env} {R : Room} {s : State} {m : MethodId} {args : Array Value} {below : List Frame} {meth : Method} {c : Code} {H : Heap} {locs : List Loc} {cc : ByteArray} {pc : Nat} {ls : Array Slot}
theorem rt_v {u σ' : S} (hx : p.tables.exec = Jvm.exec) (hb : c.code = cc) (hr : meth.sig.returnType = none) (hlk : meth.locks = false) (hu : u = σ') (hP : va_P D kl (w u) H) (hS : va_S F s.heap H locs) (d : decode cc pc = .ok (.return_, 1)) :
    W p l e R s m args below meth c H locs 0 0 (MQ below (QC kl w F D none σ') args s 0 0 F) (F0 m pc ls []) := by
  subst hu
  exact W.vret hx hb hr (fun t ht _ => ⟨rfl, by rw [ht]; exact hP, hS.F ht⟩) hS.2.2 d
theorem rt_i {u σ' : S} {v v' : Int32} (hx : p.tables.exec = Jvm.exec) (hb : c.code = cc) (hr : meth.sig.returnType = some .int) (hlk : meth.locks = false) (hv : v = v') (hu : u = σ') (hP : va_P D kl (w u) H) (hS : va_S F s.heap H locs) (d : decode cc pc = .ok (.ireturn, 1)) :
    W p l e R s m args below meth c H locs 0 0 (MQ below (QC kl w F D (some (.int v')) σ') args s 0 0 F) (F0 m pc ls [.int v]) := by
  subst hu; subst hv
  exact W.iret hx hb hr (fun t ht _ => ⟨rfl, by rw [ht]; exact hP, hS.F ht⟩) hS.2.2 d
theorem rt_z {u σ' : S} {v v' : Int32} {ty : FieldType} (hx : p.tables.exec = Jvm.exec) (hb : c.code = cc) (hr : meth.sig.returnType = some ty) (hlk : meth.locks = false) (hn : narrow ty (.int v) = .int v) (hv : v = v') (hu : u = σ') (hP : va_P D kl (w u) H) (hS : va_S F s.heap H locs) (d : decode cc pc = .ok (.ireturn, 1)) :
    W p l e R s m args below meth c H locs 0 0 (MQ below (QC kl w F D (some (.int v')) σ') args s 0 0 F) (F0 m pc ls [.int v]) := by
  subst hu; subst hv
  exact W.zret hx hb hr hn (fun t ht _ => ⟨rfl, by rw [ht]; exact hP, hS.F ht⟩) hS.2.2 d
theorem rt_l {u σ' : S} {v v' : Int64} (hx : p.tables.exec = Jvm.exec) (hb : c.code = cc) (hr : meth.sig.returnType = some .long) (hlk : meth.locks = false) (hv : v = v') (hu : u = σ') (hP : va_P D kl (w u) H) (hS : va_S F s.heap H locs) (d : decode cc pc = .ok (.lreturn, 1)) :
    W p l e R s m args below meth c H locs 0 0 (MQ below (QC kl w F D (some (.long v')) σ') args s 0 0 F) (F0 m pc ls [.long v]) := by
  subst hu; subst hv
  exact W.lret hx hb hr (fun t ht _ => ⟨rfl, by rw [ht]; exact hP, hS.F ht⟩) hS.2.2 d
end RT
section CL
variable {S : Type} {kl : List vw_C} {w : S → va_W} {F : Nat → Prop} {tys : List (ClassId × FieldType)} {l : Launch} {D : va_G} {p : Program} {e : Env} {R : Room} {s : State} {m : MethodId} {args : Array Value} {below : List Frame} {meth : Method} {c : Code} {H H0 : Heap} {locs : List Loc} {cc : ByteArray} {pc : Nat} {ls : Array Slot} {Q : State → Prop} {Ts : List Cond} {own C : String} {index k n nL : Nat} {y : MethodName} {b : ByteArray} {r : Option FieldType} {rm : Room} {o : Nat} {As rest st0 : List Value} {σ σ' : S} {rv : Option Value}
theorem mc_blind {av : List Value} : FrameBlind (va_Pc av (fun U => va_P D kl (w σ) U.heap ∧ va_K D kl tys U)) := fun a U g mk q => by
  obtain ⟨q0, qP, qK⟩ := q
  exact ⟨q0, qP, va_K.moved (u := U) (U := U.calling g mk a) (Vm.Alike.refl U.vm) qK⟩
/-- behind a call by contract -/
theorem cl_go {g : JFrame} {a : Array Value} (hr : va_Run p l e R s m args below meth c H locs 0 0 0 0 (F0 m pc ls st0) rest (QC kl w F D rv σ' a) F) (hS : va_S F H0 H locs)
    (kk : ∀ (H1 : Heap) (locs1 : List Loc), va_P D kl (w σ') H1 → va_S F H0 H1 locs1 → W p l e R s m args below meth c H1 locs1 0 0 Q (F0 m (pc + 3) ls (rv.toList ++ rest))) : W p l e R s m args below meth c H locs 0 0 Q (F0 m pc ls st0) := by
  intro T hT X
  obtain ⟨v, st₀, t, T', L, h0, X', hL, e1, e2, ⟨hv, hp, hz, hk⟩, st⟩ := hr T hT X
  cases hv
  rw [h0] at hz hk
  obtain ⟨t2, a1, b1⟩ := kk T'.heap (locs ++ L) (by rw [e1]; exact hp)
    ⟨Nat.le_trans hS.1 (by rw [e1]; exact hz), fun q h1 h2 => by rw [e1, hk q (Nat.lt_of_lt_of_le h1 hS.1) h2]; exact hS.2.1 q h1 h2, fun q hq => by
      rcases List.mem_append.mp hq with h | h
      · exact hS.2.2 q h
      · exact hL q h⟩ T' rfl X'
  exact ⟨t2, st t2 a1, b1⟩
theorem cl_V (hM : MC kl w F tys l D y b n r rm (.ref o :: As) σ rv σ') (S0 : CallFix p m c cc nL s args Ts own) (cwx : CallW R s args own C index y b n r (wC y b n r) rm 0 0 k) (hrec : ∃ cell : Cell, H[o]? = some cell ∧ cell.vm.isStatics = false ∧ s.vm.findClass C = some cell.cls)
    (hP : va_P D kl (w σ) H) (hK : va_K D kl tys s) (hS : va_S F H0 H locs) (hn : As.length = k) (hsz : ls.size = nL) (hst : st0 = As.reverse ++ .ref o :: rest) (h8 : (rest.map fun v => v.category).sum ≤ 8) (hdg : decode cc pc = .ok (.invokevirtual index, 3))
    (kk : ∀ (H1 : Heap) (locs1 : List Loc), va_P D kl (w σ') H1 → va_S F H0 H1 locs1 → W p l e R s m args below meth c H1 locs1 0 0 Q (F0 m (pc + 3) ls (rv.toList ++ rest))) : W p l e R s m args below meth c H locs 0 0 Q (F0 m pc ls st0) :=
  cl_go (g := F0 m pc ls st0) (va_runV (g := F0 m pc ls st0) (rest := rest) (As := As) (b := o) S0 hM cwx ⟨mc_blind, hrec, fun U hU hW => ⟨rfl, by rw [hU]; exact hP, va_K.moved hW.alike hK⟩⟩ rfl hn hsz hst (lv_room h8) hdg ⟨Nat.zero_le _, Nat.zero_le _⟩) hS kk
theorem cl_S (hM : MC kl w F tys l D y b n r rm As σ rv σ') (S0 : CallFix p m c cc nL s args Ts own) (cwx : CallB R s args own index y b n r (wC y b n r) rm 0 0 k ∧ (Cond.static y).before args s = true)
    (hP : va_P D kl (w σ) H) (hK : va_K D kl tys s) (hS : va_S F H0 H locs) (hn : As.length = k) (hsz : ls.size = nL) (hst : st0 = As.reverse ++ rest) (h8 : (rest.map fun v => v.category).sum ≤ 8) (hdg : decode cc pc = .ok (.invokestatic index, 3))
    (kk : ∀ (H1 : Heap) (locs1 : List Loc), va_P D kl (w σ') H1 → va_S F H0 H1 locs1 → W p l e R s m args below meth c H1 locs1 0 0 Q (F0 m (pc + 3) ls (rv.toList ++ rest))) : W p l e R s m args below meth c H locs 0 0 Q (F0 m pc ls st0) :=
  cl_go (g := F0 m pc ls st0) (va_runS (g := F0 m pc ls st0) (rest := rest) (As := As) S0 hM cwx ⟨mc_blind, fun U hU hW => ⟨rfl, by rw [hU]; exact hP, va_K.moved hW.alike hK⟩⟩ rfl hn hsz hst (lv_room h8) hdg ⟨Nat.zero_le _, Nat.zero_le _⟩) hS kk
/-- what comes back gets names: a value and a state, a value, a state -/
theorem nm_is {X : Int32} {Y : S} (kk : ∀ (v : Int32) (u : S), v = X → u = Y → ∀ (H1 : Heap) (locs1 : List Loc), va_P D kl (w u) H1 → va_S F H0 H1 locs1 → W p l e R s m args below meth c H1 locs1 0 0 Q (F0 m pc ls (.int v :: rest))) :
    ∀ (H1 : Heap) (locs1 : List Loc), va_P D kl (w Y) H1 → va_S F H0 H1 locs1 → W p l e R s m args below meth c H1 locs1 0 0 Q (F0 m pc ls ((some (Value.int X)).toList ++ rest)) := kk X Y rfl rfl
theorem nm_i {X : Int32} {Y : S} (kk : ∀ (v : Int32), v = X → ∀ (H1 : Heap) (locs1 : List Loc), va_P D kl (w Y) H1 → va_S F H0 H1 locs1 → W p l e R s m args below meth c H1 locs1 0 0 Q (F0 m pc ls (.int v :: rest))) :
    ∀ (H1 : Heap) (locs1 : List Loc), va_P D kl (w Y) H1 → va_S F H0 H1 locs1 → W p l e R s m args below meth c H1 locs1 0 0 Q (F0 m pc ls ((some (Value.int X)).toList ++ rest)) := kk X rfl
theorem nm_l {X : Int64} {Y : S} (kk : ∀ (v : Int64), v = X → ∀ (H1 : Heap) (locs1 : List Loc), va_P D kl (w Y) H1 → va_S F H0 H1 locs1 → W p l e R s m args below meth c H1 locs1 0 0 Q (F0 m pc ls (.long v :: rest))) :
    ∀ (H1 : Heap) (locs1 : List Loc), va_P D kl (w Y) H1 → va_S F H0 H1 locs1 → W p l e R s m args below meth c H1 locs1 0 0 Q (F0 m pc ls ((some (Value.long X)).toList ++ rest)) := kk X rfl
theorem nm_s {Y : S} (kk : ∀ (u : S), u = Y → ∀ (H1 : Heap) (locs1 : List Loc), va_P D kl (w u) H1 → va_S F H0 H1 locs1 → W p l e R s m args below meth c H1 locs1 0 0 Q (F0 m pc ls rest)) :
    ∀ (H1 : Heap) (locs1 : List Loc), va_P D kl (w Y) H1 → va_S F H0 H1 locs1 → W p l e R s m args below meth c H1 locs1 0 0 Q (F0 m pc ls ((none : Option Value).toList ++ rest)) := kk Y rfl
end CL
/-- a loop 'for (i ..; i < n; i++)': what is left falls -/
theorem ms_step {x n : Int32} {f : Nat} (h : ¬ n ≤ x) (hf : (n.toInt - x.toInt).toNat ≤ f + 1) : (n.toInt - (x + 1).toInt).toNat ≤ f := by
  rw [Int32.le_iff_toInt_le] at h
  have h1 : (x + 1).toInt = x.toInt + 1 := by
    have a := Int32.toInt_lt n
    have b := Int32.le_toInt x
    rw [Int32.toInt_add]
    simp only [Int32.toInt_one]
    rw [Int.bmod_def]
    split <;> omega
  omega
theorem ms_zero {x n : Int32} (hf : (n.toInt - x.toInt).toNat ≤ 0) (h : ¬ n ≤ x) : False := by
  rw [Int32.le_iff_toInt_le] at h
  omega
theorem nb_z {v : Int32} (h : v = 0 ∨ v = 1) : narrow .boolean (.int v) = .int v := by
  rcases h with rfl | rfl <;> rfl
