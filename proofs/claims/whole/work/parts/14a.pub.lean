/-! 14a.pub: the public methods of class and reference, side by side; calls from the law -/
theorem f_fails (u : CSt) (t g w z : Int32) : C_Mo_fails (ra u t g w) z = (z, ra u (J_Mo_fails_10 z) g w) := rfl
theorem wa_01 (x : Int32) : C_M_isWordAddress x = 0 ∨ C_M_isWordAddress x = 1 := by
  unfold C_M_isWordAddress
  split <;> simp
theorem f_poke (u : CSt) (t g w x y : Int32) : C_Mo_poke (ra u t g w) x y = ra (C_M_poke u x y) (if C_M_isWordAddress x = 0 then 1 else 0) g w := by
  unfold C_Mo_poke C_M_poke J_Mo_poke_13
  rw [← ad_iff]
  rcases wa_01 x with h | h <;> rw [h]
  · simp only [f_fails, if_pos (show (0 : Int32) = 0 from rfl), if_neg (show ¬ (1 : Int32) = 0 by decide), if_true, if_false]
    rfl
  · simp only [f_fails, if_pos (show (0 : Int32) = 0 from rfl), if_neg (show ¬ (1 : Int32) = 0 by decide), if_true, if_false]
    exact e_setWord u 0 g w x y
theorem f_peek (u : CSt) (t g w x : Int32) : C_Mo_peek (ra u t g w) x = (C_M_peek u x, ra u (if C_M_isWordAddress x = 0 then 1 else 0) g w) := by
  unfold C_Mo_peek C_M_peek J_Mo_peek_13
  rw [← ad_iff]
  rcases wa_01 x with h | h <;> rw [h]
  · simp only [f_fails, if_pos (show (0 : Int32) = 0 from rfl), if_neg (show ¬ (1 : Int32) = 0 by decide), if_true, if_false]
    rfl
  · simp only [f_fails, if_pos (show (0 : Int32) = 0 from rfl), if_neg (show ¬ (1 : Int32) = 0 by decide), e_word, if_true, if_false]
    rfl
theorem f_level (u : CSt) (t g w x : Int32) : C_Mo_level (ra u t g w) x = ra (C_M_level u x) (if ¬ (¬ x < 0 ∧ x ≤ 16) then 1 else 0) g w := by
  unfold C_Mo_level C_M_level J_Mo_level_16
  by_cases h1 : x < 0
  · rw [if_pos (show ¬ (¬ x < 0 ∧ x ≤ 16) from fun z => z.1 h1)]
    simp only [if_pos h1, f_fails, if_neg (show ¬ (1 : Int32) = 0 by decide), if_true, if_false]
    rfl
  · by_cases h2 : x ≤ 16
    · rw [if_neg (show ¬ ¬ (¬ x < 0 ∧ x ≤ 16) from fun z => z ⟨h1, h2⟩)]
      simp only [if_neg h1, if_pos h2, f_fails, if_pos (show (0 : Int32) = 0 from rfl), if_true, if_false]
      rfl
    · rw [if_pos (show ¬ (¬ x < 0 ∧ x ≤ 16) from fun z => h2 z.2)]
      simp only [if_neg h1, if_neg h2, f_fails, if_neg (show ¬ (1 : Int32) = 0 by decide), if_true, if_false]
      rfl
theorem ln_63 {x : Int32} (h1 : ¬ x < 0) (h2 : x ≤ 63) : x &&& 63 = x := by
  obtain ⟨j, hj, rfl⟩ := nI_of2 (M := 63) (n := 63) (by decide) h1 h2
  rw [pk_andN (by omega) 6 (by decide)]
  exact congrArg nI (Nat.mod_eq_of_lt (by omega))
theorem f_wire (u : CSt) (t g w x : Int32) {z : Int32} (hz : z = 0 ∨ z = 1) : C_Mo_wire (ra u t g w) x z = ra (C_M_wire u x z) (if C_M_isLine x = 0 then 1 else 0) g w := by
  have e := ln_eq x
  unfold C_Mo_wire C_M_wire
  by_cases h : J_Mo_wire_16 x = 0
  · rw [if_pos h] at e
    rw [e, h]
    simp only [f_fails, if_pos (show (0 : Int32) = 0 from rfl), if_neg (show ¬ (1 : Int32) = 0 by decide), if_true, if_false]
    have h1 : ¬ x < 0 := fun q => by unfold J_Mo_wire_16 at h; rw [if_pos q] at h; exact absurd h (by decide)
    have h2 : x ≤ 63 := Classical.byContradiction fun q => by unfold J_Mo_wire_16 at h; rw [if_neg h1, if_neg q] at h; exact absurd h (by decide)
    have el := e_line u 0 g w x hz
    rw [ln_63 h1 h2] at el
    exact el
  · rw [if_neg h] at e
    have h1 : J_Mo_wire_16 x = 1 := by
      unfold J_Mo_wire_16 at h ⊢
      split at h
      · rename_i q; rw [if_pos q]
      · rename_i q
        split at h
        · exact absurd rfl h
        · rename_i q2; rw [if_neg q, if_neg q2]
    rw [e, h1]
    simp only [f_fails, if_pos (show (0 : Int32) = 0 from rfl), if_neg (show ¬ (1 : Int32) = 0 by decide), if_true, if_false]
    rfl
theorem f_line (u : CSt) (t g w x : Int32) : C_Mo_line (ra u t g w) x = (C_M_line u x, ra u (if C_M_isLine x = 0 then 1 else 0) g w) := by
  have e := ln_eq x
  have ew : J_Mo_line_16 x = J_Mo_wire_16 x := rfl
  unfold C_Mo_line C_M_line
  rw [ew]
  by_cases h : J_Mo_wire_16 x = 0
  · rw [if_pos h] at e
    rw [e, h]
    have h1 : ¬ x < 0 := fun q => by unfold J_Mo_wire_16 at h; rw [if_pos q] at h; exact absurd h (by decide)
    have h2 : x ≤ 63 := Classical.byContradiction fun q => by unfold J_Mo_wire_16 at h; rw [if_neg h1, if_neg q] at h; exact absurd h (by decide)
    have on := on_eq u x
    rw [ln_63 h1 h2] at on
    simp only [f_fails, if_pos (show (0 : Int32) = 0 from rfl), if_neg (show ¬ (1 : Int32) = 0 by decide), on, if_true, if_false]
    by_cases q : rep u.2.1 x.toNatClampNeg = 0
    · exact (if_pos (c := (ra u (J_Mo_fails_10 0) g w).2.1 x.toNatClampNeg = 0) q).trans (by rw [q]; rfl)
    · have q1 : rep u.2.1 x.toNatClampNeg = 1 := by
        unfold rep at q ⊢
        split at q
        · rename_i z; rw [if_pos z]
        · exact absurd rfl q
      exact (if_neg (c := (ra u (J_Mo_fails_10 0) g w).2.1 x.toNatClampNeg = 0) q).trans (by rw [q1]; rfl)
  · rw [if_neg h] at e
    have h1 : J_Mo_wire_16 x = 1 := by
      unfold J_Mo_wire_16 at h ⊢
      split at h
      · rename_i q; rw [if_pos q]
      · rename_i q
        split at h
        · exact absurd rfl h
        · rename_i q2; rw [if_neg q, if_neg q2]
    rw [e, h1]
    simp only [f_fails, if_pos (show (0 : Int32) = 0 from rfl), if_neg (show ¬ (1 : Int32) = 0 by decide), if_true, if_false]
    rfl
theorem f_state (u : CSt) (t g w x : Int32) : C_Mo_state (ra u t g w) x = (C_M_state u x, ra u (if ¬ (x = 0 ∨ x = 1 ∨ x = 2 ∨ x = 3 ∨ x = 4) then 1 else 0) g w) := by
  by_cases h : x = 0 ∨ x = 1 ∨ x = 2 ∨ x = 3 ∨ x = 4
  · rw [if_neg (fun z => z h)]
    have hz : J_Mo_state_15 x = 0 := by rcases h with rfl | rfl | rfl | rfl | rfl <;> decide
    unfold C_Mo_state C_M_state
    rw [hz]
    simp only [f_fails, if_pos (show (0 : Int32) = 0 from rfl), if_true, if_false]
    rcases h with rfl | rfl | rfl | rfl | rfl
    · rfl
    · rfl
    · rfl
    · rfl
    · simp only [if_neg (show ¬ (4 : Int32) = 0 by decide), if_neg (show ¬ (4 : Int32) = 1 by decide), if_neg (show ¬ (4 : Int32) = 2 by decide), if_neg (show ¬ (4 : Int32) = 3 by decide), if_pos (show (4 : Int32) = 4 from rfl), if_true, if_false]
      by_cases q : u.2.2.2.2.2.2 = 0
      · rw [if_pos q]
        exact (if_pos (c := (ra u (J_Mo_fails_10 0) g w).2.2.2.2.2.2.2.1 = 0) q).trans rfl
      · rw [if_neg q]
        exact (if_neg (c := (ra u (J_Mo_fails_10 0) g w).2.2.2.2.2.2.2.1 = 0) q).trans rfl
  · rw [if_pos h]
    have hz : J_Mo_state_15 x = 1 := by
      unfold J_Mo_state_15
      by_cases a : x < 0
      · rw [if_pos a]
      · by_cases b : x ≤ 4
        · exfalso
          obtain ⟨j, hj, rfl⟩ := nI_of2 (M := 4) (n := 4) (by decide) a b
          rcases (show j = 0 ∨ j = 1 ∨ j = 2 ∨ j = 3 ∨ j = 4 by omega) with rfl | rfl | rfl | rfl | rfl <;> exact h (by decide)
        · rw [if_neg a, if_neg b]
    have h0 : ¬ x = 0 := fun z => h (Or.inl z)
    have h1 : ¬ x = 1 := fun z => h (Or.inr (Or.inl z))
    have h2 : ¬ x = 2 := fun z => h (Or.inr (Or.inr (Or.inl z)))
    have h3 : ¬ x = 3 := fun z => h (Or.inr (Or.inr (Or.inr (Or.inl z))))
    have h4 : ¬ x = 4 := fun z => h (Or.inr (Or.inr (Or.inr (Or.inr z))))
    unfold C_Mo_state C_M_state
    rw [hz]
    simp only [f_fails, if_neg (show ¬ (1 : Int32) = 0 by decide), if_neg h0, if_neg h1, if_neg h2, if_neg h3, if_neg h4, if_true, if_false]
    rfl
theorem i_poke {u : CSt} (h : Iv u) (x y : Int32) : Iv (C_M_poke u x y) := by
  unfold C_M_poke
  dsimp only
  split
  · exact h
  · exact i_setWord h _ _
theorem i_level {u : CSt} (h : Iv u) (x : Int32) : Iv (C_M_level u x) := by
  unfold C_M_level
  split
  · exact h
  · split
    · exact h
    · exact h
theorem i_wire {u : CSt} (h : Iv u) (x y : Int32) : Iv (C_M_wire u x y) := by
  unfold C_M_wire
  dsimp only
  split
  · exact h
  · exact i_liset h _ _
theorem i_u00 : Iv u00 := ⟨fun _ => wd_0, by decide⟩
theorem ra_00 : v00 = ra u00 0 0 0 := by
  have e : rep 0 = fun _ => 0 := by
    funext j
    rw [rep_v, bl_0]
    rfl
  show _ = ((fun _ => 0), rep 0, 0, 0, 0, 0, 16, 0, 0, 0)
  rw [e]
  rfl
/-! calls -/
section SW
variable {p : Program} {l : Launch} {e : Env} {R : Room} {s : State} {m : MethodId} {args : Array Value} {below : List Frame} {meth : Method} {c : Code} {H : Heap} {locs : List Loc} {cells slots : Nat}
/-- a static call of a method with a table of handlers -/
theorem sw_run {y : MethodName} {bytes cc : ByteArray} {maxL nL mc ms n index : Nat} {ret : Option FieldType} {hh : List (Nat × Nat × Nat × Nat)} {rm : Room} {Pc : Array Value → State → Prop} {Qc : Array Value → State → Outcome → State → Prop} {free : Addr → Prop} {Ts : List Cond} {own : String} {As rest : List Value} {g : JFrame}
    (S : CallFix p m c cc nL s args Ts own) (hM : Met l y (wW y bytes maxL ret hh) rm Pc Qc mc ms free) (hG : GoodIn Ts (wW y bytes maxL ret hh)) (hl : (Cond.methodLink own index y).before args s = true) (hst : (Cond.static y).before args s = true) (hini : (Cond.initialized y.cls).before args s = true) (hrc : rm.cells = mc) (hrs : rm.slots = ms)
    (hd : (y.cls ≠ "java/lang/invoke/MethodHandle" ∧ y.cls ≠ "java/lang/invoke/VarHandle") ∧ (parseMethodDescriptor y.desc).map (fun d => d.parameters.length) = some n) (hR : rm.frames + 1 ≤ R.frames ∧ 8 + (maxL + 11) + rm.locals ≤ R.locals) (hp : PreS s H Pc As)
    (hg : g.method = m) (hn : As.length = n) (hsize : g.locals.size = nL) (hstack : g.stack = As.reverse ++ rest) (hW : 2 * g.monitorRoom + (rest.map fun v => v.category).sum ≤ 8) (hdg : decode cc g.pc = .ok (.invokestatic index, 3)) (hf : cells + mc ≤ R.cells ∧ slots + ms ≤ R.slots) :
    va_Run p l e R s m args below meth c H locs cells slots mc ms g rest (Qc As.toArray) free := by
  obtain ⟨hx, hb, hml, ho, hts⟩ := S
  have hcode := hts _ (hG _ List.mem_cons_self).1
  have hK : Back l R p e below s args y 3 8 (PreOf R mc ms Pc) (PostOf Qc mc ms free) := va_backW (hh := hh) (bytes := bytes) (maxL := maxL) (ret := ret) hM hp.1 hrc hrs hR.1 hR.2 (pay_in hts hG) List.mem_cons_self (fun a' U hW => word_at hW (Or.inl (by first | rfl | simp [Cond.onTables, Cond.keeps, Cond.steady])) hini)
  obtain ⟨mk, methM, cM, hnamed, hmethM, -, -, -, -, -, -, hsigM⟩ := Cond.codeWith_spec hcode
  have hstatic : methM.isStatic = true := Cond.static_spec hnamed hmethM hst
  obtain ⟨kP, hkP, -⟩ := className_of_methodNamed hnamed
  have hinitP : kP.init = .initialized := Cond.initialized_spec (findClass_of_methodNamed hnamed) hkP hini
  have hlen : As.length = methM.sig.parameters.length := by
    have h2 := hd.2
    rw [hsigM] at h2
    exact hn.trans (Option.some.inj h2).symm
  intro T hT X
  obtain ⟨vm₁, X₁, hstep₁⟩ := X.invokestatic hx ho hl hnamed hmethM hstatic hkP hinitP hd.1 (g := g) hg (argsL := As) (rest := rest) hlen hstack (by rw [hb]; exact hdg)
  obtain ⟨v, ⟨U', l2, c2, s2⟩, X', ⟨g', mk', t, L, e1, e2, hq, h1, hL, h2, h3⟩, hsteps⟩ := hK m meth c ⟨T.setVm vm₁, locs, cells, slots⟩ { g with stack := rest } (.invokestatic index) mk As.toArray X₁ hg (hsize.trans hml.symm) (by rw [hb]; exact hdg) hW (X₁.named hnamed) ⟨hf.1, hf.2, hp.2 (T.setVm vm₁) hT X₁.warmed⟩
  dsimp only [Pt.U, Pt.locs, Pt.cells, Pt.slots] at X' e1 e2 h1 h2 h3 hsteps
  subst h1; subst h2; subst h3
  exact ⟨v, (T.setVm vm₁).calling g' mk' As.toArray, t, U', L, hT, X', hL, e1, e2, hq, fun target h => hstep₁ _ fun acts => by rw [doInvoke_state]; exact hsteps.trans h⟩
theorem W_widen {Q : State → Prop} {g : JFrame} {k n : Nat} (h1 : cells ≤ k) (h2 : slots ≤ n) (w : W p l e R s m args below meth c H locs k n Q g) : W p l e R s m args below meth c H locs cells slots Q g := fun T hT X => w T hT (stand_widen X h1 h2)
end SW
