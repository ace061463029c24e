section
-- ===== PART A: goes FIRST, ahead of the names: the tables' words, and 'selects' of the private methods out of them =====
/-- a private method of a class that the tables say can be made, by its rows of tables_1 -/
def lw_okq (q : MethodName × Nat) : Prop := (q.1.cls ≠ "java/lang/invoke/MethodHandle" ∧ q.1.cls ≠ "java/lang/invoke/VarHandle") ∧ Cond.instantiable q.1.cls q.2 ∈ tables_1 ∧ Cond.privateMethod q.1 ∈ tables_1 ∧ Cond.instanceMethod q.1 ∈ tables_1
theorem lw_p0 : lw_okq (⟨"WorkspaceMachine", "switchThrough", "(I)V"⟩, 7) := ⟨⟨by decide +kernel, by decide +kernel⟩, List.mem_of_getElem? (i := 12) (by decide +kernel), List.mem_of_getElem? (i := 77) (by decide +kernel), List.mem_of_getElem? (i := 78) (by decide +kernel)⟩
theorem lw_p1 : lw_okq (⟨"WorkspaceMachine", "setWorkspace", "(I)V"⟩, 7) := ⟨⟨by decide +kernel, by decide +kernel⟩, List.mem_of_getElem? (i := 12) (by decide +kernel), List.mem_of_getElem? (i := 85) (by decide +kernel), List.mem_of_getElem? (i := 86) (by decide +kernel)⟩
theorem lw_p2 : lw_okq (⟨"WorkspaceMachine", "setRegister", "(II)V"⟩, 7) := ⟨⟨by decide +kernel, by decide +kernel⟩, List.mem_of_getElem? (i := 12) (by decide +kernel), List.mem_of_getElem? (i := 89) (by decide +kernel), List.mem_of_getElem? (i := 90) (by decide +kernel)⟩
theorem lw_p3 : lw_okq (⟨"WorkspaceMachine", "registerAddress", "(I)I"⟩, 7) := ⟨⟨by decide +kernel, by decide +kernel⟩, List.mem_of_getElem? (i := 12) (by decide +kernel), List.mem_of_getElem? (i := 93) (by decide +kernel), List.mem_of_getElem? (i := 94) (by decide +kernel)⟩
theorem lw_p4 : lw_okq (⟨"WorkspaceMachine", "setCounter", "(I)V"⟩, 7) := ⟨⟨by decide +kernel, by decide +kernel⟩, List.mem_of_getElem? (i := 12) (by decide +kernel), List.mem_of_getElem? (i := 105) (by decide +kernel), List.mem_of_getElem? (i := 106) (by decide +kernel)⟩
theorem lw_p5 : lw_okq (⟨"WorkspaceMachine", "interrupt", "()V"⟩, 7) := ⟨⟨by decide +kernel, by decide +kernel⟩, List.mem_of_getElem? (i := 12) (by decide +kernel), List.mem_of_getElem? (i := 121) (by decide +kernel), List.mem_of_getElem? (i := 122) (by decide +kernel)⟩
theorem lw_p6 : lw_okq (⟨"WorkspaceMachine", "fetch", "()I"⟩, 7) := ⟨⟨by decide +kernel, by decide +kernel⟩, List.mem_of_getElem? (i := 12) (by decide +kernel), List.mem_of_getElem? (i := 125) (by decide +kernel), List.mem_of_getElem? (i := 126) (by decide +kernel)⟩
theorem lw_p7 : lw_okq (⟨"WorkspaceMachine", "register", "(I)I"⟩, 7) := ⟨⟨by decide +kernel, by decide +kernel⟩, List.mem_of_getElem? (i := 12) (by decide +kernel), List.mem_of_getElem? (i := 129) (by decide +kernel), List.mem_of_getElem? (i := 130) (by decide +kernel)⟩
theorem lw_p8 : lw_okq (⟨"WorkspaceMachine", "operandAddress", "(II)I"⟩, 7) := ⟨⟨by decide +kernel, by decide +kernel⟩, List.mem_of_getElem? (i := 12) (by decide +kernel), List.mem_of_getElem? (i := 137) (by decide +kernel), List.mem_of_getElem? (i := 138) (by decide +kernel)⟩
theorem lw_p9 : lw_okq (⟨"WorkspaceMachine", "run", "(I)I"⟩, 7) := ⟨⟨by decide +kernel, by decide +kernel⟩, List.mem_of_getElem? (i := 12) (by decide +kernel), List.mem_of_getElem? (i := 141) (by decide +kernel), List.mem_of_getElem? (i := 142) (by decide +kernel)⟩
theorem lw_p10 : lw_okq (⟨"WorkspaceMachine", "runOnTwoOperands", "(I)I"⟩, 7) := ⟨⟨by decide +kernel, by decide +kernel⟩, List.mem_of_getElem? (i := 12) (by decide +kernel), List.mem_of_getElem? (i := 145) (by decide +kernel), List.mem_of_getElem? (i := 146) (by decide +kernel)⟩
theorem lw_p11 : lw_okq (⟨"WorkspaceMachine", "combined", "(III)I"⟩, 7) := ⟨⟨by decide +kernel, by decide +kernel⟩, List.mem_of_getElem? (i := 12) (by decide +kernel), List.mem_of_getElem? (i := 178) (by decide +kernel), List.mem_of_getElem? (i := 179) (by decide +kernel)⟩
theorem lw_p12 : lw_okq (⟨"WorkspaceMachine", "runOnRegisterAndOperand", "(I)I"⟩, 7) := ⟨⟨by decide +kernel, by decide +kernel⟩, List.mem_of_getElem? (i := 12) (by decide +kernel), List.mem_of_getElem? (i := 199) (by decide +kernel), List.mem_of_getElem? (i := 200) (by decide +kernel)⟩
theorem lw_p13 : lw_okq (⟨"WorkspaceMachine", "callExtended", "(II)V"⟩, 7) := ⟨⟨by decide +kernel, by decide +kernel⟩, List.mem_of_getElem? (i := 12) (by decide +kernel), List.mem_of_getElem? (i := 203) (by decide +kernel), List.mem_of_getElem? (i := 204) (by decide +kernel)⟩
theorem lw_p14 : lw_okq (⟨"WorkspaceMachine", "sendLines", "(II)V"⟩, 7) := ⟨⟨by decide +kernel, by decide +kernel⟩, List.mem_of_getElem? (i := 12) (by decide +kernel), List.mem_of_getElem? (i := 208) (by decide +kernel), List.mem_of_getElem? (i := 209) (by decide +kernel)⟩
theorem lw_p15 : lw_okq (⟨"WorkspaceMachine", "receiveLines", "(II)V"⟩, 7) := ⟨⟨by decide +kernel, by decide +kernel⟩, List.mem_of_getElem? (i := 12) (by decide +kernel), List.mem_of_getElem? (i := 223) (by decide +kernel), List.mem_of_getElem? (i := 224) (by decide +kernel)⟩
def lw_privs_1 : List (MethodName × Nat) := [(⟨"WorkspaceMachine", "switchThrough", "(I)V"⟩, 7), (⟨"WorkspaceMachine", "setWorkspace", "(I)V"⟩, 7), (⟨"WorkspaceMachine", "setRegister", "(II)V"⟩, 7), (⟨"WorkspaceMachine", "registerAddress", "(I)I"⟩, 7), (⟨"WorkspaceMachine", "setCounter", "(I)V"⟩, 7), (⟨"WorkspaceMachine", "interrupt", "()V"⟩, 7), (⟨"WorkspaceMachine", "fetch", "()I"⟩, 7), (⟨"WorkspaceMachine", "register", "(I)I"⟩, 7), (⟨"WorkspaceMachine", "operandAddress", "(II)I"⟩, 7), (⟨"WorkspaceMachine", "run", "(I)I"⟩, 7), (⟨"WorkspaceMachine", "runOnTwoOperands", "(I)I"⟩, 7), (⟨"WorkspaceMachine", "combined", "(III)I"⟩, 7), (⟨"WorkspaceMachine", "runOnRegisterAndOperand", "(I)I"⟩, 7), (⟨"WorkspaceMachine", "callExtended", "(II)V"⟩, 7), (⟨"WorkspaceMachine", "sendLines", "(II)V"⟩, 7), (⟨"WorkspaceMachine", "receiveLines", "(II)V"⟩, 7)]
theorem lw_r1 : ∀ q ∈ lw_privs_1, lw_okq q := List.forall_mem_cons.mpr ⟨lw_p0, List.forall_mem_cons.mpr ⟨lw_p1, List.forall_mem_cons.mpr ⟨lw_p2, List.forall_mem_cons.mpr ⟨lw_p3, List.forall_mem_cons.mpr ⟨lw_p4, List.forall_mem_cons.mpr ⟨lw_p5, List.forall_mem_cons.mpr ⟨lw_p6, List.forall_mem_cons.mpr ⟨lw_p7, List.forall_mem_cons.mpr ⟨lw_p8, List.forall_mem_cons.mpr ⟨lw_p9, List.forall_mem_cons.mpr ⟨lw_p10, List.forall_mem_cons.mpr ⟨lw_p11, List.forall_mem_cons.mpr ⟨lw_p12, List.forall_mem_cons.mpr ⟨lw_p13, List.forall_mem_cons.mpr ⟨lw_p14, List.forall_mem_cons.mpr ⟨lw_p15, fun _ h => absurd h List.not_mem_nil⟩⟩⟩⟩⟩⟩⟩⟩⟩⟩⟩⟩⟩⟩⟩⟩
theorem lw_p16 : lw_okq (⟨"WorkspaceMachine", "combineIntoRegister", "(III)V"⟩, 7) := ⟨⟨by decide +kernel, by decide +kernel⟩, List.mem_of_getElem? (i := 12) (by decide +kernel), List.mem_of_getElem? (i := 231) (by decide +kernel), List.mem_of_getElem? (i := 232) (by decide +kernel)⟩
theorem lw_p17 : lw_okq (⟨"WorkspaceMachine", "multiply", "(III)V"⟩, 7) := ⟨⟨by decide +kernel, by decide +kernel⟩, List.mem_of_getElem? (i := 12) (by decide +kernel), List.mem_of_getElem? (i := 235) (by decide +kernel), List.mem_of_getElem? (i := 236) (by decide +kernel)⟩
theorem lw_p18 : lw_okq (⟨"WorkspaceMachine", "divide", "(III)V"⟩, 7) := ⟨⟨by decide +kernel, by decide +kernel⟩, List.mem_of_getElem? (i := 12) (by decide +kernel), List.mem_of_getElem? (i := 239) (by decide +kernel), List.mem_of_getElem? (i := 240) (by decide +kernel)⟩
theorem lw_p19 : lw_okq (⟨"WorkspaceMachine", "runJump", "(I)I"⟩, 7) := ⟨⟨by decide +kernel, by decide +kernel⟩, List.mem_of_getElem? (i := 12) (by decide +kernel), List.mem_of_getElem? (i := 243) (by decide +kernel), List.mem_of_getElem? (i := 244) (by decide +kernel)⟩
theorem lw_p20 : lw_okq (⟨"WorkspaceMachine", "isJumpTaken", "(I)Z"⟩, 7) := ⟨⟨by decide +kernel, by decide +kernel⟩, List.mem_of_getElem? (i := 12) (by decide +kernel), List.mem_of_getElem? (i := 247) (by decide +kernel), List.mem_of_getElem? (i := 248) (by decide +kernel)⟩
theorem lw_p21 : lw_okq (⟨"WorkspaceMachine", "runOnLine", "(I)I"⟩, 7) := ⟨⟨by decide +kernel, by decide +kernel⟩, List.mem_of_getElem? (i := 12) (by decide +kernel), List.mem_of_getElem? (i := 256) (by decide +kernel), List.mem_of_getElem? (i := 257) (by decide +kernel)⟩
theorem lw_p22 : lw_okq (⟨"WorkspaceMachine", "runShift", "(I)I"⟩, 7) := ⟨⟨by decide +kernel, by decide +kernel⟩, List.mem_of_getElem? (i := 12) (by decide +kernel), List.mem_of_getElem? (i := 260) (by decide +kernel), List.mem_of_getElem? (i := 261) (by decide +kernel)⟩
theorem lw_p23 : lw_okq (⟨"WorkspaceMachine", "shiftCount", "(I)I"⟩, 7) := ⟨⟨by decide +kernel, by decide +kernel⟩, List.mem_of_getElem? (i := 12) (by decide +kernel), List.mem_of_getElem? (i := 264) (by decide +kernel), List.mem_of_getElem? (i := 265) (by decide +kernel)⟩
theorem lw_p24 : lw_okq (⟨"WorkspaceMachine", "runOnOneOperand", "(I)I"⟩, 7) := ⟨⟨by decide +kernel, by decide +kernel⟩, List.mem_of_getElem? (i := 12) (by decide +kernel), List.mem_of_getElem? (i := 271) (by decide +kernel), List.mem_of_getElem? (i := 272) (by decide +kernel)⟩
theorem lw_p25 : lw_okq (⟨"WorkspaceMachine", "changed", "(II)I"⟩, 7) := ⟨⟨by decide +kernel, by decide +kernel⟩, List.mem_of_getElem? (i := 12) (by decide +kernel), List.mem_of_getElem? (i := 275) (by decide +kernel), List.mem_of_getElem? (i := 276) (by decide +kernel)⟩
theorem lw_p26 : lw_okq (⟨"WorkspaceMachine", "negated", "(I)I"⟩, 7) := ⟨⟨by decide +kernel, by decide +kernel⟩, List.mem_of_getElem? (i := 12) (by decide +kernel), List.mem_of_getElem? (i := 279) (by decide +kernel), List.mem_of_getElem? (i := 280) (by decide +kernel)⟩
theorem lw_p27 : lw_okq (⟨"WorkspaceMachine", "withoutSign", "(I)I"⟩, 7) := ⟨⟨by decide +kernel, by decide +kernel⟩, List.mem_of_getElem? (i := 12) (by decide +kernel), List.mem_of_getElem? (i := 284) (by decide +kernel), List.mem_of_getElem? (i := 285) (by decide +kernel)⟩
theorem lw_p28 : lw_okq (⟨"WorkspaceMachine", "runImmediateOrControl", "(I)I"⟩, 7) := ⟨⟨by decide +kernel, by decide +kernel⟩, List.mem_of_getElem? (i := 12) (by decide +kernel), List.mem_of_getElem? (i := 288) (by decide +kernel), List.mem_of_getElem? (i := 289) (by decide +kernel)⟩
theorem lw_p29 : lw_okq (⟨"WorkspaceMachine", "runImmediate", "(III)V"⟩, 7) := ⟨⟨by decide +kernel, by decide +kernel⟩, List.mem_of_getElem? (i := 12) (by decide +kernel), List.mem_of_getElem? (i := 292) (by decide +kernel), List.mem_of_getElem? (i := 293) (by decide +kernel)⟩
theorem lw_p30 : lw_okq (⟨"WorkspaceMachine", "switchBack", "()V"⟩, 7) := ⟨⟨by decide +kernel, by decide +kernel⟩, List.mem_of_getElem? (i := 12) (by decide +kernel), List.mem_of_getElem? (i := 296) (by decide +kernel), List.mem_of_getElem? (i := 297) (by decide +kernel)⟩
theorem lw_p31 : lw_okq (⟨"java/lang/Throwable", "fillInStackTrace", "(I)Ljava/lang/Throwable;"⟩, 6) := ⟨⟨by decide +kernel, by decide +kernel⟩, List.mem_of_getElem? (i := 351) (by decide +kernel), List.mem_of_getElem? (i := 349) (by decide +kernel), List.mem_of_getElem? (i := 350) (by decide +kernel)⟩
def lw_privs_2 : List (MethodName × Nat) := [(⟨"WorkspaceMachine", "combineIntoRegister", "(III)V"⟩, 7), (⟨"WorkspaceMachine", "multiply", "(III)V"⟩, 7), (⟨"WorkspaceMachine", "divide", "(III)V"⟩, 7), (⟨"WorkspaceMachine", "runJump", "(I)I"⟩, 7), (⟨"WorkspaceMachine", "isJumpTaken", "(I)Z"⟩, 7), (⟨"WorkspaceMachine", "runOnLine", "(I)I"⟩, 7), (⟨"WorkspaceMachine", "runShift", "(I)I"⟩, 7), (⟨"WorkspaceMachine", "shiftCount", "(I)I"⟩, 7), (⟨"WorkspaceMachine", "runOnOneOperand", "(I)I"⟩, 7), (⟨"WorkspaceMachine", "changed", "(II)I"⟩, 7), (⟨"WorkspaceMachine", "negated", "(I)I"⟩, 7), (⟨"WorkspaceMachine", "withoutSign", "(I)I"⟩, 7), (⟨"WorkspaceMachine", "runImmediateOrControl", "(I)I"⟩, 7), (⟨"WorkspaceMachine", "runImmediate", "(III)V"⟩, 7), (⟨"WorkspaceMachine", "switchBack", "()V"⟩, 7), (⟨"java/lang/Throwable", "fillInStackTrace", "(I)Ljava/lang/Throwable;"⟩, 6)]
theorem lw_r2 : ∀ q ∈ lw_privs_2, lw_okq q := List.forall_mem_cons.mpr ⟨lw_p16, List.forall_mem_cons.mpr ⟨lw_p17, List.forall_mem_cons.mpr ⟨lw_p18, List.forall_mem_cons.mpr ⟨lw_p19, List.forall_mem_cons.mpr ⟨lw_p20, List.forall_mem_cons.mpr ⟨lw_p21, List.forall_mem_cons.mpr ⟨lw_p22, List.forall_mem_cons.mpr ⟨lw_p23, List.forall_mem_cons.mpr ⟨lw_p24, List.forall_mem_cons.mpr ⟨lw_p25, List.forall_mem_cons.mpr ⟨lw_p26, List.forall_mem_cons.mpr ⟨lw_p27, List.forall_mem_cons.mpr ⟨lw_p28, List.forall_mem_cons.mpr ⟨lw_p29, List.forall_mem_cons.mpr ⟨lw_p30, List.forall_mem_cons.mpr ⟨lw_p31, fun _ h => absurd h List.not_mem_nil⟩⟩⟩⟩⟩⟩⟩⟩⟩⟩⟩⟩⟩⟩⟩⟩
theorem lw_p32 : lw_okq (⟨"WorkspaceMachineModel", "change", "(I)V"⟩, 10) := ⟨⟨by decide +kernel, by decide +kernel⟩, List.mem_of_getElem? (i := 422) (by decide +kernel), List.mem_of_getElem? (i := 469) (by decide +kernel), List.mem_of_getElem? (i := 470) (by decide +kernel)⟩
theorem lw_p33 : lw_okq (⟨"WorkspaceMachineModel", "word", "(I)I"⟩, 10) := ⟨⟨by decide +kernel, by decide +kernel⟩, List.mem_of_getElem? (i := 422) (by decide +kernel), List.mem_of_getElem? (i := 473) (by decide +kernel), List.mem_of_getElem? (i := 474) (by decide +kernel)⟩
theorem lw_p34 : lw_okq (⟨"WorkspaceMachineModel", "setRegister", "(II)V"⟩, 10) := ⟨⟨by decide +kernel, by decide +kernel⟩, List.mem_of_getElem? (i := 422) (by decide +kernel), List.mem_of_getElem? (i := 477) (by decide +kernel), List.mem_of_getElem? (i := 478) (by decide +kernel)⟩
theorem lw_p35 : lw_okq (⟨"WorkspaceMachineModel", "setWord", "(II)V"⟩, 10) := ⟨⟨by decide +kernel, by decide +kernel⟩, List.mem_of_getElem? (i := 422) (by decide +kernel), List.mem_of_getElem? (i := 481) (by decide +kernel), List.mem_of_getElem? (i := 482) (by decide +kernel)⟩
theorem lw_p36 : lw_okq (⟨"WorkspaceMachineModel", "setMask", "(I)V"⟩, 10) := ⟨⟨by decide +kernel, by decide +kernel⟩, List.mem_of_getElem? (i := 422) (by decide +kernel), List.mem_of_getElem? (i := 486) (by decide +kernel), List.mem_of_getElem? (i := 487) (by decide +kernel)⟩
theorem lw_p37 : lw_okq (⟨"WorkspaceMachineModel", "fetched", "()I"⟩, 10) := ⟨⟨by decide +kernel, by decide +kernel⟩, List.mem_of_getElem? (i := 422) (by decide +kernel), List.mem_of_getElem? (i := 490) (by decide +kernel), List.mem_of_getElem? (i := 491) (by decide +kernel)⟩
theorem lw_p38 : lw_okq (⟨"WorkspaceMachineModel", "next", "()I"⟩, 10) := ⟨⟨by decide +kernel, by decide +kernel⟩, List.mem_of_getElem? (i := 422) (by decide +kernel), List.mem_of_getElem? (i := 494) (by decide +kernel), List.mem_of_getElem? (i := 495) (by decide +kernel)⟩
theorem lw_p39 : lw_okq (⟨"WorkspaceMachineModel", "address", "(IZ)I"⟩, 10) := ⟨⟨by decide +kernel, by decide +kernel⟩, List.mem_of_getElem? (i := 422) (by decide +kernel), List.mem_of_getElem? (i := 504) (by decide +kernel), List.mem_of_getElem? (i := 505) (by decide +kernel)⟩
theorem lw_p40 : lw_okq (⟨"WorkspaceMachineModel", "register", "(I)I"⟩, 10) := ⟨⟨by decide +kernel, by decide +kernel⟩, List.mem_of_getElem? (i := 422) (by decide +kernel), List.mem_of_getElem? (i := 508) (by decide +kernel), List.mem_of_getElem? (i := 509) (by decide +kernel)⟩
theorem lw_p41 : lw_okq (⟨"WorkspaceMachineModel", "does", "(I)I"⟩, 10) := ⟨⟨by decide +kernel, by decide +kernel⟩, List.mem_of_getElem? (i := 422) (by decide +kernel), List.mem_of_getElem? (i := 512) (by decide +kernel), List.mem_of_getElem? (i := 513) (by decide +kernel)⟩
theorem lw_p42 : lw_okq (⟨"WorkspaceMachineModel", "twoOperands", "(I)V"⟩, 10) := ⟨⟨by decide +kernel, by decide +kernel⟩, List.mem_of_getElem? (i := 422) (by decide +kernel), List.mem_of_getElem? (i := 516) (by decide +kernel), List.mem_of_getElem? (i := 517) (by decide +kernel)⟩
theorem lw_p43 : lw_okq (⟨"WorkspaceMachineModel", "value", "(IZ)I"⟩, 10) := ⟨⟨by decide +kernel, by decide +kernel⟩, List.mem_of_getElem? (i := 422) (by decide +kernel), List.mem_of_getElem? (i := 520) (by decide +kernel), List.mem_of_getElem? (i := 521) (by decide +kernel)⟩
theorem lw_p44 : lw_okq (⟨"WorkspaceMachineModel", "sum", "(IIIZ)I"⟩, 10) := ⟨⟨by decide +kernel, by decide +kernel⟩, List.mem_of_getElem? (i := 422) (by decide +kernel), List.mem_of_getElem? (i := 525) (by decide +kernel), List.mem_of_getElem? (i := 526) (by decide +kernel)⟩
theorem lw_p45 : lw_okq (⟨"WorkspaceMachineModel", "flag", "(IZ)V"⟩, 10) := ⟨⟨by decide +kernel, by decide +kernel⟩, List.mem_of_getElem? (i := 422) (by decide +kernel), List.mem_of_getElem? (i := 529) (by decide +kernel), List.mem_of_getElem? (i := 530) (by decide +kernel)⟩
theorem lw_p46 : lw_okq (⟨"WorkspaceMachineModel", "compare", "(II)V"⟩, 10) := ⟨⟨by decide +kernel, by decide +kernel⟩, List.mem_of_getElem? (i := 422) (by decide +kernel), List.mem_of_getElem? (i := 534) (by decide +kernel), List.mem_of_getElem? (i := 535) (by decide +kernel)⟩
theorem lw_p47 : lw_okq (⟨"WorkspaceMachineModel", "test", "(I)V"⟩, 10) := ⟨⟨by decide +kernel, by decide +kernel⟩, List.mem_of_getElem? (i := 422) (by decide +kernel), List.mem_of_getElem? (i := 542) (by decide +kernel), List.mem_of_getElem? (i := 543) (by decide +kernel)⟩
def lw_privs_3 : List (MethodName × Nat) := [(⟨"WorkspaceMachineModel", "change", "(I)V"⟩, 10), (⟨"WorkspaceMachineModel", "word", "(I)I"⟩, 10), (⟨"WorkspaceMachineModel", "setRegister", "(II)V"⟩, 10), (⟨"WorkspaceMachineModel", "setWord", "(II)V"⟩, 10), (⟨"WorkspaceMachineModel", "setMask", "(I)V"⟩, 10), (⟨"WorkspaceMachineModel", "fetched", "()I"⟩, 10), (⟨"WorkspaceMachineModel", "next", "()I"⟩, 10), (⟨"WorkspaceMachineModel", "address", "(IZ)I"⟩, 10), (⟨"WorkspaceMachineModel", "register", "(I)I"⟩, 10), (⟨"WorkspaceMachineModel", "does", "(I)I"⟩, 10), (⟨"WorkspaceMachineModel", "twoOperands", "(I)V"⟩, 10), (⟨"WorkspaceMachineModel", "value", "(IZ)I"⟩, 10), (⟨"WorkspaceMachineModel", "sum", "(IIIZ)I"⟩, 10), (⟨"WorkspaceMachineModel", "flag", "(IZ)V"⟩, 10), (⟨"WorkspaceMachineModel", "compare", "(II)V"⟩, 10), (⟨"WorkspaceMachineModel", "test", "(I)V"⟩, 10)]
theorem lw_r3 : ∀ q ∈ lw_privs_3, lw_okq q := List.forall_mem_cons.mpr ⟨lw_p32, List.forall_mem_cons.mpr ⟨lw_p33, List.forall_mem_cons.mpr ⟨lw_p34, List.forall_mem_cons.mpr ⟨lw_p35, List.forall_mem_cons.mpr ⟨lw_p36, List.forall_mem_cons.mpr ⟨lw_p37, List.forall_mem_cons.mpr ⟨lw_p38, List.forall_mem_cons.mpr ⟨lw_p39, List.forall_mem_cons.mpr ⟨lw_p40, List.forall_mem_cons.mpr ⟨lw_p41, List.forall_mem_cons.mpr ⟨lw_p42, List.forall_mem_cons.mpr ⟨lw_p43, List.forall_mem_cons.mpr ⟨lw_p44, List.forall_mem_cons.mpr ⟨lw_p45, List.forall_mem_cons.mpr ⟨lw_p46, List.forall_mem_cons.mpr ⟨lw_p47, fun _ h => absurd h List.not_mem_nil⟩⟩⟩⟩⟩⟩⟩⟩⟩⟩⟩⟩⟩⟩⟩⟩
theorem lw_p48 : lw_okq (⟨"WorkspaceMachineModel", "store", "(IIZ)V"⟩, 10) := ⟨⟨by decide +kernel, by decide +kernel⟩, List.mem_of_getElem? (i := 422) (by decide +kernel), List.mem_of_getElem? (i := 546) (by decide +kernel), List.mem_of_getElem? (i := 547) (by decide +kernel)⟩
theorem lw_p49 : lw_okq (⟨"WorkspaceMachineModel", "parity", "(I)V"⟩, 10) := ⟨⟨by decide +kernel, by decide +kernel⟩, List.mem_of_getElem? (i := 422) (by decide +kernel), List.mem_of_getElem? (i := 550) (by decide +kernel), List.mem_of_getElem? (i := 551) (by decide +kernel)⟩
theorem lw_p50 : lw_okq (⟨"WorkspaceMachineModel", "withRegister", "(I)V"⟩, 10) := ⟨⟨by decide +kernel, by decide +kernel⟩, List.mem_of_getElem? (i := 422) (by decide +kernel), List.mem_of_getElem? (i := 554) (by decide +kernel), List.mem_of_getElem? (i := 555) (by decide +kernel)⟩
theorem lw_p51 : lw_okq (⟨"WorkspaceMachineModel", "lineOperand", "(IZ)V"⟩, 10) := ⟨⟨by decide +kernel, by decide +kernel⟩, List.mem_of_getElem? (i := 422) (by decide +kernel), List.mem_of_getElem? (i := 558) (by decide +kernel), List.mem_of_getElem? (i := 559) (by decide +kernel)⟩
theorem lw_p52 : lw_okq (⟨"WorkspaceMachineModel", "base", "()I"⟩, 10) := ⟨⟨by decide +kernel, by decide +kernel⟩, List.mem_of_getElem? (i := 422) (by decide +kernel), List.mem_of_getElem? (i := 562) (by decide +kernel), List.mem_of_getElem? (i := 563) (by decide +kernel)⟩
theorem lw_p53 : lw_okq (⟨"WorkspaceMachineModel", "jumpOrLine", "(I)V"⟩, 10) := ⟨⟨by decide +kernel, by decide +kernel⟩, List.mem_of_getElem? (i := 422) (by decide +kernel), List.mem_of_getElem? (i := 568) (by decide +kernel), List.mem_of_getElem? (i := 569) (by decide +kernel)⟩
theorem lw_p54 : lw_okq (⟨"WorkspaceMachineModel", "holds", "(I)Z"⟩, 10) := ⟨⟨by decide +kernel, by decide +kernel⟩, List.mem_of_getElem? (i := 422) (by decide +kernel), List.mem_of_getElem? (i := 572) (by decide +kernel), List.mem_of_getElem? (i := 573) (by decide +kernel)⟩
theorem lw_p55 : lw_okq (⟨"WorkspaceMachineModel", "has", "(I)Z"⟩, 10) := ⟨⟨by decide +kernel, by decide +kernel⟩, List.mem_of_getElem? (i := 422) (by decide +kernel), List.mem_of_getElem? (i := 576) (by decide +kernel), List.mem_of_getElem? (i := 577) (by decide +kernel)⟩
theorem lw_p56 : lw_okq (⟨"WorkspaceMachineModel", "shift", "(I)V"⟩, 10) := ⟨⟨by decide +kernel, by decide +kernel⟩, List.mem_of_getElem? (i := 422) (by decide +kernel), List.mem_of_getElem? (i := 580) (by decide +kernel), List.mem_of_getElem? (i := 581) (by decide +kernel)⟩
theorem lw_p57 : lw_okq (⟨"WorkspaceMachineModel", "oneOperand", "(I)V"⟩, 10) := ⟨⟨by decide +kernel, by decide +kernel⟩, List.mem_of_getElem? (i := 422) (by decide +kernel), List.mem_of_getElem? (i := 584) (by decide +kernel), List.mem_of_getElem? (i := 585) (by decide +kernel)⟩
theorem lw_p58 : lw_okq (⟨"WorkspaceMachineModel", "inner", "(I)I"⟩, 10) := ⟨⟨by decide +kernel, by decide +kernel⟩, List.mem_of_getElem? (i := 422) (by decide +kernel), List.mem_of_getElem? (i := 589) (by decide +kernel), List.mem_of_getElem? (i := 590) (by decide +kernel)⟩
theorem lw_p59 : lw_okq (⟨"WorkspaceMachineModel", "immediate", "(II)V"⟩, 10) := ⟨⟨by decide +kernel, by decide +kernel⟩, List.mem_of_getElem? (i := 422) (by decide +kernel), List.mem_of_getElem? (i := 593) (by decide +kernel), List.mem_of_getElem? (i := 594) (by decide +kernel)⟩
theorem lw_p60 : lw_okq (⟨"WorkspaceMachineModel", "fails", "(Z)Z"⟩, 10) := ⟨⟨by decide +kernel, by decide +kernel⟩, List.mem_of_getElem? (i := 422) (by decide +kernel), List.mem_of_getElem? (i := 608) (by decide +kernel), List.mem_of_getElem? (i := 609) (by decide +kernel)⟩
def lw_privs_4 : List (MethodName × Nat) := [(⟨"WorkspaceMachineModel", "store", "(IIZ)V"⟩, 10), (⟨"WorkspaceMachineModel", "parity", "(I)V"⟩, 10), (⟨"WorkspaceMachineModel", "withRegister", "(I)V"⟩, 10), (⟨"WorkspaceMachineModel", "lineOperand", "(IZ)V"⟩, 10), (⟨"WorkspaceMachineModel", "base", "()I"⟩, 10), (⟨"WorkspaceMachineModel", "jumpOrLine", "(I)V"⟩, 10), (⟨"WorkspaceMachineModel", "holds", "(I)Z"⟩, 10), (⟨"WorkspaceMachineModel", "has", "(I)Z"⟩, 10), (⟨"WorkspaceMachineModel", "shift", "(I)V"⟩, 10), (⟨"WorkspaceMachineModel", "oneOperand", "(I)V"⟩, 10), (⟨"WorkspaceMachineModel", "inner", "(I)I"⟩, 10), (⟨"WorkspaceMachineModel", "immediate", "(II)V"⟩, 10), (⟨"WorkspaceMachineModel", "fails", "(Z)Z"⟩, 10)]
theorem lw_r4 : ∀ q ∈ lw_privs_4, lw_okq q := List.forall_mem_cons.mpr ⟨lw_p48, List.forall_mem_cons.mpr ⟨lw_p49, List.forall_mem_cons.mpr ⟨lw_p50, List.forall_mem_cons.mpr ⟨lw_p51, List.forall_mem_cons.mpr ⟨lw_p52, List.forall_mem_cons.mpr ⟨lw_p53, List.forall_mem_cons.mpr ⟨lw_p54, List.forall_mem_cons.mpr ⟨lw_p55, List.forall_mem_cons.mpr ⟨lw_p56, List.forall_mem_cons.mpr ⟨lw_p57, List.forall_mem_cons.mpr ⟨lw_p58, List.forall_mem_cons.mpr ⟨lw_p59, List.forall_mem_cons.mpr ⟨lw_p60, fun _ h => absurd h List.not_mem_nil⟩⟩⟩⟩⟩⟩⟩⟩⟩⟩⟩⟩⟩
def lw_privs : List (MethodName × Nat) := lw_privs_1 ++ (lw_privs_2 ++ (lw_privs_3 ++ (lw_privs_4)))
def lw_tbl : List Cond := k2_sels lw_privs ++ tables_1
theorem lw_privs_ok : ∀ q ∈ lw_privs, lw_okq q := by
  show ∀ q ∈ lw_privs_1 ++ (lw_privs_2 ++ (lw_privs_3 ++ (lw_privs_4))), lw_okq q
  exact List.forall_mem_append.mpr ⟨lw_r1, List.forall_mem_append.mpr ⟨lw_r2, List.forall_mem_append.mpr ⟨lw_r3, lw_r4⟩⟩⟩
end
section
/-! 02.base: the words that every contract takes, the form of a contract, calls and returns in one row each. DRAFT of 2026-11-15, not yet compiled. -/
/-- the words that stay true while the tables grow warmer -/
def TB : List Cond := lw_tbl.filter goodWord
theorem mt (i : Nat) {w : Cond} (h : lw_tbl[i]? = some w) (g : goodWord w = true) : w ∈ TB := List.mem_filter.mpr ⟨List.mem_of_getElem? h, g⟩
def wC (y : MethodName) (b : ByteArray) (n : Nat) (r : Option FieldType) : List Cond := .code y b n r :: TB
theorem wm {y : MethodName} {b : ByteArray} {n : Nat} {r : Option FieldType} {w : Cond} (h : w ∈ TB) : w ∈ wC y b n r := List.mem_cons_of_mem _ h
theorem tb_good {w : Cond} (h : w ∈ TB) : (w.onTables && w.keeps) = true ∨ ∃ ty, w = .arrayClass ty := good_of_word (List.mem_filter.mp h).2
theorem gi_c {y0 y : MethodName} {b0 b : ByteArray} {n0 n : Nat} {r0 r : Option FieldType} (h : Cond.code y b n r ∈ TB) : GoodIn (wC y0 b0 n0 r0) (wC y b n r) := by
  intro w hw
  rcases List.mem_cons.mp hw with rfl | hw
  · exact ⟨wm h, tb_good h⟩
  · exact ⟨wm hw, tb_good hw⟩
theorem gi_V {y0 y : MethodName} {b0 b : ByteArray} {n0 n : Nat} {r0 r : Option FieldType} {own C : String} {idx : Nat} (h1 : Cond.methodLink own idx y ∈ TB) (h2 : Cond.instanceMethod y ∈ TB) (h3 : Cond.selects C y y ∈ TB) (h4 : Cond.initialized C ∈ TB) (h5 : Cond.code y b n r ∈ TB) : GoodIn (wC y0 b0 n0 r0) (wsV own idx C y (wC y b n r)) := by
  intro w hw
  rcases List.mem_append.mp hw with hw | hw
  · have hx : w ∈ TB := by
      rcases List.mem_cons.mp hw with rfl | hw
      · exact h1
      rcases List.mem_cons.mp hw with rfl | hw
      · exact h2
      rcases List.mem_cons.mp hw with rfl | hw
      · exact h3
      rcases List.mem_cons.mp hw with rfl | hw
      · exact h4
      cases hw
    exact ⟨wm hx, tb_good hx⟩
  · exact gi_c h5 w hw
theorem gi_S {y0 y : MethodName} {b0 b : ByteArray} {n0 n : Nat} {r0 r : Option FieldType} {own : String} {idx : Nat} (h1 : Cond.methodLink own idx y ∈ TB) (h2 : Cond.static y ∈ TB) (h4 : Cond.initialized y.cls ∈ TB) (h5 : Cond.code y b n r ∈ TB) : GoodIn (wC y0 b0 n0 r0) (va_wsS own idx y (wC y b n r)) := by
  intro w hw
  rcases List.mem_append.mp hw with hw | hw
  · have hx : w ∈ TB := by
      rcases List.mem_cons.mp hw with rfl | hw
      · exact h1
      rcases List.mem_cons.mp hw with rfl | hw
      · exact h2
      rcases List.mem_cons.mp hw with rfl | hw
      · exact h4
      cases hw
    exact ⟨wm hx, tb_good hx⟩
  · exact gi_c h5 w hw
/-- the places of a world are apart: whatever they hold -/
theorem d_of {ws : va_W} (h : va_J (ws.map (·.1))) : va_D (fun q => q ∈ ws.map (·.1)) ws := by
  refine ⟨fun i j x y hi hj hxy => ?_, fun k q hk => List.mem_map.mpr ⟨q, List.mem_of_getElem? hk, rfl⟩⟩
  refine h.1 i j (x.1, .inr (0, [])) (y.1, .inr (0, [])) ?_ ?_ hxy
  · simp [List.getElem?_map, hi]
  · simp [List.getElem?_map, hj]
/-- THE FORM OF A CONTRACT: from a heap that holds the picture w σ the method answers rv and leaves the picture w σ'; nothing outside F changes; nothing is made -/
def MC {S : Type} (kl : List vw_C) (w : S → va_W) (F : Nat → Prop) (tys : List (ClassId × FieldType)) (l : Launch) (D : va_G) (y : MethodName) (b : ByteArray) (n : Nat) (r : Option FieldType) (rm : Room) (av : List Value) (σ : S) (rv : Option Value) (σ' : S) : Prop :=
  Met l y (wC y b n r) rm (va_Pc av (fun U => va_P D kl (w σ) U.heap ∧ va_K D kl tys U)) (fun _ st oc t => oc = .returned rv ∧ va_P D kl (w σ') t.heap ∧ va_F F st t) 0 0 F
def QC {S : Type} (kl : List vw_C) (w : S → va_W) (F : Nat → Prop) (D : va_G) (rv : Option Value) (σ' : S) : Array Value → State → Outcome → State → Prop := fun _ st oc t => oc = .returned rv ∧ va_P D kl (w σ') t.heap ∧ va_F F st t
/-- its start -/
theorem MC.mk {S : Type} {kl : List vw_C} {w : S → va_W} {F : Nat → Prop} {tys : List (ClassId × FieldType)} {l : Launch} {D : va_G} {y : MethodName} {b : ByteArray} {n : Nat} {r : Option FieldType} {rm : Room} {av : List Value} {σ σ' : S} {rv : Option Value}
    (hy : plainName y.cls = true) (hn : (lg_sl av).length ≤ n)
    (body : ∀ (p : Program) (e : Env) (s : State) (m : MethodId) (below : List Frame) (meth : Method) (c : Code) (ls : Array Slot) (Q : State → Prop) (args : Array Value) (H : Heap) (locs : List Loc), p.tables.exec = Jvm.exec → c.code = b → meth.sig.returnType = r → c.maxLocals = n → s.vm.findClass y.cls = some m.cls → (∀ w ∈ wC y b n r, w.before args s = true) → meth.locks = false →
      lv_has ls n (lv_args 0 av) → va_P D kl (w σ) H → va_K D kl tys s → va_S F s.heap H locs → Q = MQ below (QC kl w F D rv σ') args s 0 0 F →
      W p l e rm s m args below meth c H locs 0 0 Q (F0 m 0 ls [])) : MC kl w F tys l D y b n r rm av σ rv σ' := by
  refine Met.ofW (cc := b) (maxL := n) (ret := r) hy rfl ?_
  intro p e s m args below meth c s₁ B hml hv
  obtain ⟨rfl, hP, hK⟩ := hv
  have hts := atoms_spec (ws := wC y b n r) B.pre
  have hown : s.vm.findClass y.cls = some m.cls := findClass_of_methodNamed B.named
  have hl := lv_entry av (n := n) hn
  rw [lg_entry_eq]
  exact body p e s m below meth c _ _ _ s.heap [] B.exec B.bytes B.returns hml hown hts B.notSynchronized hl hP hK va_S.rf rfl
section RT
variable {S : Type} {kl : List vw_C} {w : S → va_W} {F : Nat → Prop} {tys : List (ClassId × FieldType)} {l : Launch} {D : va_G} {p : Program} {e : Env} {R : Room} {s : State} {m : MethodId} {args : Array Value} {below : List Frame} {meth : Method} {c : Code} {H : Heap} {locs : List Loc} {cc : ByteArray} {pc : Nat} {ls : Array Slot}
theorem rt_v {u σ' : S} (hx : p.tables.exec = Jvm.exec) (hb : c.code = cc) (hr : meth.sig.returnType = none) (hlk : meth.locks = false) (hu : u = σ') (hP : va_P D kl (w u) H) (hS : va_S F s.heap H locs) (d : decode cc pc = .ok (.return_, 1)) :
    W p l e R s m args below meth c H locs 0 0 (MQ below (QC kl w F D none σ') args s 0 0 F) (F0 m pc ls []) := by
  subst hu
  exact W.vret hx hb hr (fun t ht _ => ⟨rfl, by rw [ht]; exact hP, hS.F ht⟩) hS.2.2 d
theorem rt_i {u σ' : S} {v v' : Int32} (hx : p.tables.exec = Jvm.exec) (hb : c.code = cc) (hr : meth.sig.returnType = some .int) (hlk : meth.locks = false) (hv : v = v') (hu : u = σ') (hP : va_P D kl (w u) H) (hS : va_S F s.heap H locs) (d : decode cc pc = .ok (.ireturn, 1)) :
    W p l e R s m args below meth c H locs 0 0 (MQ below (QC kl w F D (some (.int v')) σ') args s 0 0 F) (F0 m pc ls [.int v]) := by
  subst hu; subst hv
  exact W.iret hx hb hr (fun t ht _ => ⟨rfl, by rw [ht]; exact hP, hS.F ht⟩) hS.2.2 d
theorem rt_z {u σ' : S} {v v' : Int32} {ty : FieldType} (hx : p.tables.exec = Jvm.exec) (hb : c.code = cc) (hr : meth.sig.returnType = some ty) (hlk : meth.locks = false) (hn : narrow ty (.int v) = .int v) (hv : v = v') (hu : u = σ') (hP : va_P D kl (w u) H) (hS : va_S F s.heap H locs) (d : decode cc pc = .ok (.ireturn, 1)) :
    W p l e R s m args below meth c H locs 0 0 (MQ below (QC kl w F D (some (.int v')) σ') args s 0 0 F) (F0 m pc ls [.int v]) := by
  subst hu; subst hv
  exact W.zret hx hb hr hn (fun t ht _ => ⟨rfl, by rw [ht]; exact hP, hS.F ht⟩) hS.2.2 d
theorem rt_l {u σ' : S} {v v' : Int64} (hx : p.tables.exec = Jvm.exec) (hb : c.code = cc) (hr : meth.sig.returnType = some .long) (hlk : meth.locks = false) (hv : v = v') (hu : u = σ') (hP : va_P D kl (w u) H) (hS : va_S F s.heap H locs) (d : decode cc pc = .ok (.lreturn, 1)) :
    W p l e R s m args below meth c H locs 0 0 (MQ below (QC kl w F D (some (.long v')) σ') args s 0 0 F) (F0 m pc ls [.long v]) := by
  subst hu; subst hv
  exact W.lret hx hb hr (fun t ht _ => ⟨rfl, by rw [ht]; exact hP, hS.F ht⟩) hS.2.2 d
end RT
section CL
variable {S : Type} {kl : List vw_C} {w : S → va_W} {F : Nat → Prop} {tys : List (ClassId × FieldType)} {l : Launch} {D : va_G} {p : Program} {e : Env} {R : Room} {s : State} {m : MethodId} {args : Array Value} {below : List Frame} {meth : Method} {c : Code} {H H0 : Heap} {locs : List Loc} {cc : ByteArray} {pc : Nat} {ls : Array Slot} {Q : State → Prop} {Ts : List Cond} {own C : String} {index k n nL : Nat} {y : MethodName} {b : ByteArray} {r : Option FieldType} {rm : Room} {o : Nat} {As rest st0 : List Value} {σ σ' : S} {rv : Option Value}
theorem mc_blind {av : List Value} : FrameBlind (va_Pc av (fun U => va_P D kl (w σ) U.heap ∧ va_K D kl tys U)) := fun a U g mk q => by
  obtain ⟨q0, qP, qK⟩ := q
  exact ⟨q0, qP, va_K.moved (u := U) (U := U.calling g mk a) (Vm.Alike.refl U.vm) qK⟩
/-- behind a call by contract -/
theorem cl_go {g : JFrame} {a : Array Value} (hr : va_Run p l e R s m args below meth c H locs 0 0 0 0 (F0 m pc ls st0) rest (QC kl w F D rv σ' a) F) (hS : va_S F H0 H locs)
    (kk : ∀ (H1 : Heap) (locs1 : List Loc), va_P D kl (w σ') H1 → va_S F H0 H1 locs1 → W p l e R s m args below meth c H1 locs1 0 0 Q (F0 m (pc + 3) ls (rv.toList ++ rest))) : W p l e R s m args below meth c H locs 0 0 Q (F0 m pc ls st0) := by
  intro T hT X
  obtain ⟨v, st₀, t, T', L, h0, X', hL, e1, e2, ⟨hv, hp, hz, hk⟩, st⟩ := hr T hT X
  cases hv
  rw [h0] at hz hk
  obtain ⟨t2, a1, b1⟩ := kk T'.heap (locs ++ L) (by rw [e1]; exact hp)
    ⟨Nat.le_trans hS.1 (by rw [e1]; exact hz), fun q h1 h2 => by rw [e1, hk q (Nat.lt_of_lt_of_le h1 hS.1) h2]; exact hS.2.1 q h1 h2, fun q hq => by
      rcases List.mem_append.mp hq with h | h
      · exact hS.2.2 q h
      · exact hL q h⟩ T' rfl X'
  exact ⟨t2, st t2 a1, b1⟩
theorem cl_V (hM : MC kl w F tys l D y b n r rm (.ref o :: As) σ rv σ') (S0 : CallFix p m c cc nL s args Ts own) (cwx : CallW R s args own C index y b n r (wC y b n r) rm 0 0 k) (hrec : ∃ cell : Cell, H[o]? = some cell ∧ cell.vm.isStatics = false ∧ s.vm.findClass C = some cell.cls)
    (hP : va_P D kl (w σ) H) (hK : va_K D kl tys s) (hS : va_S F H0 H locs) (hn : As.length = k) (hsz : ls.size = nL) (hst : st0 = As.reverse ++ .ref o :: rest) (h8 : (rest.map fun v => v.category).sum ≤ 8) (hdg : decode cc pc = .ok (.invokevirtual index, 3))
    (kk : ∀ (H1 : Heap) (locs1 : List Loc), va_P D kl (w σ') H1 → va_S F H0 H1 locs1 → W p l e R s m args below meth c H1 locs1 0 0 Q (F0 m (pc + 3) ls (rv.toList ++ rest))) : W p l e R s m args below meth c H locs 0 0 Q (F0 m pc ls st0) :=
  cl_go (g := F0 m pc ls st0) (va_runV (g := F0 m pc ls st0) (rest := rest) (As := As) (b := o) S0 hM cwx ⟨mc_blind, hrec, fun U hU hW => ⟨rfl, by rw [hU]; exact hP, va_K.moved hW.alike hK⟩⟩ rfl hn hsz hst (lv_room h8) hdg ⟨Nat.zero_le _, Nat.zero_le _⟩) hS kk
theorem cl_S (hM : MC kl w F tys l D y b n r rm As σ rv σ') (S0 : CallFix p m c cc nL s args Ts own) (cwx : CallB R s args own index y b n r (wC y b n r) rm 0 0 k ∧ (Cond.static y).before args s = true)
    (hP : va_P D kl (w σ) H) (hK : va_K D kl tys s) (hS : va_S F H0 H locs) (hn : As.length = k) (hsz : ls.size = nL) (hst : st0 = As.reverse ++ rest) (h8 : (rest.map fun v => v.category).sum ≤ 8) (hdg : decode cc pc = .ok (.invokestatic index, 3))
    (kk : ∀ (H1 : Heap) (locs1 : List Loc), va_P D kl (w σ') H1 → va_S F H0 H1 locs1 → W p l e R s m args below meth c H1 locs1 0 0 Q (F0 m (pc + 3) ls (rv.toList ++ rest))) : W p l e R s m args below meth c H locs 0 0 Q (F0 m pc ls st0) :=
  cl_go (g := F0 m pc ls st0) (va_runS (g := F0 m pc ls st0) (rest := rest) (As := As) S0 hM cwx ⟨mc_blind, fun U hU hW => ⟨rfl, by rw [hU]; exact hP, va_K.moved hW.alike hK⟩⟩ rfl hn hsz hst (lv_room h8) hdg ⟨Nat.zero_le _, Nat.zero_le _⟩) hS kk
/-- what comes back gets names: a value and a state, a value, a state -/
theorem nm_is {X : Int32} {Y : S} (kk : ∀ (v : Int32) (u : S), v = X → u = Y → ∀ (H1 : Heap) (locs1 : List Loc), va_P D kl (w u) H1 → va_S F H0 H1 locs1 → W p l e R s m args below meth c H1 locs1 0 0 Q (F0 m pc ls (.int v :: rest))) :
    ∀ (H1 : Heap) (locs1 : List Loc), va_P D kl (w Y) H1 → va_S F H0 H1 locs1 → W p l e R s m args below meth c H1 locs1 0 0 Q (F0 m pc ls ((some (Value.int X)).toList ++ rest)) := kk X Y rfl rfl
theorem nm_i {X : Int32} {Y : S} (kk : ∀ (v : Int32), v = X → ∀ (H1 : Heap) (locs1 : List Loc), va_P D kl (w Y) H1 → va_S F H0 H1 locs1 → W p l e R s m args below meth c H1 locs1 0 0 Q (F0 m pc ls (.int v :: rest))) :
    ∀ (H1 : Heap) (locs1 : List Loc), va_P D kl (w Y) H1 → va_S F H0 H1 locs1 → W p l e R s m args below meth c H1 locs1 0 0 Q (F0 m pc ls ((some (Value.int X)).toList ++ rest)) := kk X rfl
theorem nm_l {X : Int64} {Y : S} (kk : ∀ (v : Int64), v = X → ∀ (H1 : Heap) (locs1 : List Loc), va_P D kl (w Y) H1 → va_S F H0 H1 locs1 → W p l e R s m args below meth c H1 locs1 0 0 Q (F0 m pc ls (.long v :: rest))) :
    ∀ (H1 : Heap) (locs1 : List Loc), va_P D kl (w Y) H1 → va_S F H0 H1 locs1 → W p l e R s m args below meth c H1 locs1 0 0 Q (F0 m pc ls ((some (Value.long X)).toList ++ rest)) := kk X rfl
theorem nm_s {Y : S} (kk : ∀ (u : S), u = Y → ∀ (H1 : Heap) (locs1 : List Loc), va_P D kl (w u) H1 → va_S F H0 H1 locs1 → W p l e R s m args below meth c H1 locs1 0 0 Q (F0 m pc ls rest)) :
    ∀ (H1 : Heap) (locs1 : List Loc), va_P D kl (w Y) H1 → va_S F H0 H1 locs1 → W p l e R s m args below meth c H1 locs1 0 0 Q (F0 m pc ls ((none : Option Value).toList ++ rest)) := kk Y rfl
end CL
/-- a loop 'for (i ..; i < n; i++)': what is left falls -/
theorem ms_step {x n : Int32} {f : Nat} (h : ¬ n ≤ x) (hf : (n.toInt - x.toInt).toNat ≤ f + 1) : (n.toInt - (x + 1).toInt).toNat ≤ f := by
  rw [Int32.le_iff_toInt_le] at h
  have h1 : (x + 1).toInt = x.toInt + 1 := by
    have a := Int32.toInt_lt n
    have b := Int32.le_toInt x
    rw [Int32.toInt_add]
    simp only [Int32.toInt_one]
    rw [Int.bmod_def]
    split <;> omega
  omega
theorem ms_zero {x n : Int32} (hf : (n.toInt - x.toInt).toNat ≤ 0) (h : ¬ n ≤ x) : False := by
  rw [Int32.le_iff_toInt_le] at h
  omega
theorem nb_z {v : Int32} (h : v = 0 ∨ v = 1) : narrow .boolean (.int v) = .int v := by
  rcases h with rfl | rfl <;> rfl
end
section
/-! 03.names: laid by gen.py -/
def R_M : String := "WorkspaceMachine"
def R_Me : String := "WorkspaceMachine$Memory"
def R_Li : String := "WorkspaceMachine$Lines"
def R_St : String := "WorkspaceMachine$Status"
def R_Mo : String := "WorkspaceMachineModel"
def R_In : String := "java/lang/Integer"
def F_Li : u_T := fun k => match k with
  | _ => ("WorkspaceMachine$Lines", "bits", "J", false)
def ft_Li : Nat → FieldType := fun k => match k with
  | _ => .long
theorem fn_Li : ∀ a, a < 1 → ∀ b, b < 1 → a ≠ b → (F_Li a).2.1 ≠ (F_Li b).2.1 := by decide +kernel
theorem ft_Li_ok : ∀ k, k < 1 → parseFieldDescriptor (F_Li k).2.2.1 = some (ft_Li k) := by decide +kernel
theorem ui_Li : ∀ w ∈ u_ws R_Li F_Li 1, w ∈ TB := by decide +kernel
def F_Me : u_T := fun k => match k with
  | _ => ("WorkspaceMachine$Memory", "words", "[C", true)
def ft_Me : Nat → FieldType := fun k => match k with
  | _ => .array .char
theorem fn_Me : ∀ a, a < 1 → ∀ b, b < 1 → a ≠ b → (F_Me a).2.1 ≠ (F_Me b).2.1 := by decide +kernel
theorem ft_Me_ok : ∀ k, k < 1 → parseFieldDescriptor (F_Me k).2.2.1 = some (ft_Me k) := by decide +kernel
theorem ui_Me : ∀ w ∈ u_ws R_Me F_Me 1, w ∈ TB := by decide +kernel
def F_St : u_T := fun k => match k with
  | _ => ("WorkspaceMachine$Status", "bits", "I", false)
def ft_St : Nat → FieldType := fun k => match k with
  | _ => .int
theorem fn_St : ∀ a, a < 1 → ∀ b, b < 1 → a ≠ b → (F_St a).2.1 ≠ (F_St b).2.1 := by decide +kernel
theorem ft_St_ok : ∀ k, k < 1 → parseFieldDescriptor (F_St k).2.2.1 = some (ft_St k) := by decide +kernel
theorem ui_St : ∀ w ∈ u_ws R_St F_St 1, w ∈ TB := by decide +kernel
def F_M : u_T := fun k => match k with
  | 0 => ("WorkspaceMachine", "memory", "LWorkspaceMachine$Memory;", true)
  | 1 => ("WorkspaceMachine", "lines", "LWorkspaceMachine$Lines;", true)
  | 2 => ("WorkspaceMachine", "status", "LWorkspaceMachine$Status;", true)
  | 3 => ("WorkspaceMachine", "workspace", "I", false)
  | 4 => ("WorkspaceMachine", "counter", "I", false)
  | 5 => ("WorkspaceMachine", "requested", "I", false)
  | _ => ("WorkspaceMachine", "idle", "Z", false)
def ft_M : Nat → FieldType := fun k => match k with
  | 0 => .object "WorkspaceMachine$Memory"
  | 1 => .object "WorkspaceMachine$Lines"
  | 2 => .object "WorkspaceMachine$Status"
  | 3 => .int
  | 4 => .int
  | 5 => .int
  | _ => .boolean
theorem fn_M : ∀ a, a < 7 → ∀ b, b < 7 → a ≠ b → (F_M a).2.1 ≠ (F_M b).2.1 := by decide +kernel
theorem ft_M_ok : ∀ k, k < 7 → parseFieldDescriptor (F_M k).2.2.1 = some (ft_M k) := by decide +kernel
theorem ui_M : ∀ w ∈ u_ws R_M F_M 7, w ∈ TB := by decide +kernel
def F_Mo : u_T := fun k => match k with
  | 0 => ("WorkspaceMachineModel", "thrown", "I", false)
  | 1 => ("WorkspaceMachineModel", "words", "[I", true)
  | 2 => ("WorkspaceMachineModel", "lines", "[Z", true)
  | 3 => ("WorkspaceMachineModel", "wp", "I", false)
  | 4 => ("WorkspaceMachineModel", "pc", "I", false)
  | 5 => ("WorkspaceMachineModel", "st", "I", false)
  | 6 => ("WorkspaceMachineModel", "level", "I", false)
  | 7 => ("WorkspaceMachineModel", "idle", "Z", false)
  | 8 => ("WorkspaceMachineModel", "grown", "I", false)
  | _ => ("WorkspaceMachineModel", "was", "I", false)
def ft_Mo : Nat → FieldType := fun k => match k with
  | 0 => .int
  | 1 => .array .int
  | 2 => .array .boolean
  | 3 => .int
  | 4 => .int
  | 5 => .int
  | 6 => .int
  | 7 => .boolean
  | 8 => .int
  | _ => .int
theorem fn_Mo : ∀ a, a < 10 → ∀ b, b < 10 → a ≠ b → (F_Mo a).2.1 ≠ (F_Mo b).2.1 := by decide +kernel
theorem ft_Mo_ok : ∀ k, k < 10 → parseFieldDescriptor (F_Mo k).2.2.1 = some (ft_Mo k) := by decide +kernel
theorem ui_Mo : ∀ w ∈ u_ws R_Mo F_Mo 10, w ∈ TB := by decide +kernel
abbrev kl : List vw_C := [(R_Li, F_Li, 1), (R_Me, F_Me, 1), (R_St, F_St, 1), (R_M, F_M, 7), (R_Mo, F_Mo, 10)]
def y_M_init : MethodName := ⟨R_M, "<init>", "()V"⟩
abbrev b_M_init : ByteArray := prog_1_method_1_code
abbrev rm_M_init : Room := { frames := 1, cells := 0, slots := 0, locals := 20 }
def y_M_reset : MethodName := ⟨R_M, "reset", "()V"⟩
abbrev b_M_reset : ByteArray := prog_1_method_2_code
abbrev rm_M_reset : Room := { frames := 3, cells := 0, slots := 0, locals := 68 }
def y_M_poke : MethodName := ⟨R_M, "poke", "(IC)V"⟩
abbrev b_M_poke : ByteArray := prog_1_method_3_code
abbrev rm_M_poke : Room := { frames := 1, cells := 0, slots := 0, locals := 22 }
def y_M_peek : MethodName := ⟨R_M, "peek", "(I)C"⟩
abbrev b_M_peek : ByteArray := prog_1_method_4_code
abbrev rm_M_peek : Room := { frames := 1, cells := 0, slots := 0, locals := 21 }
def y_M_step : MethodName := ⟨R_M, "step", "()I"⟩
abbrev b_M_step : ByteArray := prog_1_method_5_code
abbrev rm_M_step : Room := { frames := 6, cells := 0, slots := 0, locals := 142 }
def y_M_level : MethodName := ⟨R_M, "level", "(I)V"⟩
abbrev b_M_level : ByteArray := prog_1_method_6_code
abbrev rm_M_level : Room := { frames := 0, cells := 0, slots := 0, locals := 0 }
def y_M_wire : MethodName := ⟨R_M, "wire", "(IZ)V"⟩
abbrev b_M_wire : ByteArray := prog_1_method_7_code
abbrev rm_M_wire : Room := { frames := 2, cells := 0, slots := 0, locals := 42 }
def y_M_line : MethodName := ⟨R_M, "line", "(I)Z"⟩
abbrev b_M_line : ByteArray := prog_1_method_8_code
abbrev rm_M_line : Room := { frames := 2, cells := 0, slots := 0, locals := 41 }
def y_M_state : MethodName := ⟨R_M, "state", "(I)I"⟩
abbrev b_M_state : ByteArray := prog_1_method_9_code
abbrev rm_M_state : Room := { frames := 1, cells := 0, slots := 0, locals := 20 }
def y_M_isWordAddress : MethodName := ⟨R_M, "isWordAddress", "(I)Z"⟩
abbrev b_M_isWordAddress : ByteArray := prog_1_method_10_code
abbrev rm_M_isWordAddress : Room := { frames := 0, cells := 0, slots := 0, locals := 0 }
def y_M_isLine : MethodName := ⟨R_M, "isLine", "(I)Z"⟩
abbrev b_M_isLine : ByteArray := prog_1_method_11_code
abbrev rm_M_isLine : Room := { frames := 0, cells := 0, slots := 0, locals := 0 }
def y_M_isExecute : MethodName := ⟨R_M, "isExecute", "(I)Z"⟩
abbrev b_M_isExecute : ByteArray := prog_1_method_12_code
abbrev rm_M_isExecute : Room := { frames := 0, cells := 0, slots := 0, locals := 0 }
def y_M_setWorkspace : MethodName := ⟨R_M, "setWorkspace", "(I)V"⟩
abbrev b_M_setWorkspace : ByteArray := prog_1_method_13_code
abbrev rm_M_setWorkspace : Room := { frames := 0, cells := 0, slots := 0, locals := 0 }
def y_M_setCounter : MethodName := ⟨R_M, "setCounter", "(I)V"⟩
abbrev b_M_setCounter : ByteArray := prog_1_method_14_code
abbrev rm_M_setCounter : Room := { frames := 0, cells := 0, slots := 0, locals := 0 }
def y_M_fetch : MethodName := ⟨R_M, "fetch", "()I"⟩
abbrev b_M_fetch : ByteArray := prog_1_method_15_code
abbrev rm_M_fetch : Room := { frames := 1, cells := 0, slots := 0, locals := 21 }
def y_M_registerAddress : MethodName := ⟨R_M, "registerAddress", "(I)I"⟩
abbrev b_M_registerAddress : ByteArray := prog_1_method_16_code
abbrev rm_M_registerAddress : Room := { frames := 0, cells := 0, slots := 0, locals := 0 }
def y_M_register : MethodName := ⟨R_M, "register", "(I)I"⟩
abbrev b_M_register : ByteArray := prog_1_method_17_code
abbrev rm_M_register : Room := { frames := 1, cells := 0, slots := 0, locals := 21 }
def y_M_setRegister : MethodName := ⟨R_M, "setRegister", "(II)V"⟩
abbrev b_M_setRegister : ByteArray := prog_1_method_18_code
abbrev rm_M_setRegister : Room := { frames := 1, cells := 0, slots := 0, locals := 22 }
def y_M_interrupt : MethodName := ⟨R_M, "interrupt", "()V"⟩
abbrev b_M_interrupt : ByteArray := prog_1_method_19_code
abbrev rm_M_interrupt : Room := { frames := 3, cells := 0, slots := 0, locals := 68 }
def y_M_switchThrough : MethodName := ⟨R_M, "switchThrough", "(I)V"⟩
abbrev b_M_switchThrough : ByteArray := prog_1_method_20_code
abbrev rm_M_switchThrough : Room := { frames := 2, cells := 0, slots := 0, locals := 44 }
def y_M_operandAddress : MethodName := ⟨R_M, "operandAddress", "(II)I"⟩
abbrev b_M_operandAddress : ByteArray := prog_1_method_21_code
abbrev rm_M_operandAddress : Room := { frames := 2, cells := 0, slots := 0, locals := 44 }
def y_M_run : MethodName := ⟨R_M, "run", "(I)I"⟩
abbrev b_M_run : ByteArray := prog_1_method_22_code
abbrev rm_M_run : Room := { frames := 5, cells := 0, slots := 0, locals := 121 }
def y_M_runOnTwoOperands : MethodName := ⟨R_M, "runOnTwoOperands", "(I)I"⟩
abbrev b_M_runOnTwoOperands : ByteArray := prog_1_method_23_code
abbrev rm_M_runOnTwoOperands : Room := { frames := 4, cells := 0, slots := 0, locals := 94 }
def y_M_combined : MethodName := ⟨R_M, "combined", "(III)I"⟩
abbrev b_M_combined : ByteArray := prog_1_method_24_code
abbrev rm_M_combined : Room := { frames := 3, cells := 0, slots := 0, locals := 71 }
def y_M_runOnRegisterAndOperand : MethodName := ⟨R_M, "runOnRegisterAndOperand", "(I)I"⟩
abbrev b_M_runOnRegisterAndOperand : ByteArray := prog_1_method_25_code
abbrev rm_M_runOnRegisterAndOperand : Room := { frames := 4, cells := 0, slots := 0, locals := 95 }
def y_M_callExtended : MethodName := ⟨R_M, "callExtended", "(II)V"⟩
abbrev b_M_callExtended : ByteArray := prog_1_method_26_code
abbrev rm_M_callExtended : Room := { frames := 3, cells := 0, slots := 0, locals := 68 }
def y_M_sendLines : MethodName := ⟨R_M, "sendLines", "(II)V"⟩
abbrev b_M_sendLines : ByteArray := prog_1_method_27_code
abbrev rm_M_sendLines : Room := { frames := 3, cells := 0, slots := 0, locals := 68 }
def y_M_receiveLines : MethodName := ⟨R_M, "receiveLines", "(II)V"⟩
abbrev b_M_receiveLines : ByteArray := prog_1_method_28_code
abbrev rm_M_receiveLines : Room := { frames := 3, cells := 0, slots := 0, locals := 68 }
def y_M_sizeForLines : MethodName := ⟨R_M, "sizeForLines", "(I)I"⟩
abbrev b_M_sizeForLines : ByteArray := prog_1_method_29_code
abbrev rm_M_sizeForLines : Room := { frames := 0, cells := 0, slots := 0, locals := 0 }
def y_M_combineIntoRegister : MethodName := ⟨R_M, "combineIntoRegister", "(III)V"⟩
abbrev b_M_combineIntoRegister : ByteArray := prog_1_method_30_code
abbrev rm_M_combineIntoRegister : Room := { frames := 3, cells := 0, slots := 0, locals := 70 }
def y_M_multiply : MethodName := ⟨R_M, "multiply", "(III)V"⟩
abbrev b_M_multiply : ByteArray := prog_1_method_31_code
abbrev rm_M_multiply : Room := { frames := 2, cells := 0, slots := 0, locals := 44 }
def y_M_divide : MethodName := ⟨R_M, "divide", "(III)V"⟩
abbrev b_M_divide : ByteArray := prog_1_method_32_code
abbrev rm_M_divide : Room := { frames := 2, cells := 0, slots := 0, locals := 44 }
def y_M_runJump : MethodName := ⟨R_M, "runJump", "(I)I"⟩
abbrev b_M_runJump : ByteArray := prog_1_method_33_code
abbrev rm_M_runJump : Room := { frames := 2, cells := 0, slots := 0, locals := 45 }
def y_M_isJumpTaken : MethodName := ⟨R_M, "isJumpTaken", "(I)Z"⟩
abbrev b_M_isJumpTaken : ByteArray := prog_1_method_34_code
abbrev rm_M_isJumpTaken : Room := { frames := 1, cells := 0, slots := 0, locals := 21 }
def y_M_runOnLine : MethodName := ⟨R_M, "runOnLine", "(I)I"⟩
abbrev b_M_runOnLine : ByteArray := prog_1_method_35_code
abbrev rm_M_runOnLine : Room := { frames := 2, cells := 0, slots := 0, locals := 42 }
def y_M_runShift : MethodName := ⟨R_M, "runShift", "(I)I"⟩
abbrev b_M_runShift : ByteArray := prog_1_method_36_code
abbrev rm_M_runShift : Room := { frames := 3, cells := 0, slots := 0, locals := 64 }
def y_M_shiftCount : MethodName := ⟨R_M, "shiftCount", "(I)I"⟩
abbrev b_M_shiftCount : ByteArray := prog_1_method_37_code
abbrev rm_M_shiftCount : Room := { frames := 2, cells := 0, slots := 0, locals := 42 }
def y_M_shiftedOnce : MethodName := ⟨R_M, "shiftedOnce", "(II)I"⟩
abbrev b_M_shiftedOnce : ByteArray := prog_1_method_38_code
abbrev rm_M_shiftedOnce : Room := { frames := 0, cells := 0, slots := 0, locals := 0 }
def y_M_runOnOneOperand : MethodName := ⟨R_M, "runOnOneOperand", "(I)I"⟩
abbrev b_M_runOnOneOperand : ByteArray := prog_1_method_39_code
abbrev rm_M_runOnOneOperand : Room := { frames := 4, cells := 0, slots := 0, locals := 93 }
def y_M_changed : MethodName := ⟨R_M, "changed", "(II)I"⟩
abbrev b_M_changed : ByteArray := prog_1_method_40_code
abbrev rm_M_changed : Room := { frames := 3, cells := 0, slots := 0, locals := 71 }
def y_M_negated : MethodName := ⟨R_M, "negated", "(I)I"⟩
abbrev b_M_negated : ByteArray := prog_1_method_41_code
abbrev rm_M_negated : Room := { frames := 2, cells := 0, slots := 0, locals := 46 }
def y_M_withoutSign : MethodName := ⟨R_M, "withoutSign", "(I)I"⟩
abbrev b_M_withoutSign : ByteArray := prog_1_method_42_code
abbrev rm_M_withoutSign : Room := { frames := 1, cells := 0, slots := 0, locals := 25 }
def y_M_runImmediateOrControl : MethodName := ⟨R_M, "runImmediateOrControl", "(I)I"⟩
abbrev b_M_runImmediateOrControl : ByteArray := prog_1_method_43_code
abbrev rm_M_runImmediateOrControl : Room := { frames := 4, cells := 0, slots := 0, locals := 94 }
def y_M_runImmediate : MethodName := ⟨R_M, "runImmediate", "(III)V"⟩
abbrev b_M_runImmediate : ByteArray := prog_1_method_44_code
abbrev rm_M_runImmediate : Room := { frames := 3, cells := 0, slots := 0, locals := 71 }
def y_M_switchBack : MethodName := ⟨R_M, "switchBack", "()V"⟩
abbrev b_M_switchBack : ByteArray := prog_1_method_45_code
abbrev rm_M_switchBack : Room := { frames := 2, cells := 0, slots := 0, locals := 42 }
def y_Mo_init : MethodName := ⟨R_Mo, "<init>", "()V"⟩
abbrev b_Mo_init : ByteArray := prog_6_method_1_code
abbrev rm_Mo_init : Room := { frames := 0, cells := 0, slots := 0, locals := 0 }
def y_Mo_thrown : MethodName := ⟨R_Mo, "thrown", "()I"⟩
abbrev b_Mo_thrown : ByteArray := prog_6_method_2_code
abbrev rm_Mo_thrown : Room := { frames := 0, cells := 0, slots := 0, locals := 0 }
def y_Mo_fails : MethodName := ⟨R_Mo, "fails", "(Z)Z"⟩
abbrev b_Mo_fails : ByteArray := prog_6_method_3_code
abbrev rm_Mo_fails : Room := { frames := 0, cells := 0, slots := 0, locals := 0 }
def y_Mo_word : MethodName := ⟨R_Mo, "word", "(I)I"⟩
abbrev b_Mo_word : ByteArray := prog_6_method_4_code
abbrev rm_Mo_word : Room := { frames := 0, cells := 0, slots := 0, locals := 0 }
def y_Mo_setWord : MethodName := ⟨R_Mo, "setWord", "(II)V"⟩
abbrev b_Mo_setWord : ByteArray := prog_6_method_5_code
abbrev rm_Mo_setWord : Room := { frames := 0, cells := 0, slots := 0, locals := 0 }
def y_Mo_register : MethodName := ⟨R_Mo, "register", "(I)I"⟩
abbrev b_Mo_register : ByteArray := prog_6_method_6_code
abbrev rm_Mo_register : Room := { frames := 1, cells := 0, slots := 0, locals := 21 }
def y_Mo_setRegister : MethodName := ⟨R_Mo, "setRegister", "(II)V"⟩
abbrev b_Mo_setRegister : ByteArray := prog_6_method_7_code
abbrev rm_Mo_setRegister : Room := { frames := 1, cells := 0, slots := 0, locals := 22 }
def y_Mo_next : MethodName := ⟨R_Mo, "next", "()I"⟩
abbrev b_Mo_next : ByteArray := prog_6_method_8_code
abbrev rm_Mo_next : Room := { frames := 1, cells := 0, slots := 0, locals := 21 }
def y_Mo_value : MethodName := ⟨R_Mo, "value", "(IZ)I"⟩
abbrev b_Mo_value : ByteArray := prog_6_method_9_code
abbrev rm_Mo_value : Room := { frames := 1, cells := 0, slots := 0, locals := 21 }
def y_Mo_store : MethodName := ⟨R_Mo, "store", "(IIZ)V"⟩
abbrev b_Mo_store : ByteArray := prog_6_method_10_code
abbrev rm_Mo_store : Room := { frames := 1, cells := 0, slots := 0, locals := 22 }
def y_Mo_address : MethodName := ⟨R_Mo, "address", "(IZ)I"⟩
abbrev b_Mo_address : ByteArray := prog_6_method_11_code
abbrev rm_Mo_address : Room := { frames := 2, cells := 0, slots := 0, locals := 44 }
def y_Mo_flag : MethodName := ⟨R_Mo, "flag", "(IZ)V"⟩
abbrev b_Mo_flag : ByteArray := prog_6_method_12_code
abbrev rm_Mo_flag : Room := { frames := 0, cells := 0, slots := 0, locals := 0 }
def y_Mo_has : MethodName := ⟨R_Mo, "has", "(I)Z"⟩
abbrev b_Mo_has : ByteArray := prog_6_method_13_code
abbrev rm_Mo_has : Room := { frames := 0, cells := 0, slots := 0, locals := 0 }
def y_Mo_signed : MethodName := ⟨R_Mo, "signed", "(I)I"⟩
abbrev b_Mo_signed : ByteArray := prog_6_method_14_code
abbrev rm_Mo_signed : Room := { frames := 0, cells := 0, slots := 0, locals := 0 }
def y_Mo_compare : MethodName := ⟨R_Mo, "compare", "(II)V"⟩
abbrev b_Mo_compare : ByteArray := prog_6_method_15_code
abbrev rm_Mo_compare : Room := { frames := 1, cells := 0, slots := 0, locals := 22 }
def y_Mo_test : MethodName := ⟨R_Mo, "test", "(I)V"⟩
abbrev b_Mo_test : ByteArray := prog_6_method_16_code
abbrev rm_Mo_test : Room := { frames := 2, cells := 0, slots := 0, locals := 44 }
def y_Mo_parity : MethodName := ⟨R_Mo, "parity", "(I)V"⟩
abbrev b_Mo_parity : ByteArray := prog_6_method_17_code
abbrev rm_Mo_parity : Room := { frames := 1, cells := 0, slots := 0, locals := 22 }
def y_Mo_sum : MethodName := ⟨R_Mo, "sum", "(IIIZ)I"⟩
abbrev b_Mo_sum : ByteArray := prog_6_method_18_code
abbrev rm_Mo_sum : Room := { frames := 1, cells := 0, slots := 0, locals := 22 }
def y_Mo_change : MethodName := ⟨R_Mo, "change", "(I)V"⟩
abbrev b_Mo_change : ByteArray := prog_6_method_19_code
abbrev rm_Mo_change : Room := { frames := 2, cells := 0, slots := 0, locals := 44 }
def y_Mo_setMask : MethodName := ⟨R_Mo, "setMask", "(I)V"⟩
abbrev b_Mo_setMask : ByteArray := prog_6_method_20_code
abbrev rm_Mo_setMask : Room := { frames := 0, cells := 0, slots := 0, locals := 0 }
def y_Mo_known : MethodName := ⟨R_Mo, "known", "(I)Z"⟩
abbrev b_Mo_known : ByteArray := prog_6_method_21_code
abbrev rm_Mo_known : Room := { frames := 0, cells := 0, slots := 0, locals := 0 }
def y_Mo_isX : MethodName := ⟨R_Mo, "isX", "(I)Z"⟩
abbrev b_Mo_isX : ByteArray := prog_6_method_22_code
abbrev rm_Mo_isX : Room := { frames := 0, cells := 0, slots := 0, locals := 0 }
def y_Mo_twoOperands : MethodName := ⟨R_Mo, "twoOperands", "(I)V"⟩
abbrev b_Mo_twoOperands : ByteArray := prog_6_method_23_code
abbrev rm_Mo_twoOperands : Room := { frames := 3, cells := 0, slots := 0, locals := 69 }
def y_Mo_base : MethodName := ⟨R_Mo, "base", "()I"⟩
abbrev b_Mo_base : ByteArray := prog_6_method_24_code
abbrev rm_Mo_base : Room := { frames := 2, cells := 0, slots := 0, locals := 42 }
def y_Mo_lineOperand : MethodName := ⟨R_Mo, "lineOperand", "(IZ)V"⟩
abbrev b_Mo_lineOperand : ByteArray := prog_6_method_25_code
abbrev rm_Mo_lineOperand : Room := { frames := 3, cells := 0, slots := 0, locals := 69 }
def y_Mo_withRegister : MethodName := ⟨R_Mo, "withRegister", "(I)V"⟩
abbrev b_Mo_withRegister : ByteArray := prog_6_method_26_code
abbrev rm_Mo_withRegister : Room := { frames := 4, cells := 0, slots := 0, locals := 98 }
def y_Mo_holds : MethodName := ⟨R_Mo, "holds", "(I)Z"⟩
abbrev b_Mo_holds : ByteArray := prog_6_method_27_code
abbrev rm_Mo_holds : Room := { frames := 1, cells := 0, slots := 0, locals := 21 }
def y_Mo_jumpOrLine : MethodName := ⟨R_Mo, "jumpOrLine", "(I)V"⟩
abbrev b_Mo_jumpOrLine : ByteArray := prog_6_method_28_code
abbrev rm_Mo_jumpOrLine : Room := { frames := 3, cells := 0, slots := 0, locals := 62 }
def y_Mo_shift : MethodName := ⟨R_Mo, "shift", "(I)V"⟩
abbrev b_Mo_shift : ByteArray := prog_6_method_29_code
abbrev rm_Mo_shift : Room := { frames := 3, cells := 0, slots := 0, locals := 65 }
def y_Mo_oneOperand : MethodName := ⟨R_Mo, "oneOperand", "(I)V"⟩
abbrev b_Mo_oneOperand : ByteArray := prog_6_method_30_code
abbrev rm_Mo_oneOperand : Room := { frames := 3, cells := 0, slots := 0, locals := 69 }
def y_Mo_immediate : MethodName := ⟨R_Mo, "immediate", "(II)V"⟩
abbrev b_Mo_immediate : ByteArray := prog_6_method_31_code
abbrev rm_Mo_immediate : Room := { frames := 3, cells := 0, slots := 0, locals := 65 }
def y_Mo_inner : MethodName := ⟨R_Mo, "inner", "(I)I"⟩
abbrev b_Mo_inner : ByteArray := prog_6_method_32_code
abbrev rm_Mo_inner : Room := { frames := 4, cells := 0, slots := 0, locals := 90 }
def y_Mo_does : MethodName := ⟨R_Mo, "does", "(I)I"⟩
abbrev b_Mo_does : ByteArray := prog_6_method_33_code
abbrev rm_Mo_does : Room := { frames := 5, cells := 0, slots := 0, locals := 126 }
def y_Mo_fetched : MethodName := ⟨R_Mo, "fetched", "()I"⟩
abbrev b_Mo_fetched : ByteArray := prog_6_method_34_code
abbrev rm_Mo_fetched : Room := { frames := 6, cells := 0, slots := 0, locals := 147 }
def y_Mo_step : MethodName := ⟨R_Mo, "step", "()I"⟩
abbrev b_Mo_step : ByteArray := prog_6_method_35_code
abbrev rm_Mo_step : Room := { frames := 7, cells := 0, slots := 0, locals := 170 }
def y_Mo_reset : MethodName := ⟨R_Mo, "reset", "()V"⟩
abbrev b_Mo_reset : ByteArray := prog_6_method_36_code
abbrev rm_Mo_reset : Room := { frames := 3, cells := 0, slots := 0, locals := 68 }
def y_Mo_isAddress : MethodName := ⟨R_Mo, "isAddress", "(I)Z"⟩
abbrev b_Mo_isAddress : ByteArray := prog_6_method_37_code
abbrev rm_Mo_isAddress : Room := { frames := 0, cells := 0, slots := 0, locals := 0 }
def y_Mo_poke : MethodName := ⟨R_Mo, "poke", "(IC)V"⟩
abbrev b_Mo_poke : ByteArray := prog_6_method_38_code
abbrev rm_Mo_poke : Room := { frames := 1, cells := 0, slots := 0, locals := 22 }
def y_Mo_peek : MethodName := ⟨R_Mo, "peek", "(I)C"⟩
abbrev b_Mo_peek : ByteArray := prog_6_method_39_code
abbrev rm_Mo_peek : Room := { frames := 1, cells := 0, slots := 0, locals := 21 }
def y_Mo_level : MethodName := ⟨R_Mo, "level", "(I)V"⟩
abbrev b_Mo_level : ByteArray := prog_6_method_40_code
abbrev rm_Mo_level : Room := { frames := 1, cells := 0, slots := 0, locals := 21 }
def y_Mo_wire : MethodName := ⟨R_Mo, "wire", "(IZ)V"⟩
abbrev b_Mo_wire : ByteArray := prog_6_method_41_code
abbrev rm_Mo_wire : Room := { frames := 1, cells := 0, slots := 0, locals := 21 }
def y_Mo_line : MethodName := ⟨R_Mo, "line", "(I)Z"⟩
abbrev b_Mo_line : ByteArray := prog_6_method_42_code
abbrev rm_Mo_line : Room := { frames := 1, cells := 0, slots := 0, locals := 21 }
def y_Mo_state : MethodName := ⟨R_Mo, "state", "(I)I"⟩
abbrev b_Mo_state : ByteArray := prog_6_method_43_code
abbrev rm_Mo_state : Room := { frames := 1, cells := 0, slots := 0, locals := 21 }
def y_Li_init : MethodName := ⟨R_Li, "<init>", "()V"⟩
abbrev b_Li_init : ByteArray := prog_2_method_1_code
abbrev rm_Li_init : Room := { frames := 0, cells := 0, slots := 0, locals := 0 }
def y_Li_isOn : MethodName := ⟨R_Li, "isOn", "(I)Z"⟩
abbrev b_Li_isOn : ByteArray := prog_2_method_2_code
abbrev rm_Li_isOn : Room := { frames := 1, cells := 0, slots := 0, locals := 20 }
def y_Li_set : MethodName := ⟨R_Li, "set", "(IZ)V"⟩
abbrev b_Li_set : ByteArray := prog_2_method_3_code
abbrev rm_Li_set : Room := { frames := 1, cells := 0, slots := 0, locals := 20 }
def y_Li_bitOf : MethodName := ⟨R_Li, "bitOf", "(I)J"⟩
abbrev b_Li_bitOf : ByteArray := prog_2_method_4_code
abbrev rm_Li_bitOf : Room := { frames := 0, cells := 0, slots := 0, locals := 0 }
def y_Me_init : MethodName := ⟨R_Me, "<init>", "()V"⟩
abbrev b_Me_init : ByteArray := prog_3_method_1_code
abbrev rm_Me_init : Room := { frames := 0, cells := 0, slots := 0, locals := 0 }
def y_Me_word : MethodName := ⟨R_Me, "word", "(I)I"⟩
abbrev b_Me_word : ByteArray := prog_3_method_2_code
abbrev rm_Me_word : Room := { frames := 0, cells := 0, slots := 0, locals := 0 }
def y_Me_setWord : MethodName := ⟨R_Me, "setWord", "(II)V"⟩
abbrev b_Me_setWord : ByteArray := prog_3_method_3_code
abbrev rm_Me_setWord : Room := { frames := 0, cells := 0, slots := 0, locals := 0 }
def y_Me_load : MethodName := ⟨R_Me, "load", "(II)I"⟩
abbrev b_Me_load : ByteArray := prog_3_method_4_code
abbrev rm_Me_load : Room := { frames := 1, cells := 0, slots := 0, locals := 21 }
def y_Me_store : MethodName := ⟨R_Me, "store", "(III)V"⟩
abbrev b_Me_store : ByteArray := prog_3_method_5_code
abbrev rm_Me_store : Room := { frames := 1, cells := 0, slots := 0, locals := 22 }
def y_Me_isUpper : MethodName := ⟨R_Me, "isUpper", "(I)Z"⟩
abbrev b_Me_isUpper : ByteArray := prog_3_method_6_code
abbrev rm_Me_isUpper : Room := { frames := 0, cells := 0, slots := 0, locals := 0 }
def y_St_init : MethodName := ⟨R_St, "<init>", "()V"⟩
abbrev b_St_init : ByteArray := prog_4_method_1_code
abbrev rm_St_init : Room := { frames := 0, cells := 0, slots := 0, locals := 0 }
def y_St_bits : MethodName := ⟨R_St, "bits", "()I"⟩
abbrev b_St_bits : ByteArray := prog_4_method_2_code
abbrev rm_St_bits : Room := { frames := 0, cells := 0, slots := 0, locals := 0 }
def y_St_setBits : MethodName := ⟨R_St, "setBits", "(I)V"⟩
abbrev b_St_setBits : ByteArray := prog_4_method_3_code
abbrev rm_St_setBits : Room := { frames := 0, cells := 0, slots := 0, locals := 0 }
def y_St_mask : MethodName := ⟨R_St, "mask", "()I"⟩
abbrev b_St_mask : ByteArray := prog_4_method_4_code
abbrev rm_St_mask : Room := { frames := 0, cells := 0, slots := 0, locals := 0 }
def y_St_setMask : MethodName := ⟨R_St, "setMask", "(I)V"⟩
abbrev b_St_setMask : ByteArray := prog_4_method_5_code
abbrev rm_St_setMask : Room := { frames := 0, cells := 0, slots := 0, locals := 0 }
def y_St_has : MethodName := ⟨R_St, "has", "(I)Z"⟩
abbrev b_St_has : ByteArray := prog_4_method_6_code
abbrev rm_St_has : Room := { frames := 0, cells := 0, slots := 0, locals := 0 }
def y_St_mark : MethodName := ⟨R_St, "mark", "(IZ)V"⟩
abbrev b_St_mark : ByteArray := prog_4_method_7_code
abbrev rm_St_mark : Room := { frames := 0, cells := 0, slots := 0, locals := 0 }
def y_St_compare : MethodName := ⟨R_St, "compare", "(II)V"⟩
abbrev b_St_compare : ByteArray := prog_4_method_8_code
abbrev rm_St_compare : Room := { frames := 0, cells := 0, slots := 0, locals := 0 }
def y_St_tested : MethodName := ⟨R_St, "tested", "(I)I"⟩
abbrev b_St_tested : ByteArray := prog_4_method_9_code
abbrev rm_St_tested : Room := { frames := 1, cells := 0, slots := 0, locals := 25 }
def y_St_sum : MethodName := ⟨R_St, "sum", "(III)I"⟩
abbrev b_St_sum : ByteArray := prog_4_method_10_code
abbrev rm_St_sum : Room := { frames := 2, cells := 0, slots := 0, locals := 46 }
def y_St_markParity : MethodName := ⟨R_St, "markParity", "(II)V"⟩
abbrev b_St_markParity : ByteArray := prog_4_method_11_code
abbrev rm_St_markParity : Room := { frames := 1, cells := 0, slots := 0, locals := 22 }
def y_In_bitCount : MethodName := ⟨R_In, "bitCount", "(I)I"⟩
abbrev b_In_bitCount : ByteArray := prog_9_method_49_code
abbrev rm_In_bitCount : Room := { frames := 0, cells := 0, slots := 0, locals := 0 }
/-- the class's state: words, lines, ST, WP, PC, the level, idle -/
abbrev CSt : Type := (Nat → Int32) × Int64 × Int32 × Int32 × Int32 × Int32 × Int32
/-- its addresses: the machine, Memory, the words, Lines, Status; the class of char[] -/
abbrev CAd : Type := Nat × Nat × Nat × Nat × Nat × ClassId
def cw (a : CAd) (u : CSt) : va_W := [(a.1, .inr (3, [.ref a.2.1, .ref a.2.2.2.1, .ref a.2.2.2.2.1, .int u.2.2.2.1, .int u.2.2.2.2.1, .int u.2.2.2.2.2.1, .int u.2.2.2.2.2.2])), (a.2.1, .inr (1, [.ref a.2.2.1])), (a.2.2.1, .inl (a.2.2.2.2.2, 512, .inl u.1)), (a.2.2.2.1, .inr (0, [.long u.2.1])), (a.2.2.2.2.1, .inr (2, [.int u.2.2.1]))]
def FA (a : CAd) : Nat → Prop := fun q => q ∈ [a.1, a.2.1, a.2.2.1, a.2.2.2.1, a.2.2.2.2.1]
def ApC (a : CAd) : Prop := va_J [a.1, a.2.1, a.2.2.1, a.2.2.2.1, a.2.2.2.2.1]
abbrev tyC (a : CAd) : List (ClassId × FieldType) := [(a.2.2.2.2.2, .char)]
theorem dd_C {a : CAd} (hA : ApC a) (u : CSt) : va_D (FA a) (cw a u) := d_of (ws := cw a u) hA
/-- the reference's state: words, lines, thrown, wp, pc, st, level, idle, grown, was -/
abbrev RSt : Type := (Nat → Int32) × (Nat → Int32) × Int32 × Int32 × Int32 × Int32 × Int32 × Int32 × Int32 × Int32
/-- its addresses: the object, its words, its lines; the classes of int[] and boolean[] -/
abbrev RAd : Type := Nat × Nat × Nat × ClassId × ClassId
def mw (a : RAd) (u : RSt) : va_W := [(a.1, .inr (4, [.int u.2.2.1, .ref a.2.1, .ref a.2.2.1, .int u.2.2.2.1, .int u.2.2.2.2.1, .int u.2.2.2.2.2.1, .int u.2.2.2.2.2.2.1, .int u.2.2.2.2.2.2.2.1, .int u.2.2.2.2.2.2.2.2.1, .int u.2.2.2.2.2.2.2.2.2])), (a.2.1, .inl (a.2.2.2.1, 512, .inl u.1)), (a.2.2.1, .inl (a.2.2.2.2, 64, .inl u.2.1))]
def FB (a : RAd) : Nat → Prop := fun q => q ∈ [a.1, a.2.1, a.2.2.1]
def ApR (a : RAd) : Prop := va_J [a.1, a.2.1, a.2.2.1]
abbrev tyR (a : RAd) : List (ClassId × FieldType) := [(a.2.2.2.1, .int), (a.2.2.2.2, .boolean)]
theorem dd_R {a : RAd} (hA : ApR a) (u : RSt) : va_D (FB a) (mw a u) := d_of (ws := mw a u) hA
theorem ix_C (x : Int32) : vp_in ((x &&& 1023) >>> (1 &&& 31)) 512 := by
  rw [pk_and x 10 (by decide)]
  rw [pk_shrN (k := 1) (by omega) (1 &&& 31) (by decide)]
  exact vp_in_nI (by omega) (by decide)
theorem ix_R (x : Int32) : vp_in ((x >>> (1 &&& 31)) &&& 511) 512 := pk_andIn _ 9 (by decide) (by decide)
theorem ix_63 (x : Int32) : vp_in (x &&& 63) 64 := pk_andIn _ 6 (by decide) (by decide)
theorem t_0 : Cond.selects R_M y_M_switchThrough y_M_switchThrough ∈ TB := mt 0 (by decide +kernel) (by decide +kernel)
theorem t_1 : Cond.selects R_M y_M_setWorkspace y_M_setWorkspace ∈ TB := mt 1 (by decide +kernel) (by decide +kernel)
theorem t_2 : Cond.selects R_M y_M_setRegister y_M_setRegister ∈ TB := mt 2 (by decide +kernel) (by decide +kernel)
theorem t_3 : Cond.selects R_M y_M_registerAddress y_M_registerAddress ∈ TB := mt 3 (by decide +kernel) (by decide +kernel)
theorem t_4 : Cond.selects R_M y_M_setCounter y_M_setCounter ∈ TB := mt 4 (by decide +kernel) (by decide +kernel)
theorem t_5 : Cond.selects R_M y_M_interrupt y_M_interrupt ∈ TB := mt 5 (by decide +kernel) (by decide +kernel)
theorem t_6 : Cond.selects R_M y_M_fetch y_M_fetch ∈ TB := mt 6 (by decide +kernel) (by decide +kernel)
theorem t_7 : Cond.selects R_M y_M_register y_M_register ∈ TB := mt 7 (by decide +kernel) (by decide +kernel)
theorem t_8 : Cond.selects R_M y_M_operandAddress y_M_operandAddress ∈ TB := mt 8 (by decide +kernel) (by decide +kernel)
theorem t_9 : Cond.selects R_M y_M_run y_M_run ∈ TB := mt 9 (by decide +kernel) (by decide +kernel)
theorem t_10 : Cond.selects R_M y_M_runOnTwoOperands y_M_runOnTwoOperands ∈ TB := mt 10 (by decide +kernel) (by decide +kernel)
theorem t_11 : Cond.selects R_M y_M_combined y_M_combined ∈ TB := mt 11 (by decide +kernel) (by decide +kernel)
theorem t_12 : Cond.selects R_M y_M_runOnRegisterAndOperand y_M_runOnRegisterAndOperand ∈ TB := mt 12 (by decide +kernel) (by decide +kernel)
theorem t_13 : Cond.selects R_M y_M_callExtended y_M_callExtended ∈ TB := mt 13 (by decide +kernel) (by decide +kernel)
theorem t_14 : Cond.selects R_M y_M_sendLines y_M_sendLines ∈ TB := mt 14 (by decide +kernel) (by decide +kernel)
theorem t_15 : Cond.selects R_M y_M_receiveLines y_M_receiveLines ∈ TB := mt 15 (by decide +kernel) (by decide +kernel)
theorem t_16 : Cond.selects R_M y_M_combineIntoRegister y_M_combineIntoRegister ∈ TB := mt 16 (by decide +kernel) (by decide +kernel)
theorem t_17 : Cond.selects R_M y_M_multiply y_M_multiply ∈ TB := mt 17 (by decide +kernel) (by decide +kernel)
theorem t_18 : Cond.selects R_M y_M_divide y_M_divide ∈ TB := mt 18 (by decide +kernel) (by decide +kernel)
theorem t_19 : Cond.selects R_M y_M_runJump y_M_runJump ∈ TB := mt 19 (by decide +kernel) (by decide +kernel)
theorem t_20 : Cond.selects R_M y_M_isJumpTaken y_M_isJumpTaken ∈ TB := mt 20 (by decide +kernel) (by decide +kernel)
theorem t_21 : Cond.selects R_M y_M_runOnLine y_M_runOnLine ∈ TB := mt 21 (by decide +kernel) (by decide +kernel)
theorem t_22 : Cond.selects R_M y_M_runShift y_M_runShift ∈ TB := mt 22 (by decide +kernel) (by decide +kernel)
theorem t_23 : Cond.selects R_M y_M_shiftCount y_M_shiftCount ∈ TB := mt 23 (by decide +kernel) (by decide +kernel)
theorem t_24 : Cond.selects R_M y_M_runOnOneOperand y_M_runOnOneOperand ∈ TB := mt 24 (by decide +kernel) (by decide +kernel)
theorem t_25 : Cond.selects R_M y_M_changed y_M_changed ∈ TB := mt 25 (by decide +kernel) (by decide +kernel)
theorem t_26 : Cond.selects R_M y_M_negated y_M_negated ∈ TB := mt 26 (by decide +kernel) (by decide +kernel)
theorem t_27 : Cond.selects R_M y_M_withoutSign y_M_withoutSign ∈ TB := mt 27 (by decide +kernel) (by decide +kernel)
theorem t_28 : Cond.selects R_M y_M_runImmediateOrControl y_M_runImmediateOrControl ∈ TB := mt 28 (by decide +kernel) (by decide +kernel)
theorem t_29 : Cond.selects R_M y_M_runImmediate y_M_runImmediate ∈ TB := mt 29 (by decide +kernel) (by decide +kernel)
theorem t_30 : Cond.selects R_M y_M_switchBack y_M_switchBack ∈ TB := mt 30 (by decide +kernel) (by decide +kernel)
theorem t_32 : Cond.selects R_Mo y_Mo_change y_Mo_change ∈ TB := mt 32 (by decide +kernel) (by decide +kernel)
theorem t_33 : Cond.selects R_Mo y_Mo_word y_Mo_word ∈ TB := mt 33 (by decide +kernel) (by decide +kernel)
theorem t_34 : Cond.selects R_Mo y_Mo_setRegister y_Mo_setRegister ∈ TB := mt 34 (by decide +kernel) (by decide +kernel)
theorem t_35 : Cond.selects R_Mo y_Mo_setWord y_Mo_setWord ∈ TB := mt 35 (by decide +kernel) (by decide +kernel)
theorem t_36 : Cond.selects R_Mo y_Mo_setMask y_Mo_setMask ∈ TB := mt 36 (by decide +kernel) (by decide +kernel)
theorem t_37 : Cond.selects R_Mo y_Mo_fetched y_Mo_fetched ∈ TB := mt 37 (by decide +kernel) (by decide +kernel)
theorem t_38 : Cond.selects R_Mo y_Mo_next y_Mo_next ∈ TB := mt 38 (by decide +kernel) (by decide +kernel)
theorem t_39 : Cond.selects R_Mo y_Mo_address y_Mo_address ∈ TB := mt 39 (by decide +kernel) (by decide +kernel)
theorem t_40 : Cond.selects R_Mo y_Mo_register y_Mo_register ∈ TB := mt 40 (by decide +kernel) (by decide +kernel)
theorem t_41 : Cond.selects R_Mo y_Mo_does y_Mo_does ∈ TB := mt 41 (by decide +kernel) (by decide +kernel)
theorem t_42 : Cond.selects R_Mo y_Mo_twoOperands y_Mo_twoOperands ∈ TB := mt 42 (by decide +kernel) (by decide +kernel)
theorem t_43 : Cond.selects R_Mo y_Mo_value y_Mo_value ∈ TB := mt 43 (by decide +kernel) (by decide +kernel)
theorem t_44 : Cond.selects R_Mo y_Mo_sum y_Mo_sum ∈ TB := mt 44 (by decide +kernel) (by decide +kernel)
theorem t_45 : Cond.selects R_Mo y_Mo_flag y_Mo_flag ∈ TB := mt 45 (by decide +kernel) (by decide +kernel)
theorem t_46 : Cond.selects R_Mo y_Mo_compare y_Mo_compare ∈ TB := mt 46 (by decide +kernel) (by decide +kernel)
theorem t_47 : Cond.selects R_Mo y_Mo_test y_Mo_test ∈ TB := mt 47 (by decide +kernel) (by decide +kernel)
theorem t_48 : Cond.selects R_Mo y_Mo_store y_Mo_store ∈ TB := mt 48 (by decide +kernel) (by decide +kernel)
theorem t_49 : Cond.selects R_Mo y_Mo_parity y_Mo_parity ∈ TB := mt 49 (by decide +kernel) (by decide +kernel)
theorem t_50 : Cond.selects R_Mo y_Mo_withRegister y_Mo_withRegister ∈ TB := mt 50 (by decide +kernel) (by decide +kernel)
theorem t_51 : Cond.selects R_Mo y_Mo_lineOperand y_Mo_lineOperand ∈ TB := mt 51 (by decide +kernel) (by decide +kernel)
theorem t_52 : Cond.selects R_Mo y_Mo_base y_Mo_base ∈ TB := mt 52 (by decide +kernel) (by decide +kernel)
theorem t_53 : Cond.selects R_Mo y_Mo_jumpOrLine y_Mo_jumpOrLine ∈ TB := mt 53 (by decide +kernel) (by decide +kernel)
theorem t_54 : Cond.selects R_Mo y_Mo_holds y_Mo_holds ∈ TB := mt 54 (by decide +kernel) (by decide +kernel)
theorem t_55 : Cond.selects R_Mo y_Mo_has y_Mo_has ∈ TB := mt 55 (by decide +kernel) (by decide +kernel)
theorem t_56 : Cond.selects R_Mo y_Mo_shift y_Mo_shift ∈ TB := mt 56 (by decide +kernel) (by decide +kernel)
theorem t_57 : Cond.selects R_Mo y_Mo_oneOperand y_Mo_oneOperand ∈ TB := mt 57 (by decide +kernel) (by decide +kernel)
theorem t_58 : Cond.selects R_Mo y_Mo_inner y_Mo_inner ∈ TB := mt 58 (by decide +kernel) (by decide +kernel)
theorem t_59 : Cond.selects R_Mo y_Mo_immediate y_Mo_immediate ∈ TB := mt 59 (by decide +kernel) (by decide +kernel)
theorem t_60 : Cond.selects R_Mo y_Mo_fails y_Mo_fails ∈ TB := mt 60 (by decide +kernel) (by decide +kernel)
theorem t_62 : Cond.initialized R_M ∈ TB := mt 62 (by decide +kernel) (by decide +kernel)
theorem t_63 : Cond.initialized R_Me ∈ TB := mt 63 (by decide +kernel) (by decide +kernel)
theorem t_64 : Cond.initialized R_Li ∈ TB := mt 64 (by decide +kernel) (by decide +kernel)
theorem t_65 : Cond.initialized R_St ∈ TB := mt 65 (by decide +kernel) (by decide +kernel)
theorem t_66 : Cond.initialized R_Mo ∈ TB := mt 66 (by decide +kernel) (by decide +kernel)
theorem t_71 : Cond.initialized R_In ∈ TB := mt 71 (by decide +kernel) (by decide +kernel)
theorem t_86 : Cond.fieldLink R_Me 9 "WorkspaceMachine$Memory" "words" "[C" ∈ TB := mt 86 (by decide +kernel) (by decide +kernel)
theorem t_97 : Cond.fieldLink R_Li 9 "WorkspaceMachine$Lines" "bits" "J" ∈ TB := mt 97 (by decide +kernel) (by decide +kernel)
theorem t_107 : Cond.fieldLink R_St 9 "WorkspaceMachine$Status" "bits" "I" ∈ TB := mt 107 (by decide +kernel) (by decide +kernel)
theorem t_111 : Cond.fieldLink R_M 12 "WorkspaceMachine" "memory" "LWorkspaceMachine$Memory;" ∈ TB := mt 111 (by decide +kernel) (by decide +kernel)
theorem t_112 : Cond.fieldLink R_M 19 "WorkspaceMachine" "lines" "LWorkspaceMachine$Lines;" ∈ TB := mt 112 (by decide +kernel) (by decide +kernel)
theorem t_113 : Cond.fieldLink R_M 26 "WorkspaceMachine" "status" "LWorkspaceMachine$Status;" ∈ TB := mt 113 (by decide +kernel) (by decide +kernel)
theorem t_114 : Cond.fieldLink R_M 107 "WorkspaceMachine" "workspace" "I" ∈ TB := mt 114 (by decide +kernel) (by decide +kernel)
theorem t_115 : Cond.fieldLink R_M 71 "WorkspaceMachine" "counter" "I" ∈ TB := mt 115 (by decide +kernel) (by decide +kernel)
theorem t_116 : Cond.fieldLink R_M 30 "WorkspaceMachine" "requested" "I" ∈ TB := mt 116 (by decide +kernel) (by decide +kernel)
theorem t_117 : Cond.fieldLink R_M 41 "WorkspaceMachine" "idle" "Z" ∈ TB := mt 117 (by decide +kernel) (by decide +kernel)
theorem t_137 : Cond.methodLink R_M 34 y_M_switchThrough ∈ TB := mt 137 (by decide +kernel) (by decide +kernel)
theorem t_139 : Cond.instanceMethod y_M_switchThrough ∈ TB := mt 139 (by decide +kernel) (by decide +kernel)
theorem t_140 : Cond.code y_M_switchThrough b_M_switchThrough 5 none ∈ TB := mt 140 (by decide +kernel) (by decide +kernel)
theorem t_141 : Cond.methodLink R_M 60 y_Me_word ∈ TB := mt 141 (by decide +kernel) (by decide +kernel)
theorem t_142 : Cond.instanceMethod y_Me_word ∈ TB := mt 142 (by decide +kernel) (by decide +kernel)
theorem t_143 : Cond.selects R_Me y_Me_word y_Me_word ∈ TB := mt 143 (by decide +kernel) (by decide +kernel)
theorem t_144 : Cond.code y_Me_word b_Me_word 2 (some .int) ∈ TB := mt 144 (by decide +kernel) (by decide +kernel)
theorem t_145 : Cond.methodLink R_M 122 y_M_setWorkspace ∈ TB := mt 145 (by decide +kernel) (by decide +kernel)
theorem t_147 : Cond.instanceMethod y_M_setWorkspace ∈ TB := mt 147 (by decide +kernel) (by decide +kernel)
theorem t_148 : Cond.code y_M_setWorkspace b_M_setWorkspace 2 none ∈ TB := mt 148 (by decide +kernel) (by decide +kernel)
theorem t_149 : Cond.methodLink R_M 90 y_M_setRegister ∈ TB := mt 149 (by decide +kernel) (by decide +kernel)
theorem t_151 : Cond.instanceMethod y_M_setRegister ∈ TB := mt 151 (by decide +kernel) (by decide +kernel)
theorem t_152 : Cond.code y_M_setRegister b_M_setRegister 3 none ∈ TB := mt 152 (by decide +kernel) (by decide +kernel)
theorem t_153 : Cond.methodLink R_M 119 y_M_registerAddress ∈ TB := mt 153 (by decide +kernel) (by decide +kernel)
theorem t_155 : Cond.instanceMethod y_M_registerAddress ∈ TB := mt 155 (by decide +kernel) (by decide +kernel)
theorem t_156 : Cond.code y_M_registerAddress b_M_registerAddress 2 (some .int) ∈ TB := mt 156 (by decide +kernel) (by decide +kernel)
theorem t_157 : Cond.methodLink R_M 56 y_Me_setWord ∈ TB := mt 157 (by decide +kernel) (by decide +kernel)
theorem t_158 : Cond.instanceMethod y_Me_setWord ∈ TB := mt 158 (by decide +kernel) (by decide +kernel)
theorem t_159 : Cond.selects R_Me y_Me_setWord y_Me_setWord ∈ TB := mt 159 (by decide +kernel) (by decide +kernel)
theorem t_160 : Cond.code y_Me_setWord b_Me_setWord 3 none ∈ TB := mt 160 (by decide +kernel) (by decide +kernel)
theorem t_161 : Cond.methodLink R_M 110 y_St_bits ∈ TB := mt 161 (by decide +kernel) (by decide +kernel)
theorem t_162 : Cond.instanceMethod y_St_bits ∈ TB := mt 162 (by decide +kernel) (by decide +kernel)
theorem t_163 : Cond.selects R_St y_St_bits y_St_bits ∈ TB := mt 163 (by decide +kernel) (by decide +kernel)
theorem t_164 : Cond.code y_St_bits b_St_bits 1 (some .int) ∈ TB := mt 164 (by decide +kernel) (by decide +kernel)
theorem t_165 : Cond.methodLink R_M 116 y_M_setCounter ∈ TB := mt 165 (by decide +kernel) (by decide +kernel)
theorem t_167 : Cond.instanceMethod y_M_setCounter ∈ TB := mt 167 (by decide +kernel) (by decide +kernel)
theorem t_168 : Cond.code y_M_setCounter b_M_setCounter 2 none ∈ TB := mt 168 (by decide +kernel) (by decide +kernel)
theorem t_169 : Cond.methodLink R_M 38 y_St_setMask ∈ TB := mt 169 (by decide +kernel) (by decide +kernel)
theorem t_170 : Cond.instanceMethod y_St_setMask ∈ TB := mt 170 (by decide +kernel) (by decide +kernel)
theorem t_171 : Cond.selects R_St y_St_setMask y_St_setMask ∈ TB := mt 171 (by decide +kernel) (by decide +kernel)
theorem t_172 : Cond.code y_St_setMask b_St_setMask 2 none ∈ TB := mt 172 (by decide +kernel) (by decide +kernel)
theorem t_177 : Cond.methodLink R_M 64 y_St_mask ∈ TB := mt 177 (by decide +kernel) (by decide +kernel)
theorem t_178 : Cond.instanceMethod y_St_mask ∈ TB := mt 178 (by decide +kernel) (by decide +kernel)
theorem t_179 : Cond.selects R_St y_St_mask y_St_mask ∈ TB := mt 179 (by decide +kernel) (by decide +kernel)
theorem t_180 : Cond.code y_St_mask b_St_mask 1 (some .int) ∈ TB := mt 180 (by decide +kernel) (by decide +kernel)
theorem t_181 : Cond.methodLink R_M 68 y_M_interrupt ∈ TB := mt 181 (by decide +kernel) (by decide +kernel)
theorem t_183 : Cond.instanceMethod y_M_interrupt ∈ TB := mt 183 (by decide +kernel) (by decide +kernel)
theorem t_184 : Cond.code y_M_interrupt b_M_interrupt 1 none ∈ TB := mt 184 (by decide +kernel) (by decide +kernel)
theorem t_185 : Cond.methodLink R_M 74 y_M_fetch ∈ TB := mt 185 (by decide +kernel) (by decide +kernel)
theorem t_187 : Cond.instanceMethod y_M_fetch ∈ TB := mt 187 (by decide +kernel) (by decide +kernel)
theorem t_188 : Cond.code y_M_fetch b_M_fetch 2 (some .int) ∈ TB := mt 188 (by decide +kernel) (by decide +kernel)
theorem t_189 : Cond.methodLink R_M 77 y_M_register ∈ TB := mt 189 (by decide +kernel) (by decide +kernel)
theorem t_191 : Cond.instanceMethod y_M_register ∈ TB := mt 191 (by decide +kernel) (by decide +kernel)
theorem t_192 : Cond.code y_M_register b_M_register 2 (some .int) ∈ TB := mt 192 (by decide +kernel) (by decide +kernel)
theorem t_193 : Cond.methodLink R_M 80 y_M_isExecute ∈ TB := mt 193 (by decide +kernel) (by decide +kernel)
theorem t_194 : Cond.static y_M_isExecute ∈ TB := mt 194 (by decide +kernel) (by decide +kernel)
theorem t_195 : Cond.code y_M_isExecute b_M_isExecute 1 (some .boolean) ∈ TB := mt 195 (by decide +kernel) (by decide +kernel)
theorem t_196 : Cond.constant R_M 115 (65472) ∈ TB := mt 196 (by decide +kernel) (by decide +kernel)
theorem t_197 : Cond.methodLink R_M 83 y_M_operandAddress ∈ TB := mt 197 (by decide +kernel) (by decide +kernel)
theorem t_199 : Cond.instanceMethod y_M_operandAddress ∈ TB := mt 199 (by decide +kernel) (by decide +kernel)
theorem t_200 : Cond.code y_M_operandAddress b_M_operandAddress 5 (some .int) ∈ TB := mt 200 (by decide +kernel) (by decide +kernel)
theorem t_201 : Cond.methodLink R_M 87 y_M_run ∈ TB := mt 201 (by decide +kernel) (by decide +kernel)
theorem t_203 : Cond.instanceMethod y_M_run ∈ TB := mt 203 (by decide +kernel) (by decide +kernel)
theorem t_204 : Cond.code y_M_run b_M_run 2 (some .int) ∈ TB := mt 204 (by decide +kernel) (by decide +kernel)
theorem t_205 : Cond.methodLink R_M 125 y_M_runOnTwoOperands ∈ TB := mt 205 (by decide +kernel) (by decide +kernel)
theorem t_207 : Cond.instanceMethod y_M_runOnTwoOperands ∈ TB := mt 207 (by decide +kernel) (by decide +kernel)
theorem t_208 : Cond.code y_M_runOnTwoOperands b_M_runOnTwoOperands 8 (some .int) ∈ TB := mt 208 (by decide +kernel) (by decide +kernel)
theorem t_209 : Cond.methodLink R_M 146 y_Me_load ∈ TB := mt 209 (by decide +kernel) (by decide +kernel)
theorem t_210 : Cond.instanceMethod y_Me_load ∈ TB := mt 210 (by decide +kernel) (by decide +kernel)
theorem t_211 : Cond.selects R_Me y_Me_load y_Me_load ∈ TB := mt 211 (by decide +kernel) (by decide +kernel)
theorem t_212 : Cond.code y_Me_load b_Me_load 4 (some .int) ∈ TB := mt 212 (by decide +kernel) (by decide +kernel)
theorem t_213 : Cond.methodLink R_Me 15 y_Me_word ∈ TB := mt 213 (by decide +kernel) (by decide +kernel)
theorem t_214 : Cond.methodLink R_Me 19 y_Me_isUpper ∈ TB := mt 214 (by decide +kernel) (by decide +kernel)
theorem t_215 : Cond.static y_Me_isUpper ∈ TB := mt 215 (by decide +kernel) (by decide +kernel)
theorem t_216 : Cond.code y_Me_isUpper b_Me_isUpper 1 (some .boolean) ∈ TB := mt 216 (by decide +kernel) (by decide +kernel)
theorem t_217 : Cond.constant R_Me 23 (65280) ∈ TB := mt 217 (by decide +kernel) (by decide +kernel)
theorem t_218 : Cond.methodLink R_M 149 y_St_compare ∈ TB := mt 218 (by decide +kernel) (by decide +kernel)
theorem t_219 : Cond.instanceMethod y_St_compare ∈ TB := mt 219 (by decide +kernel) (by decide +kernel)
theorem t_220 : Cond.selects R_St y_St_compare y_St_compare ∈ TB := mt 220 (by decide +kernel) (by decide +kernel)
theorem t_221 : Cond.code y_St_compare b_St_compare 6 none ∈ TB := mt 221 (by decide +kernel) (by decide +kernel)
theorem t_222 : Cond.constant R_St 15 (32768) ∈ TB := mt 222 (by decide +kernel) (by decide +kernel)
theorem t_223 : Cond.constant R_St 16 (-57345) ∈ TB := mt 223 (by decide +kernel) (by decide +kernel)
theorem t_224 : Cond.methodLink R_M 152 y_St_markParity ∈ TB := mt 224 (by decide +kernel) (by decide +kernel)
theorem t_225 : Cond.instanceMethod y_St_markParity ∈ TB := mt 225 (by decide +kernel) (by decide +kernel)
theorem t_226 : Cond.selects R_St y_St_markParity y_St_markParity ∈ TB := mt 226 (by decide +kernel) (by decide +kernel)
theorem t_227 : Cond.code y_St_markParity b_St_markParity 3 none ∈ TB := mt 227 (by decide +kernel) (by decide +kernel)
theorem t_228 : Cond.methodLink R_St 30 y_In_bitCount ∈ TB := mt 228 (by decide +kernel) (by decide +kernel)
theorem t_229 : Cond.static y_In_bitCount ∈ TB := mt 229 (by decide +kernel) (by decide +kernel)
theorem t_230 : Cond.code y_In_bitCount b_In_bitCount 1 (some .int) ∈ TB := mt 230 (by decide +kernel) (by decide +kernel)
theorem t_231 : Cond.constant R_In 265 (1431655765) ∈ TB := mt 231 (by decide +kernel) (by decide +kernel)
theorem t_232 : Cond.constant R_In 266 (858993459) ∈ TB := mt 232 (by decide +kernel) (by decide +kernel)
theorem t_233 : Cond.constant R_In 267 (252645135) ∈ TB := mt 233 (by decide +kernel) (by decide +kernel)
theorem t_234 : Cond.methodLink R_St 22 y_St_mark ∈ TB := mt 234 (by decide +kernel) (by decide +kernel)
theorem t_235 : Cond.instanceMethod y_St_mark ∈ TB := mt 235 (by decide +kernel) (by decide +kernel)
theorem t_236 : Cond.selects R_St y_St_mark y_St_mark ∈ TB := mt 236 (by decide +kernel) (by decide +kernel)
theorem t_237 : Cond.code y_St_mark b_St_mark 3 none ∈ TB := mt 237 (by decide +kernel) (by decide +kernel)
theorem t_238 : Cond.methodLink R_M 155 y_M_combined ∈ TB := mt 238 (by decide +kernel) (by decide +kernel)
theorem t_240 : Cond.instanceMethod y_M_combined ∈ TB := mt 240 (by decide +kernel) (by decide +kernel)
theorem t_241 : Cond.code y_M_combined b_M_combined 4 (some .int) ∈ TB := mt 241 (by decide +kernel) (by decide +kernel)
theorem t_242 : Cond.methodLink R_M 163 y_St_tested ∈ TB := mt 242 (by decide +kernel) (by decide +kernel)
theorem t_243 : Cond.instanceMethod y_St_tested ∈ TB := mt 243 (by decide +kernel) (by decide +kernel)
theorem t_244 : Cond.selects R_St y_St_tested y_St_tested ∈ TB := mt 244 (by decide +kernel) (by decide +kernel)
theorem t_245 : Cond.code y_St_tested b_St_tested 2 (some .int) ∈ TB := mt 245 (by decide +kernel) (by decide +kernel)
theorem t_246 : Cond.methodLink R_St 17 y_St_compare ∈ TB := mt 246 (by decide +kernel) (by decide +kernel)
theorem t_247 : Cond.constant R_M 166 (65535) ∈ TB := mt 247 (by decide +kernel) (by decide +kernel)
theorem t_248 : Cond.methodLink R_M 167 y_St_sum ∈ TB := mt 248 (by decide +kernel) (by decide +kernel)
theorem t_249 : Cond.instanceMethod y_St_sum ∈ TB := mt 249 (by decide +kernel) (by decide +kernel)
theorem t_250 : Cond.selects R_St y_St_sum y_St_sum ∈ TB := mt 250 (by decide +kernel) (by decide +kernel)
theorem t_251 : Cond.code y_St_sum b_St_sum 6 (some .int) ∈ TB := mt 251 (by decide +kernel) (by decide +kernel)
theorem t_252 : Cond.constant R_St 21 (65535) ∈ TB := mt 252 (by decide +kernel) (by decide +kernel)
theorem t_253 : Cond.methodLink R_St 26 y_St_tested ∈ TB := mt 253 (by decide +kernel) (by decide +kernel)
theorem t_254 : Cond.methodLink R_M 159 y_Me_store ∈ TB := mt 254 (by decide +kernel) (by decide +kernel)
theorem t_255 : Cond.instanceMethod y_Me_store ∈ TB := mt 255 (by decide +kernel) (by decide +kernel)
theorem t_256 : Cond.selects R_Me y_Me_store y_Me_store ∈ TB := mt 256 (by decide +kernel) (by decide +kernel)
theorem t_257 : Cond.code y_Me_store b_Me_store 4 none ∈ TB := mt 257 (by decide +kernel) (by decide +kernel)
theorem t_258 : Cond.methodLink R_Me 24 y_Me_setWord ∈ TB := mt 258 (by decide +kernel) (by decide +kernel)
theorem t_259 : Cond.methodLink R_M 128 y_M_runOnRegisterAndOperand ∈ TB := mt 259 (by decide +kernel) (by decide +kernel)
theorem t_261 : Cond.instanceMethod y_M_runOnRegisterAndOperand ∈ TB := mt 261 (by decide +kernel) (by decide +kernel)
theorem t_262 : Cond.code y_M_runOnRegisterAndOperand b_M_runOnRegisterAndOperand 4 (some .int) ∈ TB := mt 262 (by decide +kernel) (by decide +kernel)
theorem t_263 : Cond.methodLink R_M 170 y_M_callExtended ∈ TB := mt 263 (by decide +kernel) (by decide +kernel)
theorem t_265 : Cond.instanceMethod y_M_callExtended ∈ TB := mt 265 (by decide +kernel) (by decide +kernel)
theorem t_266 : Cond.code y_M_callExtended b_M_callExtended 3 none ∈ TB := mt 266 (by decide +kernel) (by decide +kernel)
theorem t_267 : Cond.methodLink R_M 182 y_St_mark ∈ TB := mt 267 (by decide +kernel) (by decide +kernel)
theorem t_268 : Cond.methodLink R_M 173 y_M_sendLines ∈ TB := mt 268 (by decide +kernel) (by decide +kernel)
theorem t_270 : Cond.instanceMethod y_M_sendLines ∈ TB := mt 270 (by decide +kernel) (by decide +kernel)
theorem t_271 : Cond.code y_M_sendLines b_M_sendLines 8 none ∈ TB := mt 271 (by decide +kernel) (by decide +kernel)
theorem t_272 : Cond.methodLink R_M 185 y_M_sizeForLines ∈ TB := mt 272 (by decide +kernel) (by decide +kernel)
theorem t_273 : Cond.static y_M_sizeForLines ∈ TB := mt 273 (by decide +kernel) (by decide +kernel)
theorem t_274 : Cond.code y_M_sizeForLines b_M_sizeForLines 1 (some .int) ∈ TB := mt 274 (by decide +kernel) (by decide +kernel)
theorem t_275 : Cond.methodLink R_M 100 y_Li_set ∈ TB := mt 275 (by decide +kernel) (by decide +kernel)
theorem t_276 : Cond.instanceMethod y_Li_set ∈ TB := mt 276 (by decide +kernel) (by decide +kernel)
theorem t_277 : Cond.selects R_Li y_Li_set y_Li_set ∈ TB := mt 277 (by decide +kernel) (by decide +kernel)
theorem t_278 : Cond.code y_Li_set b_Li_set 3 none ∈ TB := mt 278 (by decide +kernel) (by decide +kernel)
theorem t_279 : Cond.methodLink R_Li 15 y_Li_bitOf ∈ TB := mt 279 (by decide +kernel) (by decide +kernel)
theorem t_280 : Cond.static y_Li_bitOf ∈ TB := mt 280 (by decide +kernel) (by decide +kernel)
theorem t_281 : Cond.code y_Li_bitOf b_Li_bitOf 1 (some .long) ∈ TB := mt 281 (by decide +kernel) (by decide +kernel)
theorem t_282 : Cond.constantLong R_Li 19 (-1) ∈ TB := mt 282 (by decide +kernel) (by decide +kernel)
theorem t_283 : Cond.methodLink R_M 176 y_M_receiveLines ∈ TB := mt 283 (by decide +kernel) (by decide +kernel)
theorem t_285 : Cond.instanceMethod y_M_receiveLines ∈ TB := mt 285 (by decide +kernel) (by decide +kernel)
theorem t_286 : Cond.code y_M_receiveLines b_M_receiveLines 8 none ∈ TB := mt 286 (by decide +kernel) (by decide +kernel)
theorem t_287 : Cond.methodLink R_M 104 y_Li_isOn ∈ TB := mt 287 (by decide +kernel) (by decide +kernel)
theorem t_288 : Cond.instanceMethod y_Li_isOn ∈ TB := mt 288 (by decide +kernel) (by decide +kernel)
theorem t_289 : Cond.selects R_Li y_Li_isOn y_Li_isOn ∈ TB := mt 289 (by decide +kernel) (by decide +kernel)
theorem t_290 : Cond.code y_Li_isOn b_Li_isOn 2 (some .boolean) ∈ TB := mt 290 (by decide +kernel) (by decide +kernel)
theorem t_291 : Cond.methodLink R_M 179 y_M_combineIntoRegister ∈ TB := mt 291 (by decide +kernel) (by decide +kernel)
theorem t_293 : Cond.instanceMethod y_M_combineIntoRegister ∈ TB := mt 293 (by decide +kernel) (by decide +kernel)
theorem t_294 : Cond.code y_M_combineIntoRegister b_M_combineIntoRegister 5 none ∈ TB := mt 294 (by decide +kernel) (by decide +kernel)
theorem t_295 : Cond.methodLink R_M 188 y_M_multiply ∈ TB := mt 295 (by decide +kernel) (by decide +kernel)
theorem t_297 : Cond.instanceMethod y_M_multiply ∈ TB := mt 297 (by decide +kernel) (by decide +kernel)
theorem t_298 : Cond.code y_M_multiply b_M_multiply 6 none ∈ TB := mt 298 (by decide +kernel) (by decide +kernel)
theorem t_299 : Cond.methodLink R_M 191 y_M_divide ∈ TB := mt 299 (by decide +kernel) (by decide +kernel)
theorem t_301 : Cond.instanceMethod y_M_divide ∈ TB := mt 301 (by decide +kernel) (by decide +kernel)
theorem t_302 : Cond.code y_M_divide b_M_divide 7 none ∈ TB := mt 302 (by decide +kernel) (by decide +kernel)
theorem t_303 : Cond.methodLink R_M 131 y_M_runJump ∈ TB := mt 303 (by decide +kernel) (by decide +kernel)
theorem t_305 : Cond.instanceMethod y_M_runJump ∈ TB := mt 305 (by decide +kernel) (by decide +kernel)
theorem t_306 : Cond.code y_M_runJump b_M_runJump 2 (some .int) ∈ TB := mt 306 (by decide +kernel) (by decide +kernel)
theorem t_307 : Cond.methodLink R_M 194 y_M_isJumpTaken ∈ TB := mt 307 (by decide +kernel) (by decide +kernel)
theorem t_309 : Cond.instanceMethod y_M_isJumpTaken ∈ TB := mt 309 (by decide +kernel) (by decide +kernel)
theorem t_310 : Cond.code y_M_isJumpTaken b_M_isJumpTaken 5 (some .boolean) ∈ TB := mt 310 (by decide +kernel) (by decide +kernel)
theorem t_311 : Cond.constant R_M 197 (32768) ∈ TB := mt 311 (by decide +kernel) (by decide +kernel)
theorem t_312 : Cond.methodLink R_M 198 y_St_has ∈ TB := mt 312 (by decide +kernel) (by decide +kernel)
theorem t_313 : Cond.instanceMethod y_St_has ∈ TB := mt 313 (by decide +kernel) (by decide +kernel)
theorem t_314 : Cond.selects R_St y_St_has y_St_has ∈ TB := mt 314 (by decide +kernel) (by decide +kernel)
theorem t_315 : Cond.code y_St_has b_St_has 2 (some .boolean) ∈ TB := mt 315 (by decide +kernel) (by decide +kernel)
theorem t_316 : Cond.methodLink R_M 134 y_M_runOnLine ∈ TB := mt 316 (by decide +kernel) (by decide +kernel)
theorem t_318 : Cond.instanceMethod y_M_runOnLine ∈ TB := mt 318 (by decide +kernel) (by decide +kernel)
theorem t_319 : Cond.code y_M_runOnLine b_M_runOnLine 3 (some .int) ∈ TB := mt 319 (by decide +kernel) (by decide +kernel)
theorem t_320 : Cond.methodLink R_M 137 y_M_runShift ∈ TB := mt 320 (by decide +kernel) (by decide +kernel)
theorem t_322 : Cond.instanceMethod y_M_runShift ∈ TB := mt 322 (by decide +kernel) (by decide +kernel)
theorem t_323 : Cond.code y_M_runShift b_M_runShift 10 (some .int) ∈ TB := mt 323 (by decide +kernel) (by decide +kernel)
theorem t_324 : Cond.methodLink R_M 201 y_M_shiftCount ∈ TB := mt 324 (by decide +kernel) (by decide +kernel)
theorem t_326 : Cond.instanceMethod y_M_shiftCount ∈ TB := mt 326 (by decide +kernel) (by decide +kernel)
theorem t_327 : Cond.code y_M_shiftCount b_M_shiftCount 3 (some .int) ∈ TB := mt 327 (by decide +kernel) (by decide +kernel)
theorem t_328 : Cond.methodLink R_M 204 y_M_shiftedOnce ∈ TB := mt 328 (by decide +kernel) (by decide +kernel)
theorem t_329 : Cond.static y_M_shiftedOnce ∈ TB := mt 329 (by decide +kernel) (by decide +kernel)
theorem t_330 : Cond.code y_M_shiftedOnce b_M_shiftedOnce 2 (some .int) ∈ TB := mt 330 (by decide +kernel) (by decide +kernel)
theorem t_331 : Cond.methodLink R_M 140 y_M_runOnOneOperand ∈ TB := mt 331 (by decide +kernel) (by decide +kernel)
theorem t_333 : Cond.instanceMethod y_M_runOnOneOperand ∈ TB := mt 333 (by decide +kernel) (by decide +kernel)
theorem t_334 : Cond.code y_M_runOnOneOperand b_M_runOnOneOperand 4 (some .int) ∈ TB := mt 334 (by decide +kernel) (by decide +kernel)
theorem t_335 : Cond.methodLink R_M 207 y_M_changed ∈ TB := mt 335 (by decide +kernel) (by decide +kernel)
theorem t_337 : Cond.instanceMethod y_M_changed ∈ TB := mt 337 (by decide +kernel) (by decide +kernel)
theorem t_338 : Cond.code y_M_changed b_M_changed 3 (some .int) ∈ TB := mt 338 (by decide +kernel) (by decide +kernel)
theorem t_339 : Cond.methodLink R_M 210 y_M_negated ∈ TB := mt 339 (by decide +kernel) (by decide +kernel)
theorem t_341 : Cond.instanceMethod y_M_negated ∈ TB := mt 341 (by decide +kernel) (by decide +kernel)
theorem t_342 : Cond.code y_M_negated b_M_negated 2 (some .int) ∈ TB := mt 342 (by decide +kernel) (by decide +kernel)
theorem t_343 : Cond.constant R_M 213 (65534) ∈ TB := mt 343 (by decide +kernel) (by decide +kernel)
theorem t_344 : Cond.methodLink R_M 214 y_M_withoutSign ∈ TB := mt 344 (by decide +kernel) (by decide +kernel)
theorem t_346 : Cond.instanceMethod y_M_withoutSign ∈ TB := mt 346 (by decide +kernel) (by decide +kernel)
theorem t_347 : Cond.code y_M_withoutSign b_M_withoutSign 2 (some .int) ∈ TB := mt 347 (by decide +kernel) (by decide +kernel)
theorem t_348 : Cond.methodLink R_M 143 y_M_runImmediateOrControl ∈ TB := mt 348 (by decide +kernel) (by decide +kernel)
theorem t_350 : Cond.instanceMethod y_M_runImmediateOrControl ∈ TB := mt 350 (by decide +kernel) (by decide +kernel)
theorem t_351 : Cond.code y_M_runImmediateOrControl b_M_runImmediateOrControl 4 (some .int) ∈ TB := mt 351 (by decide +kernel) (by decide +kernel)
theorem t_352 : Cond.methodLink R_M 217 y_M_runImmediate ∈ TB := mt 352 (by decide +kernel) (by decide +kernel)
theorem t_354 : Cond.instanceMethod y_M_runImmediate ∈ TB := mt 354 (by decide +kernel) (by decide +kernel)
theorem t_355 : Cond.code y_M_runImmediate b_M_runImmediate 4 none ∈ TB := mt 355 (by decide +kernel) (by decide +kernel)
theorem t_356 : Cond.methodLink R_M 220 y_M_switchBack ∈ TB := mt 356 (by decide +kernel) (by decide +kernel)
theorem t_358 : Cond.instanceMethod y_M_switchBack ∈ TB := mt 358 (by decide +kernel) (by decide +kernel)
theorem t_359 : Cond.code y_M_switchBack b_M_switchBack 1 none ∈ TB := mt 359 (by decide +kernel) (by decide +kernel)
theorem t_360 : Cond.methodLink R_M 223 y_St_setBits ∈ TB := mt 360 (by decide +kernel) (by decide +kernel)
theorem t_361 : Cond.instanceMethod y_St_setBits ∈ TB := mt 361 (by decide +kernel) (by decide +kernel)
theorem t_362 : Cond.selects R_St y_St_setBits y_St_setBits ∈ TB := mt 362 (by decide +kernel) (by decide +kernel)
theorem t_363 : Cond.code y_St_setBits b_St_setBits 2 none ∈ TB := mt 363 (by decide +kernel) (by decide +kernel)
theorem t_372 : Cond.methodLink R_M 45 y_M_isWordAddress ∈ TB := mt 372 (by decide +kernel) (by decide +kernel)
theorem t_373 : Cond.static y_M_isWordAddress ∈ TB := mt 373 (by decide +kernel) (by decide +kernel)
theorem t_374 : Cond.code y_M_isWordAddress b_M_isWordAddress 1 (some .boolean) ∈ TB := mt 374 (by decide +kernel) (by decide +kernel)
theorem t_463 : Cond.methodLink R_M 95 y_M_isLine ∈ TB := mt 463 (by decide +kernel) (by decide +kernel)
theorem t_464 : Cond.static y_M_isLine ∈ TB := mt 464 (by decide +kernel) (by decide +kernel)
theorem t_465 : Cond.code y_M_isLine b_M_isLine 1 (some .boolean) ∈ TB := mt 465 (by decide +kernel) (by decide +kernel)
theorem t_488 : Cond.fieldLink R_Mo 21 "WorkspaceMachineModel" "thrown" "I" ∈ TB := mt 488 (by decide +kernel) (by decide +kernel)
theorem t_489 : Cond.fieldLink R_Mo 7 "WorkspaceMachineModel" "words" "[I" ∈ TB := mt 489 (by decide +kernel) (by decide +kernel)
theorem t_490 : Cond.fieldLink R_Mo 13 "WorkspaceMachineModel" "lines" "[Z" ∈ TB := mt 490 (by decide +kernel) (by decide +kernel)
theorem t_491 : Cond.fieldLink R_Mo 25 "WorkspaceMachineModel" "wp" "I" ∈ TB := mt 491 (by decide +kernel) (by decide +kernel)
theorem t_492 : Cond.fieldLink R_Mo 36 "WorkspaceMachineModel" "pc" "I" ∈ TB := mt 492 (by decide +kernel) (by decide +kernel)
theorem t_493 : Cond.fieldLink R_Mo 56 "WorkspaceMachineModel" "st" "I" ∈ TB := mt 493 (by decide +kernel) (by decide +kernel)
theorem t_494 : Cond.fieldLink R_Mo 17 "WorkspaceMachineModel" "level" "I" ∈ TB := mt 494 (by decide +kernel) (by decide +kernel)
theorem t_495 : Cond.fieldLink R_Mo 120 "WorkspaceMachineModel" "idle" "Z" ∈ TB := mt 495 (by decide +kernel) (by decide +kernel)
theorem t_496 : Cond.fieldLink R_Mo 47 "WorkspaceMachineModel" "grown" "I" ∈ TB := mt 496 (by decide +kernel) (by decide +kernel)
theorem t_497 : Cond.fieldLink R_Mo 50 "WorkspaceMachineModel" "was" "I" ∈ TB := mt 497 (by decide +kernel) (by decide +kernel)
theorem t_529 : Cond.methodLink R_Mo 99 y_Mo_change ∈ TB := mt 529 (by decide +kernel) (by decide +kernel)
theorem t_531 : Cond.instanceMethod y_Mo_change ∈ TB := mt 531 (by decide +kernel) (by decide +kernel)
theorem t_532 : Cond.code y_Mo_change b_Mo_change 5 none ∈ TB := mt 532 (by decide +kernel) (by decide +kernel)
theorem t_533 : Cond.methodLink R_Mo 28 y_Mo_word ∈ TB := mt 533 (by decide +kernel) (by decide +kernel)
theorem t_535 : Cond.instanceMethod y_Mo_word ∈ TB := mt 535 (by decide +kernel) (by decide +kernel)
theorem t_536 : Cond.code y_Mo_word b_Mo_word 2 (some .int) ∈ TB := mt 536 (by decide +kernel) (by decide +kernel)
theorem t_537 : Cond.methodLink R_Mo 53 y_Mo_setRegister ∈ TB := mt 537 (by decide +kernel) (by decide +kernel)
theorem t_539 : Cond.instanceMethod y_Mo_setRegister ∈ TB := mt 539 (by decide +kernel) (by decide +kernel)
theorem t_540 : Cond.code y_Mo_setRegister b_Mo_setRegister 3 none ∈ TB := mt 540 (by decide +kernel) (by decide +kernel)
theorem t_541 : Cond.methodLink R_Mo 32 y_Mo_setWord ∈ TB := mt 541 (by decide +kernel) (by decide +kernel)
theorem t_543 : Cond.instanceMethod y_Mo_setWord ∈ TB := mt 543 (by decide +kernel) (by decide +kernel)
theorem t_544 : Cond.code y_Mo_setWord b_Mo_setWord 3 none ∈ TB := mt 544 (by decide +kernel) (by decide +kernel)
theorem t_545 : Cond.constant R_Mo 24 (65535) ∈ TB := mt 545 (by decide +kernel) (by decide +kernel)
theorem t_546 : Cond.methodLink R_Mo 114 y_Mo_setMask ∈ TB := mt 546 (by decide +kernel) (by decide +kernel)
theorem t_548 : Cond.instanceMethod y_Mo_setMask ∈ TB := mt 548 (by decide +kernel) (by decide +kernel)
theorem t_549 : Cond.code y_Mo_setMask b_Mo_setMask 2 none ∈ TB := mt 549 (by decide +kernel) (by decide +kernel)
theorem t_550 : Cond.methodLink R_Mo 151 y_Mo_fetched ∈ TB := mt 550 (by decide +kernel) (by decide +kernel)
theorem t_552 : Cond.instanceMethod y_Mo_fetched ∈ TB := mt 552 (by decide +kernel) (by decide +kernel)
theorem t_553 : Cond.code y_Mo_fetched b_Mo_fetched 4 (some .int) ∈ TB := mt 553 (by decide +kernel) (by decide +kernel)
theorem t_554 : Cond.methodLink R_Mo 43 y_Mo_next ∈ TB := mt 554 (by decide +kernel) (by decide +kernel)
theorem t_556 : Cond.instanceMethod y_Mo_next ∈ TB := mt 556 (by decide +kernel) (by decide +kernel)
theorem t_557 : Cond.code y_Mo_next b_Mo_next 2 (some .int) ∈ TB := mt 557 (by decide +kernel) (by decide +kernel)
theorem t_558 : Cond.methodLink R_Mo 142 y_Mo_known ∈ TB := mt 558 (by decide +kernel) (by decide +kernel)
theorem t_559 : Cond.static y_Mo_known ∈ TB := mt 559 (by decide +kernel) (by decide +kernel)
theorem t_560 : Cond.code y_Mo_known b_Mo_known 1 (some .boolean) ∈ TB := mt 560 (by decide +kernel) (by decide +kernel)
theorem t_561 : Cond.methodLink R_Mo 145 y_Mo_isX ∈ TB := mt 561 (by decide +kernel) (by decide +kernel)
theorem t_562 : Cond.static y_Mo_isX ∈ TB := mt 562 (by decide +kernel) (by decide +kernel)
theorem t_563 : Cond.code y_Mo_isX b_Mo_isX 1 (some .boolean) ∈ TB := mt 563 (by decide +kernel) (by decide +kernel)
theorem t_564 : Cond.methodLink R_Mo 71 y_Mo_address ∈ TB := mt 564 (by decide +kernel) (by decide +kernel)
theorem t_566 : Cond.instanceMethod y_Mo_address ∈ TB := mt 566 (by decide +kernel) (by decide +kernel)
theorem t_567 : Cond.code y_Mo_address b_Mo_address 6 (some .int) ∈ TB := mt 567 (by decide +kernel) (by decide +kernel)
theorem t_568 : Cond.methodLink R_Mo 40 y_Mo_register ∈ TB := mt 568 (by decide +kernel) (by decide +kernel)
theorem t_570 : Cond.instanceMethod y_Mo_register ∈ TB := mt 570 (by decide +kernel) (by decide +kernel)
theorem t_571 : Cond.code y_Mo_register b_Mo_register 2 (some .int) ∈ TB := mt 571 (by decide +kernel) (by decide +kernel)
theorem t_572 : Cond.methodLink R_Mo 148 y_Mo_does ∈ TB := mt 572 (by decide +kernel) (by decide +kernel)
theorem t_574 : Cond.instanceMethod y_Mo_does ∈ TB := mt 574 (by decide +kernel) (by decide +kernel)
theorem t_575 : Cond.code y_Mo_does b_Mo_does 2 (some .int) ∈ TB := mt 575 (by decide +kernel) (by decide +kernel)
theorem t_576 : Cond.methodLink R_Mo 124 y_Mo_twoOperands ∈ TB := mt 576 (by decide +kernel) (by decide +kernel)
theorem t_578 : Cond.instanceMethod y_Mo_twoOperands ∈ TB := mt 578 (by decide +kernel) (by decide +kernel)
theorem t_579 : Cond.code y_Mo_twoOperands b_Mo_twoOperands 9 none ∈ TB := mt 579 (by decide +kernel) (by decide +kernel)
theorem t_580 : Cond.methodLink R_Mo 75 y_Mo_value ∈ TB := mt 580 (by decide +kernel) (by decide +kernel)
theorem t_582 : Cond.instanceMethod y_Mo_value ∈ TB := mt 582 (by decide +kernel) (by decide +kernel)
theorem t_583 : Cond.code y_Mo_value b_Mo_value 4 (some .int) ∈ TB := mt 583 (by decide +kernel) (by decide +kernel)
theorem t_584 : Cond.constant R_Mo 39 (65280) ∈ TB := mt 584 (by decide +kernel) (by decide +kernel)
theorem t_585 : Cond.methodLink R_Mo 78 y_Mo_sum ∈ TB := mt 585 (by decide +kernel) (by decide +kernel)
theorem t_587 : Cond.instanceMethod y_Mo_sum ∈ TB := mt 587 (by decide +kernel) (by decide +kernel)
theorem t_588 : Cond.code y_Mo_sum b_Mo_sum 7 (some .int) ∈ TB := mt 588 (by decide +kernel) (by decide +kernel)
theorem t_589 : Cond.methodLink R_Mo 61 y_Mo_flag ∈ TB := mt 589 (by decide +kernel) (by decide +kernel)
theorem t_591 : Cond.instanceMethod y_Mo_flag ∈ TB := mt 591 (by decide +kernel) (by decide +kernel)
theorem t_592 : Cond.code y_Mo_flag b_Mo_flag 3 none ∈ TB := mt 592 (by decide +kernel) (by decide +kernel)
theorem t_593 : Cond.constant R_Mo 60 (32768) ∈ TB := mt 593 (by decide +kernel) (by decide +kernel)
theorem t_594 : Cond.methodLink R_Mo 68 y_Mo_compare ∈ TB := mt 594 (by decide +kernel) (by decide +kernel)
theorem t_596 : Cond.instanceMethod y_Mo_compare ∈ TB := mt 596 (by decide +kernel) (by decide +kernel)
theorem t_597 : Cond.code y_Mo_compare b_Mo_compare 3 none ∈ TB := mt 597 (by decide +kernel) (by decide +kernel)
theorem t_598 : Cond.methodLink R_Mo 65 y_Mo_signed ∈ TB := mt 598 (by decide +kernel) (by decide +kernel)
theorem t_599 : Cond.static y_Mo_signed ∈ TB := mt 599 (by decide +kernel) (by decide +kernel)
theorem t_600 : Cond.code y_Mo_signed b_Mo_signed 1 (some .int) ∈ TB := mt 600 (by decide +kernel) (by decide +kernel)
theorem t_601 : Cond.constant R_Mo 59 (65536) ∈ TB := mt 601 (by decide +kernel) (by decide +kernel)
theorem t_602 : Cond.methodLink R_Mo 82 y_Mo_test ∈ TB := mt 602 (by decide +kernel) (by decide +kernel)
theorem t_604 : Cond.instanceMethod y_Mo_test ∈ TB := mt 604 (by decide +kernel) (by decide +kernel)
theorem t_605 : Cond.code y_Mo_test b_Mo_test 2 none ∈ TB := mt 605 (by decide +kernel) (by decide +kernel)
theorem t_606 : Cond.methodLink R_Mo 86 y_Mo_store ∈ TB := mt 606 (by decide +kernel) (by decide +kernel)
theorem t_608 : Cond.instanceMethod y_Mo_store ∈ TB := mt 608 (by decide +kernel) (by decide +kernel)
theorem t_609 : Cond.code y_Mo_store b_Mo_store 5 none ∈ TB := mt 609 (by decide +kernel) (by decide +kernel)
theorem t_610 : Cond.methodLink R_Mo 90 y_Mo_parity ∈ TB := mt 610 (by decide +kernel) (by decide +kernel)
theorem t_612 : Cond.instanceMethod y_Mo_parity ∈ TB := mt 612 (by decide +kernel) (by decide +kernel)
theorem t_613 : Cond.code y_Mo_parity b_Mo_parity 4 none ∈ TB := mt 613 (by decide +kernel) (by decide +kernel)
theorem t_614 : Cond.methodLink R_Mo 127 y_Mo_withRegister ∈ TB := mt 614 (by decide +kernel) (by decide +kernel)
theorem t_616 : Cond.instanceMethod y_Mo_withRegister ∈ TB := mt 616 (by decide +kernel) (by decide +kernel)
theorem t_617 : Cond.code y_Mo_withRegister b_Mo_withRegister 9 none ∈ TB := mt 617 (by decide +kernel) (by decide +kernel)
theorem t_618 : Cond.methodLink R_Mo 96 y_Mo_lineOperand ∈ TB := mt 618 (by decide +kernel) (by decide +kernel)
theorem t_620 : Cond.instanceMethod y_Mo_lineOperand ∈ TB := mt 620 (by decide +kernel) (by decide +kernel)
theorem t_621 : Cond.code y_Mo_lineOperand b_Mo_lineOperand 10 none ∈ TB := mt 621 (by decide +kernel) (by decide +kernel)
theorem t_622 : Cond.methodLink R_Mo 93 y_Mo_base ∈ TB := mt 622 (by decide +kernel) (by decide +kernel)
theorem t_624 : Cond.instanceMethod y_Mo_base ∈ TB := mt 624 (by decide +kernel) (by decide +kernel)
theorem t_625 : Cond.code y_Mo_base b_Mo_base 1 (some .int) ∈ TB := mt 625 (by decide +kernel) (by decide +kernel)
theorem t_626 : Cond.constantLong R_Mo 102 (65535) ∈ TB := mt 626 (by decide +kernel) (by decide +kernel)
theorem t_627 : Cond.constantLong R_Mo 104 (65536) ∈ TB := mt 627 (by decide +kernel) (by decide +kernel)
theorem t_628 : Cond.methodLink R_Mo 130 y_Mo_jumpOrLine ∈ TB := mt 628 (by decide +kernel) (by decide +kernel)
theorem t_630 : Cond.instanceMethod y_Mo_jumpOrLine ∈ TB := mt 630 (by decide +kernel) (by decide +kernel)
theorem t_631 : Cond.code y_Mo_jumpOrLine b_Mo_jumpOrLine 5 none ∈ TB := mt 631 (by decide +kernel) (by decide +kernel)
theorem t_632 : Cond.methodLink R_Mo 110 y_Mo_holds ∈ TB := mt 632 (by decide +kernel) (by decide +kernel)
theorem t_634 : Cond.instanceMethod y_Mo_holds ∈ TB := mt 634 (by decide +kernel) (by decide +kernel)
theorem t_635 : Cond.code y_Mo_holds b_Mo_holds 4 (some .boolean) ∈ TB := mt 635 (by decide +kernel) (by decide +kernel)
theorem t_636 : Cond.methodLink R_Mo 106 y_Mo_has ∈ TB := mt 636 (by decide +kernel) (by decide +kernel)
theorem t_638 : Cond.instanceMethod y_Mo_has ∈ TB := mt 638 (by decide +kernel) (by decide +kernel)
theorem t_639 : Cond.code y_Mo_has b_Mo_has 2 (some .boolean) ∈ TB := mt 639 (by decide +kernel) (by decide +kernel)
theorem t_640 : Cond.methodLink R_Mo 133 y_Mo_shift ∈ TB := mt 640 (by decide +kernel) (by decide +kernel)
theorem t_642 : Cond.instanceMethod y_Mo_shift ∈ TB := mt 642 (by decide +kernel) (by decide +kernel)
theorem t_643 : Cond.code y_Mo_shift b_Mo_shift 11 none ∈ TB := mt 643 (by decide +kernel) (by decide +kernel)
theorem t_644 : Cond.methodLink R_Mo 136 y_Mo_oneOperand ∈ TB := mt 644 (by decide +kernel) (by decide +kernel)
theorem t_646 : Cond.instanceMethod y_Mo_oneOperand ∈ TB := mt 646 (by decide +kernel) (by decide +kernel)
theorem t_647 : Cond.code y_Mo_oneOperand b_Mo_oneOperand 6 none ∈ TB := mt 647 (by decide +kernel) (by decide +kernel)
theorem t_648 : Cond.constant R_Mo 113 (65534) ∈ TB := mt 648 (by decide +kernel) (by decide +kernel)
theorem t_649 : Cond.methodLink R_Mo 139 y_Mo_inner ∈ TB := mt 649 (by decide +kernel) (by decide +kernel)
theorem t_651 : Cond.instanceMethod y_Mo_inner ∈ TB := mt 651 (by decide +kernel) (by decide +kernel)
theorem t_652 : Cond.code y_Mo_inner b_Mo_inner 4 (some .int) ∈ TB := mt 652 (by decide +kernel) (by decide +kernel)
theorem t_653 : Cond.methodLink R_Mo 117 y_Mo_immediate ∈ TB := mt 653 (by decide +kernel) (by decide +kernel)
theorem t_655 : Cond.instanceMethod y_Mo_immediate ∈ TB := mt 655 (by decide +kernel) (by decide +kernel)
theorem t_656 : Cond.code y_Mo_immediate b_Mo_immediate 6 none ∈ TB := mt 656 (by decide +kernel) (by decide +kernel)
theorem t_665 : Cond.methodLink R_Mo 154 y_Mo_isAddress ∈ TB := mt 665 (by decide +kernel) (by decide +kernel)
theorem t_666 : Cond.static y_Mo_isAddress ∈ TB := mt 666 (by decide +kernel) (by decide +kernel)
theorem t_667 : Cond.code y_Mo_isAddress b_Mo_isAddress 1 (some .boolean) ∈ TB := mt 667 (by decide +kernel) (by decide +kernel)
theorem t_668 : Cond.methodLink R_Mo 157 y_Mo_fails ∈ TB := mt 668 (by decide +kernel) (by decide +kernel)
theorem t_670 : Cond.instanceMethod y_Mo_fails ∈ TB := mt 670 (by decide +kernel) (by decide +kernel)
theorem t_671 : Cond.code y_Mo_fails b_Mo_fails 2 (some .boolean) ∈ TB := mt 671 (by decide +kernel) (by decide +kernel)
end
