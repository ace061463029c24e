section
-- ===== PART A: goes FIRST, ahead of the names: the tables' words, and 'selects' of the private methods out of them =====
/-- a private method of a class that the tables say can be made, by its rows of tables_1 -/
def lw_okq (q : MethodName × Nat) : Prop := (q.1.cls ≠ "java/lang/invoke/MethodHandle" ∧ q.1.cls ≠ "java/lang/invoke/VarHandle") ∧ Cond.instantiable q.1.cls q.2 ∈ tables_1 ∧ Cond.privateMethod q.1 ∈ tables_1 ∧ Cond.instanceMethod q.1 ∈ tables_1
theorem lw_p0 : lw_okq (⟨"WorkspaceMachine", "switchThrough", "(I)V"⟩, 7) := ⟨⟨by decide +kernel, by decide +kernel⟩, List.mem_of_getElem? (i := 12) (by decide +kernel), List.mem_of_getElem? (i := 77) (by decide +kernel), List.mem_of_getElem? (i := 78) (by decide +kernel)⟩
theorem lw_p1 : lw_okq (⟨"WorkspaceMachine", "setWorkspace", "(I)V"⟩, 7) := ⟨⟨by decide +kernel, by decide +kernel⟩, List.mem_of_getElem? (i := 12) (by decide +kernel), List.mem_of_getElem? (i := 85) (by decide +kernel), List.mem_of_getElem? (i := 86) (by decide +kernel)⟩
theorem lw_p2 : lw_okq (⟨"WorkspaceMachine", "setRegister", "(II)V"⟩, 7) := ⟨⟨by decide +kernel, by decide +kernel⟩, List.mem_of_getElem? (i := 12) (by decide +kernel), List.mem_of_getElem? (i := 89) (by decide +kernel), List.mem_of_getElem? (i := 90) (by decide +kernel)⟩
theorem lw_p3 : lw_okq (⟨"WorkspaceMachine", "registerAddress", "(I)I"⟩, 7) := ⟨⟨by decide +kernel, by decide +kernel⟩, List.mem_of_getElem? (i := 12) (by decide +kernel), List.mem_of_getElem? (i := 93) (by decide +kernel), List.mem_of_getElem? (i := 94) (by decide +kernel)⟩
theorem lw_p4 : lw_okq (⟨"WorkspaceMachine", "setCounter", "(I)V"⟩, 7) := ⟨⟨by decide +kernel, by decide +kernel⟩, List.mem_of_getElem? (i := 12) (by decide +kernel), List.mem_of_getElem? (i := 105) (by decide +kernel), List.mem_of_getElem? (i := 106) (by decide +kernel)⟩
theorem lw_p5 : lw_okq (⟨"WorkspaceMachine", "interrupt", "()V"⟩, 7) := ⟨⟨by decide +kernel, by decide +kernel⟩, List.mem_of_getElem? (i := 12) (by decide +kernel), List.mem_of_getElem? (i := 121) (by decide +kernel), List.mem_of_getElem? (i := 122) (by decide +kernel)⟩
theorem lw_p6 : lw_okq (⟨"WorkspaceMachine", "fetch", "()I"⟩, 7) := ⟨⟨by decide +kernel, by decide +kernel⟩, List.mem_of_getElem? (i := 12) (by decide +kernel), List.mem_of_getElem? (i := 125) (by decide +kernel), List.mem_of_getElem? (i := 126) (by decide +kernel)⟩
theorem lw_p7 : lw_okq (⟨"WorkspaceMachine", "register", "(I)I"⟩, 7) := ⟨⟨by decide +kernel, by decide +kernel⟩, List.mem_of_getElem? (i := 12) (by decide +kernel), List.mem_of_getElem? (i := 129) (by decide +kernel), List.mem_of_getElem? (i := 130) (by decide +kernel)⟩
theorem lw_p8 : lw_okq (⟨"WorkspaceMachine", "operandAddress", "(II)I"⟩, 7) := ⟨⟨by decide +kernel, by decide +kernel⟩, List.mem_of_getElem? (i := 12) (by decide +kernel), List.mem_of_getElem? (i := 137) (by decide +kernel), List.mem_of_getElem? (i := 138) (by decide +kernel)⟩
theorem lw_p9 : lw_okq (⟨"WorkspaceMachine", "run", "(I)I"⟩, 7) := ⟨⟨by decide +kernel, by decide +kernel⟩, List.mem_of_getElem? (i := 12) (by decide +kernel), List.mem_of_getElem? (i := 141) (by decide +kernel), List.mem_of_getElem? (i := 142) (by decide +kernel)⟩
theorem lw_p10 : lw_okq (⟨"WorkspaceMachine", "runOnTwoOperands", "(I)I"⟩, 7) := ⟨⟨by decide +kernel, by decide +kernel⟩, List.mem_of_getElem? (i := 12) (by decide +kernel), List.mem_of_getElem? (i := 145) (by decide +kernel), List.mem_of_getElem? (i := 146) (by decide +kernel)⟩
theorem lw_p11 : lw_okq (⟨"WorkspaceMachine", "combined", "(III)I"⟩, 7) := ⟨⟨by decide +kernel, by decide +kernel⟩, List.mem_of_getElem? (i := 12) (by decide +kernel), List.mem_of_getElem? (i := 178) (by decide +kernel), List.mem_of_getElem? (i := 179) (by decide +kernel)⟩
theorem lw_p12 : lw_okq (⟨"WorkspaceMachine", "runOnRegisterAndOperand", "(I)I"⟩, 7) := ⟨⟨by decide +kernel, by decide +kernel⟩, List.mem_of_getElem? (i := 12) (by decide +kernel), List.mem_of_getElem? (i := 199) (by decide +kernel), List.mem_of_getElem? (i := 200) (by decide +kernel)⟩
theorem lw_p13 : lw_okq (⟨"WorkspaceMachine", "callExtended", "(II)V"⟩, 7) := ⟨⟨by decide +kernel, by decide +kernel⟩, List.mem_of_getElem? (i := 12) (by decide +kernel), List.mem_of_getElem? (i := 203) (by decide +kernel), List.mem_of_getElem? (i := 204) (by decide +kernel)⟩
theorem lw_p14 : lw_okq (⟨"WorkspaceMachine", "sendLines", "(II)V"⟩, 7) := ⟨⟨by decide +kernel, by decide +kernel⟩, List.mem_of_getElem? (i := 12) (by decide +kernel), List.mem_of_getElem? (i := 208) (by decide +kernel), List.mem_of_getElem? (i := 209) (by decide +kernel)⟩
theorem lw_p15 : lw_okq (⟨"WorkspaceMachine", "receiveLines", "(II)V"⟩, 7) := ⟨⟨by decide +kernel, by decide +kernel⟩, List.mem_of_getElem? (i := 12) (by decide +kernel), List.mem_of_getElem? (i := 223) (by decide +kernel), List.mem_of_getElem? (i := 224) (by decide +kernel)⟩
def lw_privs_1 : List (MethodName × Nat) := [(⟨"WorkspaceMachine", "switchThrough", "(I)V"⟩, 7), (⟨"WorkspaceMachine", "setWorkspace", "(I)V"⟩, 7), (⟨"WorkspaceMachine", "setRegister", "(II)V"⟩, 7), (⟨"WorkspaceMachine", "registerAddress", "(I)I"⟩, 7), (⟨"WorkspaceMachine", "setCounter", "(I)V"⟩, 7), (⟨"WorkspaceMachine", "interrupt", "()V"⟩, 7), (⟨"WorkspaceMachine", "fetch", "()I"⟩, 7), (⟨"WorkspaceMachine", "register", "(I)I"⟩, 7), (⟨"WorkspaceMachine", "operandAddress", "(II)I"⟩, 7), (⟨"WorkspaceMachine", "run", "(I)I"⟩, 7), (⟨"WorkspaceMachine", "runOnTwoOperands", "(I)I"⟩, 7), (⟨"WorkspaceMachine", "combined", "(III)I"⟩, 7), (⟨"WorkspaceMachine", "runOnRegisterAndOperand", "(I)I"⟩, 7), (⟨"WorkspaceMachine", "callExtended", "(II)V"⟩, 7), (⟨"WorkspaceMachine", "sendLines", "(II)V"⟩, 7), (⟨"WorkspaceMachine", "receiveLines", "(II)V"⟩, 7)]
theorem lw_r1 : ∀ q ∈ lw_privs_1, lw_okq q := List.forall_mem_cons.mpr ⟨lw_p0, List.forall_mem_cons.mpr ⟨lw_p1, List.forall_mem_cons.mpr ⟨lw_p2, List.forall_mem_cons.mpr ⟨lw_p3, List.forall_mem_cons.mpr ⟨lw_p4, List.forall_mem_cons.mpr ⟨lw_p5, List.forall_mem_cons.mpr ⟨lw_p6, List.forall_mem_cons.mpr ⟨lw_p7, List.forall_mem_cons.mpr ⟨lw_p8, List.forall_mem_cons.mpr ⟨lw_p9, List.forall_mem_cons.mpr ⟨lw_p10, List.forall_mem_cons.mpr ⟨lw_p11, List.forall_mem_cons.mpr ⟨lw_p12, List.forall_mem_cons.mpr ⟨lw_p13, List.forall_mem_cons.mpr ⟨lw_p14, List.forall_mem_cons.mpr ⟨lw_p15, fun _ h => absurd h List.not_mem_nil⟩⟩⟩⟩⟩⟩⟩⟩⟩⟩⟩⟩⟩⟩⟩⟩
theorem lw_p16 : lw_okq (⟨"WorkspaceMachine", "combineIntoRegister", "(III)V"⟩, 7) := ⟨⟨by decide +kernel, by decide +kernel⟩, List.mem_of_getElem? (i := 12) (by decide +kernel), List.mem_of_getElem? (i := 231) (by decide +kernel), List.mem_of_getElem? (i := 232) (by decide +kernel)⟩
theorem lw_p17 : lw_okq (⟨"WorkspaceMachine", "multiply", "(III)V"⟩, 7) := ⟨⟨by decide +kernel, by decide +kernel⟩, List.mem_of_getElem? (i := 12) (by decide +kernel), List.mem_of_getElem? (i := 235) (by decide +kernel), List.mem_of_getElem? (i := 236) (by decide +kernel)⟩
theorem lw_p18 : lw_okq (⟨"WorkspaceMachine", "divide", "(III)V"⟩, 7) := ⟨⟨by decide +kernel, by decide +kernel⟩, List.mem_of_getElem? (i := 12) (by decide +kernel), List.mem_of_getElem? (i := 239) (by decide +kernel), List.mem_of_getElem? (i := 240) (by decide +kernel)⟩
theorem lw_p19 : lw_okq (⟨"WorkspaceMachine", "runJump", "(I)I"⟩, 7) := ⟨⟨by decide +kernel, by decide +kernel⟩, List.mem_of_getElem? (i := 12) (by decide +kernel), List.mem_of_getElem? (i := 243) (by decide +kernel), List.mem_of_getElem? (i := 244) (by decide +kernel)⟩
theorem lw_p20 : lw_okq (⟨"WorkspaceMachine", "isJumpTaken", "(I)Z"⟩, 7) := ⟨⟨by decide +kernel, by decide +kernel⟩, List.mem_of_getElem? (i := 12) (by decide +kernel), List.mem_of_getElem? (i := 247) (by decide +kernel), List.mem_of_getElem? (i := 248) (by decide +kernel)⟩
theorem lw_p21 : lw_okq (⟨"WorkspaceMachine", "runOnLine", "(I)I"⟩, 7) := ⟨⟨by decide +kernel, by decide +kernel⟩, List.mem_of_getElem? (i := 12) (by decide +kernel), List.mem_of_getElem? (i := 256) (by decide +kernel), List.mem_of_getElem? (i := 257) (by decide +kernel)⟩
theorem lw_p22 : lw_okq (⟨"WorkspaceMachine", "runShift", "(I)I"⟩, 7) := ⟨⟨by decide +kernel, by decide +kernel⟩, List.mem_of_getElem? (i := 12) (by decide +kernel), List.mem_of_getElem? (i := 260) (by decide +kernel), List.mem_of_getElem? (i := 261) (by decide +kernel)⟩
theorem lw_p23 : lw_okq (⟨"WorkspaceMachine", "shiftCount", "(I)I"⟩, 7) := ⟨⟨by decide +kernel, by decide +kernel⟩, List.mem_of_getElem? (i := 12) (by decide +kernel), List.mem_of_getElem? (i := 264) (by decide +kernel), List.mem_of_getElem? (i := 265) (by decide +kernel)⟩
theorem lw_p24 : lw_okq (⟨"WorkspaceMachine", "runOnOneOperand", "(I)I"⟩, 7) := ⟨⟨by decide +kernel, by decide +kernel⟩, List.mem_of_getElem? (i := 12) (by decide +kernel), List.mem_of_getElem? (i := 271) (by decide +kernel), List.mem_of_getElem? (i := 272) (by decide +kernel)⟩
theorem lw_p25 : lw_okq (⟨"WorkspaceMachine", "changed", "(II)I"⟩, 7) := ⟨⟨by decide +kernel, by decide +kernel⟩, List.mem_of_getElem? (i := 12) (by decide +kernel), List.mem_of_getElem? (i := 275) (by decide +kernel), List.mem_of_getElem? (i := 276) (by decide +kernel)⟩
theorem lw_p26 : lw_okq (⟨"WorkspaceMachine", "negated", "(I)I"⟩, 7) := ⟨⟨by decide +kernel, by decide +kernel⟩, List.mem_of_getElem? (i := 12) (by decide +kernel), List.mem_of_getElem? (i := 279) (by decide +kernel), List.mem_of_getElem? (i := 280) (by decide +kernel)⟩
theorem lw_p27 : lw_okq (⟨"WorkspaceMachine", "withoutSign", "(I)I"⟩, 7) := ⟨⟨by decide +kernel, by decide +kernel⟩, List.mem_of_getElem? (i := 12) (by decide +kernel), List.mem_of_getElem? (i := 284) (by decide +kernel), List.mem_of_getElem? (i := 285) (by decide +kernel)⟩
theorem lw_p28 : lw_okq (⟨"WorkspaceMachine", "runImmediateOrControl", "(I)I"⟩, 7) := ⟨⟨by decide +kernel, by decide +kernel⟩, List.mem_of_getElem? (i := 12) (by decide +kernel), List.mem_of_getElem? (i := 288) (by decide +kernel), List.mem_of_getElem? (i := 289) (by decide +kernel)⟩
theorem lw_p29 : lw_okq (⟨"WorkspaceMachine", "runImmediate", "(III)V"⟩, 7) := ⟨⟨by decide +kernel, by decide +kernel⟩, List.mem_of_getElem? (i := 12) (by decide +kernel), List.mem_of_getElem? (i := 292) (by decide +kernel), List.mem_of_getElem? (i := 293) (by decide +kernel)⟩
theorem lw_p30 : lw_okq (⟨"WorkspaceMachine", "switchBack", "()V"⟩, 7) := ⟨⟨by decide +kernel, by decide +kernel⟩, List.mem_of_getElem? (i := 12) (by decide +kernel), List.mem_of_getElem? (i := 296) (by decide +kernel), List.mem_of_getElem? (i := 297) (by decide +kernel)⟩
theorem lw_p31 : lw_okq (⟨"java/lang/Throwable", "fillInStackTrace", "(I)Ljava/lang/Throwable;"⟩, 6) := ⟨⟨by decide +kernel, by decide +kernel⟩, List.mem_of_getElem? (i := 351) (by decide +kernel), List.mem_of_getElem? (i := 349) (by decide +kernel), List.mem_of_getElem? (i := 350) (by decide +kernel)⟩
def lw_privs_2 : List (MethodName × Nat) := [(⟨"WorkspaceMachine", "combineIntoRegister", "(III)V"⟩, 7), (⟨"WorkspaceMachine", "multiply", "(III)V"⟩, 7), (⟨"WorkspaceMachine", "divide", "(III)V"⟩, 7), (⟨"WorkspaceMachine", "runJump", "(I)I"⟩, 7), (⟨"WorkspaceMachine", "isJumpTaken", "(I)Z"⟩, 7), (⟨"WorkspaceMachine", "runOnLine", "(I)I"⟩, 7), (⟨"WorkspaceMachine", "runShift", "(I)I"⟩, 7), (⟨"WorkspaceMachine", "shiftCount", "(I)I"⟩, 7), (⟨"WorkspaceMachine", "runOnOneOperand", "(I)I"⟩, 7), (⟨"WorkspaceMachine", "changed", "(II)I"⟩, 7), (⟨"WorkspaceMachine", "negated", "(I)I"⟩, 7), (⟨"WorkspaceMachine", "withoutSign", "(I)I"⟩, 7), (⟨"WorkspaceMachine", "runImmediateOrControl", "(I)I"⟩, 7), (⟨"WorkspaceMachine", "runImmediate", "(III)V"⟩, 7), (⟨"WorkspaceMachine", "switchBack", "()V"⟩, 7), (⟨"java/lang/Throwable", "fillInStackTrace", "(I)Ljava/lang/Throwable;"⟩, 6)]
theorem lw_r2 : ∀ q ∈ lw_privs_2, lw_okq q := List.forall_mem_cons.mpr ⟨lw_p16, List.forall_mem_cons.mpr ⟨lw_p17, List.forall_mem_cons.mpr ⟨lw_p18, List.forall_mem_cons.mpr ⟨lw_p19, List.forall_mem_cons.mpr ⟨lw_p20, List.forall_mem_cons.mpr ⟨lw_p21, List.forall_mem_cons.mpr ⟨lw_p22, List.forall_mem_cons.mpr ⟨lw_p23, List.forall_mem_cons.mpr ⟨lw_p24, List.forall_mem_cons.mpr ⟨lw_p25, List.forall_mem_cons.mpr ⟨lw_p26, List.forall_mem_cons.mpr ⟨lw_p27, List.forall_mem_cons.mpr ⟨lw_p28, List.forall_mem_cons.mpr ⟨lw_p29, List.forall_mem_cons.mpr ⟨lw_p30, List.forall_mem_cons.mpr ⟨lw_p31, fun _ h => absurd h List.not_mem_nil⟩⟩⟩⟩⟩⟩⟩⟩⟩⟩⟩⟩⟩⟩⟩⟩
theorem lw_p32 : lw_okq (⟨"WorkspaceMachineModel", "change", "(I)V"⟩, 10) := ⟨⟨by decide +kernel, by decide +kernel⟩, List.mem_of_getElem? (i := 422) (by decide +kernel), List.mem_of_getElem? (i := 469) (by decide +kernel), List.mem_of_getElem? (i := 470) (by decide +kernel)⟩
theorem lw_p33 : lw_okq (⟨"WorkspaceMachineModel", "word", "(I)I"⟩, 10) := ⟨⟨by decide +kernel, by decide +kernel⟩, List.mem_of_getElem? (i := 422) (by decide +kernel), List.mem_of_getElem? (i := 473) (by decide +kernel), List.mem_of_getElem? (i := 474) (by decide +kernel)⟩
theorem lw_p34 : lw_okq (⟨"WorkspaceMachineModel", "setRegister", "(II)V"⟩, 10) := ⟨⟨by decide +kernel, by decide +kernel⟩, List.mem_of_getElem? (i := 422) (by decide +kernel), List.mem_of_getElem? (i := 477) (by decide +kernel), List.mem_of_getElem? (i := 478) (by decide +kernel)⟩
theorem lw_p35 : lw_okq (⟨"WorkspaceMachineModel", "setWord", "(II)V"⟩, 10) := ⟨⟨by decide +kernel, by decide +kernel⟩, List.mem_of_getElem? (i := 422) (by decide +kernel), List.mem_of_getElem? (i := 481) (by decide +kernel), List.mem_of_getElem? (i := 482) (by decide +kernel)⟩
theorem lw_p36 : lw_okq (⟨"WorkspaceMachineModel", "setMask", "(I)V"⟩, 10) := ⟨⟨by decide +kernel, by decide +kernel⟩, List.mem_of_getElem? (i := 422) (by decide +kernel), List.mem_of_getElem? (i := 486) (by decide +kernel), List.mem_of_getElem? (i := 487) (by decide +kernel)⟩
theorem lw_p37 : lw_okq (⟨"WorkspaceMachineModel", "fetched", "()I"⟩, 10) := ⟨⟨by decide +kernel, by decide +kernel⟩, List.mem_of_getElem? (i := 422) (by decide +kernel), List.mem_of_getElem? (i := 490) (by decide +kernel), List.mem_of_getElem? (i := 491) (by decide +kernel)⟩
theorem lw_p38 : lw_okq (⟨"WorkspaceMachineModel", "next", "()I"⟩, 10) := ⟨⟨by decide +kernel, by decide +kernel⟩, List.mem_of_getElem? (i := 422) (by decide +kernel), List.mem_of_getElem? (i := 494) (by decide +kernel), List.mem_of_getElem? (i := 495) (by decide +kernel)⟩
theorem lw_p39 : lw_okq (⟨"WorkspaceMachineModel", "address", "(IZ)I"⟩, 10) := ⟨⟨by decide +kernel, by decide +kernel⟩, List.mem_of_getElem? (i := 422) (by decide +kernel), List.mem_of_getElem? (i := 504) (by decide +kernel), List.mem_of_getElem? (i := 505) (by decide +kernel)⟩
theorem lw_p40 : lw_okq (⟨"WorkspaceMachineModel", "register", "(I)I"⟩, 10) := ⟨⟨by decide +kernel, by decide +kernel⟩, List.mem_of_getElem? (i := 422) (by decide +kernel), List.mem_of_getElem? (i := 508) (by decide +kernel), List.mem_of_getElem? (i := 509) (by decide +kernel)⟩
theorem lw_p41 : lw_okq (⟨"WorkspaceMachineModel", "does", "(I)I"⟩, 10) := ⟨⟨by decide +kernel, by decide +kernel⟩, List.mem_of_getElem? (i := 422) (by decide +kernel), List.mem_of_getElem? (i := 512) (by decide +kernel), List.mem_of_getElem? (i := 513) (by decide +kernel)⟩
theorem lw_p42 : lw_okq (⟨"WorkspaceMachineModel", "twoOperands", "(I)V"⟩, 10) := ⟨⟨by decide +kernel, by decide +kernel⟩, List.mem_of_getElem? (i := 422) (by decide +kernel), List.mem_of_getElem? (i := 516) (by decide +kernel), List.mem_of_getElem? (i := 517) (by decide +kernel)⟩
theorem lw_p43 : lw_okq (⟨"WorkspaceMachineModel", "value", "(IZ)I"⟩, 10) := ⟨⟨by decide +kernel, by decide +kernel⟩, List.mem_of_getElem? (i := 422) (by decide +kernel), List.mem_of_getElem? (i := 520) (by decide +kernel), List.mem_of_getElem? (i := 521) (by decide +kernel)⟩
theorem lw_p44 : lw_okq (⟨"WorkspaceMachineModel", "sum", "(IIIZ)I"⟩, 10) := ⟨⟨by decide +kernel, by decide +kernel⟩, List.mem_of_getElem? (i := 422) (by decide +kernel), List.mem_of_getElem? (i := 525) (by decide +kernel), List.mem_of_getElem? (i := 526) (by decide +kernel)⟩
theorem lw_p45 : lw_okq (⟨"WorkspaceMachineModel", "flag", "(IZ)V"⟩, 10) := ⟨⟨by decide +kernel, by decide +kernel⟩, List.mem_of_getElem? (i := 422) (by decide +kernel), List.mem_of_getElem? (i := 529) (by decide +kernel), List.mem_of_getElem? (i := 530) (by decide +kernel)⟩
theorem lw_p46 : lw_okq (⟨"WorkspaceMachineModel", "compare", "(II)V"⟩, 10) := ⟨⟨by decide +kernel, by decide +kernel⟩, List.mem_of_getElem? (i := 422) (by decide +kernel), List.mem_of_getElem? (i := 534) (by decide +kernel), List.mem_of_getElem? (i := 535) (by decide +kernel)⟩
theorem lw_p47 : lw_okq (⟨"WorkspaceMachineModel", "test", "(I)V"⟩, 10) := ⟨⟨by decide +kernel, by decide +kernel⟩, List.mem_of_getElem? (i := 422) (by decide +kernel), List.mem_of_getElem? (i := 542) (by decide +kernel), List.mem_of_getElem? (i := 543) (by decide +kernel)⟩
def lw_privs_3 : List (MethodName × Nat) := [(⟨"WorkspaceMachineModel", "change", "(I)V"⟩, 10), (⟨"WorkspaceMachineModel", "word", "(I)I"⟩, 10), (⟨"WorkspaceMachineModel", "setRegister", "(II)V"⟩, 10), (⟨"WorkspaceMachineModel", "setWord", "(II)V"⟩, 10), (⟨"WorkspaceMachineModel", "setMask", "(I)V"⟩, 10), (⟨"WorkspaceMachineModel", "fetched", "()I"⟩, 10), (⟨"WorkspaceMachineModel", "next", "()I"⟩, 10), (⟨"WorkspaceMachineModel", "address", "(IZ)I"⟩, 10), (⟨"WorkspaceMachineModel", "register", "(I)I"⟩, 10), (⟨"WorkspaceMachineModel", "does", "(I)I"⟩, 10), (⟨"WorkspaceMachineModel", "twoOperands", "(I)V"⟩, 10), (⟨"WorkspaceMachineModel", "value", "(IZ)I"⟩, 10), (⟨"WorkspaceMachineModel", "sum", "(IIIZ)I"⟩, 10), (⟨"WorkspaceMachineModel", "flag", "(IZ)V"⟩, 10), (⟨"WorkspaceMachineModel", "compare", "(II)V"⟩, 10), (⟨"WorkspaceMachineModel", "test", "(I)V"⟩, 10)]
theorem lw_r3 : ∀ q ∈ lw_privs_3, lw_okq q := List.forall_mem_cons.mpr ⟨lw_p32, List.forall_mem_cons.mpr ⟨lw_p33, List.forall_mem_cons.mpr ⟨lw_p34, List.forall_mem_cons.mpr ⟨lw_p35, List.forall_mem_cons.mpr ⟨lw_p36, List.forall_mem_cons.mpr ⟨lw_p37, List.forall_mem_cons.mpr ⟨lw_p38, List.forall_mem_cons.mpr ⟨lw_p39, List.forall_mem_cons.mpr ⟨lw_p40, List.forall_mem_cons.mpr ⟨lw_p41, List.forall_mem_cons.mpr ⟨lw_p42, List.forall_mem_cons.mpr ⟨lw_p43, List.forall_mem_cons.mpr ⟨lw_p44, List.forall_mem_cons.mpr ⟨lw_p45, List.forall_mem_cons.mpr ⟨lw_p46, List.forall_mem_cons.mpr ⟨lw_p47, fun _ h => absurd h List.not_mem_nil⟩⟩⟩⟩⟩⟩⟩⟩⟩⟩⟩⟩⟩⟩⟩⟩
theorem lw_p48 : lw_okq (⟨"WorkspaceMachineModel", "store", "(IIZ)V"⟩, 10) := ⟨⟨by decide +kernel, by decide +kernel⟩, List.mem_of_getElem? (i := 422) (by decide +kernel), List.mem_of_getElem? (i := 546) (by decide +kernel), List.mem_of_getElem? (i := 547) (by decide +kernel)⟩
theorem lw_p49 : lw_okq (⟨"WorkspaceMachineModel", "parity", "(I)V"⟩, 10) := ⟨⟨by decide +kernel, by decide +kernel⟩, List.mem_of_getElem? (i := 422) (by decide +kernel), List.mem_of_getElem? (i := 550) (by decide +kernel), List.mem_of_getElem? (i := 551) (by decide +kernel)⟩
theorem lw_p50 : lw_okq (⟨"WorkspaceMachineModel", "withRegister", "(I)V"⟩, 10) := ⟨⟨by decide +kernel, by decide +kernel⟩, List.mem_of_getElem? (i := 422) (by decide +kernel), List.mem_of_getElem? (i := 554) (by decide +kernel), List.mem_of_getElem? (i := 555) (by decide +kernel)⟩
theorem lw_p51 : lw_okq (⟨"WorkspaceMachineModel", "lineOperand", "(IZ)V"⟩, 10) := ⟨⟨by decide +kernel, by decide +kernel⟩, List.mem_of_getElem? (i := 422) (by decide +kernel), List.mem_of_getElem? (i := 558) (by decide +kernel), List.mem_of_getElem? (i := 559) (by decide +kernel)⟩
theorem lw_p52 : lw_okq (⟨"WorkspaceMachineModel", "base", "()I"⟩, 10) := ⟨⟨by decide +kernel, by decide +kernel⟩, List.mem_of_getElem? (i := 422) (by decide +kernel), List.mem_of_getElem? (i := 562) (by decide +kernel), List.mem_of_getElem? (i := 563) (by decide +kernel)⟩
theorem lw_p53 : lw_okq (⟨"WorkspaceMachineModel", "jumpOrLine", "(I)V"⟩, 10) := ⟨⟨by decide +kernel, by decide +kernel⟩, List.mem_of_getElem? (i := 422) (by decide +kernel), List.mem_of_getElem? (i := 568) (by decide +kernel), List.mem_of_getElem? (i := 569) (by decide +kernel)⟩
theorem lw_p54 : lw_okq (⟨"WorkspaceMachineModel", "holds", "(I)Z"⟩, 10) := ⟨⟨by decide +kernel, by decide +kernel⟩, List.mem_of_getElem? (i := 422) (by decide +kernel), List.mem_of_getElem? (i := 572) (by decide +kernel), List.mem_of_getElem? (i := 573) (by decide +kernel)⟩
theorem lw_p55 : lw_okq (⟨"WorkspaceMachineModel", "has", "(I)Z"⟩, 10) := ⟨⟨by decide +kernel, by decide +kernel⟩, List.mem_of_getElem? (i := 422) (by decide +kernel), List.mem_of_getElem? (i := 576) (by decide +kernel), List.mem_of_getElem? (i := 577) (by decide +kernel)⟩
theorem lw_p56 : lw_okq (⟨"WorkspaceMachineModel", "shift", "(I)V"⟩, 10) := ⟨⟨by decide +kernel, by decide +kernel⟩, List.mem_of_getElem? (i := 422) (by decide +kernel), List.mem_of_getElem? (i := 580) (by decide +kernel), List.mem_of_getElem? (i := 581) (by decide +kernel)⟩
theorem lw_p57 : lw_okq (⟨"WorkspaceMachineModel", "oneOperand", "(I)V"⟩, 10) := ⟨⟨by decide +kernel, by decide +kernel⟩, List.mem_of_getElem? (i := 422) (by decide +kernel), List.mem_of_getElem? (i := 584) (by decide +kernel), List.mem_of_getElem? (i := 585) (by decide +kernel)⟩
theorem lw_p58 : lw_okq (⟨"WorkspaceMachineModel", "inner", "(I)I"⟩, 10) := ⟨⟨by decide +kernel, by decide +kernel⟩, List.mem_of_getElem? (i := 422) (by decide +kernel), List.mem_of_getElem? (i := 589) (by decide +kernel), List.mem_of_getElem? (i := 590) (by decide +kernel)⟩
theorem lw_p59 : lw_okq (⟨"WorkspaceMachineModel", "immediate", "(II)V"⟩, 10) := ⟨⟨by decide +kernel, by decide +kernel⟩, List.mem_of_getElem? (i := 422) (by decide +kernel), List.mem_of_getElem? (i := 593) (by decide +kernel), List.mem_of_getElem? (i := 594) (by decide +kernel)⟩
theorem lw_p60 : lw_okq (⟨"WorkspaceMachineModel", "fails", "(Z)Z"⟩, 10) := ⟨⟨by decide +kernel, by decide +kernel⟩, List.mem_of_getElem? (i := 422) (by decide +kernel), List.mem_of_getElem? (i := 608) (by decide +kernel), List.mem_of_getElem? (i := 609) (by decide +kernel)⟩
def lw_privs_4 : List (MethodName × Nat) := [(⟨"WorkspaceMachineModel", "store", "(IIZ)V"⟩, 10), (⟨"WorkspaceMachineModel", "parity", "(I)V"⟩, 10), (⟨"WorkspaceMachineModel", "withRegister", "(I)V"⟩, 10), (⟨"WorkspaceMachineModel", "lineOperand", "(IZ)V"⟩, 10), (⟨"WorkspaceMachineModel", "base", "()I"⟩, 10), (⟨"WorkspaceMachineModel", "jumpOrLine", "(I)V"⟩, 10), (⟨"WorkspaceMachineModel", "holds", "(I)Z"⟩, 10), (⟨"WorkspaceMachineModel", "has", "(I)Z"⟩, 10), (⟨"WorkspaceMachineModel", "shift", "(I)V"⟩, 10), (⟨"WorkspaceMachineModel", "oneOperand", "(I)V"⟩, 10), (⟨"WorkspaceMachineModel", "inner", "(I)I"⟩, 10), (⟨"WorkspaceMachineModel", "immediate", "(II)V"⟩, 10), (⟨"WorkspaceMachineModel", "fails", "(Z)Z"⟩, 10)]
theorem lw_r4 : ∀ q ∈ lw_privs_4, lw_okq q := List.forall_mem_cons.mpr ⟨lw_p48, List.forall_mem_cons.mpr ⟨lw_p49, List.forall_mem_cons.mpr ⟨lw_p50, List.forall_mem_cons.mpr ⟨lw_p51, List.forall_mem_cons.mpr ⟨lw_p52, List.forall_mem_cons.mpr ⟨lw_p53, List.forall_mem_cons.mpr ⟨lw_p54, List.forall_mem_cons.mpr ⟨lw_p55, List.forall_mem_cons.mpr ⟨lw_p56, List.forall_mem_cons.mpr ⟨lw_p57, List.forall_mem_cons.mpr ⟨lw_p58, List.forall_mem_cons.mpr ⟨lw_p59, List.forall_mem_cons.mpr ⟨lw_p60, fun _ h => absurd h List.not_mem_nil⟩⟩⟩⟩⟩⟩⟩⟩⟩⟩⟩⟩⟩
def lw_privs : List (MethodName × Nat) := lw_privs_1 ++ (lw_privs_2 ++ (lw_privs_3 ++ (lw_privs_4)))
def lw_tbl : List Cond := k2_sels lw_privs ++ tables_1
theorem lw_privs_ok : ∀ q ∈ lw_privs, lw_okq q := by
  show ∀ q ∈ lw_privs_1 ++ (lw_privs_2 ++ (lw_privs_3 ++ (lw_privs_4))), lw_okq q
  exact List.forall_mem_append.mpr ⟨lw_r1, List.forall_mem_append.mpr ⟨lw_r2, List.forall_mem_append.mpr ⟨lw_r3, lw_r4⟩⟩⟩
end
section
/-! 02.base: the words that every contract takes, the form of a contract, calls and returns in one row each. DRAFT of 2026-11-15, not yet compiled. -/
/-- the words that stay true while the tables grow warmer -/
def TB : List Cond := lw_tbl.filter goodWord
theorem mt (i : Nat) {w : Cond} (h : lw_tbl[i]? = some w) (g : goodWord w = true) : w ∈ TB := List.mem_filter.mpr ⟨List.mem_of_getElem? h, g⟩
def wC (y : MethodName) (b : ByteArray) (n : Nat) (r : Option FieldType) : List Cond := .code y b n r :: TB
theorem wm {y : MethodName} {b : ByteArray} {n : Nat} {r : Option FieldType} {w : Cond} (h : w ∈ TB) : w ∈ wC y b n r := List.mem_cons_of_mem _ h
theorem tb_good {w : Cond} (h : w ∈ TB) : (w.onTables && w.keeps) = true ∨ ∃ ty, w = .arrayClass ty := good_of_word (List.mem_filter.mp h).2
theorem gi_c {y0 y : MethodName} {b0 b : ByteArray} {n0 n : Nat} {r0 r : Option FieldType} (h : Cond.code y b n r ∈ TB) : GoodIn (wC y0 b0 n0 r0) (wC y b n r) := by
  intro w hw
  rcases List.mem_cons.mp hw with rfl | hw
  · exact ⟨wm h, tb_good h⟩
  · exact ⟨wm hw, tb_good hw⟩
theorem gi_V {y0 y : MethodName} {b0 b : ByteArray} {n0 n : Nat} {r0 r : Option FieldType} {own C : String} {idx : Nat} (h1 : Cond.methodLink own idx y ∈ TB) (h2 : Cond.instanceMethod y ∈ TB) (h3 : Cond.selects C y y ∈ TB) (h4 : Cond.initialized C ∈ TB) (h5 : Cond.code y b n r ∈ TB) : GoodIn (wC y0 b0 n0 r0) (wsV own idx C y (wC y b n r)) := by
  intro w hw
  rcases List.mem_append.mp hw with hw | hw
  · have hx : w ∈ TB := by
      rcases List.mem_cons.mp hw with rfl | hw
      · exact h1
      rcases List.mem_cons.mp hw with rfl | hw
      · exact h2
      rcases List.mem_cons.mp hw with rfl | hw
      · exact h3
      rcases List.mem_cons.mp hw with rfl | hw
      · exact h4
      cases hw
    exact ⟨wm hx, tb_good hx⟩
  · exact gi_c h5 w hw
theorem gi_S {y0 y : MethodName} {b0 b : ByteArray} {n0 n : Nat} {r0 r : Option FieldType} {own : String} {idx : Nat} (h1 : Cond.methodLink own idx y ∈ TB) (h2 : Cond.static y ∈ TB) (h4 : Cond.initialized y.cls ∈ TB) (h5 : Cond.code y b n r ∈ TB) : GoodIn (wC y0 b0 n0 r0) (va_wsS own idx y (wC y b n r)) := by
  intro w hw
  rcases List.mem_append.mp hw with hw | hw
  · have hx : w ∈ TB := by
      rcases List.mem_cons.mp hw with rfl | hw
      · exact h1
      rcases List.mem_cons.mp hw with rfl | hw
      · exact h2
      rcases List.mem_cons.mp hw with rfl | hw
      · exact h4
      cases hw
    exact ⟨wm hx, tb_good hx⟩
  · exact gi_c h5 w hw
/-- the places of a world are apart: whatever they hold -/
theorem d_of {ws : va_W} (h : va_J (ws.map (·.1))) : va_D (fun q => q ∈ ws.map (·.1)) ws := by
  refine ⟨fun i j x y hi hj hxy => ?_, fun k q hk => List.mem_map.mpr ⟨q, List.mem_of_getElem? hk, rfl⟩⟩
  refine h.1 i j (x.1, .inr (0, [])) (y.1, .inr (0, [])) ?_ ?_ hxy
  · simp [List.getElem?_map, hi]
  · simp [List.getElem?_map, hj]
/-- THE FORM OF A CONTRACT: from a heap that holds the picture w σ the method answers rv and leaves the picture w σ'; nothing outside F changes; nothing is made -/
def MC {S : Type} (kl : List vw_C) (w : S → va_W) (F : Nat → Prop) (tys : List (ClassId × FieldType)) (l : Launch) (D : va_G) (y : MethodName) (b : ByteArray) (n : Nat) (r : Option FieldType) (rm : Room) (av : List Value) (σ : S) (rv : Option Value) (σ' : S) : Prop :=
  Met l y (wC y b n r) rm (va_Pc av (fun U => va_P D kl (w σ) U.heap ∧ va_K D kl tys U)) (fun _ st oc t => oc = .returned rv ∧ va_P D kl (w σ') t.heap ∧ va_F F st t) 0 0 F
def QC {S : Type} (kl : List vw_C) (w : S → va_W) (F : Nat → Prop) (D : va_G) (rv : Option Value) (σ' : S) : Array Value → State → Outcome → State → Prop := fun _ st oc t => oc = .returned rv ∧ va_P D kl (w σ') t.heap ∧ va_F F st t
/-- its start -/
theorem MC.mk {S : Type} {kl : List vw_C} {w : S → va_W} {F : Nat → Prop} {tys : List (ClassId × FieldType)} {l : Launch} {D : va_G} {y : MethodName} {b : ByteArray} {n : Nat} {r : Option FieldType} {rm : Room} {av : List Value} {σ σ' : S} {rv : Option Value}
    (hy : plainName y.cls = true) (hn : (lg_sl av).length ≤ n)
    (body : ∀ (p : Program) (e : Env) (s : State) (m : MethodId) (below : List Frame) (meth : Method) (c : Code) (ls : Array Slot) (Q : State → Prop) (args : Array Value) (H : Heap) (locs : List Loc), p.tables.exec = Jvm.exec → c.code = b → meth.sig.returnType = r → c.maxLocals = n → s.vm.findClass y.cls = some m.cls → (∀ w ∈ wC y b n r, w.before args s = true) → meth.locks = false →
      lv_has ls n (lv_args 0 av) → va_P D kl (w σ) H → va_K D kl tys s → va_S F s.heap H locs → Q = MQ below (QC kl w F D rv σ') args s 0 0 F →
      W p l e rm s m args below meth c H locs 0 0 Q (F0 m 0 ls [])) : MC kl w F tys l D y b n r rm av σ rv σ' := by
  refine Met.ofW (cc := b) (maxL := n) (ret := r) hy rfl ?_
  intro p e s m args below meth c s₁ B hml hv
  obtain ⟨rfl, hP, hK⟩ := hv
  have hts := atoms_spec (ws := wC y b n r) B.pre
  have hown : s.vm.findClass y.cls = some m.cls := findClass_of_methodNamed B.named
  have hl := lv_entry av (n := n) hn
  rw [lg_entry_eq]
  exact body p e s m below meth c _ _ _ s.heap [] B.exec B.bytes B.returns hml hown hts B.notSynchronized hl hP hK va_S.rf rfl
section RT
variable {S : Type} {kl : List vw_C} {w : S → va_W} {F : Nat → Prop} {tys : List (ClassId × FieldType)} {l : Launch} {D : va_G} {p : Program} {e : Env} {R : Room} {s : State} {m : MethodId} {args : Array Value} {below : List Frame} {meth : Method} {c : Code} {H : Heap} {locs : List Loc} {cc : ByteArray} {pc : Nat} {ls : Array Slot}
theorem rt_v {u σ' : S} (hx : p.tables.exec = Jvm.exec) (hb : c.code = cc) (hr : meth.sig.returnType = none) (hlk : meth.locks = false) (hu : u = σ') (hP : va_P D kl (w u) H) (hS : va_S F s.heap H locs) (d : decode cc pc = .ok (.return_, 1)) :
    W p l e R s m args below meth c H locs 0 0 (MQ below (QC kl w F D none σ') args s 0 0 F) (F0 m pc ls []) := by
  subst hu
  exact W.vret hx hb hr (fun t ht _ => ⟨rfl, by rw [ht]; exact hP, hS.F ht⟩) hS.2.2 d
theorem rt_i {u σ' : S} {v v' : Int32} (hx : p.tables.exec = Jvm.exec) (hb : c.code = cc) (hr : meth.sig.returnType = some .int) (hlk : meth.locks = false) (hv : v = v') (hu : u = σ') (hP : va_P D kl (w u) H) (hS : va_S F s.heap H locs) (d : decode cc pc = .ok (.ireturn, 1)) :
    W p l e R s m args below meth c H locs 0 0 (MQ below (QC kl w F D (some (.int v')) σ') args s 0 0 F) (F0 m pc ls [.int v]) := by
  subst hu; subst hv
  exact W.iret hx hb hr (fun t ht _ => ⟨rfl, by rw [ht]; exact hP, hS.F ht⟩) hS.2.2 d
theorem rt_z {u σ' : S} {v v' : Int32} {ty : FieldType} (hx : p.tables.exec = Jvm.exec) (hb : c.code = cc) (hr : meth.sig.returnType = some ty) (hlk : meth.locks = false) (hn : narrow ty (.int v) = .int v) (hv : v = v') (hu : u = σ') (hP : va_P D kl (w u) H) (hS : va_S F s.heap H locs) (d : decode cc pc = .ok (.ireturn, 1)) :
    W p l e R s m args below meth c H locs 0 0 (MQ below (QC kl w F D (some (.int v')) σ') args s 0 0 F) (F0 m pc ls [.int v]) := by
  subst hu; subst hv
  exact W.zret hx hb hr hn (fun t ht _ => ⟨rfl, by rw [ht]; exact hP, hS.F ht⟩) hS.2.2 d
theorem rt_l {u σ' : S} {v v' : Int64} (hx : p.tables.exec = Jvm.exec) (hb : c.code = cc) (hr : meth.sig.returnType = some .long) (hlk : meth.locks = false) (hv : v = v') (hu : u = σ') (hP : va_P D kl (w u) H) (hS : va_S F s.heap H locs) (d : decode cc pc = .ok (.lreturn, 1)) :
    W p l e R s m args below meth c H locs 0 0 (MQ below (QC kl w F D (some (.long v')) σ') args s 0 0 F) (F0 m pc ls [.long v]) := by
  subst hu; subst hv
  exact W.lret hx hb hr (fun t ht _ => ⟨rfl, by rw [ht]; exact hP, hS.F ht⟩) hS.2.2 d
end RT
section CL
variable {S : Type} {kl : List vw_C} {w : S → va_W} {F : Nat → Prop} {tys : List (ClassId × FieldType)} {l : Launch} {D : va_G} {p : Program} {e : Env} {R : Room} {s : State} {m : MethodId} {args : Array Value} {below : List Frame} {meth : Method} {c : Code} {H H0 : Heap} {locs : List Loc} {cc : ByteArray} {pc : Nat} {ls : Array Slot} {Q : State → Prop} {Ts : List Cond} {own C : String} {index k n nL : Nat} {y : MethodName} {b : ByteArray} {r : Option FieldType} {rm : Room} {o : Nat} {As rest st0 : List Value} {σ σ' : S} {rv : Option Value}
theorem mc_blind {av : List Value} : FrameBlind (va_Pc av (fun U => va_P D kl (w σ) U.heap ∧ va_K D kl tys U)) := fun a U g mk q => by
  obtain ⟨q0, qP, qK⟩ := q
  exact ⟨q0, qP, va_K.moved (u := U) (U := U.calling g mk a) (Vm.Alike.refl U.vm) qK⟩
/-- behind a call by contract -/
theorem cl_go {g : JFrame} {a : Array Value} (hr : va_Run p l e R s m args below meth c H locs 0 0 0 0 (F0 m pc ls st0) rest (QC kl w F D rv σ' a) F) (hS : va_S F H0 H locs)
    (kk : ∀ (H1 : Heap) (locs1 : List Loc), va_P D kl (w σ') H1 → va_S F H0 H1 locs1 → W p l e R s m args below meth c H1 locs1 0 0 Q (F0 m (pc + 3) ls (rv.toList ++ rest))) : W p l e R s m args below meth c H locs 0 0 Q (F0 m pc ls st0) := by
  intro T hT X
  obtain ⟨v, st₀, t, T', L, h0, X', hL, e1, e2, ⟨hv, hp, hz, hk⟩, st⟩ := hr T hT X
  cases hv
  rw [h0] at hz hk
  obtain ⟨t2, a1, b1⟩ := kk T'.heap (locs ++ L) (by rw [e1]; exact hp)
    ⟨Nat.le_trans hS.1 (by rw [e1]; exact hz), fun q h1 h2 => by rw [e1, hk q (Nat.lt_of_lt_of_le h1 hS.1) h2]; exact hS.2.1 q h1 h2, fun q hq => by
      rcases List.mem_append.mp hq with h | h
      · exact hS.2.2 q h
      · exact hL q h⟩ T' rfl X'
  exact ⟨t2, st t2 a1, b1⟩
theorem cl_V (hM : MC kl w F tys l D y b n r rm (.ref o :: As) σ rv σ') (S0 : CallFix p m c cc nL s args Ts own) (cwx : CallW R s args own C index y b n r (wC y b n r) rm 0 0 k) (hrec : ∃ cell : Cell, H[o]? = some cell ∧ cell.vm.isStatics = false ∧ s.vm.findClass C = some cell.cls)
    (hP : va_P D kl (w σ) H) (hK : va_K D kl tys s) (hS : va_S F H0 H locs) (hn : As.length = k) (hsz : ls.size = nL) (hst : st0 = As.reverse ++ .ref o :: rest) (h8 : (rest.map fun v => v.category).sum ≤ 8) (hdg : decode cc pc = .ok (.invokevirtual index, 3))
    (kk : ∀ (H1 : Heap) (locs1 : List Loc), va_P D kl (w σ') H1 → va_S F H0 H1 locs1 → W p l e R s m args below meth c H1 locs1 0 0 Q (F0 m (pc + 3) ls (rv.toList ++ rest))) : W p l e R s m args below meth c H locs 0 0 Q (F0 m pc ls st0) :=
  cl_go (g := F0 m pc ls st0) (va_runV (g := F0 m pc ls st0) (rest := rest) (As := As) (b := o) S0 hM cwx ⟨mc_blind, hrec, fun U hU hW => ⟨rfl, by rw [hU]; exact hP, va_K.moved hW.alike hK⟩⟩ rfl hn hsz hst (lv_room h8) hdg ⟨Nat.zero_le _, Nat.zero_le _⟩) hS kk
theorem cl_S (hM : MC kl w F tys l D y b n r rm As σ rv σ') (S0 : CallFix p m c cc nL s args Ts own) (cwx : CallB R s args own index y b n r (wC y b n r) rm 0 0 k ∧ (Cond.static y).before args s = true)
    (hP : va_P D kl (w σ) H) (hK : va_K D kl tys s) (hS : va_S F H0 H locs) (hn : As.length = k) (hsz : ls.size = nL) (hst : st0 = As.reverse ++ rest) (h8 : (rest.map fun v => v.category).sum ≤ 8) (hdg : decode cc pc = .ok (.invokestatic index, 3))
    (kk : ∀ (H1 : Heap) (locs1 : List Loc), va_P D kl (w σ') H1 → va_S F H0 H1 locs1 → W p l e R s m args below meth c H1 locs1 0 0 Q (F0 m (pc + 3) ls (rv.toList ++ rest))) : W p l e R s m args below meth c H locs 0 0 Q (F0 m pc ls st0) :=
  cl_go (g := F0 m pc ls st0) (va_runS (g := F0 m pc ls st0) (rest := rest) (As := As) S0 hM cwx ⟨mc_blind, fun U hU hW => ⟨rfl, by rw [hU]; exact hP, va_K.moved hW.alike hK⟩⟩ rfl hn hsz hst (lv_room h8) hdg ⟨Nat.zero_le _, Nat.zero_le _⟩) hS kk
/-- what comes back gets names: a value and a state, a value, a state -/
theorem nm_is {X : Int32} {Y : S} (kk : ∀ (v : Int32) (u : S), v = X → u = Y → ∀ (H1 : Heap) (locs1 : List Loc), va_P D kl (w u) H1 → va_S F H0 H1 locs1 → W p l e R s m args below meth c H1 locs1 0 0 Q (F0 m pc ls (.int v :: rest))) :
    ∀ (H1 : Heap) (locs1 : List Loc), va_P D kl (w Y) H1 → va_S F H0 H1 locs1 → W p l e R s m args below meth c H1 locs1 0 0 Q (F0 m pc ls ((some (Value.int X)).toList ++ rest)) := kk X Y rfl rfl
theorem nm_i {X : Int32} {Y : S} (kk : ∀ (v : Int32), v = X → ∀ (H1 : Heap) (locs1 : List Loc), va_P D kl (w Y) H1 → va_S F H0 H1 locs1 → W p l e R s m args below meth c H1 locs1 0 0 Q (F0 m pc ls (.int v :: rest))) :
    ∀ (H1 : Heap) (locs1 : List Loc), va_P D kl (w Y) H1 → va_S F H0 H1 locs1 → W p l e R s m args below meth c H1 locs1 0 0 Q (F0 m pc ls ((some (Value.int X)).toList ++ rest)) := kk X rfl
theorem nm_l {X : Int64} {Y : S} (kk : ∀ (v : Int64), v = X → ∀ (H1 : Heap) (locs1 : List Loc), va_P D kl (w Y) H1 → va_S F H0 H1 locs1 → W p l e R s m args below meth c H1 locs1 0 0 Q (F0 m pc ls (.long v :: rest))) :
    ∀ (H1 : Heap) (locs1 : List Loc), va_P D kl (w Y) H1 → va_S F H0 H1 locs1 → W p l e R s m args below meth c H1 locs1 0 0 Q (F0 m pc ls ((some (Value.long X)).toList ++ rest)) := kk X rfl
theorem nm_s {Y : S} (kk : ∀ (u : S), u = Y → ∀ (H1 : Heap) (locs1 : List Loc), va_P D kl (w u) H1 → va_S F H0 H1 locs1 → W p l e R s m args below meth c H1 locs1 0 0 Q (F0 m pc ls rest)) :
    ∀ (H1 : Heap) (locs1 : List Loc), va_P D kl (w Y) H1 → va_S F H0 H1 locs1 → W p l e R s m args below meth c H1 locs1 0 0 Q (F0 m pc ls ((none : Option Value).toList ++ rest)) := kk Y rfl
end CL
/-- a loop 'for (i ..; i < n; i++)': what is left falls -/
theorem ms_step {x n : Int32} {f : Nat} (h : ¬ n ≤ x) (hf : (n.toInt - x.toInt).toNat ≤ f + 1) : (n.toInt - (x + 1).toInt).toNat ≤ f := by
  rw [Int32.le_iff_toInt_le] at h
  have h1 : (x + 1).toInt = x.toInt + 1 := by
    have a := Int32.toInt_lt n
    have b := Int32.le_toInt x
    rw [Int32.toInt_add]
    simp only [Int32.toInt_one]
    rw [Int.bmod_def]
    split <;> omega
  omega
theorem ms_zero {x n : Int32} (hf : (n.toInt - x.toInt).toNat ≤ 0) (h : ¬ n ≤ x) : False := by
  rw [Int32.le_iff_toInt_le] at h
  omega
theorem nb_z {v : Int32} (h : v = 0 ∨ v = 1) : narrow .boolean (.int v) = .int v := by
  rcases h with rfl | rfl <;> rfl
end
section
/-! 03.names: laid by gen.py -/
def R_M : String := "WorkspaceMachine"
def R_Me : String := "WorkspaceMachine$Memory"
def R_Li : String := "WorkspaceMachine$Lines"
def R_St : String := "WorkspaceMachine$Status"
def R_Mo : String := "WorkspaceMachineModel"
def R_In : String := "java/lang/Integer"
def F_Li : u_T := fun k => match k with
  | _ => ("WorkspaceMachine$Lines", "bits", "J", false)
def ft_Li : Nat → FieldType := fun k => match k with
  | _ => .long
theorem fn_Li : ∀ a, a < 1 → ∀ b, b < 1 → a ≠ b → (F_Li a).2.1 ≠ (F_Li b).2.1 := by decide +kernel
theorem ft_Li_ok : ∀ k, k < 1 → parseFieldDescriptor (F_Li k).2.2.1 = some (ft_Li k) := by decide +kernel
theorem ui_Li : ∀ w ∈ u_ws R_Li F_Li 1, w ∈ TB := by decide +kernel
def F_Me : u_T := fun k => match k with
  | _ => ("WorkspaceMachine$Memory", "words", "[C", true)
def ft_Me : Nat → FieldType := fun k => match k with
  | _ => .array .char
theorem fn_Me : ∀ a, a < 1 → ∀ b, b < 1 → a ≠ b → (F_Me a).2.1 ≠ (F_Me b).2.1 := by decide +kernel
theorem ft_Me_ok : ∀ k, k < 1 → parseFieldDescriptor (F_Me k).2.2.1 = some (ft_Me k) := by decide +kernel
theorem ui_Me : ∀ w ∈ u_ws R_Me F_Me 1, w ∈ TB := by decide +kernel
def F_St : u_T := fun k => match k with
  | _ => ("WorkspaceMachine$Status", "bits", "I", false)
def ft_St : Nat → FieldType := fun k => match k with
  | _ => .int
theorem fn_St : ∀ a, a < 1 → ∀ b, b < 1 → a ≠ b → (F_St a).2.1 ≠ (F_St b).2.1 := by decide +kernel
theorem ft_St_ok : ∀ k, k < 1 → parseFieldDescriptor (F_St k).2.2.1 = some (ft_St k) := by decide +kernel
theorem ui_St : ∀ w ∈ u_ws R_St F_St 1, w ∈ TB := by decide +kernel
def F_M : u_T := fun k => match k with
  | 0 => ("WorkspaceMachine", "memory", "LWorkspaceMachine$Memory;", true)
  | 1 => ("WorkspaceMachine", "lines", "LWorkspaceMachine$Lines;", true)
  | 2 => ("WorkspaceMachine", "status", "LWorkspaceMachine$Status;", true)
  | 3 => ("WorkspaceMachine", "workspace", "I", false)
  | 4 => ("WorkspaceMachine", "counter", "I", false)
  | 5 => ("WorkspaceMachine", "requested", "I", false)
  | _ => ("WorkspaceMachine", "idle", "Z", false)
def ft_M : Nat → FieldType := fun k => match k with
  | 0 => .object "WorkspaceMachine$Memory"
  | 1 => .object "WorkspaceMachine$Lines"
  | 2 => .object "WorkspaceMachine$Status"
  | 3 => .int
  | 4 => .int
  | 5 => .int
  | _ => .boolean
theorem fn_M : ∀ a, a < 7 → ∀ b, b < 7 → a ≠ b → (F_M a).2.1 ≠ (F_M b).2.1 := by decide +kernel
theorem ft_M_ok : ∀ k, k < 7 → parseFieldDescriptor (F_M k).2.2.1 = some (ft_M k) := by decide +kernel
theorem ui_M : ∀ w ∈ u_ws R_M F_M 7, w ∈ TB := by decide +kernel
def F_Mo : u_T := fun k => match k with
  | 0 => ("WorkspaceMachineModel", "thrown", "I", false)
  | 1 => ("WorkspaceMachineModel", "words", "[I", true)
  | 2 => ("WorkspaceMachineModel", "lines", "[Z", true)
  | 3 => ("WorkspaceMachineModel", "wp", "I", false)
  | 4 => ("WorkspaceMachineModel", "pc", "I", false)
  | 5 => ("WorkspaceMachineModel", "st", "I", false)
  | 6 => ("WorkspaceMachineModel", "level", "I", false)
  | 7 => ("WorkspaceMachineModel", "idle", "Z", false)
  | 8 => ("WorkspaceMachineModel", "grown", "I", false)
  | _ => ("WorkspaceMachineModel", "was", "I", false)
def ft_Mo : Nat → FieldType := fun k => match k with
  | 0 => .int
  | 1 => .array .int
  | 2 => .array .boolean
  | 3 => .int
  | 4 => .int
  | 5 => .int
  | 6 => .int
  | 7 => .boolean
  | 8 => .int
  | _ => .int
theorem fn_Mo : ∀ a, a < 10 → ∀ b, b < 10 → a ≠ b → (F_Mo a).2.1 ≠ (F_Mo b).2.1 := by decide +kernel
theorem ft_Mo_ok : ∀ k, k < 10 → parseFieldDescriptor (F_Mo k).2.2.1 = some (ft_Mo k) := by decide +kernel
theorem ui_Mo : ∀ w ∈ u_ws R_Mo F_Mo 10, w ∈ TB := by decide +kernel
abbrev kl : List vw_C := [(R_Li, F_Li, 1), (R_Me, F_Me, 1), (R_St, F_St, 1), (R_M, F_M, 7), (R_Mo, F_Mo, 10)]
def y_M_init : MethodName := ⟨R_M, "<init>", "()V"⟩
abbrev b_M_init : ByteArray := prog_1_method_1_code
abbrev rm_M_init : Room := { frames := 1, cells := 0, slots := 0, locals := 20 }
def y_M_reset : MethodName := ⟨R_M, "reset", "()V"⟩
abbrev b_M_reset : ByteArray := prog_1_method_2_code
abbrev rm_M_reset : Room := { frames := 3, cells := 0, slots := 0, locals := 68 }
def y_M_poke : MethodName := ⟨R_M, "poke", "(IC)V"⟩
abbrev b_M_poke : ByteArray := prog_1_method_3_code
abbrev rm_M_poke : Room := { frames := 1, cells := 0, slots := 0, locals := 22 }
def y_M_peek : MethodName := ⟨R_M, "peek", "(I)C"⟩
abbrev b_M_peek : ByteArray := prog_1_method_4_code
abbrev rm_M_peek : Room := { frames := 1, cells := 0, slots := 0, locals := 21 }
def y_M_step : MethodName := ⟨R_M, "step", "()I"⟩
abbrev b_M_step : ByteArray := prog_1_method_5_code
abbrev rm_M_step : Room := { frames := 6, cells := 0, slots := 0, locals := 142 }
def y_M_level : MethodName := ⟨R_M, "level", "(I)V"⟩
abbrev b_M_level : ByteArray := prog_1_method_6_code
abbrev rm_M_level : Room := { frames := 0, cells := 0, slots := 0, locals := 0 }
def y_M_wire : MethodName := ⟨R_M, "wire", "(IZ)V"⟩
abbrev b_M_wire : ByteArray := prog_1_method_7_code
abbrev rm_M_wire : Room := { frames := 2, cells := 0, slots := 0, locals := 42 }
def y_M_line : MethodName := ⟨R_M, "line", "(I)Z"⟩
abbrev b_M_line : ByteArray := prog_1_method_8_code
abbrev rm_M_line : Room := { frames := 2, cells := 0, slots := 0, locals := 41 }
def y_M_state : MethodName := ⟨R_M, "state", "(I)I"⟩
abbrev b_M_state : ByteArray := prog_1_method_9_code
abbrev rm_M_state : Room := { frames := 1, cells := 0, slots := 0, locals := 20 }
def y_M_isWordAddress : MethodName := ⟨R_M, "isWordAddress", "(I)Z"⟩
abbrev b_M_isWordAddress : ByteArray := prog_1_method_10_code
abbrev rm_M_isWordAddress : Room := { frames := 0, cells := 0, slots := 0, locals := 0 }
def y_M_isLine : MethodName := ⟨R_M, "isLine", "(I)Z"⟩
abbrev b_M_isLine : ByteArray := prog_1_method_11_code
abbrev rm_M_isLine : Room := { frames := 0, cells := 0, slots := 0, locals := 0 }
def y_M_isExecute : MethodName := ⟨R_M, "isExecute", "(I)Z"⟩
abbrev b_M_isExecute : ByteArray := prog_1_method_12_code
abbrev rm_M_isExecute : Room := { frames := 0, cells := 0, slots := 0, locals := 0 }
def y_M_setWorkspace : MethodName := ⟨R_M, "setWorkspace", "(I)V"⟩
abbrev b_M_setWorkspace : ByteArray := prog_1_method_13_code
abbrev rm_M_setWorkspace : Room := { frames := 0, cells := 0, slots := 0, locals := 0 }
def y_M_setCounter : MethodName := ⟨R_M, "setCounter", "(I)V"⟩
abbrev b_M_setCounter : ByteArray := prog_1_method_14_code
abbrev rm_M_setCounter : Room := { frames := 0, cells := 0, slots := 0, locals := 0 }
def y_M_fetch : MethodName := ⟨R_M, "fetch", "()I"⟩
abbrev b_M_fetch : ByteArray := prog_1_method_15_code
abbrev rm_M_fetch : Room := { frames := 1, cells := 0, slots := 0, locals := 21 }
def y_M_registerAddress : MethodName := ⟨R_M, "registerAddress", "(I)I"⟩
abbrev b_M_registerAddress : ByteArray := prog_1_method_16_code
abbrev rm_M_registerAddress : Room := { frames := 0, cells := 0, slots := 0, locals := 0 }
def y_M_register : MethodName := ⟨R_M, "register", "(I)I"⟩
abbrev b_M_register : ByteArray := prog_1_method_17_code
abbrev rm_M_register : Room := { frames := 1, cells := 0, slots := 0, locals := 21 }
def y_M_setRegister : MethodName := ⟨R_M, "setRegister", "(II)V"⟩
abbrev b_M_setRegister : ByteArray := prog_1_method_18_code
abbrev rm_M_setRegister : Room := { frames := 1, cells := 0, slots := 0, locals := 22 }
def y_M_interrupt : MethodName := ⟨R_M, "interrupt", "()V"⟩
abbrev b_M_interrupt : ByteArray := prog_1_method_19_code
abbrev rm_M_interrupt : Room := { frames := 3, cells := 0, slots := 0, locals := 68 }
def y_M_switchThrough : MethodName := ⟨R_M, "switchThrough", "(I)V"⟩
abbrev b_M_switchThrough : ByteArray := prog_1_method_20_code
abbrev rm_M_switchThrough : Room := { frames := 2, cells := 0, slots := 0, locals := 44 }
def y_M_operandAddress : MethodName := ⟨R_M, "operandAddress", "(II)I"⟩
abbrev b_M_operandAddress : ByteArray := prog_1_method_21_code
abbrev rm_M_operandAddress : Room := { frames := 2, cells := 0, slots := 0, locals := 44 }
def y_M_run : MethodName := ⟨R_M, "run", "(I)I"⟩
abbrev b_M_run : ByteArray := prog_1_method_22_code
abbrev rm_M_run : Room := { frames := 5, cells := 0, slots := 0, locals := 121 }
def y_M_runOnTwoOperands : MethodName := ⟨R_M, "runOnTwoOperands", "(I)I"⟩
abbrev b_M_runOnTwoOperands : ByteArray := prog_1_method_23_code
abbrev rm_M_runOnTwoOperands : Room := { frames := 4, cells := 0, slots := 0, locals := 94 }
def y_M_combined : MethodName := ⟨R_M, "combined", "(III)I"⟩
abbrev b_M_combined : ByteArray := prog_1_method_24_code
abbrev rm_M_combined : Room := { frames := 3, cells := 0, slots := 0, locals := 71 }
def y_M_runOnRegisterAndOperand : MethodName := ⟨R_M, "runOnRegisterAndOperand", "(I)I"⟩
abbrev b_M_runOnRegisterAndOperand : ByteArray := prog_1_method_25_code
abbrev rm_M_runOnRegisterAndOperand : Room := { frames := 4, cells := 0, slots := 0, locals := 95 }
def y_M_callExtended : MethodName := ⟨R_M, "callExtended", "(II)V"⟩
abbrev b_M_callExtended : ByteArray := prog_1_method_26_code
abbrev rm_M_callExtended : Room := { frames := 3, cells := 0, slots := 0, locals := 68 }
def y_M_sendLines : MethodName := ⟨R_M, "sendLines", "(II)V"⟩
abbrev b_M_sendLines : ByteArray := prog_1_method_27_code
abbrev rm_M_sendLines : Room := { frames := 3, cells := 0, slots := 0, locals := 68 }
def y_M_receiveLines : MethodName := ⟨R_M, "receiveLines", "(II)V"⟩
abbrev b_M_receiveLines : ByteArray := prog_1_method_28_code
abbrev rm_M_receiveLines : Room := { frames := 3, cells := 0, slots := 0, locals := 68 }
def y_M_sizeForLines : MethodName := ⟨R_M, "sizeForLines", "(I)I"⟩
abbrev b_M_sizeForLines : ByteArray := prog_1_method_29_code
abbrev rm_M_sizeForLines : Room := { frames := 0, cells := 0, slots := 0, locals := 0 }
def y_M_combineIntoRegister : MethodName := ⟨R_M, "combineIntoRegister", "(III)V"⟩
abbrev b_M_combineIntoRegister : ByteArray := prog_1_method_30_code
abbrev rm_M_combineIntoRegister : Room := { frames := 3, cells := 0, slots := 0, locals := 70 }
def y_M_multiply : MethodName := ⟨R_M, "multiply", "(III)V"⟩
abbrev b_M_multiply : ByteArray := prog_1_method_31_code
abbrev rm_M_multiply : Room := { frames := 2, cells := 0, slots := 0, locals := 44 }
def y_M_divide : MethodName := ⟨R_M, "divide", "(III)V"⟩
abbrev b_M_divide : ByteArray := prog_1_method_32_code
abbrev rm_M_divide : Room := { frames := 2, cells := 0, slots := 0, locals := 44 }
def y_M_runJump : MethodName := ⟨R_M, "runJump", "(I)I"⟩
abbrev b_M_runJump : ByteArray := prog_1_method_33_code
abbrev rm_M_runJump : Room := { frames := 2, cells := 0, slots := 0, locals := 45 }
def y_M_isJumpTaken : MethodName := ⟨R_M, "isJumpTaken", "(I)Z"⟩
abbrev b_M_isJumpTaken : ByteArray := prog_1_method_34_code
abbrev rm_M_isJumpTaken : Room := { frames := 1, cells := 0, slots := 0, locals := 21 }
def y_M_runOnLine : MethodName := ⟨R_M, "runOnLine", "(I)I"⟩
abbrev b_M_runOnLine : ByteArray := prog_1_method_35_code
abbrev rm_M_runOnLine : Room := { frames := 2, cells := 0, slots := 0, locals := 42 }
def y_M_runShift : MethodName := ⟨R_M, "runShift", "(I)I"⟩
abbrev b_M_runShift : ByteArray := prog_1_method_36_code
abbrev rm_M_runShift : Room := { frames := 3, cells := 0, slots := 0, locals := 64 }
def y_M_shiftCount : MethodName := ⟨R_M, "shiftCount", "(I)I"⟩
abbrev b_M_shiftCount : ByteArray := prog_1_method_37_code
abbrev rm_M_shiftCount : Room := { frames := 2, cells := 0, slots := 0, locals := 42 }
def y_M_shiftedOnce : MethodName := ⟨R_M, "shiftedOnce", "(II)I"⟩
abbrev b_M_shiftedOnce : ByteArray := prog_1_method_38_code
abbrev rm_M_shiftedOnce : Room := { frames := 0, cells := 0, slots := 0, locals := 0 }
def y_M_runOnOneOperand : MethodName := ⟨R_M, "runOnOneOperand", "(I)I"⟩
abbrev b_M_runOnOneOperand : ByteArray := prog_1_method_39_code
abbrev rm_M_runOnOneOperand : Room := { frames := 4, cells := 0, slots := 0, locals := 93 }
def y_M_changed : MethodName := ⟨R_M, "changed", "(II)I"⟩
abbrev b_M_changed : ByteArray := prog_1_method_40_code
abbrev rm_M_changed : Room := { frames := 3, cells := 0, slots := 0, locals := 71 }
def y_M_negated : MethodName := ⟨R_M, "negated", "(I)I"⟩
abbrev b_M_negated : ByteArray := prog_1_method_41_code
abbrev rm_M_negated : Room := { frames := 2, cells := 0, slots := 0, locals := 46 }
def y_M_withoutSign : MethodName := ⟨R_M, "withoutSign", "(I)I"⟩
abbrev b_M_withoutSign : ByteArray := prog_1_method_42_code
abbrev rm_M_withoutSign : Room := { frames := 1, cells := 0, slots := 0, locals := 25 }
def y_M_runImmediateOrControl : MethodName := ⟨R_M, "runImmediateOrControl", "(I)I"⟩
abbrev b_M_runImmediateOrControl : ByteArray := prog_1_method_43_code
abbrev rm_M_runImmediateOrControl : Room := { frames := 4, cells := 0, slots := 0, locals := 94 }
def y_M_runImmediate : MethodName := ⟨R_M, "runImmediate", "(III)V"⟩
abbrev b_M_runImmediate : ByteArray := prog_1_method_44_code
abbrev rm_M_runImmediate : Room := { frames := 3, cells := 0, slots := 0, locals := 71 }
def y_M_switchBack : MethodName := ⟨R_M, "switchBack", "()V"⟩
abbrev b_M_switchBack : ByteArray := prog_1_method_45_code
abbrev rm_M_switchBack : Room := { frames := 2, cells := 0, slots := 0, locals := 42 }
def y_Mo_init : MethodName := ⟨R_Mo, "<init>", "()V"⟩
abbrev b_Mo_init : ByteArray := prog_6_method_1_code
abbrev rm_Mo_init : Room := { frames := 0, cells := 0, slots := 0, locals := 0 }
def y_Mo_thrown : MethodName := ⟨R_Mo, "thrown", "()I"⟩
abbrev b_Mo_thrown : ByteArray := prog_6_method_2_code
abbrev rm_Mo_thrown : Room := { frames := 0, cells := 0, slots := 0, locals := 0 }
def y_Mo_fails : MethodName := ⟨R_Mo, "fails", "(Z)Z"⟩
abbrev b_Mo_fails : ByteArray := prog_6_method_3_code
abbrev rm_Mo_fails : Room := { frames := 0, cells := 0, slots := 0, locals := 0 }
def y_Mo_word : MethodName := ⟨R_Mo, "word", "(I)I"⟩
abbrev b_Mo_word : ByteArray := prog_6_method_4_code
abbrev rm_Mo_word : Room := { frames := 0, cells := 0, slots := 0, locals := 0 }
def y_Mo_setWord : MethodName := ⟨R_Mo, "setWord", "(II)V"⟩
abbrev b_Mo_setWord : ByteArray := prog_6_method_5_code
abbrev rm_Mo_setWord : Room := { frames := 0, cells := 0, slots := 0, locals := 0 }
def y_Mo_register : MethodName := ⟨R_Mo, "register", "(I)I"⟩
abbrev b_Mo_register : ByteArray := prog_6_method_6_code
abbrev rm_Mo_register : Room := { frames := 1, cells := 0, slots := 0, locals := 21 }
def y_Mo_setRegister : MethodName := ⟨R_Mo, "setRegister", "(II)V"⟩
abbrev b_Mo_setRegister : ByteArray := prog_6_method_7_code
abbrev rm_Mo_setRegister : Room := { frames := 1, cells := 0, slots := 0, locals := 22 }
def y_Mo_next : MethodName := ⟨R_Mo, "next", "()I"⟩
abbrev b_Mo_next : ByteArray := prog_6_method_8_code
abbrev rm_Mo_next : Room := { frames := 1, cells := 0, slots := 0, locals := 21 }
def y_Mo_value : MethodName := ⟨R_Mo, "value", "(IZ)I"⟩
abbrev b_Mo_value : ByteArray := prog_6_method_9_code
abbrev rm_Mo_value : Room := { frames := 1, cells := 0, slots := 0, locals := 21 }
def y_Mo_store : MethodName := ⟨R_Mo, "store", "(IIZ)V"⟩
abbrev b_Mo_store : ByteArray := prog_6_method_10_code
abbrev rm_Mo_store : Room := { frames := 1, cells := 0, slots := 0, locals := 22 }
def y_Mo_address : MethodName := ⟨R_Mo, "address", "(IZ)I"⟩
abbrev b_Mo_address : ByteArray := prog_6_method_11_code
abbrev rm_Mo_address : Room := { frames := 2, cells := 0, slots := 0, locals := 44 }
def y_Mo_flag : MethodName := ⟨R_Mo, "flag", "(IZ)V"⟩
abbrev b_Mo_flag : ByteArray := prog_6_method_12_code
abbrev rm_Mo_flag : Room := { frames := 0, cells := 0, slots := 0, locals := 0 }
def y_Mo_has : MethodName := ⟨R_Mo, "has", "(I)Z"⟩
abbrev b_Mo_has : ByteArray := prog_6_method_13_code
abbrev rm_Mo_has : Room := { frames := 0, cells := 0, slots := 0, locals := 0 }
def y_Mo_signed : MethodName := ⟨R_Mo, "signed", "(I)I"⟩
abbrev b_Mo_signed : ByteArray := prog_6_method_14_code
abbrev rm_Mo_signed : Room := { frames := 0, cells := 0, slots := 0, locals := 0 }
def y_Mo_compare : MethodName := ⟨R_Mo, "compare", "(II)V"⟩
abbrev b_Mo_compare : ByteArray := prog_6_method_15_code
abbrev rm_Mo_compare : Room := { frames := 1, cells := 0, slots := 0, locals := 22 }
def y_Mo_test : MethodName := ⟨R_Mo, "test", "(I)V"⟩
abbrev b_Mo_test : ByteArray := prog_6_method_16_code
abbrev rm_Mo_test : Room := { frames := 2, cells := 0, slots := 0, locals := 44 }
def y_Mo_parity : MethodName := ⟨R_Mo, "parity", "(I)V"⟩
abbrev b_Mo_parity : ByteArray := prog_6_method_17_code
abbrev rm_Mo_parity : Room := { frames := 1, cells := 0, slots := 0, locals := 22 }
def y_Mo_sum : MethodName := ⟨R_Mo, "sum", "(IIIZ)I"⟩
abbrev b_Mo_sum : ByteArray := prog_6_method_18_code
abbrev rm_Mo_sum : Room := { frames := 1, cells := 0, slots := 0, locals := 22 }
def y_Mo_change : MethodName := ⟨R_Mo, "change", "(I)V"⟩
abbrev b_Mo_change : ByteArray := prog_6_method_19_code
abbrev rm_Mo_change : Room := { frames := 2, cells := 0, slots := 0, locals := 44 }
def y_Mo_setMask : MethodName := ⟨R_Mo, "setMask", "(I)V"⟩
abbrev b_Mo_setMask : ByteArray := prog_6_method_20_code
abbrev rm_Mo_setMask : Room := { frames := 0, cells := 0, slots := 0, locals := 0 }
def y_Mo_known : MethodName := ⟨R_Mo, "known", "(I)Z"⟩
abbrev b_Mo_known : ByteArray := prog_6_method_21_code
abbrev rm_Mo_known : Room := { frames := 0, cells := 0, slots := 0, locals := 0 }
def y_Mo_isX : MethodName := ⟨R_Mo, "isX", "(I)Z"⟩
abbrev b_Mo_isX : ByteArray := prog_6_method_22_code
abbrev rm_Mo_isX : Room := { frames := 0, cells := 0, slots := 0, locals := 0 }
def y_Mo_twoOperands : MethodName := ⟨R_Mo, "twoOperands", "(I)V"⟩
abbrev b_Mo_twoOperands : ByteArray := prog_6_method_23_code
abbrev rm_Mo_twoOperands : Room := { frames := 3, cells := 0, slots := 0, locals := 69 }
def y_Mo_base : MethodName := ⟨R_Mo, "base", "()I"⟩
abbrev b_Mo_base : ByteArray := prog_6_method_24_code
abbrev rm_Mo_base : Room := { frames := 2, cells := 0, slots := 0, locals := 42 }
def y_Mo_lineOperand : MethodName := ⟨R_Mo, "lineOperand", "(IZ)V"⟩
abbrev b_Mo_lineOperand : ByteArray := prog_6_method_25_code
abbrev rm_Mo_lineOperand : Room := { frames := 3, cells := 0, slots := 0, locals := 69 }
def y_Mo_withRegister : MethodName := ⟨R_Mo, "withRegister", "(I)V"⟩
abbrev b_Mo_withRegister : ByteArray := prog_6_method_26_code
abbrev rm_Mo_withRegister : Room := { frames := 4, cells := 0, slots := 0, locals := 98 }
def y_Mo_holds : MethodName := ⟨R_Mo, "holds", "(I)Z"⟩
abbrev b_Mo_holds : ByteArray := prog_6_method_27_code
abbrev rm_Mo_holds : Room := { frames := 1, cells := 0, slots := 0, locals := 21 }
def y_Mo_jumpOrLine : MethodName := ⟨R_Mo, "jumpOrLine", "(I)V"⟩
abbrev b_Mo_jumpOrLine : ByteArray := prog_6_method_28_code
abbrev rm_Mo_jumpOrLine : Room := { frames := 3, cells := 0, slots := 0, locals := 62 }
def y_Mo_shift : MethodName := ⟨R_Mo, "shift", "(I)V"⟩
abbrev b_Mo_shift : ByteArray := prog_6_method_29_code
abbrev rm_Mo_shift : Room := { frames := 3, cells := 0, slots := 0, locals := 65 }
def y_Mo_oneOperand : MethodName := ⟨R_Mo, "oneOperand", "(I)V"⟩
abbrev b_Mo_oneOperand : ByteArray := prog_6_method_30_code
abbrev rm_Mo_oneOperand : Room := { frames := 3, cells := 0, slots := 0, locals := 69 }
def y_Mo_immediate : MethodName := ⟨R_Mo, "immediate", "(II)V"⟩
abbrev b_Mo_immediate : ByteArray := prog_6_method_31_code
abbrev rm_Mo_immediate : Room := { frames := 3, cells := 0, slots := 0, locals := 65 }
def y_Mo_inner : MethodName := ⟨R_Mo, "inner", "(I)I"⟩
abbrev b_Mo_inner : ByteArray := prog_6_method_32_code
abbrev rm_Mo_inner : Room := { frames := 4, cells := 0, slots := 0, locals := 90 }
def y_Mo_does : MethodName := ⟨R_Mo, "does", "(I)I"⟩
abbrev b_Mo_does : ByteArray := prog_6_method_33_code
abbrev rm_Mo_does : Room := { frames := 5, cells := 0, slots := 0, locals := 126 }
def y_Mo_fetched : MethodName := ⟨R_Mo, "fetched", "()I"⟩
abbrev b_Mo_fetched : ByteArray := prog_6_method_34_code
abbrev rm_Mo_fetched : Room := { frames := 6, cells := 0, slots := 0, locals := 147 }
def y_Mo_step : MethodName := ⟨R_Mo, "step", "()I"⟩
abbrev b_Mo_step : ByteArray := prog_6_method_35_code
abbrev rm_Mo_step : Room := { frames := 7, cells := 0, slots := 0, locals := 170 }
def y_Mo_reset : MethodName := ⟨R_Mo, "reset", "()V"⟩
abbrev b_Mo_reset : ByteArray := prog_6_method_36_code
abbrev rm_Mo_reset : Room := { frames := 3, cells := 0, slots := 0, locals := 68 }
def y_Mo_isAddress : MethodName := ⟨R_Mo, "isAddress", "(I)Z"⟩
abbrev b_Mo_isAddress : ByteArray := prog_6_method_37_code
abbrev rm_Mo_isAddress : Room := { frames := 0, cells := 0, slots := 0, locals := 0 }
def y_Mo_poke : MethodName := ⟨R_Mo, "poke", "(IC)V"⟩
abbrev b_Mo_poke : ByteArray := prog_6_method_38_code
abbrev rm_Mo_poke : Room := { frames := 1, cells := 0, slots := 0, locals := 22 }
def y_Mo_peek : MethodName := ⟨R_Mo, "peek", "(I)C"⟩
abbrev b_Mo_peek : ByteArray := prog_6_method_39_code
abbrev rm_Mo_peek : Room := { frames := 1, cells := 0, slots := 0, locals := 21 }
def y_Mo_level : MethodName := ⟨R_Mo, "level", "(I)V"⟩
abbrev b_Mo_level : ByteArray := prog_6_method_40_code
abbrev rm_Mo_level : Room := { frames := 1, cells := 0, slots := 0, locals := 21 }
def y_Mo_wire : MethodName := ⟨R_Mo, "wire", "(IZ)V"⟩
abbrev b_Mo_wire : ByteArray := prog_6_method_41_code
abbrev rm_Mo_wire : Room := { frames := 1, cells := 0, slots := 0, locals := 21 }
def y_Mo_line : MethodName := ⟨R_Mo, "line", "(I)Z"⟩
abbrev b_Mo_line : ByteArray := prog_6_method_42_code
abbrev rm_Mo_line : Room := { frames := 1, cells := 0, slots := 0, locals := 21 }
def y_Mo_state : MethodName := ⟨R_Mo, "state", "(I)I"⟩
abbrev b_Mo_state : ByteArray := prog_6_method_43_code
abbrev rm_Mo_state : Room := { frames := 1, cells := 0, slots := 0, locals := 21 }
def y_Li_init : MethodName := ⟨R_Li, "<init>", "()V"⟩
abbrev b_Li_init : ByteArray := prog_2_method_1_code
abbrev rm_Li_init : Room := { frames := 0, cells := 0, slots := 0, locals := 0 }
def y_Li_isOn : MethodName := ⟨R_Li, "isOn", "(I)Z"⟩
abbrev b_Li_isOn : ByteArray := prog_2_method_2_code
abbrev rm_Li_isOn : Room := { frames := 1, cells := 0, slots := 0, locals := 20 }
def y_Li_set : MethodName := ⟨R_Li, "set", "(IZ)V"⟩
abbrev b_Li_set : ByteArray := prog_2_method_3_code
abbrev rm_Li_set : Room := { frames := 1, cells := 0, slots := 0, locals := 20 }
def y_Li_bitOf : MethodName := ⟨R_Li, "bitOf", "(I)J"⟩
abbrev b_Li_bitOf : ByteArray := prog_2_method_4_code
abbrev rm_Li_bitOf : Room := { frames := 0, cells := 0, slots := 0, locals := 0 }
def y_Me_init : MethodName := ⟨R_Me, "<init>", "()V"⟩
abbrev b_Me_init : ByteArray := prog_3_method_1_code
abbrev rm_Me_init : Room := { frames := 0, cells := 0, slots := 0, locals := 0 }
def y_Me_word : MethodName := ⟨R_Me, "word", "(I)I"⟩
abbrev b_Me_word : ByteArray := prog_3_method_2_code
abbrev rm_Me_word : Room := { frames := 0, cells := 0, slots := 0, locals := 0 }
def y_Me_setWord : MethodName := ⟨R_Me, "setWord", "(II)V"⟩
abbrev b_Me_setWord : ByteArray := prog_3_method_3_code
abbrev rm_Me_setWord : Room := { frames := 0, cells := 0, slots := 0, locals := 0 }
def y_Me_load : MethodName := ⟨R_Me, "load", "(II)I"⟩
abbrev b_Me_load : ByteArray := prog_3_method_4_code
abbrev rm_Me_load : Room := { frames := 1, cells := 0, slots := 0, locals := 21 }
def y_Me_store : MethodName := ⟨R_Me, "store", "(III)V"⟩
abbrev b_Me_store : ByteArray := prog_3_method_5_code
abbrev rm_Me_store : Room := { frames := 1, cells := 0, slots := 0, locals := 22 }
def y_Me_isUpper : MethodName := ⟨R_Me, "isUpper", "(I)Z"⟩
abbrev b_Me_isUpper : ByteArray := prog_3_method_6_code
abbrev rm_Me_isUpper : Room := { frames := 0, cells := 0, slots := 0, locals := 0 }
def y_St_init : MethodName := ⟨R_St, "<init>", "()V"⟩
abbrev b_St_init : ByteArray := prog_4_method_1_code
abbrev rm_St_init : Room := { frames := 0, cells := 0, slots := 0, locals := 0 }
def y_St_bits : MethodName := ⟨R_St, "bits", "()I"⟩
abbrev b_St_bits : ByteArray := prog_4_method_2_code
abbrev rm_St_bits : Room := { frames := 0, cells := 0, slots := 0, locals := 0 }
def y_St_setBits : MethodName := ⟨R_St, "setBits", "(I)V"⟩
abbrev b_St_setBits : ByteArray := prog_4_method_3_code
abbrev rm_St_setBits : Room := { frames := 0, cells := 0, slots := 0, locals := 0 }
def y_St_mask : MethodName := ⟨R_St, "mask", "()I"⟩
abbrev b_St_mask : ByteArray := prog_4_method_4_code
abbrev rm_St_mask : Room := { frames := 0, cells := 0, slots := 0, locals := 0 }
def y_St_setMask : MethodName := ⟨R_St, "setMask", "(I)V"⟩
abbrev b_St_setMask : ByteArray := prog_4_method_5_code
abbrev rm_St_setMask : Room := { frames := 0, cells := 0, slots := 0, locals := 0 }
def y_St_has : MethodName := ⟨R_St, "has", "(I)Z"⟩
abbrev b_St_has : ByteArray := prog_4_method_6_code
abbrev rm_St_has : Room := { frames := 0, cells := 0, slots := 0, locals := 0 }
def y_St_mark : MethodName := ⟨R_St, "mark", "(IZ)V"⟩
abbrev b_St_mark : ByteArray := prog_4_method_7_code
abbrev rm_St_mark : Room := { frames := 0, cells := 0, slots := 0, locals := 0 }
def y_St_compare : MethodName := ⟨R_St, "compare", "(II)V"⟩
abbrev b_St_compare : ByteArray := prog_4_method_8_code
abbrev rm_St_compare : Room := { frames := 0, cells := 0, slots := 0, locals := 0 }
def y_St_tested : MethodName := ⟨R_St, "tested", "(I)I"⟩
abbrev b_St_tested : ByteArray := prog_4_method_9_code
abbrev rm_St_tested : Room := { frames := 1, cells := 0, slots := 0, locals := 25 }
def y_St_sum : MethodName := ⟨R_St, "sum", "(III)I"⟩
abbrev b_St_sum : ByteArray := prog_4_method_10_code
abbrev rm_St_sum : Room := { frames := 2, cells := 0, slots := 0, locals := 46 }
def y_St_markParity : MethodName := ⟨R_St, "markParity", "(II)V"⟩
abbrev b_St_markParity : ByteArray := prog_4_method_11_code
abbrev rm_St_markParity : Room := { frames := 1, cells := 0, slots := 0, locals := 22 }
def y_In_bitCount : MethodName := ⟨R_In, "bitCount", "(I)I"⟩
abbrev b_In_bitCount : ByteArray := prog_9_method_49_code
abbrev rm_In_bitCount : Room := { frames := 0, cells := 0, slots := 0, locals := 0 }
/-- the class's state: words, lines, ST, WP, PC, the level, idle -/
abbrev CSt : Type := (Nat → Int32) × Int64 × Int32 × Int32 × Int32 × Int32 × Int32
/-- its addresses: the machine, Memory, the words, Lines, Status; the class of char[] -/
abbrev CAd : Type := Nat × Nat × Nat × Nat × Nat × ClassId
def cw (a : CAd) (u : CSt) : va_W := [(a.1, .inr (3, [.ref a.2.1, .ref a.2.2.2.1, .ref a.2.2.2.2.1, .int u.2.2.2.1, .int u.2.2.2.2.1, .int u.2.2.2.2.2.1, .int u.2.2.2.2.2.2])), (a.2.1, .inr (1, [.ref a.2.2.1])), (a.2.2.1, .inl (a.2.2.2.2.2, 512, .inl u.1)), (a.2.2.2.1, .inr (0, [.long u.2.1])), (a.2.2.2.2.1, .inr (2, [.int u.2.2.1]))]
def FA (a : CAd) : Nat → Prop := fun q => q ∈ [a.1, a.2.1, a.2.2.1, a.2.2.2.1, a.2.2.2.2.1]
def ApC (a : CAd) : Prop := va_J [a.1, a.2.1, a.2.2.1, a.2.2.2.1, a.2.2.2.2.1]
abbrev tyC (a : CAd) : List (ClassId × FieldType) := [(a.2.2.2.2.2, .char)]
theorem dd_C {a : CAd} (hA : ApC a) (u : CSt) : va_D (FA a) (cw a u) := d_of (ws := cw a u) hA
/-- the reference's state: words, lines, thrown, wp, pc, st, level, idle, grown, was -/
abbrev RSt : Type := (Nat → Int32) × (Nat → Int32) × Int32 × Int32 × Int32 × Int32 × Int32 × Int32 × Int32 × Int32
/-- its addresses: the object, its words, its lines; the classes of int[] and boolean[] -/
abbrev RAd : Type := Nat × Nat × Nat × ClassId × ClassId
def mw (a : RAd) (u : RSt) : va_W := [(a.1, .inr (4, [.int u.2.2.1, .ref a.2.1, .ref a.2.2.1, .int u.2.2.2.1, .int u.2.2.2.2.1, .int u.2.2.2.2.2.1, .int u.2.2.2.2.2.2.1, .int u.2.2.2.2.2.2.2.1, .int u.2.2.2.2.2.2.2.2.1, .int u.2.2.2.2.2.2.2.2.2])), (a.2.1, .inl (a.2.2.2.1, 512, .inl u.1)), (a.2.2.1, .inl (a.2.2.2.2, 64, .inl u.2.1))]
def FB (a : RAd) : Nat → Prop := fun q => q ∈ [a.1, a.2.1, a.2.2.1]
def ApR (a : RAd) : Prop := va_J [a.1, a.2.1, a.2.2.1]
abbrev tyR (a : RAd) : List (ClassId × FieldType) := [(a.2.2.2.1, .int), (a.2.2.2.2, .boolean)]
theorem dd_R {a : RAd} (hA : ApR a) (u : RSt) : va_D (FB a) (mw a u) := d_of (ws := mw a u) hA
theorem ix_C (x : Int32) : vp_in ((x &&& 1023) >>> (1 &&& 31)) 512 := by
  rw [pk_and x 10 (by decide)]
  rw [pk_shrN (k := 1) (by omega) (1 &&& 31) (by decide)]
  exact vp_in_nI (by omega) (by decide)
theorem ix_R (x : Int32) : vp_in ((x >>> (1 &&& 31)) &&& 511) 512 := pk_andIn _ 9 (by decide) (by decide)
theorem ix_63 (x : Int32) : vp_in (x &&& 63) 64 := pk_andIn _ 6 (by decide) (by decide)
theorem t_0 : Cond.selects R_M y_M_switchThrough y_M_switchThrough ∈ TB := mt 0 (by decide +kernel) (by decide +kernel)
theorem t_1 : Cond.selects R_M y_M_setWorkspace y_M_setWorkspace ∈ TB := mt 1 (by decide +kernel) (by decide +kernel)
theorem t_2 : Cond.selects R_M y_M_setRegister y_M_setRegister ∈ TB := mt 2 (by decide +kernel) (by decide +kernel)
theorem t_3 : Cond.selects R_M y_M_registerAddress y_M_registerAddress ∈ TB := mt 3 (by decide +kernel) (by decide +kernel)
theorem t_4 : Cond.selects R_M y_M_setCounter y_M_setCounter ∈ TB := mt 4 (by decide +kernel) (by decide +kernel)
theorem t_5 : Cond.selects R_M y_M_interrupt y_M_interrupt ∈ TB := mt 5 (by decide +kernel) (by decide +kernel)
theorem t_6 : Cond.selects R_M y_M_fetch y_M_fetch ∈ TB := mt 6 (by decide +kernel) (by decide +kernel)
theorem t_7 : Cond.selects R_M y_M_register y_M_register ∈ TB := mt 7 (by decide +kernel) (by decide +kernel)
theorem t_8 : Cond.selects R_M y_M_operandAddress y_M_operandAddress ∈ TB := mt 8 (by decide +kernel) (by decide +kernel)
theorem t_9 : Cond.selects R_M y_M_run y_M_run ∈ TB := mt 9 (by decide +kernel) (by decide +kernel)
theorem t_10 : Cond.selects R_M y_M_runOnTwoOperands y_M_runOnTwoOperands ∈ TB := mt 10 (by decide +kernel) (by decide +kernel)
theorem t_11 : Cond.selects R_M y_M_combined y_M_combined ∈ TB := mt 11 (by decide +kernel) (by decide +kernel)
theorem t_12 : Cond.selects R_M y_M_runOnRegisterAndOperand y_M_runOnRegisterAndOperand ∈ TB := mt 12 (by decide +kernel) (by decide +kernel)
theorem t_13 : Cond.selects R_M y_M_callExtended y_M_callExtended ∈ TB := mt 13 (by decide +kernel) (by decide +kernel)
theorem t_14 : Cond.selects R_M y_M_sendLines y_M_sendLines ∈ TB := mt 14 (by decide +kernel) (by decide +kernel)
theorem t_15 : Cond.selects R_M y_M_receiveLines y_M_receiveLines ∈ TB := mt 15 (by decide +kernel) (by decide +kernel)
theorem t_16 : Cond.selects R_M y_M_combineIntoRegister y_M_combineIntoRegister ∈ TB := mt 16 (by decide +kernel) (by decide +kernel)
theorem t_17 : Cond.selects R_M y_M_multiply y_M_multiply ∈ TB := mt 17 (by decide +kernel) (by decide +kernel)
theorem t_18 : Cond.selects R_M y_M_divide y_M_divide ∈ TB := mt 18 (by decide +kernel) (by decide +kernel)
theorem t_19 : Cond.selects R_M y_M_runJump y_M_runJump ∈ TB := mt 19 (by decide +kernel) (by decide +kernel)
theorem t_20 : Cond.selects R_M y_M_isJumpTaken y_M_isJumpTaken ∈ TB := mt 20 (by decide +kernel) (by decide +kernel)
theorem t_21 : Cond.selects R_M y_M_runOnLine y_M_runOnLine ∈ TB := mt 21 (by decide +kernel) (by decide +kernel)
theorem t_22 : Cond.selects R_M y_M_runShift y_M_runShift ∈ TB := mt 22 (by decide +kernel) (by decide +kernel)
theorem t_23 : Cond.selects R_M y_M_shiftCount y_M_shiftCount ∈ TB := mt 23 (by decide +kernel) (by decide +kernel)
theorem t_24 : Cond.selects R_M y_M_runOnOneOperand y_M_runOnOneOperand ∈ TB := mt 24 (by decide +kernel) (by decide +kernel)
theorem t_25 : Cond.selects R_M y_M_changed y_M_changed ∈ TB := mt 25 (by decide +kernel) (by decide +kernel)
theorem t_26 : Cond.selects R_M y_M_negated y_M_negated ∈ TB := mt 26 (by decide +kernel) (by decide +kernel)
theorem t_27 : Cond.selects R_M y_M_withoutSign y_M_withoutSign ∈ TB := mt 27 (by decide +kernel) (by decide +kernel)
theorem t_28 : Cond.selects R_M y_M_runImmediateOrControl y_M_runImmediateOrControl ∈ TB := mt 28 (by decide +kernel) (by decide +kernel)
theorem t_29 : Cond.selects R_M y_M_runImmediate y_M_runImmediate ∈ TB := mt 29 (by decide +kernel) (by decide +kernel)
theorem t_30 : Cond.selects R_M y_M_switchBack y_M_switchBack ∈ TB := mt 30 (by decide +kernel) (by decide +kernel)
theorem t_32 : Cond.selects R_Mo y_Mo_change y_Mo_change ∈ TB := mt 32 (by decide +kernel) (by decide +kernel)
theorem t_33 : Cond.selects R_Mo y_Mo_word y_Mo_word ∈ TB := mt 33 (by decide +kernel) (by decide +kernel)
theorem t_34 : Cond.selects R_Mo y_Mo_setRegister y_Mo_setRegister ∈ TB := mt 34 (by decide +kernel) (by decide +kernel)
theorem t_35 : Cond.selects R_Mo y_Mo_setWord y_Mo_setWord ∈ TB := mt 35 (by decide +kernel) (by decide +kernel)
theorem t_36 : Cond.selects R_Mo y_Mo_setMask y_Mo_setMask ∈ TB := mt 36 (by decide +kernel) (by decide +kernel)
theorem t_37 : Cond.selects R_Mo y_Mo_fetched y_Mo_fetched ∈ TB := mt 37 (by decide +kernel) (by decide +kernel)
theorem t_38 : Cond.selects R_Mo y_Mo_next y_Mo_next ∈ TB := mt 38 (by decide +kernel) (by decide +kernel)
theorem t_39 : Cond.selects R_Mo y_Mo_address y_Mo_address ∈ TB := mt 39 (by decide +kernel) (by decide +kernel)
theorem t_40 : Cond.selects R_Mo y_Mo_register y_Mo_register ∈ TB := mt 40 (by decide +kernel) (by decide +kernel)
theorem t_41 : Cond.selects R_Mo y_Mo_does y_Mo_does ∈ TB := mt 41 (by decide +kernel) (by decide +kernel)
theorem t_42 : Cond.selects R_Mo y_Mo_twoOperands y_Mo_twoOperands ∈ TB := mt 42 (by decide +kernel) (by decide +kernel)
theorem t_43 : Cond.selects R_Mo y_Mo_value y_Mo_value ∈ TB := mt 43 (by decide +kernel) (by decide +kernel)
theorem t_44 : Cond.selects R_Mo y_Mo_sum y_Mo_sum ∈ TB := mt 44 (by decide +kernel) (by decide +kernel)
theorem t_45 : Cond.selects R_Mo y_Mo_flag y_Mo_flag ∈ TB := mt 45 (by decide +kernel) (by decide +kernel)
theorem t_46 : Cond.selects R_Mo y_Mo_compare y_Mo_compare ∈ TB := mt 46 (by decide +kernel) (by decide +kernel)
theorem t_47 : Cond.selects R_Mo y_Mo_test y_Mo_test ∈ TB := mt 47 (by decide +kernel) (by decide +kernel)
theorem t_48 : Cond.selects R_Mo y_Mo_store y_Mo_store ∈ TB := mt 48 (by decide +kernel) (by decide +kernel)
theorem t_49 : Cond.selects R_Mo y_Mo_parity y_Mo_parity ∈ TB := mt 49 (by decide +kernel) (by decide +kernel)
theorem t_50 : Cond.selects R_Mo y_Mo_withRegister y_Mo_withRegister ∈ TB := mt 50 (by decide +kernel) (by decide +kernel)
theorem t_51 : Cond.selects R_Mo y_Mo_lineOperand y_Mo_lineOperand ∈ TB := mt 51 (by decide +kernel) (by decide +kernel)
theorem t_52 : Cond.selects R_Mo y_Mo_base y_Mo_base ∈ TB := mt 52 (by decide +kernel) (by decide +kernel)
theorem t_53 : Cond.selects R_Mo y_Mo_jumpOrLine y_Mo_jumpOrLine ∈ TB := mt 53 (by decide +kernel) (by decide +kernel)
theorem t_54 : Cond.selects R_Mo y_Mo_holds y_Mo_holds ∈ TB := mt 54 (by decide +kernel) (by decide +kernel)
theorem t_55 : Cond.selects R_Mo y_Mo_has y_Mo_has ∈ TB := mt 55 (by decide +kernel) (by decide +kernel)
theorem t_56 : Cond.selects R_Mo y_Mo_shift y_Mo_shift ∈ TB := mt 56 (by decide +kernel) (by decide +kernel)
theorem t_57 : Cond.selects R_Mo y_Mo_oneOperand y_Mo_oneOperand ∈ TB := mt 57 (by decide +kernel) (by decide +kernel)
theorem t_58 : Cond.selects R_Mo y_Mo_inner y_Mo_inner ∈ TB := mt 58 (by decide +kernel) (by decide +kernel)
theorem t_59 : Cond.selects R_Mo y_Mo_immediate y_Mo_immediate ∈ TB := mt 59 (by decide +kernel) (by decide +kernel)
theorem t_60 : Cond.selects R_Mo y_Mo_fails y_Mo_fails ∈ TB := mt 60 (by decide +kernel) (by decide +kernel)
theorem t_62 : Cond.initialized R_M ∈ TB := mt 62 (by decide +kernel) (by decide +kernel)
theorem t_63 : Cond.initialized R_Me ∈ TB := mt 63 (by decide +kernel) (by decide +kernel)
theorem t_64 : Cond.initialized R_Li ∈ TB := mt 64 (by decide +kernel) (by decide +kernel)
theorem t_65 : Cond.initialized R_St ∈ TB := mt 65 (by decide +kernel) (by decide +kernel)
theorem t_66 : Cond.initialized R_Mo ∈ TB := mt 66 (by decide +kernel) (by decide +kernel)
theorem t_71 : Cond.initialized R_In ∈ TB := mt 71 (by decide +kernel) (by decide +kernel)
theorem t_86 : Cond.fieldLink R_Me 9 "WorkspaceMachine$Memory" "words" "[C" ∈ TB := mt 86 (by decide +kernel) (by decide +kernel)
theorem t_97 : Cond.fieldLink R_Li 9 "WorkspaceMachine$Lines" "bits" "J" ∈ TB := mt 97 (by decide +kernel) (by decide +kernel)
theorem t_107 : Cond.fieldLink R_St 9 "WorkspaceMachine$Status" "bits" "I" ∈ TB := mt 107 (by decide +kernel) (by decide +kernel)
theorem t_111 : Cond.fieldLink R_M 12 "WorkspaceMachine" "memory" "LWorkspaceMachine$Memory;" ∈ TB := mt 111 (by decide +kernel) (by decide +kernel)
theorem t_112 : Cond.fieldLink R_M 19 "WorkspaceMachine" "lines" "LWorkspaceMachine$Lines;" ∈ TB := mt 112 (by decide +kernel) (by decide +kernel)
theorem t_113 : Cond.fieldLink R_M 26 "WorkspaceMachine" "status" "LWorkspaceMachine$Status;" ∈ TB := mt 113 (by decide +kernel) (by decide +kernel)
theorem t_114 : Cond.fieldLink R_M 107 "WorkspaceMachine" "workspace" "I" ∈ TB := mt 114 (by decide +kernel) (by decide +kernel)
theorem t_115 : Cond.fieldLink R_M 71 "WorkspaceMachine" "counter" "I" ∈ TB := mt 115 (by decide +kernel) (by decide +kernel)
theorem t_116 : Cond.fieldLink R_M 30 "WorkspaceMachine" "requested" "I" ∈ TB := mt 116 (by decide +kernel) (by decide +kernel)
theorem t_117 : Cond.fieldLink R_M 41 "WorkspaceMachine" "idle" "Z" ∈ TB := mt 117 (by decide +kernel) (by decide +kernel)
theorem t_137 : Cond.methodLink R_M 34 y_M_switchThrough ∈ TB := mt 137 (by decide +kernel) (by decide +kernel)
theorem t_139 : Cond.instanceMethod y_M_switchThrough ∈ TB := mt 139 (by decide +kernel) (by decide +kernel)
theorem t_140 : Cond.code y_M_switchThrough b_M_switchThrough 5 none ∈ TB := mt 140 (by decide +kernel) (by decide +kernel)
theorem t_141 : Cond.methodLink R_M 60 y_Me_word ∈ TB := mt 141 (by decide +kernel) (by decide +kernel)
theorem t_142 : Cond.instanceMethod y_Me_word ∈ TB := mt 142 (by decide +kernel) (by decide +kernel)
theorem t_143 : Cond.selects R_Me y_Me_word y_Me_word ∈ TB := mt 143 (by decide +kernel) (by decide +kernel)
theorem t_144 : Cond.code y_Me_word b_Me_word 2 (some .int) ∈ TB := mt 144 (by decide +kernel) (by decide +kernel)
theorem t_145 : Cond.methodLink R_M 122 y_M_setWorkspace ∈ TB := mt 145 (by decide +kernel) (by decide +kernel)
theorem t_147 : Cond.instanceMethod y_M_setWorkspace ∈ TB := mt 147 (by decide +kernel) (by decide +kernel)
theorem t_148 : Cond.code y_M_setWorkspace b_M_setWorkspace 2 none ∈ TB := mt 148 (by decide +kernel) (by decide +kernel)
theorem t_149 : Cond.methodLink R_M 90 y_M_setRegister ∈ TB := mt 149 (by decide +kernel) (by decide +kernel)
theorem t_151 : Cond.instanceMethod y_M_setRegister ∈ TB := mt 151 (by decide +kernel) (by decide +kernel)
theorem t_152 : Cond.code y_M_setRegister b_M_setRegister 3 none ∈ TB := mt 152 (by decide +kernel) (by decide +kernel)
theorem t_153 : Cond.methodLink R_M 119 y_M_registerAddress ∈ TB := mt 153 (by decide +kernel) (by decide +kernel)
theorem t_155 : Cond.instanceMethod y_M_registerAddress ∈ TB := mt 155 (by decide +kernel) (by decide +kernel)
theorem t_156 : Cond.code y_M_registerAddress b_M_registerAddress 2 (some .int) ∈ TB := mt 156 (by decide +kernel) (by decide +kernel)
theorem t_157 : Cond.methodLink R_M 56 y_Me_setWord ∈ TB := mt 157 (by decide +kernel) (by decide +kernel)
theorem t_158 : Cond.instanceMethod y_Me_setWord ∈ TB := mt 158 (by decide +kernel) (by decide +kernel)
theorem t_159 : Cond.selects R_Me y_Me_setWord y_Me_setWord ∈ TB := mt 159 (by decide +kernel) (by decide +kernel)
theorem t_160 : Cond.code y_Me_setWord b_Me_setWord 3 none ∈ TB := mt 160 (by decide +kernel) (by decide +kernel)
theorem t_161 : Cond.methodLink R_M 110 y_St_bits ∈ TB := mt 161 (by decide +kernel) (by decide +kernel)
theorem t_162 : Cond.instanceMethod y_St_bits ∈ TB := mt 162 (by decide +kernel) (by decide +kernel)
theorem t_163 : Cond.selects R_St y_St_bits y_St_bits ∈ TB := mt 163 (by decide +kernel) (by decide +kernel)
theorem t_164 : Cond.code y_St_bits b_St_bits 1 (some .int) ∈ TB := mt 164 (by decide +kernel) (by decide +kernel)
theorem t_165 : Cond.methodLink R_M 116 y_M_setCounter ∈ TB := mt 165 (by decide +kernel) (by decide +kernel)
theorem t_167 : Cond.instanceMethod y_M_setCounter ∈ TB := mt 167 (by decide +kernel) (by decide +kernel)
theorem t_168 : Cond.code y_M_setCounter b_M_setCounter 2 none ∈ TB := mt 168 (by decide +kernel) (by decide +kernel)
theorem t_169 : Cond.methodLink R_M 38 y_St_setMask ∈ TB := mt 169 (by decide +kernel) (by decide +kernel)
theorem t_170 : Cond.instanceMethod y_St_setMask ∈ TB := mt 170 (by decide +kernel) (by decide +kernel)
theorem t_171 : Cond.selects R_St y_St_setMask y_St_setMask ∈ TB := mt 171 (by decide +kernel) (by decide +kernel)
theorem t_172 : Cond.code y_St_setMask b_St_setMask 2 none ∈ TB := mt 172 (by decide +kernel) (by decide +kernel)
theorem t_177 : Cond.methodLink R_M 64 y_St_mask ∈ TB := mt 177 (by decide +kernel) (by decide +kernel)
theorem t_178 : Cond.instanceMethod y_St_mask ∈ TB := mt 178 (by decide +kernel) (by decide +kernel)
theorem t_179 : Cond.selects R_St y_St_mask y_St_mask ∈ TB := mt 179 (by decide +kernel) (by decide +kernel)
theorem t_180 : Cond.code y_St_mask b_St_mask 1 (some .int) ∈ TB := mt 180 (by decide +kernel) (by decide +kernel)
theorem t_181 : Cond.methodLink R_M 68 y_M_interrupt ∈ TB := mt 181 (by decide +kernel) (by decide +kernel)
theorem t_183 : Cond.instanceMethod y_M_interrupt ∈ TB := mt 183 (by decide +kernel) (by decide +kernel)
theorem t_184 : Cond.code y_M_interrupt b_M_interrupt 1 none ∈ TB := mt 184 (by decide +kernel) (by decide +kernel)
theorem t_185 : Cond.methodLink R_M 74 y_M_fetch ∈ TB := mt 185 (by decide +kernel) (by decide +kernel)
theorem t_187 : Cond.instanceMethod y_M_fetch ∈ TB := mt 187 (by decide +kernel) (by decide +kernel)
theorem t_188 : Cond.code y_M_fetch b_M_fetch 2 (some .int) ∈ TB := mt 188 (by decide +kernel) (by decide +kernel)
theorem t_189 : Cond.methodLink R_M 77 y_M_register ∈ TB := mt 189 (by decide +kernel) (by decide +kernel)
theorem t_191 : Cond.instanceMethod y_M_register ∈ TB := mt 191 (by decide +kernel) (by decide +kernel)
theorem t_192 : Cond.code y_M_register b_M_register 2 (some .int) ∈ TB := mt 192 (by decide +kernel) (by decide +kernel)
theorem t_193 : Cond.methodLink R_M 80 y_M_isExecute ∈ TB := mt 193 (by decide +kernel) (by decide +kernel)
theorem t_194 : Cond.static y_M_isExecute ∈ TB := mt 194 (by decide +kernel) (by decide +kernel)
theorem t_195 : Cond.code y_M_isExecute b_M_isExecute 1 (some .boolean) ∈ TB := mt 195 (by decide +kernel) (by decide +kernel)
theorem t_196 : Cond.constant R_M 115 (65472) ∈ TB := mt 196 (by decide +kernel) (by decide +kernel)
theorem t_197 : Cond.methodLink R_M 83 y_M_operandAddress ∈ TB := mt 197 (by decide +kernel) (by decide +kernel)
theorem t_199 : Cond.instanceMethod y_M_operandAddress ∈ TB := mt 199 (by decide +kernel) (by decide +kernel)
theorem t_200 : Cond.code y_M_operandAddress b_M_operandAddress 5 (some .int) ∈ TB := mt 200 (by decide +kernel) (by decide +kernel)
theorem t_201 : Cond.methodLink R_M 87 y_M_run ∈ TB := mt 201 (by decide +kernel) (by decide +kernel)
theorem t_203 : Cond.instanceMethod y_M_run ∈ TB := mt 203 (by decide +kernel) (by decide +kernel)
theorem t_204 : Cond.code y_M_run b_M_run 2 (some .int) ∈ TB := mt 204 (by decide +kernel) (by decide +kernel)
theorem t_205 : Cond.methodLink R_M 125 y_M_runOnTwoOperands ∈ TB := mt 205 (by decide +kernel) (by decide +kernel)
theorem t_207 : Cond.instanceMethod y_M_runOnTwoOperands ∈ TB := mt 207 (by decide +kernel) (by decide +kernel)
theorem t_208 : Cond.code y_M_runOnTwoOperands b_M_runOnTwoOperands 8 (some .int) ∈ TB := mt 208 (by decide +kernel) (by decide +kernel)
theorem t_209 : Cond.methodLink R_M 146 y_Me_load ∈ TB := mt 209 (by decide +kernel) (by decide +kernel)
theorem t_210 : Cond.instanceMethod y_Me_load ∈ TB := mt 210 (by decide +kernel) (by decide +kernel)
theorem t_211 : Cond.selects R_Me y_Me_load y_Me_load ∈ TB := mt 211 (by decide +kernel) (by decide +kernel)
theorem t_212 : Cond.code y_Me_load b_Me_load 4 (some .int) ∈ TB := mt 212 (by decide +kernel) (by decide +kernel)
theorem t_213 : Cond.methodLink R_Me 15 y_Me_word ∈ TB := mt 213 (by decide +kernel) (by decide +kernel)
theorem t_214 : Cond.methodLink R_Me 19 y_Me_isUpper ∈ TB := mt 214 (by decide +kernel) (by decide +kernel)
theorem t_215 : Cond.static y_Me_isUpper ∈ TB := mt 215 (by decide +kernel) (by decide +kernel)
theorem t_216 : Cond.code y_Me_isUpper b_Me_isUpper 1 (some .boolean) ∈ TB := mt 216 (by decide +kernel) (by decide +kernel)
theorem t_217 : Cond.constant R_Me 23 (65280) ∈ TB := mt 217 (by decide +kernel) (by decide +kernel)
theorem t_218 : Cond.methodLink R_M 149 y_St_compare ∈ TB := mt 218 (by decide +kernel) (by decide +kernel)
theorem t_219 : Cond.instanceMethod y_St_compare ∈ TB := mt 219 (by decide +kernel) (by decide +kernel)
theorem t_220 : Cond.selects R_St y_St_compare y_St_compare ∈ TB := mt 220 (by decide +kernel) (by decide +kernel)
theorem t_221 : Cond.code y_St_compare b_St_compare 6 none ∈ TB := mt 221 (by decide +kernel) (by decide +kernel)
theorem t_222 : Cond.constant R_St 15 (32768) ∈ TB := mt 222 (by decide +kernel) (by decide +kernel)
theorem t_223 : Cond.constant R_St 16 (-57345) ∈ TB := mt 223 (by decide +kernel) (by decide +kernel)
theorem t_224 : Cond.methodLink R_M 152 y_St_markParity ∈ TB := mt 224 (by decide +kernel) (by decide +kernel)
theorem t_225 : Cond.instanceMethod y_St_markParity ∈ TB := mt 225 (by decide +kernel) (by decide +kernel)
theorem t_226 : Cond.selects R_St y_St_markParity y_St_markParity ∈ TB := mt 226 (by decide +kernel) (by decide +kernel)
theorem t_227 : Cond.code y_St_markParity b_St_markParity 3 none ∈ TB := mt 227 (by decide +kernel) (by decide +kernel)
theorem t_228 : Cond.methodLink R_St 30 y_In_bitCount ∈ TB := mt 228 (by decide +kernel) (by decide +kernel)
theorem t_229 : Cond.static y_In_bitCount ∈ TB := mt 229 (by decide +kernel) (by decide +kernel)
theorem t_230 : Cond.code y_In_bitCount b_In_bitCount 1 (some .int) ∈ TB := mt 230 (by decide +kernel) (by decide +kernel)
theorem t_231 : Cond.constant R_In 265 (1431655765) ∈ TB := mt 231 (by decide +kernel) (by decide +kernel)
theorem t_232 : Cond.constant R_In 266 (858993459) ∈ TB := mt 232 (by decide +kernel) (by decide +kernel)
theorem t_233 : Cond.constant R_In 267 (252645135) ∈ TB := mt 233 (by decide +kernel) (by decide +kernel)
theorem t_234 : Cond.methodLink R_St 22 y_St_mark ∈ TB := mt 234 (by decide +kernel) (by decide +kernel)
theorem t_235 : Cond.instanceMethod y_St_mark ∈ TB := mt 235 (by decide +kernel) (by decide +kernel)
theorem t_236 : Cond.selects R_St y_St_mark y_St_mark ∈ TB := mt 236 (by decide +kernel) (by decide +kernel)
theorem t_237 : Cond.code y_St_mark b_St_mark 3 none ∈ TB := mt 237 (by decide +kernel) (by decide +kernel)
theorem t_238 : Cond.methodLink R_M 155 y_M_combined ∈ TB := mt 238 (by decide +kernel) (by decide +kernel)
theorem t_240 : Cond.instanceMethod y_M_combined ∈ TB := mt 240 (by decide +kernel) (by decide +kernel)
theorem t_241 : Cond.code y_M_combined b_M_combined 4 (some .int) ∈ TB := mt 241 (by decide +kernel) (by decide +kernel)
theorem t_242 : Cond.methodLink R_M 163 y_St_tested ∈ TB := mt 242 (by decide +kernel) (by decide +kernel)
theorem t_243 : Cond.instanceMethod y_St_tested ∈ TB := mt 243 (by decide +kernel) (by decide +kernel)
theorem t_244 : Cond.selects R_St y_St_tested y_St_tested ∈ TB := mt 244 (by decide +kernel) (by decide +kernel)
theorem t_245 : Cond.code y_St_tested b_St_tested 2 (some .int) ∈ TB := mt 245 (by decide +kernel) (by decide +kernel)
theorem t_246 : Cond.methodLink R_St 17 y_St_compare ∈ TB := mt 246 (by decide +kernel) (by decide +kernel)
theorem t_247 : Cond.constant R_M 166 (65535) ∈ TB := mt 247 (by decide +kernel) (by decide +kernel)
theorem t_248 : Cond.methodLink R_M 167 y_St_sum ∈ TB := mt 248 (by decide +kernel) (by decide +kernel)
theorem t_249 : Cond.instanceMethod y_St_sum ∈ TB := mt 249 (by decide +kernel) (by decide +kernel)
theorem t_250 : Cond.selects R_St y_St_sum y_St_sum ∈ TB := mt 250 (by decide +kernel) (by decide +kernel)
theorem t_251 : Cond.code y_St_sum b_St_sum 6 (some .int) ∈ TB := mt 251 (by decide +kernel) (by decide +kernel)
theorem t_252 : Cond.constant R_St 21 (65535) ∈ TB := mt 252 (by decide +kernel) (by decide +kernel)
theorem t_253 : Cond.methodLink R_St 26 y_St_tested ∈ TB := mt 253 (by decide +kernel) (by decide +kernel)
theorem t_254 : Cond.methodLink R_M 159 y_Me_store ∈ TB := mt 254 (by decide +kernel) (by decide +kernel)
theorem t_255 : Cond.instanceMethod y_Me_store ∈ TB := mt 255 (by decide +kernel) (by decide +kernel)
theorem t_256 : Cond.selects R_Me y_Me_store y_Me_store ∈ TB := mt 256 (by decide +kernel) (by decide +kernel)
theorem t_257 : Cond.code y_Me_store b_Me_store 4 none ∈ TB := mt 257 (by decide +kernel) (by decide +kernel)
theorem t_258 : Cond.methodLink R_Me 24 y_Me_setWord ∈ TB := mt 258 (by decide +kernel) (by decide +kernel)
theorem t_259 : Cond.methodLink R_M 128 y_M_runOnRegisterAndOperand ∈ TB := mt 259 (by decide +kernel) (by decide +kernel)
theorem t_261 : Cond.instanceMethod y_M_runOnRegisterAndOperand ∈ TB := mt 261 (by decide +kernel) (by decide +kernel)
theorem t_262 : Cond.code y_M_runOnRegisterAndOperand b_M_runOnRegisterAndOperand 4 (some .int) ∈ TB := mt 262 (by decide +kernel) (by decide +kernel)
theorem t_263 : Cond.methodLink R_M 170 y_M_callExtended ∈ TB := mt 263 (by decide +kernel) (by decide +kernel)
theorem t_265 : Cond.instanceMethod y_M_callExtended ∈ TB := mt 265 (by decide +kernel) (by decide +kernel)
theorem t_266 : Cond.code y_M_callExtended b_M_callExtended 3 none ∈ TB := mt 266 (by decide +kernel) (by decide +kernel)
theorem t_267 : Cond.methodLink R_M 182 y_St_mark ∈ TB := mt 267 (by decide +kernel) (by decide +kernel)
theorem t_268 : Cond.methodLink R_M 173 y_M_sendLines ∈ TB := mt 268 (by decide +kernel) (by decide +kernel)
theorem t_270 : Cond.instanceMethod y_M_sendLines ∈ TB := mt 270 (by decide +kernel) (by decide +kernel)
theorem t_271 : Cond.code y_M_sendLines b_M_sendLines 8 none ∈ TB := mt 271 (by decide +kernel) (by decide +kernel)
theorem t_272 : Cond.methodLink R_M 185 y_M_sizeForLines ∈ TB := mt 272 (by decide +kernel) (by decide +kernel)
theorem t_273 : Cond.static y_M_sizeForLines ∈ TB := mt 273 (by decide +kernel) (by decide +kernel)
theorem t_274 : Cond.code y_M_sizeForLines b_M_sizeForLines 1 (some .int) ∈ TB := mt 274 (by decide +kernel) (by decide +kernel)
theorem t_275 : Cond.methodLink R_M 100 y_Li_set ∈ TB := mt 275 (by decide +kernel) (by decide +kernel)
theorem t_276 : Cond.instanceMethod y_Li_set ∈ TB := mt 276 (by decide +kernel) (by decide +kernel)
theorem t_277 : Cond.selects R_Li y_Li_set y_Li_set ∈ TB := mt 277 (by decide +kernel) (by decide +kernel)
theorem t_278 : Cond.code y_Li_set b_Li_set 3 none ∈ TB := mt 278 (by decide +kernel) (by decide +kernel)
theorem t_279 : Cond.methodLink R_Li 15 y_Li_bitOf ∈ TB := mt 279 (by decide +kernel) (by decide +kernel)
theorem t_280 : Cond.static y_Li_bitOf ∈ TB := mt 280 (by decide +kernel) (by decide +kernel)
theorem t_281 : Cond.code y_Li_bitOf b_Li_bitOf 1 (some .long) ∈ TB := mt 281 (by decide +kernel) (by decide +kernel)
theorem t_282 : Cond.constantLong R_Li 19 (-1) ∈ TB := mt 282 (by decide +kernel) (by decide +kernel)
theorem t_283 : Cond.methodLink R_M 176 y_M_receiveLines ∈ TB := mt 283 (by decide +kernel) (by decide +kernel)
theorem t_285 : Cond.instanceMethod y_M_receiveLines ∈ TB := mt 285 (by decide +kernel) (by decide +kernel)
theorem t_286 : Cond.code y_M_receiveLines b_M_receiveLines 8 none ∈ TB := mt 286 (by decide +kernel) (by decide +kernel)
theorem t_287 : Cond.methodLink R_M 104 y_Li_isOn ∈ TB := mt 287 (by decide +kernel) (by decide +kernel)
theorem t_288 : Cond.instanceMethod y_Li_isOn ∈ TB := mt 288 (by decide +kernel) (by decide +kernel)
theorem t_289 : Cond.selects R_Li y_Li_isOn y_Li_isOn ∈ TB := mt 289 (by decide +kernel) (by decide +kernel)
theorem t_290 : Cond.code y_Li_isOn b_Li_isOn 2 (some .boolean) ∈ TB := mt 290 (by decide +kernel) (by decide +kernel)
theorem t_291 : Cond.methodLink R_M 179 y_M_combineIntoRegister ∈ TB := mt 291 (by decide +kernel) (by decide +kernel)
theorem t_293 : Cond.instanceMethod y_M_combineIntoRegister ∈ TB := mt 293 (by decide +kernel) (by decide +kernel)
theorem t_294 : Cond.code y_M_combineIntoRegister b_M_combineIntoRegister 5 none ∈ TB := mt 294 (by decide +kernel) (by decide +kernel)
theorem t_295 : Cond.methodLink R_M 188 y_M_multiply ∈ TB := mt 295 (by decide +kernel) (by decide +kernel)
theorem t_297 : Cond.instanceMethod y_M_multiply ∈ TB := mt 297 (by decide +kernel) (by decide +kernel)
theorem t_298 : Cond.code y_M_multiply b_M_multiply 6 none ∈ TB := mt 298 (by decide +kernel) (by decide +kernel)
theorem t_299 : Cond.methodLink R_M 191 y_M_divide ∈ TB := mt 299 (by decide +kernel) (by decide +kernel)
theorem t_301 : Cond.instanceMethod y_M_divide ∈ TB := mt 301 (by decide +kernel) (by decide +kernel)
theorem t_302 : Cond.code y_M_divide b_M_divide 7 none ∈ TB := mt 302 (by decide +kernel) (by decide +kernel)
theorem t_303 : Cond.methodLink R_M 131 y_M_runJump ∈ TB := mt 303 (by decide +kernel) (by decide +kernel)
theorem t_305 : Cond.instanceMethod y_M_runJump ∈ TB := mt 305 (by decide +kernel) (by decide +kernel)
theorem t_306 : Cond.code y_M_runJump b_M_runJump 2 (some .int) ∈ TB := mt 306 (by decide +kernel) (by decide +kernel)
theorem t_307 : Cond.methodLink R_M 194 y_M_isJumpTaken ∈ TB := mt 307 (by decide +kernel) (by decide +kernel)
theorem t_309 : Cond.instanceMethod y_M_isJumpTaken ∈ TB := mt 309 (by decide +kernel) (by decide +kernel)
theorem t_310 : Cond.code y_M_isJumpTaken b_M_isJumpTaken 5 (some .boolean) ∈ TB := mt 310 (by decide +kernel) (by decide +kernel)
theorem t_311 : Cond.constant R_M 197 (32768) ∈ TB := mt 311 (by decide +kernel) (by decide +kernel)
theorem t_312 : Cond.methodLink R_M 198 y_St_has ∈ TB := mt 312 (by decide +kernel) (by decide +kernel)
theorem t_313 : Cond.instanceMethod y_St_has ∈ TB := mt 313 (by decide +kernel) (by decide +kernel)
theorem t_314 : Cond.selects R_St y_St_has y_St_has ∈ TB := mt 314 (by decide +kernel) (by decide +kernel)
theorem t_315 : Cond.code y_St_has b_St_has 2 (some .boolean) ∈ TB := mt 315 (by decide +kernel) (by decide +kernel)
theorem t_316 : Cond.methodLink R_M 134 y_M_runOnLine ∈ TB := mt 316 (by decide +kernel) (by decide +kernel)
theorem t_318 : Cond.instanceMethod y_M_runOnLine ∈ TB := mt 318 (by decide +kernel) (by decide +kernel)
theorem t_319 : Cond.code y_M_runOnLine b_M_runOnLine 3 (some .int) ∈ TB := mt 319 (by decide +kernel) (by decide +kernel)
theorem t_320 : Cond.methodLink R_M 137 y_M_runShift ∈ TB := mt 320 (by decide +kernel) (by decide +kernel)
theorem t_322 : Cond.instanceMethod y_M_runShift ∈ TB := mt 322 (by decide +kernel) (by decide +kernel)
theorem t_323 : Cond.code y_M_runShift b_M_runShift 10 (some .int) ∈ TB := mt 323 (by decide +kernel) (by decide +kernel)
theorem t_324 : Cond.methodLink R_M 201 y_M_shiftCount ∈ TB := mt 324 (by decide +kernel) (by decide +kernel)
theorem t_326 : Cond.instanceMethod y_M_shiftCount ∈ TB := mt 326 (by decide +kernel) (by decide +kernel)
theorem t_327 : Cond.code y_M_shiftCount b_M_shiftCount 3 (some .int) ∈ TB := mt 327 (by decide +kernel) (by decide +kernel)
theorem t_328 : Cond.methodLink R_M 204 y_M_shiftedOnce ∈ TB := mt 328 (by decide +kernel) (by decide +kernel)
theorem t_329 : Cond.static y_M_shiftedOnce ∈ TB := mt 329 (by decide +kernel) (by decide +kernel)
theorem t_330 : Cond.code y_M_shiftedOnce b_M_shiftedOnce 2 (some .int) ∈ TB := mt 330 (by decide +kernel) (by decide +kernel)
theorem t_331 : Cond.methodLink R_M 140 y_M_runOnOneOperand ∈ TB := mt 331 (by decide +kernel) (by decide +kernel)
theorem t_333 : Cond.instanceMethod y_M_runOnOneOperand ∈ TB := mt 333 (by decide +kernel) (by decide +kernel)
theorem t_334 : Cond.code y_M_runOnOneOperand b_M_runOnOneOperand 4 (some .int) ∈ TB := mt 334 (by decide +kernel) (by decide +kernel)
theorem t_335 : Cond.methodLink R_M 207 y_M_changed ∈ TB := mt 335 (by decide +kernel) (by decide +kernel)
theorem t_337 : Cond.instanceMethod y_M_changed ∈ TB := mt 337 (by decide +kernel) (by decide +kernel)
theorem t_338 : Cond.code y_M_changed b_M_changed 3 (some .int) ∈ TB := mt 338 (by decide +kernel) (by decide +kernel)
theorem t_339 : Cond.methodLink R_M 210 y_M_negated ∈ TB := mt 339 (by decide +kernel) (by decide +kernel)
theorem t_341 : Cond.instanceMethod y_M_negated ∈ TB := mt 341 (by decide +kernel) (by decide +kernel)
theorem t_342 : Cond.code y_M_negated b_M_negated 2 (some .int) ∈ TB := mt 342 (by decide +kernel) (by decide +kernel)
theorem t_343 : Cond.constant R_M 213 (65534) ∈ TB := mt 343 (by decide +kernel) (by decide +kernel)
theorem t_344 : Cond.methodLink R_M 214 y_M_withoutSign ∈ TB := mt 344 (by decide +kernel) (by decide +kernel)
theorem t_346 : Cond.instanceMethod y_M_withoutSign ∈ TB := mt 346 (by decide +kernel) (by decide +kernel)
theorem t_347 : Cond.code y_M_withoutSign b_M_withoutSign 2 (some .int) ∈ TB := mt 347 (by decide +kernel) (by decide +kernel)
theorem t_348 : Cond.methodLink R_M 143 y_M_runImmediateOrControl ∈ TB := mt 348 (by decide +kernel) (by decide +kernel)
theorem t_350 : Cond.instanceMethod y_M_runImmediateOrControl ∈ TB := mt 350 (by decide +kernel) (by decide +kernel)
theorem t_351 : Cond.code y_M_runImmediateOrControl b_M_runImmediateOrControl 4 (some .int) ∈ TB := mt 351 (by decide +kernel) (by decide +kernel)
theorem t_352 : Cond.methodLink R_M 217 y_M_runImmediate ∈ TB := mt 352 (by decide +kernel) (by decide +kernel)
theorem t_354 : Cond.instanceMethod y_M_runImmediate ∈ TB := mt 354 (by decide +kernel) (by decide +kernel)
theorem t_355 : Cond.code y_M_runImmediate b_M_runImmediate 4 none ∈ TB := mt 355 (by decide +kernel) (by decide +kernel)
theorem t_356 : Cond.methodLink R_M 220 y_M_switchBack ∈ TB := mt 356 (by decide +kernel) (by decide +kernel)
theorem t_358 : Cond.instanceMethod y_M_switchBack ∈ TB := mt 358 (by decide +kernel) (by decide +kernel)
theorem t_359 : Cond.code y_M_switchBack b_M_switchBack 1 none ∈ TB := mt 359 (by decide +kernel) (by decide +kernel)
theorem t_360 : Cond.methodLink R_M 223 y_St_setBits ∈ TB := mt 360 (by decide +kernel) (by decide +kernel)
theorem t_361 : Cond.instanceMethod y_St_setBits ∈ TB := mt 361 (by decide +kernel) (by decide +kernel)
theorem t_362 : Cond.selects R_St y_St_setBits y_St_setBits ∈ TB := mt 362 (by decide +kernel) (by decide +kernel)
theorem t_363 : Cond.code y_St_setBits b_St_setBits 2 none ∈ TB := mt 363 (by decide +kernel) (by decide +kernel)
theorem t_372 : Cond.methodLink R_M 45 y_M_isWordAddress ∈ TB := mt 372 (by decide +kernel) (by decide +kernel)
theorem t_373 : Cond.static y_M_isWordAddress ∈ TB := mt 373 (by decide +kernel) (by decide +kernel)
theorem t_374 : Cond.code y_M_isWordAddress b_M_isWordAddress 1 (some .boolean) ∈ TB := mt 374 (by decide +kernel) (by decide +kernel)
theorem t_463 : Cond.methodLink R_M 95 y_M_isLine ∈ TB := mt 463 (by decide +kernel) (by decide +kernel)
theorem t_464 : Cond.static y_M_isLine ∈ TB := mt 464 (by decide +kernel) (by decide +kernel)
theorem t_465 : Cond.code y_M_isLine b_M_isLine 1 (some .boolean) ∈ TB := mt 465 (by decide +kernel) (by decide +kernel)
theorem t_488 : Cond.fieldLink R_Mo 21 "WorkspaceMachineModel" "thrown" "I" ∈ TB := mt 488 (by decide +kernel) (by decide +kernel)
theorem t_489 : Cond.fieldLink R_Mo 7 "WorkspaceMachineModel" "words" "[I" ∈ TB := mt 489 (by decide +kernel) (by decide +kernel)
theorem t_490 : Cond.fieldLink R_Mo 13 "WorkspaceMachineModel" "lines" "[Z" ∈ TB := mt 490 (by decide +kernel) (by decide +kernel)
theorem t_491 : Cond.fieldLink R_Mo 25 "WorkspaceMachineModel" "wp" "I" ∈ TB := mt 491 (by decide +kernel) (by decide +kernel)
theorem t_492 : Cond.fieldLink R_Mo 36 "WorkspaceMachineModel" "pc" "I" ∈ TB := mt 492 (by decide +kernel) (by decide +kernel)
theorem t_493 : Cond.fieldLink R_Mo 56 "WorkspaceMachineModel" "st" "I" ∈ TB := mt 493 (by decide +kernel) (by decide +kernel)
theorem t_494 : Cond.fieldLink R_Mo 17 "WorkspaceMachineModel" "level" "I" ∈ TB := mt 494 (by decide +kernel) (by decide +kernel)
theorem t_495 : Cond.fieldLink R_Mo 120 "WorkspaceMachineModel" "idle" "Z" ∈ TB := mt 495 (by decide +kernel) (by decide +kernel)
theorem t_496 : Cond.fieldLink R_Mo 47 "WorkspaceMachineModel" "grown" "I" ∈ TB := mt 496 (by decide +kernel) (by decide +kernel)
theorem t_497 : Cond.fieldLink R_Mo 50 "WorkspaceMachineModel" "was" "I" ∈ TB := mt 497 (by decide +kernel) (by decide +kernel)
theorem t_529 : Cond.methodLink R_Mo 99 y_Mo_change ∈ TB := mt 529 (by decide +kernel) (by decide +kernel)
theorem t_531 : Cond.instanceMethod y_Mo_change ∈ TB := mt 531 (by decide +kernel) (by decide +kernel)
theorem t_532 : Cond.code y_Mo_change b_Mo_change 5 none ∈ TB := mt 532 (by decide +kernel) (by decide +kernel)
theorem t_533 : Cond.methodLink R_Mo 28 y_Mo_word ∈ TB := mt 533 (by decide +kernel) (by decide +kernel)
theorem t_535 : Cond.instanceMethod y_Mo_word ∈ TB := mt 535 (by decide +kernel) (by decide +kernel)
theorem t_536 : Cond.code y_Mo_word b_Mo_word 2 (some .int) ∈ TB := mt 536 (by decide +kernel) (by decide +kernel)
theorem t_537 : Cond.methodLink R_Mo 53 y_Mo_setRegister ∈ TB := mt 537 (by decide +kernel) (by decide +kernel)
theorem t_539 : Cond.instanceMethod y_Mo_setRegister ∈ TB := mt 539 (by decide +kernel) (by decide +kernel)
theorem t_540 : Cond.code y_Mo_setRegister b_Mo_setRegister 3 none ∈ TB := mt 540 (by decide +kernel) (by decide +kernel)
theorem t_541 : Cond.methodLink R_Mo 32 y_Mo_setWord ∈ TB := mt 541 (by decide +kernel) (by decide +kernel)
theorem t_543 : Cond.instanceMethod y_Mo_setWord ∈ TB := mt 543 (by decide +kernel) (by decide +kernel)
theorem t_544 : Cond.code y_Mo_setWord b_Mo_setWord 3 none ∈ TB := mt 544 (by decide +kernel) (by decide +kernel)
theorem t_545 : Cond.constant R_Mo 24 (65535) ∈ TB := mt 545 (by decide +kernel) (by decide +kernel)
theorem t_546 : Cond.methodLink R_Mo 114 y_Mo_setMask ∈ TB := mt 546 (by decide +kernel) (by decide +kernel)
theorem t_548 : Cond.instanceMethod y_Mo_setMask ∈ TB := mt 548 (by decide +kernel) (by decide +kernel)
theorem t_549 : Cond.code y_Mo_setMask b_Mo_setMask 2 none ∈ TB := mt 549 (by decide +kernel) (by decide +kernel)
theorem t_550 : Cond.methodLink R_Mo 151 y_Mo_fetched ∈ TB := mt 550 (by decide +kernel) (by decide +kernel)
theorem t_552 : Cond.instanceMethod y_Mo_fetched ∈ TB := mt 552 (by decide +kernel) (by decide +kernel)
theorem t_553 : Cond.code y_Mo_fetched b_Mo_fetched 4 (some .int) ∈ TB := mt 553 (by decide +kernel) (by decide +kernel)
theorem t_554 : Cond.methodLink R_Mo 43 y_Mo_next ∈ TB := mt 554 (by decide +kernel) (by decide +kernel)
theorem t_556 : Cond.instanceMethod y_Mo_next ∈ TB := mt 556 (by decide +kernel) (by decide +kernel)
theorem t_557 : Cond.code y_Mo_next b_Mo_next 2 (some .int) ∈ TB := mt 557 (by decide +kernel) (by decide +kernel)
theorem t_558 : Cond.methodLink R_Mo 142 y_Mo_known ∈ TB := mt 558 (by decide +kernel) (by decide +kernel)
theorem t_559 : Cond.static y_Mo_known ∈ TB := mt 559 (by decide +kernel) (by decide +kernel)
theorem t_560 : Cond.code y_Mo_known b_Mo_known 1 (some .boolean) ∈ TB := mt 560 (by decide +kernel) (by decide +kernel)
theorem t_561 : Cond.methodLink R_Mo 145 y_Mo_isX ∈ TB := mt 561 (by decide +kernel) (by decide +kernel)
theorem t_562 : Cond.static y_Mo_isX ∈ TB := mt 562 (by decide +kernel) (by decide +kernel)
theorem t_563 : Cond.code y_Mo_isX b_Mo_isX 1 (some .boolean) ∈ TB := mt 563 (by decide +kernel) (by decide +kernel)
theorem t_564 : Cond.methodLink R_Mo 71 y_Mo_address ∈ TB := mt 564 (by decide +kernel) (by decide +kernel)
theorem t_566 : Cond.instanceMethod y_Mo_address ∈ TB := mt 566 (by decide +kernel) (by decide +kernel)
theorem t_567 : Cond.code y_Mo_address b_Mo_address 6 (some .int) ∈ TB := mt 567 (by decide +kernel) (by decide +kernel)
theorem t_568 : Cond.methodLink R_Mo 40 y_Mo_register ∈ TB := mt 568 (by decide +kernel) (by decide +kernel)
theorem t_570 : Cond.instanceMethod y_Mo_register ∈ TB := mt 570 (by decide +kernel) (by decide +kernel)
theorem t_571 : Cond.code y_Mo_register b_Mo_register 2 (some .int) ∈ TB := mt 571 (by decide +kernel) (by decide +kernel)
theorem t_572 : Cond.methodLink R_Mo 148 y_Mo_does ∈ TB := mt 572 (by decide +kernel) (by decide +kernel)
theorem t_574 : Cond.instanceMethod y_Mo_does ∈ TB := mt 574 (by decide +kernel) (by decide +kernel)
theorem t_575 : Cond.code y_Mo_does b_Mo_does 2 (some .int) ∈ TB := mt 575 (by decide +kernel) (by decide +kernel)
theorem t_576 : Cond.methodLink R_Mo 124 y_Mo_twoOperands ∈ TB := mt 576 (by decide +kernel) (by decide +kernel)
theorem t_578 : Cond.instanceMethod y_Mo_twoOperands ∈ TB := mt 578 (by decide +kernel) (by decide +kernel)
theorem t_579 : Cond.code y_Mo_twoOperands b_Mo_twoOperands 9 none ∈ TB := mt 579 (by decide +kernel) (by decide +kernel)
theorem t_580 : Cond.methodLink R_Mo 75 y_Mo_value ∈ TB := mt 580 (by decide +kernel) (by decide +kernel)
theorem t_582 : Cond.instanceMethod y_Mo_value ∈ TB := mt 582 (by decide +kernel) (by decide +kernel)
theorem t_583 : Cond.code y_Mo_value b_Mo_value 4 (some .int) ∈ TB := mt 583 (by decide +kernel) (by decide +kernel)
theorem t_584 : Cond.constant R_Mo 39 (65280) ∈ TB := mt 584 (by decide +kernel) (by decide +kernel)
theorem t_585 : Cond.methodLink R_Mo 78 y_Mo_sum ∈ TB := mt 585 (by decide +kernel) (by decide +kernel)
theorem t_587 : Cond.instanceMethod y_Mo_sum ∈ TB := mt 587 (by decide +kernel) (by decide +kernel)
theorem t_588 : Cond.code y_Mo_sum b_Mo_sum 7 (some .int) ∈ TB := mt 588 (by decide +kernel) (by decide +kernel)
theorem t_589 : Cond.methodLink R_Mo 61 y_Mo_flag ∈ TB := mt 589 (by decide +kernel) (by decide +kernel)
theorem t_591 : Cond.instanceMethod y_Mo_flag ∈ TB := mt 591 (by decide +kernel) (by decide +kernel)
theorem t_592 : Cond.code y_Mo_flag b_Mo_flag 3 none ∈ TB := mt 592 (by decide +kernel) (by decide +kernel)
theorem t_593 : Cond.constant R_Mo 60 (32768) ∈ TB := mt 593 (by decide +kernel) (by decide +kernel)
theorem t_594 : Cond.methodLink R_Mo 68 y_Mo_compare ∈ TB := mt 594 (by decide +kernel) (by decide +kernel)
theorem t_596 : Cond.instanceMethod y_Mo_compare ∈ TB := mt 596 (by decide +kernel) (by decide +kernel)
theorem t_597 : Cond.code y_Mo_compare b_Mo_compare 3 none ∈ TB := mt 597 (by decide +kernel) (by decide +kernel)
theorem t_598 : Cond.methodLink R_Mo 65 y_Mo_signed ∈ TB := mt 598 (by decide +kernel) (by decide +kernel)
theorem t_599 : Cond.static y_Mo_signed ∈ TB := mt 599 (by decide +kernel) (by decide +kernel)
theorem t_600 : Cond.code y_Mo_signed b_Mo_signed 1 (some .int) ∈ TB := mt 600 (by decide +kernel) (by decide +kernel)
theorem t_601 : Cond.constant R_Mo 59 (65536) ∈ TB := mt 601 (by decide +kernel) (by decide +kernel)
theorem t_602 : Cond.methodLink R_Mo 82 y_Mo_test ∈ TB := mt 602 (by decide +kernel) (by decide +kernel)
theorem t_604 : Cond.instanceMethod y_Mo_test ∈ TB := mt 604 (by decide +kernel) (by decide +kernel)
theorem t_605 : Cond.code y_Mo_test b_Mo_test 2 none ∈ TB := mt 605 (by decide +kernel) (by decide +kernel)
theorem t_606 : Cond.methodLink R_Mo 86 y_Mo_store ∈ TB := mt 606 (by decide +kernel) (by decide +kernel)
theorem t_608 : Cond.instanceMethod y_Mo_store ∈ TB := mt 608 (by decide +kernel) (by decide +kernel)
theorem t_609 : Cond.code y_Mo_store b_Mo_store 5 none ∈ TB := mt 609 (by decide +kernel) (by decide +kernel)
theorem t_610 : Cond.methodLink R_Mo 90 y_Mo_parity ∈ TB := mt 610 (by decide +kernel) (by decide +kernel)
theorem t_612 : Cond.instanceMethod y_Mo_parity ∈ TB := mt 612 (by decide +kernel) (by decide +kernel)
theorem t_613 : Cond.code y_Mo_parity b_Mo_parity 4 none ∈ TB := mt 613 (by decide +kernel) (by decide +kernel)
theorem t_614 : Cond.methodLink R_Mo 127 y_Mo_withRegister ∈ TB := mt 614 (by decide +kernel) (by decide +kernel)
theorem t_616 : Cond.instanceMethod y_Mo_withRegister ∈ TB := mt 616 (by decide +kernel) (by decide +kernel)
theorem t_617 : Cond.code y_Mo_withRegister b_Mo_withRegister 9 none ∈ TB := mt 617 (by decide +kernel) (by decide +kernel)
theorem t_618 : Cond.methodLink R_Mo 96 y_Mo_lineOperand ∈ TB := mt 618 (by decide +kernel) (by decide +kernel)
theorem t_620 : Cond.instanceMethod y_Mo_lineOperand ∈ TB := mt 620 (by decide +kernel) (by decide +kernel)
theorem t_621 : Cond.code y_Mo_lineOperand b_Mo_lineOperand 10 none ∈ TB := mt 621 (by decide +kernel) (by decide +kernel)
theorem t_622 : Cond.methodLink R_Mo 93 y_Mo_base ∈ TB := mt 622 (by decide +kernel) (by decide +kernel)
theorem t_624 : Cond.instanceMethod y_Mo_base ∈ TB := mt 624 (by decide +kernel) (by decide +kernel)
theorem t_625 : Cond.code y_Mo_base b_Mo_base 1 (some .int) ∈ TB := mt 625 (by decide +kernel) (by decide +kernel)
theorem t_626 : Cond.constantLong R_Mo 102 (65535) ∈ TB := mt 626 (by decide +kernel) (by decide +kernel)
theorem t_627 : Cond.constantLong R_Mo 104 (65536) ∈ TB := mt 627 (by decide +kernel) (by decide +kernel)
theorem t_628 : Cond.methodLink R_Mo 130 y_Mo_jumpOrLine ∈ TB := mt 628 (by decide +kernel) (by decide +kernel)
theorem t_630 : Cond.instanceMethod y_Mo_jumpOrLine ∈ TB := mt 630 (by decide +kernel) (by decide +kernel)
theorem t_631 : Cond.code y_Mo_jumpOrLine b_Mo_jumpOrLine 5 none ∈ TB := mt 631 (by decide +kernel) (by decide +kernel)
theorem t_632 : Cond.methodLink R_Mo 110 y_Mo_holds ∈ TB := mt 632 (by decide +kernel) (by decide +kernel)
theorem t_634 : Cond.instanceMethod y_Mo_holds ∈ TB := mt 634 (by decide +kernel) (by decide +kernel)
theorem t_635 : Cond.code y_Mo_holds b_Mo_holds 4 (some .boolean) ∈ TB := mt 635 (by decide +kernel) (by decide +kernel)
theorem t_636 : Cond.methodLink R_Mo 106 y_Mo_has ∈ TB := mt 636 (by decide +kernel) (by decide +kernel)
theorem t_638 : Cond.instanceMethod y_Mo_has ∈ TB := mt 638 (by decide +kernel) (by decide +kernel)
theorem t_639 : Cond.code y_Mo_has b_Mo_has 2 (some .boolean) ∈ TB := mt 639 (by decide +kernel) (by decide +kernel)
theorem t_640 : Cond.methodLink R_Mo 133 y_Mo_shift ∈ TB := mt 640 (by decide +kernel) (by decide +kernel)
theorem t_642 : Cond.instanceMethod y_Mo_shift ∈ TB := mt 642 (by decide +kernel) (by decide +kernel)
theorem t_643 : Cond.code y_Mo_shift b_Mo_shift 11 none ∈ TB := mt 643 (by decide +kernel) (by decide +kernel)
theorem t_644 : Cond.methodLink R_Mo 136 y_Mo_oneOperand ∈ TB := mt 644 (by decide +kernel) (by decide +kernel)
theorem t_646 : Cond.instanceMethod y_Mo_oneOperand ∈ TB := mt 646 (by decide +kernel) (by decide +kernel)
theorem t_647 : Cond.code y_Mo_oneOperand b_Mo_oneOperand 6 none ∈ TB := mt 647 (by decide +kernel) (by decide +kernel)
theorem t_648 : Cond.constant R_Mo 113 (65534) ∈ TB := mt 648 (by decide +kernel) (by decide +kernel)
theorem t_649 : Cond.methodLink R_Mo 139 y_Mo_inner ∈ TB := mt 649 (by decide +kernel) (by decide +kernel)
theorem t_651 : Cond.instanceMethod y_Mo_inner ∈ TB := mt 651 (by decide +kernel) (by decide +kernel)
theorem t_652 : Cond.code y_Mo_inner b_Mo_inner 4 (some .int) ∈ TB := mt 652 (by decide +kernel) (by decide +kernel)
theorem t_653 : Cond.methodLink R_Mo 117 y_Mo_immediate ∈ TB := mt 653 (by decide +kernel) (by decide +kernel)
theorem t_655 : Cond.instanceMethod y_Mo_immediate ∈ TB := mt 655 (by decide +kernel) (by decide +kernel)
theorem t_656 : Cond.code y_Mo_immediate b_Mo_immediate 6 none ∈ TB := mt 656 (by decide +kernel) (by decide +kernel)
theorem t_665 : Cond.methodLink R_Mo 154 y_Mo_isAddress ∈ TB := mt 665 (by decide +kernel) (by decide +kernel)
theorem t_666 : Cond.static y_Mo_isAddress ∈ TB := mt 666 (by decide +kernel) (by decide +kernel)
theorem t_667 : Cond.code y_Mo_isAddress b_Mo_isAddress 1 (some .boolean) ∈ TB := mt 667 (by decide +kernel) (by decide +kernel)
theorem t_668 : Cond.methodLink R_Mo 157 y_Mo_fails ∈ TB := mt 668 (by decide +kernel) (by decide +kernel)
theorem t_670 : Cond.instanceMethod y_Mo_fails ∈ TB := mt 670 (by decide +kernel) (by decide +kernel)
theorem t_671 : Cond.code y_Mo_fails b_Mo_fails 2 (some .boolean) ∈ TB := mt 671 (by decide +kernel) (by decide +kernel)
end
section
/-! decode rows, laid by gen.py -/
theorem d_Me_word_0 : decode b_Me_word 0 = .ok (.aload_n 0, 1) := by decide +kernel
theorem d_Me_word_1 : decode b_Me_word 1 = .ok (.getfield 9, 3) := by decide +kernel
theorem d_Me_word_4 : decode b_Me_word 4 = .ok (.iload_n 1, 1) := by decide +kernel
theorem d_Me_word_5 : decode b_Me_word 5 = .ok (.sipush 1023, 3) := by decide +kernel
theorem d_Me_word_8 : decode b_Me_word 8 = .ok (.iand, 1) := by decide +kernel
theorem d_Me_word_9 : decode b_Me_word 9 = .ok (.iconst 1, 1) := by decide +kernel
theorem d_Me_word_10 : decode b_Me_word 10 = .ok (.ishr, 1) := by decide +kernel
theorem d_Me_word_11 : decode b_Me_word 11 = .ok (.caload, 1) := by decide +kernel
theorem d_Me_word_12 : decode b_Me_word 12 = .ok (.ireturn, 1) := by decide +kernel
theorem d_M_setWorkspace_0 : decode b_M_setWorkspace 0 = .ok (.aload_n 0, 1) := by decide +kernel
theorem d_M_setWorkspace_1 : decode b_M_setWorkspace 1 = .ok (.iload_n 1, 1) := by decide +kernel
theorem d_M_setWorkspace_2 : decode b_M_setWorkspace 2 = .ok (.sipush 1022, 3) := by decide +kernel
theorem d_M_setWorkspace_5 : decode b_M_setWorkspace 5 = .ok (.iand, 1) := by decide +kernel
theorem d_M_setWorkspace_6 : decode b_M_setWorkspace 6 = .ok (.putfield 107, 3) := by decide +kernel
theorem d_M_setWorkspace_9 : decode b_M_setWorkspace 9 = .ok (.return_, 1) := by decide +kernel
theorem d_M_registerAddress_0 : decode b_M_registerAddress 0 = .ok (.aload_n 0, 1) := by decide +kernel
theorem d_M_registerAddress_1 : decode b_M_registerAddress 1 = .ok (.getfield 107, 3) := by decide +kernel
theorem d_M_registerAddress_4 : decode b_M_registerAddress 4 = .ok (.iconst 2, 1) := by decide +kernel
theorem d_M_registerAddress_5 : decode b_M_registerAddress 5 = .ok (.iload_n 1, 1) := by decide +kernel
theorem d_M_registerAddress_6 : decode b_M_registerAddress 6 = .ok (.imul, 1) := by decide +kernel
theorem d_M_registerAddress_7 : decode b_M_registerAddress 7 = .ok (.iadd, 1) := by decide +kernel
theorem d_M_registerAddress_8 : decode b_M_registerAddress 8 = .ok (.ireturn, 1) := by decide +kernel
theorem d_Me_setWord_0 : decode b_Me_setWord 0 = .ok (.aload_n 0, 1) := by decide +kernel
theorem d_Me_setWord_1 : decode b_Me_setWord 1 = .ok (.getfield 9, 3) := by decide +kernel
theorem d_Me_setWord_4 : decode b_Me_setWord 4 = .ok (.iload_n 1, 1) := by decide +kernel
theorem d_Me_setWord_5 : decode b_Me_setWord 5 = .ok (.sipush 1023, 3) := by decide +kernel
theorem d_Me_setWord_8 : decode b_Me_setWord 8 = .ok (.iand, 1) := by decide +kernel
theorem d_Me_setWord_9 : decode b_Me_setWord 9 = .ok (.iconst 1, 1) := by decide +kernel
theorem d_Me_setWord_10 : decode b_Me_setWord 10 = .ok (.ishr, 1) := by decide +kernel
theorem d_Me_setWord_11 : decode b_Me_setWord 11 = .ok (.iload_n 2, 1) := by decide +kernel
theorem d_Me_setWord_12 : decode b_Me_setWord 12 = .ok (.i2c, 1) := by decide +kernel
theorem d_Me_setWord_13 : decode b_Me_setWord 13 = .ok (.castore, 1) := by decide +kernel
theorem d_Me_setWord_14 : decode b_Me_setWord 14 = .ok (.return_, 1) := by decide +kernel
theorem d_M_setRegister_0 : decode b_M_setRegister 0 = .ok (.aload_n 0, 1) := by decide +kernel
theorem d_M_setRegister_1 : decode b_M_setRegister 1 = .ok (.getfield 12, 3) := by decide +kernel
theorem d_M_setRegister_4 : decode b_M_setRegister 4 = .ok (.aload_n 0, 1) := by decide +kernel
theorem d_M_setRegister_5 : decode b_M_setRegister 5 = .ok (.iload_n 1, 1) := by decide +kernel
theorem d_M_setRegister_6 : decode b_M_setRegister 6 = .ok (.invokevirtual 119, 3) := by decide +kernel
theorem d_M_setRegister_9 : decode b_M_setRegister 9 = .ok (.iload_n 2, 1) := by decide +kernel
theorem d_M_setRegister_10 : decode b_M_setRegister 10 = .ok (.invokevirtual 56, 3) := by decide +kernel
theorem d_M_setRegister_13 : decode b_M_setRegister 13 = .ok (.return_, 1) := by decide +kernel
theorem d_St_bits_0 : decode b_St_bits 0 = .ok (.aload_n 0, 1) := by decide +kernel
theorem d_St_bits_1 : decode b_St_bits 1 = .ok (.getfield 9, 3) := by decide +kernel
theorem d_St_bits_4 : decode b_St_bits 4 = .ok (.ireturn, 1) := by decide +kernel
theorem d_M_setCounter_0 : decode b_M_setCounter 0 = .ok (.aload_n 0, 1) := by decide +kernel
theorem d_M_setCounter_1 : decode b_M_setCounter 1 = .ok (.iload_n 1, 1) := by decide +kernel
theorem d_M_setCounter_2 : decode b_M_setCounter 2 = .ok (.sipush 1022, 3) := by decide +kernel
theorem d_M_setCounter_5 : decode b_M_setCounter 5 = .ok (.iand, 1) := by decide +kernel
theorem d_M_setCounter_6 : decode b_M_setCounter 6 = .ok (.putfield 71, 3) := by decide +kernel
theorem d_M_setCounter_9 : decode b_M_setCounter 9 = .ok (.return_, 1) := by decide +kernel
theorem d_M_switchThrough_0 : decode b_M_switchThrough 0 = .ok (.aload_n 0, 1) := by decide +kernel
theorem d_M_switchThrough_1 : decode b_M_switchThrough 1 = .ok (.getfield 107, 3) := by decide +kernel
theorem d_M_switchThrough_4 : decode b_M_switchThrough 4 = .ok (.istore_n 2, 1) := by decide +kernel
theorem d_M_switchThrough_5 : decode b_M_switchThrough 5 = .ok (.aload_n 0, 1) := by decide +kernel
theorem d_M_switchThrough_6 : decode b_M_switchThrough 6 = .ok (.getfield 12, 3) := by decide +kernel
theorem d_M_switchThrough_9 : decode b_M_switchThrough 9 = .ok (.iload_n 1, 1) := by decide +kernel
theorem d_M_switchThrough_10 : decode b_M_switchThrough 10 = .ok (.invokevirtual 60, 3) := by decide +kernel
theorem d_M_switchThrough_13 : decode b_M_switchThrough 13 = .ok (.istore_n 3, 1) := by decide +kernel
theorem d_M_switchThrough_14 : decode b_M_switchThrough 14 = .ok (.aload_n 0, 1) := by decide +kernel
theorem d_M_switchThrough_15 : decode b_M_switchThrough 15 = .ok (.getfield 12, 3) := by decide +kernel
theorem d_M_switchThrough_18 : decode b_M_switchThrough 18 = .ok (.iload_n 1, 1) := by decide +kernel
theorem d_M_switchThrough_19 : decode b_M_switchThrough 19 = .ok (.iconst 2, 1) := by decide +kernel
theorem d_M_switchThrough_20 : decode b_M_switchThrough 20 = .ok (.iadd, 1) := by decide +kernel
theorem d_M_switchThrough_21 : decode b_M_switchThrough 21 = .ok (.invokevirtual 60, 3) := by decide +kernel
theorem d_M_switchThrough_24 : decode b_M_switchThrough 24 = .ok (.istore 4, 2) := by decide +kernel
theorem d_M_switchThrough_26 : decode b_M_switchThrough 26 = .ok (.aload_n 0, 1) := by decide +kernel
theorem d_M_switchThrough_27 : decode b_M_switchThrough 27 = .ok (.iload_n 3, 1) := by decide +kernel
theorem d_M_switchThrough_28 : decode b_M_switchThrough 28 = .ok (.invokevirtual 122, 3) := by decide +kernel
theorem d_M_switchThrough_31 : decode b_M_switchThrough 31 = .ok (.aload_n 0, 1) := by decide +kernel
theorem d_M_switchThrough_32 : decode b_M_switchThrough 32 = .ok (.bipush 13, 2) := by decide +kernel
theorem d_M_switchThrough_34 : decode b_M_switchThrough 34 = .ok (.iload_n 2, 1) := by decide +kernel
theorem d_M_switchThrough_35 : decode b_M_switchThrough 35 = .ok (.invokevirtual 90, 3) := by decide +kernel
theorem d_M_switchThrough_38 : decode b_M_switchThrough 38 = .ok (.aload_n 0, 1) := by decide +kernel
theorem d_M_switchThrough_39 : decode b_M_switchThrough 39 = .ok (.bipush 14, 2) := by decide +kernel
theorem d_M_switchThrough_41 : decode b_M_switchThrough 41 = .ok (.aload_n 0, 1) := by decide +kernel
theorem d_M_switchThrough_42 : decode b_M_switchThrough 42 = .ok (.getfield 71, 3) := by decide +kernel
theorem d_M_switchThrough_45 : decode b_M_switchThrough 45 = .ok (.invokevirtual 90, 3) := by decide +kernel
theorem d_M_switchThrough_48 : decode b_M_switchThrough 48 = .ok (.aload_n 0, 1) := by decide +kernel
theorem d_M_switchThrough_49 : decode b_M_switchThrough 49 = .ok (.bipush 15, 2) := by decide +kernel
theorem d_M_switchThrough_51 : decode b_M_switchThrough 51 = .ok (.aload_n 0, 1) := by decide +kernel
theorem d_M_switchThrough_52 : decode b_M_switchThrough 52 = .ok (.getfield 26, 3) := by decide +kernel
theorem d_M_switchThrough_55 : decode b_M_switchThrough 55 = .ok (.invokevirtual 110, 3) := by decide +kernel
theorem d_M_switchThrough_58 : decode b_M_switchThrough 58 = .ok (.invokevirtual 90, 3) := by decide +kernel
theorem d_M_switchThrough_61 : decode b_M_switchThrough 61 = .ok (.aload_n 0, 1) := by decide +kernel
theorem d_M_switchThrough_62 : decode b_M_switchThrough 62 = .ok (.iload 4, 2) := by decide +kernel
theorem d_M_switchThrough_64 : decode b_M_switchThrough 64 = .ok (.invokevirtual 116, 3) := by decide +kernel
theorem d_M_switchThrough_67 : decode b_M_switchThrough 67 = .ok (.return_, 1) := by decide +kernel
theorem d_St_setMask_0 : decode b_St_setMask 0 = .ok (.aload_n 0, 1) := by decide +kernel
theorem d_St_setMask_1 : decode b_St_setMask 1 = .ok (.aload_n 0, 1) := by decide +kernel
theorem d_St_setMask_2 : decode b_St_setMask 2 = .ok (.getfield 9, 3) := by decide +kernel
theorem d_St_setMask_5 : decode b_St_setMask 5 = .ok (.bipush (-16), 2) := by decide +kernel
theorem d_St_setMask_7 : decode b_St_setMask 7 = .ok (.iand, 1) := by decide +kernel
theorem d_St_setMask_8 : decode b_St_setMask 8 = .ok (.iload_n 1, 1) := by decide +kernel
theorem d_St_setMask_9 : decode b_St_setMask 9 = .ok (.bipush 15, 2) := by decide +kernel
theorem d_St_setMask_11 : decode b_St_setMask 11 = .ok (.iand, 1) := by decide +kernel
theorem d_St_setMask_12 : decode b_St_setMask 12 = .ok (.ior, 1) := by decide +kernel
theorem d_St_setMask_13 : decode b_St_setMask 13 = .ok (.putfield 9, 3) := by decide +kernel
theorem d_St_setMask_16 : decode b_St_setMask 16 = .ok (.return_, 1) := by decide +kernel
theorem d_M_reset_0 : decode b_M_reset 0 = .ok (.aload_n 0, 1) := by decide +kernel
theorem d_M_reset_1 : decode b_M_reset 1 = .ok (.iconst 0, 1) := by decide +kernel
theorem d_M_reset_2 : decode b_M_reset 2 = .ok (.invokevirtual 34, 3) := by decide +kernel
theorem d_M_reset_5 : decode b_M_reset 5 = .ok (.aload_n 0, 1) := by decide +kernel
theorem d_M_reset_6 : decode b_M_reset 6 = .ok (.getfield 26, 3) := by decide +kernel
theorem d_M_reset_9 : decode b_M_reset 9 = .ok (.iconst 0, 1) := by decide +kernel
theorem d_M_reset_10 : decode b_M_reset 10 = .ok (.invokevirtual 38, 3) := by decide +kernel
theorem d_M_reset_13 : decode b_M_reset 13 = .ok (.aload_n 0, 1) := by decide +kernel
theorem d_M_reset_14 : decode b_M_reset 14 = .ok (.iconst 0, 1) := by decide +kernel
theorem d_M_reset_15 : decode b_M_reset 15 = .ok (.putfield 41, 3) := by decide +kernel
theorem d_M_reset_18 : decode b_M_reset 18 = .ok (.return_, 1) := by decide +kernel
theorem d_M_isWordAddress_0 : decode b_M_isWordAddress 0 = .ok (.iload_n 0, 1) := by decide +kernel
theorem d_M_isWordAddress_1 : decode b_M_isWordAddress 1 = .ok (.sipush 1022, 3) := by decide +kernel
theorem d_M_isWordAddress_4 : decode b_M_isWordAddress 4 = .ok (.iand, 1) := by decide +kernel
theorem d_M_isWordAddress_5 : decode b_M_isWordAddress 5 = .ok (.iload_n 0, 1) := by decide +kernel
theorem d_M_isWordAddress_6 : decode b_M_isWordAddress 6 = .ok (.if_icmp .ne 7, 3) := by decide +kernel
theorem d_M_isWordAddress_9 : decode b_M_isWordAddress 9 = .ok (.iconst 1, 1) := by decide +kernel
theorem d_M_isWordAddress_10 : decode b_M_isWordAddress 10 = .ok (.goto 4, 3) := by decide +kernel
theorem d_M_isWordAddress_13 : decode b_M_isWordAddress 13 = .ok (.iconst 0, 1) := by decide +kernel
theorem d_M_isWordAddress_14 : decode b_M_isWordAddress 14 = .ok (.ireturn, 1) := by decide +kernel
theorem d_M_poke_0 : decode b_M_poke 0 = .ok (.iload_n 1, 1) := by decide +kernel
theorem d_M_poke_1 : decode b_M_poke 1 = .ok (.invokestatic 45, 3) := by decide +kernel
theorem d_M_poke_4 : decode b_M_poke 4 = .ok (.ifCond .ne 13, 3) := by decide +kernel
theorem d_M_poke_7 : decode b_M_poke 7 = .ok (.new 49, 3) := by decide +kernel
theorem d_M_poke_10 : decode b_M_poke 10 = .ok (.dup, 1) := by decide +kernel
theorem d_M_poke_11 : decode b_M_poke 11 = .ok (.ldc 51, 2) := by decide +kernel
theorem d_M_poke_13 : decode b_M_poke 13 = .ok (.invokespecial 53, 3) := by decide +kernel
theorem d_M_poke_16 : decode b_M_poke 16 = .ok (.athrow, 1) := by decide +kernel
theorem d_M_poke_17 : decode b_M_poke 17 = .ok (.aload_n 0, 1) := by decide +kernel
theorem d_M_poke_18 : decode b_M_poke 18 = .ok (.getfield 12, 3) := by decide +kernel
theorem d_M_poke_21 : decode b_M_poke 21 = .ok (.iload_n 1, 1) := by decide +kernel
theorem d_M_poke_22 : decode b_M_poke 22 = .ok (.iload_n 2, 1) := by decide +kernel
theorem d_M_poke_23 : decode b_M_poke 23 = .ok (.invokevirtual 56, 3) := by decide +kernel
theorem d_M_poke_26 : decode b_M_poke 26 = .ok (.return_, 1) := by decide +kernel
theorem d_M_peek_0 : decode b_M_peek 0 = .ok (.iload_n 1, 1) := by decide +kernel
theorem d_M_peek_1 : decode b_M_peek 1 = .ok (.invokestatic 45, 3) := by decide +kernel
theorem d_M_peek_4 : decode b_M_peek 4 = .ok (.ifCond .ne 13, 3) := by decide +kernel
theorem d_M_peek_7 : decode b_M_peek 7 = .ok (.new 49, 3) := by decide +kernel
theorem d_M_peek_10 : decode b_M_peek 10 = .ok (.dup, 1) := by decide +kernel
theorem d_M_peek_11 : decode b_M_peek 11 = .ok (.ldc 51, 2) := by decide +kernel
theorem d_M_peek_13 : decode b_M_peek 13 = .ok (.invokespecial 53, 3) := by decide +kernel
theorem d_M_peek_16 : decode b_M_peek 16 = .ok (.athrow, 1) := by decide +kernel
theorem d_M_peek_17 : decode b_M_peek 17 = .ok (.aload_n 0, 1) := by decide +kernel
theorem d_M_peek_18 : decode b_M_peek 18 = .ok (.getfield 12, 3) := by decide +kernel
theorem d_M_peek_21 : decode b_M_peek 21 = .ok (.iload_n 1, 1) := by decide +kernel
theorem d_M_peek_22 : decode b_M_peek 22 = .ok (.invokevirtual 60, 3) := by decide +kernel
theorem d_M_peek_25 : decode b_M_peek 25 = .ok (.i2c, 1) := by decide +kernel
theorem d_M_peek_26 : decode b_M_peek 26 = .ok (.ireturn, 1) := by decide +kernel
theorem d_St_mask_0 : decode b_St_mask 0 = .ok (.aload_n 0, 1) := by decide +kernel
theorem d_St_mask_1 : decode b_St_mask 1 = .ok (.getfield 9, 3) := by decide +kernel
theorem d_St_mask_4 : decode b_St_mask 4 = .ok (.bipush 15, 2) := by decide +kernel
theorem d_St_mask_6 : decode b_St_mask 6 = .ok (.iand, 1) := by decide +kernel
theorem d_St_mask_7 : decode b_St_mask 7 = .ok (.ireturn, 1) := by decide +kernel
theorem d_M_interrupt_0 : decode b_M_interrupt 0 = .ok (.aload_n 0, 1) := by decide +kernel
theorem d_M_interrupt_1 : decode b_M_interrupt 1 = .ok (.iconst 4, 1) := by decide +kernel
theorem d_M_interrupt_2 : decode b_M_interrupt 2 = .ok (.aload_n 0, 1) := by decide +kernel
theorem d_M_interrupt_3 : decode b_M_interrupt 3 = .ok (.getfield 30, 3) := by decide +kernel
theorem d_M_interrupt_6 : decode b_M_interrupt 6 = .ok (.imul, 1) := by decide +kernel
theorem d_M_interrupt_7 : decode b_M_interrupt 7 = .ok (.invokevirtual 34, 3) := by decide +kernel
theorem d_M_interrupt_10 : decode b_M_interrupt 10 = .ok (.aload_n 0, 1) := by decide +kernel
theorem d_M_interrupt_11 : decode b_M_interrupt 11 = .ok (.getfield 26, 3) := by decide +kernel
theorem d_M_interrupt_14 : decode b_M_interrupt 14 = .ok (.aload_n 0, 1) := by decide +kernel
theorem d_M_interrupt_15 : decode b_M_interrupt 15 = .ok (.getfield 30, 3) := by decide +kernel
theorem d_M_interrupt_18 : decode b_M_interrupt 18 = .ok (.ifCond .ne 7, 3) := by decide +kernel
theorem d_M_interrupt_21 : decode b_M_interrupt 21 = .ok (.iconst 0, 1) := by decide +kernel
theorem d_M_interrupt_22 : decode b_M_interrupt 22 = .ok (.goto 9, 3) := by decide +kernel
theorem d_M_interrupt_25 : decode b_M_interrupt 25 = .ok (.aload_n 0, 1) := by decide +kernel
theorem d_M_interrupt_26 : decode b_M_interrupt 26 = .ok (.getfield 30, 3) := by decide +kernel
theorem d_M_interrupt_29 : decode b_M_interrupt 29 = .ok (.iconst 1, 1) := by decide +kernel
theorem d_M_interrupt_30 : decode b_M_interrupt 30 = .ok (.isub, 1) := by decide +kernel
theorem d_M_interrupt_31 : decode b_M_interrupt 31 = .ok (.invokevirtual 38, 3) := by decide +kernel
theorem d_M_interrupt_34 : decode b_M_interrupt 34 = .ok (.aload_n 0, 1) := by decide +kernel
theorem d_M_interrupt_35 : decode b_M_interrupt 35 = .ok (.iconst 0, 1) := by decide +kernel
theorem d_M_interrupt_36 : decode b_M_interrupt 36 = .ok (.putfield 41, 3) := by decide +kernel
theorem d_M_interrupt_39 : decode b_M_interrupt 39 = .ok (.return_, 1) := by decide +kernel
theorem d_M_fetch_0 : decode b_M_fetch 0 = .ok (.aload_n 0, 1) := by decide +kernel
theorem d_M_fetch_1 : decode b_M_fetch 1 = .ok (.getfield 12, 3) := by decide +kernel
theorem d_M_fetch_4 : decode b_M_fetch 4 = .ok (.aload_n 0, 1) := by decide +kernel
theorem d_M_fetch_5 : decode b_M_fetch 5 = .ok (.getfield 71, 3) := by decide +kernel
theorem d_M_fetch_8 : decode b_M_fetch 8 = .ok (.invokevirtual 60, 3) := by decide +kernel
theorem d_M_fetch_11 : decode b_M_fetch 11 = .ok (.istore_n 1, 1) := by decide +kernel
theorem d_M_fetch_12 : decode b_M_fetch 12 = .ok (.aload_n 0, 1) := by decide +kernel
theorem d_M_fetch_13 : decode b_M_fetch 13 = .ok (.aload_n 0, 1) := by decide +kernel
theorem d_M_fetch_14 : decode b_M_fetch 14 = .ok (.getfield 71, 3) := by decide +kernel
theorem d_M_fetch_17 : decode b_M_fetch 17 = .ok (.iconst 2, 1) := by decide +kernel
theorem d_M_fetch_18 : decode b_M_fetch 18 = .ok (.iadd, 1) := by decide +kernel
theorem d_M_fetch_19 : decode b_M_fetch 19 = .ok (.invokevirtual 116, 3) := by decide +kernel
theorem d_M_fetch_22 : decode b_M_fetch 22 = .ok (.iload_n 1, 1) := by decide +kernel
theorem d_M_fetch_23 : decode b_M_fetch 23 = .ok (.ireturn, 1) := by decide +kernel
theorem d_M_register_0 : decode b_M_register 0 = .ok (.aload_n 0, 1) := by decide +kernel
theorem d_M_register_1 : decode b_M_register 1 = .ok (.getfield 12, 3) := by decide +kernel
theorem d_M_register_4 : decode b_M_register 4 = .ok (.aload_n 0, 1) := by decide +kernel
theorem d_M_register_5 : decode b_M_register 5 = .ok (.iload_n 1, 1) := by decide +kernel
theorem d_M_register_6 : decode b_M_register 6 = .ok (.invokevirtual 119, 3) := by decide +kernel
theorem d_M_register_9 : decode b_M_register 9 = .ok (.invokevirtual 60, 3) := by decide +kernel
theorem d_M_register_12 : decode b_M_register 12 = .ok (.ireturn, 1) := by decide +kernel
theorem d_M_isExecute_0 : decode b_M_isExecute 0 = .ok (.iload_n 0, 1) := by decide +kernel
theorem d_M_isExecute_1 : decode b_M_isExecute 1 = .ok (.ldc 115, 2) := by decide +kernel
theorem d_M_isExecute_3 : decode b_M_isExecute 3 = .ok (.iand, 1) := by decide +kernel
theorem d_M_isExecute_4 : decode b_M_isExecute 4 = .ok (.sipush 1152, 3) := by decide +kernel
theorem d_M_isExecute_7 : decode b_M_isExecute 7 = .ok (.if_icmp .ne 7, 3) := by decide +kernel
theorem d_M_isExecute_10 : decode b_M_isExecute 10 = .ok (.iconst 1, 1) := by decide +kernel
theorem d_M_isExecute_11 : decode b_M_isExecute 11 = .ok (.goto 4, 3) := by decide +kernel
theorem d_M_isExecute_14 : decode b_M_isExecute 14 = .ok (.iconst 0, 1) := by decide +kernel
theorem d_M_isExecute_15 : decode b_M_isExecute 15 = .ok (.ireturn, 1) := by decide +kernel
theorem d_M_operandAddress_0 : decode b_M_operandAddress 0 = .ok (.iload_n 1, 1) := by decide +kernel
theorem d_M_operandAddress_1 : decode b_M_operandAddress 1 = .ok (.bipush 15, 2) := by decide +kernel
theorem d_M_operandAddress_3 : decode b_M_operandAddress 3 = .ok (.iand, 1) := by decide +kernel
theorem d_M_operandAddress_4 : decode b_M_operandAddress 4 = .ok (.istore_n 3, 1) := by decide +kernel
theorem d_M_operandAddress_5 : decode b_M_operandAddress 5 = .ok (.iload_n 1, 1) := by decide +kernel
theorem d_M_operandAddress_6 : decode b_M_operandAddress 6 = .ok (.iconst 4, 1) := by decide +kernel
theorem d_M_operandAddress_7 : decode b_M_operandAddress 7 = .ok (.ishr, 1) := by decide +kernel
theorem d_M_operandAddress_8 : decode b_M_operandAddress 8 = .ok (.iconst 3, 1) := by decide +kernel
theorem d_M_operandAddress_9 : decode b_M_operandAddress 9 = .ok (.iand, 1) := by decide +kernel
theorem d_M_operandAddress_10 : decode b_M_operandAddress 10 = .ok (.tableswitch 69 0 2 #[26, 36, 46], 26) := by decide +kernel
theorem d_M_operandAddress_36 : decode b_M_operandAddress 36 = .ok (.aload_n 0, 1) := by decide +kernel
theorem d_M_operandAddress_37 : decode b_M_operandAddress 37 = .ok (.iload_n 3, 1) := by decide +kernel
theorem d_M_operandAddress_38 : decode b_M_operandAddress 38 = .ok (.invokevirtual 119, 3) := by decide +kernel
theorem d_M_operandAddress_41 : decode b_M_operandAddress 41 = .ok (.istore 4, 2) := by decide +kernel
theorem d_M_operandAddress_43 : decode b_M_operandAddress 43 = .ok (.goto 52, 3) := by decide +kernel
theorem d_M_operandAddress_46 : decode b_M_operandAddress 46 = .ok (.aload_n 0, 1) := by decide +kernel
theorem d_M_operandAddress_47 : decode b_M_operandAddress 47 = .ok (.iload_n 3, 1) := by decide +kernel
theorem d_M_operandAddress_48 : decode b_M_operandAddress 48 = .ok (.invokevirtual 77, 3) := by decide +kernel
theorem d_M_operandAddress_51 : decode b_M_operandAddress 51 = .ok (.istore 4, 2) := by decide +kernel
theorem d_M_operandAddress_53 : decode b_M_operandAddress 53 = .ok (.goto 42, 3) := by decide +kernel
theorem d_M_operandAddress_56 : decode b_M_operandAddress 56 = .ok (.aload_n 0, 1) := by decide +kernel
theorem d_M_operandAddress_57 : decode b_M_operandAddress 57 = .ok (.invokevirtual 74, 3) := by decide +kernel
theorem d_M_operandAddress_60 : decode b_M_operandAddress 60 = .ok (.iload_n 3, 1) := by decide +kernel
theorem d_M_operandAddress_61 : decode b_M_operandAddress 61 = .ok (.ifCond .ne 7, 3) := by decide +kernel
theorem d_M_operandAddress_64 : decode b_M_operandAddress 64 = .ok (.iconst 0, 1) := by decide +kernel
theorem d_M_operandAddress_65 : decode b_M_operandAddress 65 = .ok (.goto 8, 3) := by decide +kernel
theorem d_M_operandAddress_68 : decode b_M_operandAddress 68 = .ok (.aload_n 0, 1) := by decide +kernel
theorem d_M_operandAddress_69 : decode b_M_operandAddress 69 = .ok (.iload_n 3, 1) := by decide +kernel
theorem d_M_operandAddress_70 : decode b_M_operandAddress 70 = .ok (.invokevirtual 77, 3) := by decide +kernel
theorem d_M_operandAddress_73 : decode b_M_operandAddress 73 = .ok (.iadd, 1) := by decide +kernel
theorem d_M_operandAddress_74 : decode b_M_operandAddress 74 = .ok (.istore 4, 2) := by decide +kernel
theorem d_M_operandAddress_76 : decode b_M_operandAddress 76 = .ok (.goto 19, 3) := by decide +kernel
theorem d_M_operandAddress_79 : decode b_M_operandAddress 79 = .ok (.aload_n 0, 1) := by decide +kernel
theorem d_M_operandAddress_80 : decode b_M_operandAddress 80 = .ok (.iload_n 3, 1) := by decide +kernel
theorem d_M_operandAddress_81 : decode b_M_operandAddress 81 = .ok (.invokevirtual 77, 3) := by decide +kernel
theorem d_M_operandAddress_84 : decode b_M_operandAddress 84 = .ok (.istore 4, 2) := by decide +kernel
theorem d_M_operandAddress_86 : decode b_M_operandAddress 86 = .ok (.aload_n 0, 1) := by decide +kernel
theorem d_M_operandAddress_87 : decode b_M_operandAddress 87 = .ok (.iload_n 3, 1) := by decide +kernel
theorem d_M_operandAddress_88 : decode b_M_operandAddress 88 = .ok (.iload 4, 2) := by decide +kernel
theorem d_M_operandAddress_90 : decode b_M_operandAddress 90 = .ok (.iload_n 2, 1) := by decide +kernel
theorem d_M_operandAddress_91 : decode b_M_operandAddress 91 = .ok (.iadd, 1) := by decide +kernel
theorem d_M_operandAddress_92 : decode b_M_operandAddress 92 = .ok (.invokevirtual 90, 3) := by decide +kernel
theorem d_M_operandAddress_95 : decode b_M_operandAddress 95 = .ok (.iload 4, 2) := by decide +kernel
theorem d_M_operandAddress_97 : decode b_M_operandAddress 97 = .ok (.sipush 1023, 3) := by decide +kernel
theorem d_M_operandAddress_100 : decode b_M_operandAddress 100 = .ok (.iand, 1) := by decide +kernel
theorem d_M_operandAddress_101 : decode b_M_operandAddress 101 = .ok (.ireturn, 1) := by decide +kernel
theorem d_Me_isUpper_0 : decode b_Me_isUpper 0 = .ok (.iload_n 0, 1) := by decide +kernel
theorem d_Me_isUpper_1 : decode b_Me_isUpper 1 = .ok (.iconst 1, 1) := by decide +kernel
theorem d_Me_isUpper_2 : decode b_Me_isUpper 2 = .ok (.iand, 1) := by decide +kernel
theorem d_Me_isUpper_3 : decode b_Me_isUpper 3 = .ok (.ifCond .ne 7, 3) := by decide +kernel
theorem d_Me_isUpper_6 : decode b_Me_isUpper 6 = .ok (.iconst 1, 1) := by decide +kernel
theorem d_Me_isUpper_7 : decode b_Me_isUpper 7 = .ok (.goto 4, 3) := by decide +kernel
theorem d_Me_isUpper_10 : decode b_Me_isUpper 10 = .ok (.iconst 0, 1) := by decide +kernel
theorem d_Me_isUpper_11 : decode b_Me_isUpper 11 = .ok (.ireturn, 1) := by decide +kernel
theorem d_Me_load_0 : decode b_Me_load 0 = .ok (.aload_n 0, 1) := by decide +kernel
theorem d_Me_load_1 : decode b_Me_load 1 = .ok (.iload_n 1, 1) := by decide +kernel
theorem d_Me_load_2 : decode b_Me_load 2 = .ok (.invokevirtual 15, 3) := by decide +kernel
theorem d_Me_load_5 : decode b_Me_load 5 = .ok (.istore_n 3, 1) := by decide +kernel
theorem d_Me_load_6 : decode b_Me_load 6 = .ok (.iload_n 2, 1) := by decide +kernel
theorem d_Me_load_7 : decode b_Me_load 7 = .ok (.iconst 2, 1) := by decide +kernel
theorem d_Me_load_8 : decode b_Me_load 8 = .ok (.if_icmp .ne 5, 3) := by decide +kernel
theorem d_Me_load_11 : decode b_Me_load 11 = .ok (.iload_n 3, 1) := by decide +kernel
theorem d_Me_load_12 : decode b_Me_load 12 = .ok (.ireturn, 1) := by decide +kernel
theorem d_Me_load_13 : decode b_Me_load 13 = .ok (.iload_n 1, 1) := by decide +kernel
theorem d_Me_load_14 : decode b_Me_load 14 = .ok (.invokestatic 19, 3) := by decide +kernel
theorem d_Me_load_17 : decode b_Me_load 17 = .ok (.ifCond .eq 10, 3) := by decide +kernel
theorem d_Me_load_20 : decode b_Me_load 20 = .ok (.iload_n 3, 1) := by decide +kernel
theorem d_Me_load_21 : decode b_Me_load 21 = .ok (.ldc 23, 2) := by decide +kernel
theorem d_Me_load_23 : decode b_Me_load 23 = .ok (.iand, 1) := by decide +kernel
theorem d_Me_load_24 : decode b_Me_load 24 = .ok (.goto 11, 3) := by decide +kernel
theorem d_Me_load_27 : decode b_Me_load 27 = .ok (.iload_n 3, 1) := by decide +kernel
theorem d_Me_load_28 : decode b_Me_load 28 = .ok (.sipush 255, 3) := by decide +kernel
theorem d_Me_load_31 : decode b_Me_load 31 = .ok (.iand, 1) := by decide +kernel
theorem d_Me_load_32 : decode b_Me_load 32 = .ok (.bipush 8, 2) := by decide +kernel
theorem d_Me_load_34 : decode b_Me_load 34 = .ok (.ishl, 1) := by decide +kernel
theorem d_Me_load_35 : decode b_Me_load 35 = .ok (.ireturn, 1) := by decide +kernel
theorem d_St_compare_0 : decode b_St_compare 0 = .ok (.iload_n 1, 1) := by decide +kernel
theorem d_St_compare_1 : decode b_St_compare 1 = .ok (.iload_n 2, 1) := by decide +kernel
theorem d_St_compare_2 : decode b_St_compare 2 = .ok (.if_icmp .le 8, 3) := by decide +kernel
theorem d_St_compare_5 : decode b_St_compare 5 = .ok (.ldc 15, 2) := by decide +kernel
theorem d_St_compare_7 : decode b_St_compare 7 = .ok (.goto 4, 3) := by decide +kernel
theorem d_St_compare_10 : decode b_St_compare 10 = .ok (.iconst 0, 1) := by decide +kernel
theorem d_St_compare_11 : decode b_St_compare 11 = .ok (.istore_n 3, 1) := by decide +kernel
theorem d_St_compare_12 : decode b_St_compare 12 = .ok (.iload_n 1, 1) := by decide +kernel
theorem d_St_compare_13 : decode b_St_compare 13 = .ok (.i2s, 1) := by decide +kernel
theorem d_St_compare_14 : decode b_St_compare 14 = .ok (.iload_n 2, 1) := by decide +kernel
theorem d_St_compare_15 : decode b_St_compare 15 = .ok (.i2s, 1) := by decide +kernel
theorem d_St_compare_16 : decode b_St_compare 16 = .ok (.if_icmp .le 9, 3) := by decide +kernel
theorem d_St_compare_19 : decode b_St_compare 19 = .ok (.sipush 16384, 3) := by decide +kernel
theorem d_St_compare_22 : decode b_St_compare 22 = .ok (.goto 4, 3) := by decide +kernel
theorem d_St_compare_25 : decode b_St_compare 25 = .ok (.iconst 0, 1) := by decide +kernel
theorem d_St_compare_26 : decode b_St_compare 26 = .ok (.istore 4, 2) := by decide +kernel
theorem d_St_compare_28 : decode b_St_compare 28 = .ok (.iload_n 1, 1) := by decide +kernel
theorem d_St_compare_29 : decode b_St_compare 29 = .ok (.iload_n 2, 1) := by decide +kernel
theorem d_St_compare_30 : decode b_St_compare 30 = .ok (.if_icmp .ne 9, 3) := by decide +kernel
theorem d_St_compare_33 : decode b_St_compare 33 = .ok (.sipush 8192, 3) := by decide +kernel
theorem d_St_compare_36 : decode b_St_compare 36 = .ok (.goto 4, 3) := by decide +kernel
theorem d_St_compare_39 : decode b_St_compare 39 = .ok (.iconst 0, 1) := by decide +kernel
theorem d_St_compare_40 : decode b_St_compare 40 = .ok (.istore 5, 2) := by decide +kernel
theorem d_St_compare_42 : decode b_St_compare 42 = .ok (.aload_n 0, 1) := by decide +kernel
theorem d_St_compare_43 : decode b_St_compare 43 = .ok (.aload_n 0, 1) := by decide +kernel
theorem d_St_compare_44 : decode b_St_compare 44 = .ok (.getfield 9, 3) := by decide +kernel
theorem d_St_compare_47 : decode b_St_compare 47 = .ok (.ldc 16, 2) := by decide +kernel
theorem d_St_compare_49 : decode b_St_compare 49 = .ok (.iand, 1) := by decide +kernel
theorem d_St_compare_50 : decode b_St_compare 50 = .ok (.iload_n 3, 1) := by decide +kernel
theorem d_St_compare_51 : decode b_St_compare 51 = .ok (.ior, 1) := by decide +kernel
theorem d_St_compare_52 : decode b_St_compare 52 = .ok (.iload 4, 2) := by decide +kernel
theorem d_St_compare_54 : decode b_St_compare 54 = .ok (.ior, 1) := by decide +kernel
theorem d_St_compare_55 : decode b_St_compare 55 = .ok (.iload 5, 2) := by decide +kernel
theorem d_St_compare_57 : decode b_St_compare 57 = .ok (.ior, 1) := by decide +kernel
theorem d_St_compare_58 : decode b_St_compare 58 = .ok (.putfield 9, 3) := by decide +kernel
theorem d_St_compare_61 : decode b_St_compare 61 = .ok (.return_, 1) := by decide +kernel
theorem d_In_bitCount_0 : decode b_In_bitCount 0 = .ok (.iload_n 0, 1) := by decide +kernel
theorem d_In_bitCount_1 : decode b_In_bitCount 1 = .ok (.iload_n 0, 1) := by decide +kernel
theorem d_In_bitCount_2 : decode b_In_bitCount 2 = .ok (.iconst 1, 1) := by decide +kernel
theorem d_In_bitCount_3 : decode b_In_bitCount 3 = .ok (.iushr, 1) := by decide +kernel
theorem d_In_bitCount_4 : decode b_In_bitCount 4 = .ok (.ldc_w 265, 3) := by decide +kernel
theorem d_In_bitCount_7 : decode b_In_bitCount 7 = .ok (.iand, 1) := by decide +kernel
theorem d_In_bitCount_8 : decode b_In_bitCount 8 = .ok (.isub, 1) := by decide +kernel
theorem d_In_bitCount_9 : decode b_In_bitCount 9 = .ok (.istore_n 0, 1) := by decide +kernel
theorem d_In_bitCount_10 : decode b_In_bitCount 10 = .ok (.iload_n 0, 1) := by decide +kernel
theorem d_In_bitCount_11 : decode b_In_bitCount 11 = .ok (.ldc_w 266, 3) := by decide +kernel
theorem d_In_bitCount_14 : decode b_In_bitCount 14 = .ok (.iand, 1) := by decide +kernel
theorem d_In_bitCount_15 : decode b_In_bitCount 15 = .ok (.iload_n 0, 1) := by decide +kernel
theorem d_In_bitCount_16 : decode b_In_bitCount 16 = .ok (.iconst 2, 1) := by decide +kernel
theorem d_In_bitCount_17 : decode b_In_bitCount 17 = .ok (.iushr, 1) := by decide +kernel
theorem d_In_bitCount_18 : decode b_In_bitCount 18 = .ok (.ldc_w 266, 3) := by decide +kernel
theorem d_In_bitCount_21 : decode b_In_bitCount 21 = .ok (.iand, 1) := by decide +kernel
theorem d_In_bitCount_22 : decode b_In_bitCount 22 = .ok (.iadd, 1) := by decide +kernel
theorem d_In_bitCount_23 : decode b_In_bitCount 23 = .ok (.istore_n 0, 1) := by decide +kernel
theorem d_In_bitCount_24 : decode b_In_bitCount 24 = .ok (.iload_n 0, 1) := by decide +kernel
theorem d_In_bitCount_25 : decode b_In_bitCount 25 = .ok (.iload_n 0, 1) := by decide +kernel
theorem d_In_bitCount_26 : decode b_In_bitCount 26 = .ok (.iconst 4, 1) := by decide +kernel
theorem d_In_bitCount_27 : decode b_In_bitCount 27 = .ok (.iushr, 1) := by decide +kernel
theorem d_In_bitCount_28 : decode b_In_bitCount 28 = .ok (.iadd, 1) := by decide +kernel
theorem d_In_bitCount_29 : decode b_In_bitCount 29 = .ok (.ldc_w 267, 3) := by decide +kernel
theorem d_In_bitCount_32 : decode b_In_bitCount 32 = .ok (.iand, 1) := by decide +kernel
theorem d_In_bitCount_33 : decode b_In_bitCount 33 = .ok (.istore_n 0, 1) := by decide +kernel
theorem d_In_bitCount_34 : decode b_In_bitCount 34 = .ok (.iload_n 0, 1) := by decide +kernel
theorem d_In_bitCount_35 : decode b_In_bitCount 35 = .ok (.iload_n 0, 1) := by decide +kernel
theorem d_In_bitCount_36 : decode b_In_bitCount 36 = .ok (.bipush 8, 2) := by decide +kernel
theorem d_In_bitCount_38 : decode b_In_bitCount 38 = .ok (.iushr, 1) := by decide +kernel
theorem d_In_bitCount_39 : decode b_In_bitCount 39 = .ok (.iadd, 1) := by decide +kernel
theorem d_In_bitCount_40 : decode b_In_bitCount 40 = .ok (.istore_n 0, 1) := by decide +kernel
theorem d_In_bitCount_41 : decode b_In_bitCount 41 = .ok (.iload_n 0, 1) := by decide +kernel
theorem d_In_bitCount_42 : decode b_In_bitCount 42 = .ok (.iload_n 0, 1) := by decide +kernel
theorem d_In_bitCount_43 : decode b_In_bitCount 43 = .ok (.bipush 16, 2) := by decide +kernel
theorem d_In_bitCount_45 : decode b_In_bitCount 45 = .ok (.iushr, 1) := by decide +kernel
theorem d_In_bitCount_46 : decode b_In_bitCount 46 = .ok (.iadd, 1) := by decide +kernel
theorem d_In_bitCount_47 : decode b_In_bitCount 47 = .ok (.istore_n 0, 1) := by decide +kernel
theorem d_In_bitCount_48 : decode b_In_bitCount 48 = .ok (.iload_n 0, 1) := by decide +kernel
theorem d_In_bitCount_49 : decode b_In_bitCount 49 = .ok (.bipush 63, 2) := by decide +kernel
theorem d_In_bitCount_51 : decode b_In_bitCount 51 = .ok (.iand, 1) := by decide +kernel
theorem d_In_bitCount_52 : decode b_In_bitCount 52 = .ok (.ireturn, 1) := by decide +kernel
theorem d_St_mark_0 : decode b_St_mark 0 = .ok (.aload_n 0, 1) := by decide +kernel
theorem d_St_mark_1 : decode b_St_mark 1 = .ok (.iload_n 2, 1) := by decide +kernel
theorem d_St_mark_2 : decode b_St_mark 2 = .ok (.ifCond .eq 12, 3) := by decide +kernel
theorem d_St_mark_5 : decode b_St_mark 5 = .ok (.aload_n 0, 1) := by decide +kernel
theorem d_St_mark_6 : decode b_St_mark 6 = .ok (.getfield 9, 3) := by decide +kernel
theorem d_St_mark_9 : decode b_St_mark 9 = .ok (.iload_n 1, 1) := by decide +kernel
theorem d_St_mark_10 : decode b_St_mark 10 = .ok (.ior, 1) := by decide +kernel
theorem d_St_mark_11 : decode b_St_mark 11 = .ok (.goto 11, 3) := by decide +kernel
theorem d_St_mark_14 : decode b_St_mark 14 = .ok (.aload_n 0, 1) := by decide +kernel
theorem d_St_mark_15 : decode b_St_mark 15 = .ok (.getfield 9, 3) := by decide +kernel
theorem d_St_mark_18 : decode b_St_mark 18 = .ok (.iload_n 1, 1) := by decide +kernel
theorem d_St_mark_19 : decode b_St_mark 19 = .ok (.iconst (-1), 1) := by decide +kernel
theorem d_St_mark_20 : decode b_St_mark 20 = .ok (.ixor, 1) := by decide +kernel
theorem d_St_mark_21 : decode b_St_mark 21 = .ok (.iand, 1) := by decide +kernel
theorem d_St_mark_22 : decode b_St_mark 22 = .ok (.putfield 9, 3) := by decide +kernel
theorem d_St_mark_25 : decode b_St_mark 25 = .ok (.return_, 1) := by decide +kernel
theorem d_St_markParity_0 : decode b_St_markParity 0 = .ok (.iload_n 2, 1) := by decide +kernel
theorem d_St_markParity_1 : decode b_St_markParity 1 = .ok (.iconst 1, 1) := by decide +kernel
theorem d_St_markParity_2 : decode b_St_markParity 2 = .ok (.if_icmp .ne 25, 3) := by decide +kernel
theorem d_St_markParity_5 : decode b_St_markParity 5 = .ok (.aload_n 0, 1) := by decide +kernel
theorem d_St_markParity_6 : decode b_St_markParity 6 = .ok (.sipush 1024, 3) := by decide +kernel
theorem d_St_markParity_9 : decode b_St_markParity 9 = .ok (.iload_n 1, 1) := by decide +kernel
theorem d_St_markParity_10 : decode b_St_markParity 10 = .ok (.invokestatic 30, 3) := by decide +kernel
theorem d_St_markParity_13 : decode b_St_markParity 13 = .ok (.iconst 1, 1) := by decide +kernel
theorem d_St_markParity_14 : decode b_St_markParity 14 = .ok (.iand, 1) := by decide +kernel
theorem d_St_markParity_15 : decode b_St_markParity 15 = .ok (.iconst 1, 1) := by decide +kernel
theorem d_St_markParity_16 : decode b_St_markParity 16 = .ok (.if_icmp .ne 7, 3) := by decide +kernel
theorem d_St_markParity_19 : decode b_St_markParity 19 = .ok (.iconst 1, 1) := by decide +kernel
theorem d_St_markParity_20 : decode b_St_markParity 20 = .ok (.goto 4, 3) := by decide +kernel
theorem d_St_markParity_23 : decode b_St_markParity 23 = .ok (.iconst 0, 1) := by decide +kernel
theorem d_St_markParity_24 : decode b_St_markParity 24 = .ok (.invokevirtual 22, 3) := by decide +kernel
theorem d_St_markParity_27 : decode b_St_markParity 27 = .ok (.return_, 1) := by decide +kernel
theorem d_St_tested_0 : decode b_St_tested 0 = .ok (.aload_n 0, 1) := by decide +kernel
theorem d_St_tested_1 : decode b_St_tested 1 = .ok (.iload_n 1, 1) := by decide +kernel
theorem d_St_tested_2 : decode b_St_tested 2 = .ok (.iconst 0, 1) := by decide +kernel
theorem d_St_tested_3 : decode b_St_tested 3 = .ok (.invokevirtual 17, 3) := by decide +kernel
theorem d_St_tested_6 : decode b_St_tested 6 = .ok (.iload_n 1, 1) := by decide +kernel
theorem d_St_tested_7 : decode b_St_tested 7 = .ok (.ireturn, 1) := by decide +kernel
theorem d_St_sum_0 : decode b_St_sum 0 = .ok (.iload_n 1, 1) := by decide +kernel
theorem d_St_sum_1 : decode b_St_sum 1 = .ok (.iload_n 2, 1) := by decide +kernel
theorem d_St_sum_2 : decode b_St_sum 2 = .ok (.iadd, 1) := by decide +kernel
theorem d_St_sum_3 : decode b_St_sum 3 = .ok (.iload_n 3, 1) := by decide +kernel
theorem d_St_sum_4 : decode b_St_sum 4 = .ok (.iadd, 1) := by decide +kernel
theorem d_St_sum_5 : decode b_St_sum 5 = .ok (.istore 4, 2) := by decide +kernel
theorem d_St_sum_7 : decode b_St_sum 7 = .ok (.iload 4, 2) := by decide +kernel
theorem d_St_sum_9 : decode b_St_sum 9 = .ok (.ldc 21, 2) := by decide +kernel
theorem d_St_sum_11 : decode b_St_sum 11 = .ok (.iand, 1) := by decide +kernel
theorem d_St_sum_12 : decode b_St_sum 12 = .ok (.istore 5, 2) := by decide +kernel
theorem d_St_sum_14 : decode b_St_sum 14 = .ok (.aload_n 0, 1) := by decide +kernel
theorem d_St_sum_15 : decode b_St_sum 15 = .ok (.sipush 4096, 3) := by decide +kernel
theorem d_St_sum_18 : decode b_St_sum 18 = .ok (.iload 4, 2) := by decide +kernel
theorem d_St_sum_20 : decode b_St_sum 20 = .ok (.ldc 21, 2) := by decide +kernel
theorem d_St_sum_22 : decode b_St_sum 22 = .ok (.if_icmp .le 7, 3) := by decide +kernel
theorem d_St_sum_25 : decode b_St_sum 25 = .ok (.iconst 1, 1) := by decide +kernel
theorem d_St_sum_26 : decode b_St_sum 26 = .ok (.goto 4, 3) := by decide +kernel
theorem d_St_sum_29 : decode b_St_sum 29 = .ok (.iconst 0, 1) := by decide +kernel
theorem d_St_sum_30 : decode b_St_sum 30 = .ok (.invokevirtual 22, 3) := by decide +kernel
theorem d_St_sum_33 : decode b_St_sum 33 = .ok (.aload_n 0, 1) := by decide +kernel
theorem d_St_sum_34 : decode b_St_sum 34 = .ok (.sipush 2048, 3) := by decide +kernel
theorem d_St_sum_37 : decode b_St_sum 37 = .ok (.iload_n 1, 1) := by decide +kernel
theorem d_St_sum_38 : decode b_St_sum 38 = .ok (.iload 5, 2) := by decide +kernel
theorem d_St_sum_40 : decode b_St_sum 40 = .ok (.ixor, 1) := by decide +kernel
theorem d_St_sum_41 : decode b_St_sum 41 = .ok (.iload_n 2, 1) := by decide +kernel
theorem d_St_sum_42 : decode b_St_sum 42 = .ok (.iload 5, 2) := by decide +kernel
theorem d_St_sum_44 : decode b_St_sum 44 = .ok (.ixor, 1) := by decide +kernel
theorem d_St_sum_45 : decode b_St_sum 45 = .ok (.iand, 1) := by decide +kernel
theorem d_St_sum_46 : decode b_St_sum 46 = .ok (.ldc 15, 2) := by decide +kernel
theorem d_St_sum_48 : decode b_St_sum 48 = .ok (.iand, 1) := by decide +kernel
theorem d_St_sum_49 : decode b_St_sum 49 = .ok (.ifCond .eq 7, 3) := by decide +kernel
theorem d_St_sum_52 : decode b_St_sum 52 = .ok (.iconst 1, 1) := by decide +kernel
theorem d_St_sum_53 : decode b_St_sum 53 = .ok (.goto 4, 3) := by decide +kernel
theorem d_St_sum_56 : decode b_St_sum 56 = .ok (.iconst 0, 1) := by decide +kernel
theorem d_St_sum_57 : decode b_St_sum 57 = .ok (.invokevirtual 22, 3) := by decide +kernel
theorem d_St_sum_60 : decode b_St_sum 60 = .ok (.aload_n 0, 1) := by decide +kernel
theorem d_St_sum_61 : decode b_St_sum 61 = .ok (.iload 5, 2) := by decide +kernel
theorem d_St_sum_63 : decode b_St_sum 63 = .ok (.invokevirtual 26, 3) := by decide +kernel
theorem d_St_sum_66 : decode b_St_sum 66 = .ok (.ireturn, 1) := by decide +kernel
theorem d_M_combined_0 : decode b_M_combined 0 = .ok (.iload_n 1, 1) := by decide +kernel
theorem d_M_combined_1 : decode b_M_combined 1 = .ok (.tableswitch 84 2 6 #[35, 48, 84, 64, 75], 35) := by decide +kernel
theorem d_M_combined_36 : decode b_M_combined 36 = .ok (.aload_n 0, 1) := by decide +kernel
theorem d_M_combined_37 : decode b_M_combined 37 = .ok (.getfield 26, 3) := by decide +kernel
theorem d_M_combined_40 : decode b_M_combined 40 = .ok (.iload_n 3, 1) := by decide +kernel
theorem d_M_combined_41 : decode b_M_combined 41 = .ok (.iload_n 2, 1) := by decide +kernel
theorem d_M_combined_42 : decode b_M_combined 42 = .ok (.iconst (-1), 1) := by decide +kernel
theorem d_M_combined_43 : decode b_M_combined 43 = .ok (.ixor, 1) := by decide +kernel
theorem d_M_combined_44 : decode b_M_combined 44 = .ok (.iand, 1) := by decide +kernel
theorem d_M_combined_45 : decode b_M_combined 45 = .ok (.invokevirtual 163, 3) := by decide +kernel
theorem d_M_combined_48 : decode b_M_combined 48 = .ok (.ireturn, 1) := by decide +kernel
theorem d_M_combined_49 : decode b_M_combined 49 = .ok (.aload_n 0, 1) := by decide +kernel
theorem d_M_combined_50 : decode b_M_combined 50 = .ok (.getfield 26, 3) := by decide +kernel
theorem d_M_combined_53 : decode b_M_combined 53 = .ok (.iload_n 3, 1) := by decide +kernel
theorem d_M_combined_54 : decode b_M_combined 54 = .ok (.iload_n 2, 1) := by decide +kernel
theorem d_M_combined_55 : decode b_M_combined 55 = .ok (.iconst (-1), 1) := by decide +kernel
theorem d_M_combined_56 : decode b_M_combined 56 = .ok (.ixor, 1) := by decide +kernel
theorem d_M_combined_57 : decode b_M_combined 57 = .ok (.ldc 166, 2) := by decide +kernel
theorem d_M_combined_59 : decode b_M_combined 59 = .ok (.iand, 1) := by decide +kernel
theorem d_M_combined_60 : decode b_M_combined 60 = .ok (.iconst 1, 1) := by decide +kernel
theorem d_M_combined_61 : decode b_M_combined 61 = .ok (.invokevirtual 167, 3) := by decide +kernel
theorem d_M_combined_64 : decode b_M_combined 64 = .ok (.ireturn, 1) := by decide +kernel
theorem d_M_combined_65 : decode b_M_combined 65 = .ok (.aload_n 0, 1) := by decide +kernel
theorem d_M_combined_66 : decode b_M_combined 66 = .ok (.getfield 26, 3) := by decide +kernel
theorem d_M_combined_69 : decode b_M_combined 69 = .ok (.iload_n 3, 1) := by decide +kernel
theorem d_M_combined_70 : decode b_M_combined 70 = .ok (.iload_n 2, 1) := by decide +kernel
theorem d_M_combined_71 : decode b_M_combined 71 = .ok (.iconst 0, 1) := by decide +kernel
theorem d_M_combined_72 : decode b_M_combined 72 = .ok (.invokevirtual 167, 3) := by decide +kernel
theorem d_M_combined_75 : decode b_M_combined 75 = .ok (.ireturn, 1) := by decide +kernel
theorem d_M_combined_76 : decode b_M_combined 76 = .ok (.aload_n 0, 1) := by decide +kernel
theorem d_M_combined_77 : decode b_M_combined 77 = .ok (.getfield 26, 3) := by decide +kernel
theorem d_M_combined_80 : decode b_M_combined 80 = .ok (.iload_n 2, 1) := by decide +kernel
theorem d_M_combined_81 : decode b_M_combined 81 = .ok (.invokevirtual 163, 3) := by decide +kernel
theorem d_M_combined_84 : decode b_M_combined 84 = .ok (.ireturn, 1) := by decide +kernel
theorem d_M_combined_85 : decode b_M_combined 85 = .ok (.aload_n 0, 1) := by decide +kernel
theorem d_M_combined_86 : decode b_M_combined 86 = .ok (.getfield 26, 3) := by decide +kernel
theorem d_M_combined_89 : decode b_M_combined 89 = .ok (.iload_n 3, 1) := by decide +kernel
theorem d_M_combined_90 : decode b_M_combined 90 = .ok (.iload_n 2, 1) := by decide +kernel
theorem d_M_combined_91 : decode b_M_combined 91 = .ok (.ior, 1) := by decide +kernel
theorem d_M_combined_92 : decode b_M_combined 92 = .ok (.invokevirtual 163, 3) := by decide +kernel
theorem d_M_combined_95 : decode b_M_combined 95 = .ok (.ireturn, 1) := by decide +kernel
theorem d_Me_store_0 : decode b_Me_store 0 = .ok (.iload_n 3, 1) := by decide +kernel
theorem d_Me_store_1 : decode b_Me_store 1 = .ok (.iconst 2, 1) := by decide +kernel
theorem d_Me_store_2 : decode b_Me_store 2 = .ok (.if_icmp .ne 12, 3) := by decide +kernel
theorem d_Me_store_5 : decode b_Me_store 5 = .ok (.aload_n 0, 1) := by decide +kernel
theorem d_Me_store_6 : decode b_Me_store 6 = .ok (.iload_n 1, 1) := by decide +kernel
theorem d_Me_store_7 : decode b_Me_store 7 = .ok (.iload_n 2, 1) := by decide +kernel
theorem d_Me_store_8 : decode b_Me_store 8 = .ok (.invokevirtual 24, 3) := by decide +kernel
theorem d_Me_store_11 : decode b_Me_store 11 = .ok (.goto 50, 3) := by decide +kernel
theorem d_Me_store_14 : decode b_Me_store 14 = .ok (.iload_n 1, 1) := by decide +kernel
theorem d_Me_store_15 : decode b_Me_store 15 = .ok (.invokestatic 19, 3) := by decide +kernel
theorem d_Me_store_18 : decode b_Me_store 18 = .ok (.ifCond .eq 25, 3) := by decide +kernel
theorem d_Me_store_21 : decode b_Me_store 21 = .ok (.aload_n 0, 1) := by decide +kernel
theorem d_Me_store_22 : decode b_Me_store 22 = .ok (.iload_n 1, 1) := by decide +kernel
theorem d_Me_store_23 : decode b_Me_store 23 = .ok (.iload_n 2, 1) := by decide +kernel
theorem d_Me_store_24 : decode b_Me_store 24 = .ok (.ldc 23, 2) := by decide +kernel
theorem d_Me_store_26 : decode b_Me_store 26 = .ok (.iand, 1) := by decide +kernel
theorem d_Me_store_27 : decode b_Me_store 27 = .ok (.aload_n 0, 1) := by decide +kernel
theorem d_Me_store_28 : decode b_Me_store 28 = .ok (.iload_n 1, 1) := by decide +kernel
theorem d_Me_store_29 : decode b_Me_store 29 = .ok (.invokevirtual 15, 3) := by decide +kernel
theorem d_Me_store_32 : decode b_Me_store 32 = .ok (.sipush 255, 3) := by decide +kernel
theorem d_Me_store_35 : decode b_Me_store 35 = .ok (.iand, 1) := by decide +kernel
theorem d_Me_store_36 : decode b_Me_store 36 = .ok (.ior, 1) := by decide +kernel
theorem d_Me_store_37 : decode b_Me_store 37 = .ok (.invokevirtual 24, 3) := by decide +kernel
theorem d_Me_store_40 : decode b_Me_store 40 = .ok (.goto 21, 3) := by decide +kernel
theorem d_Me_store_43 : decode b_Me_store 43 = .ok (.aload_n 0, 1) := by decide +kernel
theorem d_Me_store_44 : decode b_Me_store 44 = .ok (.iload_n 1, 1) := by decide +kernel
theorem d_Me_store_45 : decode b_Me_store 45 = .ok (.aload_n 0, 1) := by decide +kernel
theorem d_Me_store_46 : decode b_Me_store 46 = .ok (.iload_n 1, 1) := by decide +kernel
theorem d_Me_store_47 : decode b_Me_store 47 = .ok (.invokevirtual 15, 3) := by decide +kernel
theorem d_Me_store_50 : decode b_Me_store 50 = .ok (.ldc 23, 2) := by decide +kernel
theorem d_Me_store_52 : decode b_Me_store 52 = .ok (.iand, 1) := by decide +kernel
theorem d_Me_store_53 : decode b_Me_store 53 = .ok (.iload_n 2, 1) := by decide +kernel
theorem d_Me_store_54 : decode b_Me_store 54 = .ok (.bipush 8, 2) := by decide +kernel
theorem d_Me_store_56 : decode b_Me_store 56 = .ok (.ishr, 1) := by decide +kernel
theorem d_Me_store_57 : decode b_Me_store 57 = .ok (.ior, 1) := by decide +kernel
theorem d_Me_store_58 : decode b_Me_store 58 = .ok (.invokevirtual 24, 3) := by decide +kernel
theorem d_Me_store_61 : decode b_Me_store 61 = .ok (.return_, 1) := by decide +kernel
theorem d_M_runOnTwoOperands_0 : decode b_M_runOnTwoOperands 0 = .ok (.iload_n 1, 1) := by decide +kernel
theorem d_M_runOnTwoOperands_1 : decode b_M_runOnTwoOperands 1 = .ok (.sipush 4096, 3) := by decide +kernel
theorem d_M_runOnTwoOperands_4 : decode b_M_runOnTwoOperands 4 = .ok (.iand, 1) := by decide +kernel
theorem d_M_runOnTwoOperands_5 : decode b_M_runOnTwoOperands 5 = .ok (.ifCond .ne 7, 3) := by decide +kernel
theorem d_M_runOnTwoOperands_8 : decode b_M_runOnTwoOperands 8 = .ok (.iconst 2, 1) := by decide +kernel
theorem d_M_runOnTwoOperands_9 : decode b_M_runOnTwoOperands 9 = .ok (.goto 4, 3) := by decide +kernel
theorem d_M_runOnTwoOperands_12 : decode b_M_runOnTwoOperands 12 = .ok (.iconst 1, 1) := by decide +kernel
theorem d_M_runOnTwoOperands_13 : decode b_M_runOnTwoOperands 13 = .ok (.istore_n 2, 1) := by decide +kernel
theorem d_M_runOnTwoOperands_14 : decode b_M_runOnTwoOperands 14 = .ok (.aload_n 0, 1) := by decide +kernel
theorem d_M_runOnTwoOperands_15 : decode b_M_runOnTwoOperands 15 = .ok (.getfield 12, 3) := by decide +kernel
theorem d_M_runOnTwoOperands_18 : decode b_M_runOnTwoOperands 18 = .ok (.aload_n 0, 1) := by decide +kernel
theorem d_M_runOnTwoOperands_19 : decode b_M_runOnTwoOperands 19 = .ok (.iload_n 1, 1) := by decide +kernel
theorem d_M_runOnTwoOperands_20 : decode b_M_runOnTwoOperands 20 = .ok (.iload_n 2, 1) := by decide +kernel
theorem d_M_runOnTwoOperands_21 : decode b_M_runOnTwoOperands 21 = .ok (.invokevirtual 83, 3) := by decide +kernel
theorem d_M_runOnTwoOperands_24 : decode b_M_runOnTwoOperands 24 = .ok (.iload_n 2, 1) := by decide +kernel
theorem d_M_runOnTwoOperands_25 : decode b_M_runOnTwoOperands 25 = .ok (.invokevirtual 146, 3) := by decide +kernel
theorem d_M_runOnTwoOperands_28 : decode b_M_runOnTwoOperands 28 = .ok (.istore_n 3, 1) := by decide +kernel
theorem d_M_runOnTwoOperands_29 : decode b_M_runOnTwoOperands 29 = .ok (.aload_n 0, 1) := by decide +kernel
theorem d_M_runOnTwoOperands_30 : decode b_M_runOnTwoOperands 30 = .ok (.iload_n 1, 1) := by decide +kernel
theorem d_M_runOnTwoOperands_31 : decode b_M_runOnTwoOperands 31 = .ok (.bipush 6, 2) := by decide +kernel
theorem d_M_runOnTwoOperands_33 : decode b_M_runOnTwoOperands 33 = .ok (.ishr, 1) := by decide +kernel
theorem d_M_runOnTwoOperands_34 : decode b_M_runOnTwoOperands 34 = .ok (.iload_n 2, 1) := by decide +kernel
theorem d_M_runOnTwoOperands_35 : decode b_M_runOnTwoOperands 35 = .ok (.invokevirtual 83, 3) := by decide +kernel
theorem d_M_runOnTwoOperands_38 : decode b_M_runOnTwoOperands 38 = .ok (.istore 4, 2) := by decide +kernel
theorem d_M_runOnTwoOperands_40 : decode b_M_runOnTwoOperands 40 = .ok (.aload_n 0, 1) := by decide +kernel
theorem d_M_runOnTwoOperands_41 : decode b_M_runOnTwoOperands 41 = .ok (.getfield 12, 3) := by decide +kernel
theorem d_M_runOnTwoOperands_44 : decode b_M_runOnTwoOperands 44 = .ok (.iload 4, 2) := by decide +kernel
theorem d_M_runOnTwoOperands_46 : decode b_M_runOnTwoOperands 46 = .ok (.iload_n 2, 1) := by decide +kernel
theorem d_M_runOnTwoOperands_47 : decode b_M_runOnTwoOperands 47 = .ok (.invokevirtual 146, 3) := by decide +kernel
theorem d_M_runOnTwoOperands_50 : decode b_M_runOnTwoOperands 50 = .ok (.istore 5, 2) := by decide +kernel
theorem d_M_runOnTwoOperands_52 : decode b_M_runOnTwoOperands 52 = .ok (.iload_n 1, 1) := by decide +kernel
theorem d_M_runOnTwoOperands_53 : decode b_M_runOnTwoOperands 53 = .ok (.bipush 13, 2) := by decide +kernel
theorem d_M_runOnTwoOperands_55 : decode b_M_runOnTwoOperands 55 = .ok (.ishr, 1) := by decide +kernel
theorem d_M_runOnTwoOperands_56 : decode b_M_runOnTwoOperands 56 = .ok (.istore 6, 2) := by decide +kernel
theorem d_M_runOnTwoOperands_58 : decode b_M_runOnTwoOperands 58 = .ok (.iload 6, 2) := by decide +kernel
theorem d_M_runOnTwoOperands_60 : decode b_M_runOnTwoOperands 60 = .ok (.iconst 4, 1) := by decide +kernel
theorem d_M_runOnTwoOperands_61 : decode b_M_runOnTwoOperands 61 = .ok (.if_icmp .ne 25, 3) := by decide +kernel
theorem d_M_runOnTwoOperands_64 : decode b_M_runOnTwoOperands 64 = .ok (.aload_n 0, 1) := by decide +kernel
theorem d_M_runOnTwoOperands_65 : decode b_M_runOnTwoOperands 65 = .ok (.getfield 26, 3) := by decide +kernel
theorem d_M_runOnTwoOperands_68 : decode b_M_runOnTwoOperands 68 = .ok (.iload_n 3, 1) := by decide +kernel
theorem d_M_runOnTwoOperands_69 : decode b_M_runOnTwoOperands 69 = .ok (.iload 5, 2) := by decide +kernel
theorem d_M_runOnTwoOperands_71 : decode b_M_runOnTwoOperands 71 = .ok (.invokevirtual 149, 3) := by decide +kernel
theorem d_M_runOnTwoOperands_74 : decode b_M_runOnTwoOperands 74 = .ok (.aload_n 0, 1) := by decide +kernel
theorem d_M_runOnTwoOperands_75 : decode b_M_runOnTwoOperands 75 = .ok (.getfield 26, 3) := by decide +kernel
theorem d_M_runOnTwoOperands_78 : decode b_M_runOnTwoOperands 78 = .ok (.iload_n 3, 1) := by decide +kernel
theorem d_M_runOnTwoOperands_79 : decode b_M_runOnTwoOperands 79 = .ok (.iload_n 2, 1) := by decide +kernel
theorem d_M_runOnTwoOperands_80 : decode b_M_runOnTwoOperands 80 = .ok (.invokevirtual 152, 3) := by decide +kernel
theorem d_M_runOnTwoOperands_83 : decode b_M_runOnTwoOperands 83 = .ok (.goto 36, 3) := by decide +kernel
theorem d_M_runOnTwoOperands_86 : decode b_M_runOnTwoOperands 86 = .ok (.aload_n 0, 1) := by decide +kernel
theorem d_M_runOnTwoOperands_87 : decode b_M_runOnTwoOperands 87 = .ok (.iload 6, 2) := by decide +kernel
theorem d_M_runOnTwoOperands_89 : decode b_M_runOnTwoOperands 89 = .ok (.iload_n 3, 1) := by decide +kernel
theorem d_M_runOnTwoOperands_90 : decode b_M_runOnTwoOperands 90 = .ok (.iload 5, 2) := by decide +kernel
theorem d_M_runOnTwoOperands_92 : decode b_M_runOnTwoOperands 92 = .ok (.invokevirtual 155, 3) := by decide +kernel
theorem d_M_runOnTwoOperands_95 : decode b_M_runOnTwoOperands 95 = .ok (.istore 7, 2) := by decide +kernel
theorem d_M_runOnTwoOperands_97 : decode b_M_runOnTwoOperands 97 = .ok (.aload_n 0, 1) := by decide +kernel
theorem d_M_runOnTwoOperands_98 : decode b_M_runOnTwoOperands 98 = .ok (.getfield 12, 3) := by decide +kernel
theorem d_M_runOnTwoOperands_101 : decode b_M_runOnTwoOperands 101 = .ok (.iload 4, 2) := by decide +kernel
theorem d_M_runOnTwoOperands_103 : decode b_M_runOnTwoOperands 103 = .ok (.iload 7, 2) := by decide +kernel
theorem d_M_runOnTwoOperands_105 : decode b_M_runOnTwoOperands 105 = .ok (.iload_n 2, 1) := by decide +kernel
theorem d_M_runOnTwoOperands_106 : decode b_M_runOnTwoOperands 106 = .ok (.invokevirtual 159, 3) := by decide +kernel
theorem d_M_runOnTwoOperands_109 : decode b_M_runOnTwoOperands 109 = .ok (.aload_n 0, 1) := by decide +kernel
theorem d_M_runOnTwoOperands_110 : decode b_M_runOnTwoOperands 110 = .ok (.getfield 26, 3) := by decide +kernel
theorem d_M_runOnTwoOperands_113 : decode b_M_runOnTwoOperands 113 = .ok (.iload 7, 2) := by decide +kernel
theorem d_M_runOnTwoOperands_115 : decode b_M_runOnTwoOperands 115 = .ok (.iload_n 2, 1) := by decide +kernel
theorem d_M_runOnTwoOperands_116 : decode b_M_runOnTwoOperands 116 = .ok (.invokevirtual 152, 3) := by decide +kernel
theorem d_M_runOnTwoOperands_119 : decode b_M_runOnTwoOperands 119 = .ok (.iconst 0, 1) := by decide +kernel
theorem d_M_runOnTwoOperands_120 : decode b_M_runOnTwoOperands 120 = .ok (.ireturn, 1) := by decide +kernel
theorem d_M_callExtended_0 : decode b_M_callExtended 0 = .ok (.aload_n 0, 1) := by decide +kernel
theorem d_M_callExtended_1 : decode b_M_callExtended 1 = .ok (.bipush 64, 2) := by decide +kernel
theorem d_M_callExtended_3 : decode b_M_callExtended 3 = .ok (.iconst 4, 1) := by decide +kernel
theorem d_M_callExtended_4 : decode b_M_callExtended 4 = .ok (.iload_n 1, 1) := by decide +kernel
theorem d_M_callExtended_5 : decode b_M_callExtended 5 = .ok (.imul, 1) := by decide +kernel
theorem d_M_callExtended_6 : decode b_M_callExtended 6 = .ok (.iadd, 1) := by decide +kernel
theorem d_M_callExtended_7 : decode b_M_callExtended 7 = .ok (.invokevirtual 34, 3) := by decide +kernel
theorem d_M_callExtended_10 : decode b_M_callExtended 10 = .ok (.aload_n 0, 1) := by decide +kernel
theorem d_M_callExtended_11 : decode b_M_callExtended 11 = .ok (.bipush 11, 2) := by decide +kernel
theorem d_M_callExtended_13 : decode b_M_callExtended 13 = .ok (.iload_n 2, 1) := by decide +kernel
theorem d_M_callExtended_14 : decode b_M_callExtended 14 = .ok (.invokevirtual 90, 3) := by decide +kernel
theorem d_M_callExtended_17 : decode b_M_callExtended 17 = .ok (.aload_n 0, 1) := by decide +kernel
theorem d_M_callExtended_18 : decode b_M_callExtended 18 = .ok (.getfield 26, 3) := by decide +kernel
theorem d_M_callExtended_21 : decode b_M_callExtended 21 = .ok (.sipush 512, 3) := by decide +kernel
theorem d_M_callExtended_24 : decode b_M_callExtended 24 = .ok (.iconst 1, 1) := by decide +kernel
theorem d_M_callExtended_25 : decode b_M_callExtended 25 = .ok (.invokevirtual 182, 3) := by decide +kernel
theorem d_M_callExtended_28 : decode b_M_callExtended 28 = .ok (.return_, 1) := by decide +kernel
theorem d_M_sizeForLines_0 : decode b_M_sizeForLines 0 = .ok (.iload_n 0, 1) := by decide +kernel
theorem d_M_sizeForLines_1 : decode b_M_sizeForLines 1 = .ok (.bipush 8, 2) := by decide +kernel
theorem d_M_sizeForLines_3 : decode b_M_sizeForLines 3 = .ok (.if_icmp .gt 7, 3) := by decide +kernel
theorem d_M_sizeForLines_6 : decode b_M_sizeForLines 6 = .ok (.iconst 1, 1) := by decide +kernel
end
section
/-! decode rows, laid by gen.py -/
theorem d_M_sizeForLines_7 : decode b_M_sizeForLines 7 = .ok (.goto 4, 3) := by decide +kernel
theorem d_M_sizeForLines_10 : decode b_M_sizeForLines 10 = .ok (.iconst 2, 1) := by decide +kernel
theorem d_M_sizeForLines_11 : decode b_M_sizeForLines 11 = .ok (.ireturn, 1) := by decide +kernel
theorem d_Li_bitOf_0 : decode b_Li_bitOf 0 = .ok (.lconst 1, 1) := by decide +kernel
theorem d_Li_bitOf_1 : decode b_Li_bitOf 1 = .ok (.iload_n 0, 1) := by decide +kernel
theorem d_Li_bitOf_2 : decode b_Li_bitOf 2 = .ok (.bipush 63, 2) := by decide +kernel
theorem d_Li_bitOf_4 : decode b_Li_bitOf 4 = .ok (.iand, 1) := by decide +kernel
theorem d_Li_bitOf_5 : decode b_Li_bitOf 5 = .ok (.lshl, 1) := by decide +kernel
theorem d_Li_bitOf_6 : decode b_Li_bitOf 6 = .ok (.lreturn, 1) := by decide +kernel
theorem d_Li_set_0 : decode b_Li_set 0 = .ok (.aload_n 0, 1) := by decide +kernel
theorem d_Li_set_1 : decode b_Li_set 1 = .ok (.iload_n 2, 1) := by decide +kernel
theorem d_Li_set_2 : decode b_Li_set 2 = .ok (.ifCond .eq 15, 3) := by decide +kernel
theorem d_Li_set_5 : decode b_Li_set 5 = .ok (.aload_n 0, 1) := by decide +kernel
theorem d_Li_set_6 : decode b_Li_set 6 = .ok (.getfield 9, 3) := by decide +kernel
theorem d_Li_set_9 : decode b_Li_set 9 = .ok (.iload_n 1, 1) := by decide +kernel
theorem d_Li_set_10 : decode b_Li_set 10 = .ok (.invokestatic 15, 3) := by decide +kernel
theorem d_Li_set_13 : decode b_Li_set 13 = .ok (.lor, 1) := by decide +kernel
theorem d_Li_set_14 : decode b_Li_set 14 = .ok (.goto 16, 3) := by decide +kernel
theorem d_Li_set_17 : decode b_Li_set 17 = .ok (.aload_n 0, 1) := by decide +kernel
theorem d_Li_set_18 : decode b_Li_set 18 = .ok (.getfield 9, 3) := by decide +kernel
theorem d_Li_set_21 : decode b_Li_set 21 = .ok (.iload_n 1, 1) := by decide +kernel
theorem d_Li_set_22 : decode b_Li_set 22 = .ok (.invokestatic 15, 3) := by decide +kernel
theorem d_Li_set_25 : decode b_Li_set 25 = .ok (.ldc2_w 19, 3) := by decide +kernel
theorem d_Li_set_28 : decode b_Li_set 28 = .ok (.lxor, 1) := by decide +kernel
theorem d_Li_set_29 : decode b_Li_set 29 = .ok (.land, 1) := by decide +kernel
theorem d_Li_set_30 : decode b_Li_set 30 = .ok (.putfield 9, 3) := by decide +kernel
theorem d_Li_set_33 : decode b_Li_set 33 = .ok (.return_, 1) := by decide +kernel
theorem d_M_sendLines_0 : decode b_M_sendLines 0 = .ok (.iload_n 2, 1) := by decide +kernel
theorem d_M_sendLines_1 : decode b_M_sendLines 1 = .ok (.invokestatic 185, 3) := by decide +kernel
theorem d_M_sendLines_4 : decode b_M_sendLines 4 = .ok (.istore_n 3, 1) := by decide +kernel
theorem d_M_sendLines_5 : decode b_M_sendLines 5 = .ok (.aload_n 0, 1) := by decide +kernel
theorem d_M_sendLines_6 : decode b_M_sendLines 6 = .ok (.getfield 12, 3) := by decide +kernel
theorem d_M_sendLines_9 : decode b_M_sendLines 9 = .ok (.aload_n 0, 1) := by decide +kernel
theorem d_M_sendLines_10 : decode b_M_sendLines 10 = .ok (.iload_n 1, 1) := by decide +kernel
theorem d_M_sendLines_11 : decode b_M_sendLines 11 = .ok (.iload_n 3, 1) := by decide +kernel
theorem d_M_sendLines_12 : decode b_M_sendLines 12 = .ok (.invokevirtual 83, 3) := by decide +kernel
theorem d_M_sendLines_15 : decode b_M_sendLines 15 = .ok (.iload_n 3, 1) := by decide +kernel
theorem d_M_sendLines_16 : decode b_M_sendLines 16 = .ok (.invokevirtual 146, 3) := by decide +kernel
theorem d_M_sendLines_19 : decode b_M_sendLines 19 = .ok (.istore 4, 2) := by decide +kernel
theorem d_M_sendLines_21 : decode b_M_sendLines 21 = .ok (.iload_n 3, 1) := by decide +kernel
theorem d_M_sendLines_22 : decode b_M_sendLines 22 = .ok (.iconst 1, 1) := by decide +kernel
theorem d_M_sendLines_23 : decode b_M_sendLines 23 = .ok (.if_icmp .ne 11, 3) := by decide +kernel
theorem d_M_sendLines_26 : decode b_M_sendLines 26 = .ok (.iload 4, 2) := by decide +kernel
theorem d_M_sendLines_28 : decode b_M_sendLines 28 = .ok (.bipush 8, 2) := by decide +kernel
theorem d_M_sendLines_30 : decode b_M_sendLines 30 = .ok (.ishr, 1) := by decide +kernel
theorem d_M_sendLines_31 : decode b_M_sendLines 31 = .ok (.goto 5, 3) := by decide +kernel
theorem d_M_sendLines_34 : decode b_M_sendLines 34 = .ok (.iload 4, 2) := by decide +kernel
theorem d_M_sendLines_36 : decode b_M_sendLines 36 = .ok (.istore 5, 2) := by decide +kernel
theorem d_M_sendLines_38 : decode b_M_sendLines 38 = .ok (.aload_n 0, 1) := by decide +kernel
theorem d_M_sendLines_39 : decode b_M_sendLines 39 = .ok (.bipush 12, 2) := by decide +kernel
theorem d_M_sendLines_41 : decode b_M_sendLines 41 = .ok (.invokevirtual 77, 3) := by decide +kernel
theorem d_M_sendLines_44 : decode b_M_sendLines 44 = .ok (.iconst 2, 1) := by decide +kernel
theorem d_M_sendLines_45 : decode b_M_sendLines 45 = .ok (.idiv, 1) := by decide +kernel
theorem d_M_sendLines_46 : decode b_M_sendLines 46 = .ok (.istore 6, 2) := by decide +kernel
theorem d_M_sendLines_48 : decode b_M_sendLines 48 = .ok (.iconst 0, 1) := by decide +kernel
theorem d_M_sendLines_49 : decode b_M_sendLines 49 = .ok (.istore 7, 2) := by decide +kernel
theorem d_M_sendLines_51 : decode b_M_sendLines 51 = .ok (.iload 7, 2) := by decide +kernel
theorem d_M_sendLines_53 : decode b_M_sendLines 53 = .ok (.iload_n 2, 1) := by decide +kernel
theorem d_M_sendLines_54 : decode b_M_sendLines 54 = .ok (.if_icmp .ge 37, 3) := by decide +kernel
theorem d_M_sendLines_57 : decode b_M_sendLines 57 = .ok (.aload_n 0, 1) := by decide +kernel
theorem d_M_sendLines_58 : decode b_M_sendLines 58 = .ok (.getfield 19, 3) := by decide +kernel
theorem d_M_sendLines_61 : decode b_M_sendLines 61 = .ok (.iload 6, 2) := by decide +kernel
theorem d_M_sendLines_63 : decode b_M_sendLines 63 = .ok (.iload 7, 2) := by decide +kernel
theorem d_M_sendLines_65 : decode b_M_sendLines 65 = .ok (.iadd, 1) := by decide +kernel
theorem d_M_sendLines_66 : decode b_M_sendLines 66 = .ok (.iload 5, 2) := by decide +kernel
theorem d_M_sendLines_68 : decode b_M_sendLines 68 = .ok (.iload 7, 2) := by decide +kernel
theorem d_M_sendLines_70 : decode b_M_sendLines 70 = .ok (.ishr, 1) := by decide +kernel
theorem d_M_sendLines_71 : decode b_M_sendLines 71 = .ok (.iconst 1, 1) := by decide +kernel
theorem d_M_sendLines_72 : decode b_M_sendLines 72 = .ok (.iand, 1) := by decide +kernel
theorem d_M_sendLines_73 : decode b_M_sendLines 73 = .ok (.iconst 1, 1) := by decide +kernel
theorem d_M_sendLines_74 : decode b_M_sendLines 74 = .ok (.if_icmp .ne 7, 3) := by decide +kernel
theorem d_M_sendLines_77 : decode b_M_sendLines 77 = .ok (.iconst 1, 1) := by decide +kernel
theorem d_M_sendLines_78 : decode b_M_sendLines 78 = .ok (.goto 4, 3) := by decide +kernel
theorem d_M_sendLines_81 : decode b_M_sendLines 81 = .ok (.iconst 0, 1) := by decide +kernel
theorem d_M_sendLines_82 : decode b_M_sendLines 82 = .ok (.invokevirtual 100, 3) := by decide +kernel
theorem d_M_sendLines_85 : decode b_M_sendLines 85 = .ok (.iinc 7 1, 3) := by decide +kernel
theorem d_M_sendLines_88 : decode b_M_sendLines 88 = .ok (.goto (-37), 3) := by decide +kernel
theorem d_M_sendLines_91 : decode b_M_sendLines 91 = .ok (.aload_n 0, 1) := by decide +kernel
theorem d_M_sendLines_92 : decode b_M_sendLines 92 = .ok (.getfield 26, 3) := by decide +kernel
theorem d_M_sendLines_95 : decode b_M_sendLines 95 = .ok (.iload 4, 2) := by decide +kernel
theorem d_M_sendLines_97 : decode b_M_sendLines 97 = .ok (.iconst 0, 1) := by decide +kernel
theorem d_M_sendLines_98 : decode b_M_sendLines 98 = .ok (.invokevirtual 149, 3) := by decide +kernel
theorem d_M_sendLines_101 : decode b_M_sendLines 101 = .ok (.aload_n 0, 1) := by decide +kernel
theorem d_M_sendLines_102 : decode b_M_sendLines 102 = .ok (.getfield 26, 3) := by decide +kernel
theorem d_M_sendLines_105 : decode b_M_sendLines 105 = .ok (.iload 4, 2) := by decide +kernel
theorem d_M_sendLines_107 : decode b_M_sendLines 107 = .ok (.iload_n 3, 1) := by decide +kernel
theorem d_M_sendLines_108 : decode b_M_sendLines 108 = .ok (.invokevirtual 152, 3) := by decide +kernel
theorem d_M_sendLines_111 : decode b_M_sendLines 111 = .ok (.return_, 1) := by decide +kernel
theorem d_Li_isOn_0 : decode b_Li_isOn 0 = .ok (.aload_n 0, 1) := by decide +kernel
theorem d_Li_isOn_1 : decode b_Li_isOn 1 = .ok (.getfield 9, 3) := by decide +kernel
theorem d_Li_isOn_4 : decode b_Li_isOn 4 = .ok (.iload_n 1, 1) := by decide +kernel
theorem d_Li_isOn_5 : decode b_Li_isOn 5 = .ok (.invokestatic 15, 3) := by decide +kernel
theorem d_Li_isOn_8 : decode b_Li_isOn 8 = .ok (.land, 1) := by decide +kernel
theorem d_Li_isOn_9 : decode b_Li_isOn 9 = .ok (.lconst 0, 1) := by decide +kernel
theorem d_Li_isOn_10 : decode b_Li_isOn 10 = .ok (.lcmp, 1) := by decide +kernel
theorem d_Li_isOn_11 : decode b_Li_isOn 11 = .ok (.ifCond .eq 7, 3) := by decide +kernel
theorem d_Li_isOn_14 : decode b_Li_isOn 14 = .ok (.iconst 1, 1) := by decide +kernel
theorem d_Li_isOn_15 : decode b_Li_isOn 15 = .ok (.goto 4, 3) := by decide +kernel
theorem d_Li_isOn_18 : decode b_Li_isOn 18 = .ok (.iconst 0, 1) := by decide +kernel
theorem d_Li_isOn_19 : decode b_Li_isOn 19 = .ok (.ireturn, 1) := by decide +kernel
theorem d_M_receiveLines_0 : decode b_M_receiveLines 0 = .ok (.iload_n 2, 1) := by decide +kernel
theorem d_M_receiveLines_1 : decode b_M_receiveLines 1 = .ok (.invokestatic 185, 3) := by decide +kernel
theorem d_M_receiveLines_4 : decode b_M_receiveLines 4 = .ok (.istore_n 3, 1) := by decide +kernel
theorem d_M_receiveLines_5 : decode b_M_receiveLines 5 = .ok (.aload_n 0, 1) := by decide +kernel
theorem d_M_receiveLines_6 : decode b_M_receiveLines 6 = .ok (.iload_n 1, 1) := by decide +kernel
theorem d_M_receiveLines_7 : decode b_M_receiveLines 7 = .ok (.iload_n 3, 1) := by decide +kernel
theorem d_M_receiveLines_8 : decode b_M_receiveLines 8 = .ok (.invokevirtual 83, 3) := by decide +kernel
theorem d_M_receiveLines_11 : decode b_M_receiveLines 11 = .ok (.istore 4, 2) := by decide +kernel
theorem d_M_receiveLines_13 : decode b_M_receiveLines 13 = .ok (.aload_n 0, 1) := by decide +kernel
theorem d_M_receiveLines_14 : decode b_M_receiveLines 14 = .ok (.bipush 12, 2) := by decide +kernel
theorem d_M_receiveLines_16 : decode b_M_receiveLines 16 = .ok (.invokevirtual 77, 3) := by decide +kernel
theorem d_M_receiveLines_19 : decode b_M_receiveLines 19 = .ok (.iconst 2, 1) := by decide +kernel
theorem d_M_receiveLines_20 : decode b_M_receiveLines 20 = .ok (.idiv, 1) := by decide +kernel
theorem d_M_receiveLines_21 : decode b_M_receiveLines 21 = .ok (.istore 5, 2) := by decide +kernel
theorem d_M_receiveLines_23 : decode b_M_receiveLines 23 = .ok (.iconst 0, 1) := by decide +kernel
theorem d_M_receiveLines_24 : decode b_M_receiveLines 24 = .ok (.istore 6, 2) := by decide +kernel
theorem d_M_receiveLines_26 : decode b_M_receiveLines 26 = .ok (.iconst 0, 1) := by decide +kernel
theorem d_M_receiveLines_27 : decode b_M_receiveLines 27 = .ok (.istore 7, 2) := by decide +kernel
theorem d_M_receiveLines_29 : decode b_M_receiveLines 29 = .ok (.iload 7, 2) := by decide +kernel
theorem d_M_receiveLines_31 : decode b_M_receiveLines 31 = .ok (.iload_n 2, 1) := by decide +kernel
theorem d_M_receiveLines_32 : decode b_M_receiveLines 32 = .ok (.if_icmp .ge 37, 3) := by decide +kernel
theorem d_M_receiveLines_35 : decode b_M_receiveLines 35 = .ok (.iload 6, 2) := by decide +kernel
theorem d_M_receiveLines_37 : decode b_M_receiveLines 37 = .ok (.aload_n 0, 1) := by decide +kernel
theorem d_M_receiveLines_38 : decode b_M_receiveLines 38 = .ok (.getfield 19, 3) := by decide +kernel
theorem d_M_receiveLines_41 : decode b_M_receiveLines 41 = .ok (.iload 5, 2) := by decide +kernel
theorem d_M_receiveLines_43 : decode b_M_receiveLines 43 = .ok (.iload 7, 2) := by decide +kernel
theorem d_M_receiveLines_45 : decode b_M_receiveLines 45 = .ok (.iadd, 1) := by decide +kernel
theorem d_M_receiveLines_46 : decode b_M_receiveLines 46 = .ok (.invokevirtual 104, 3) := by decide +kernel
theorem d_M_receiveLines_49 : decode b_M_receiveLines 49 = .ok (.ifCond .eq 10, 3) := by decide +kernel
theorem d_M_receiveLines_52 : decode b_M_receiveLines 52 = .ok (.iconst 1, 1) := by decide +kernel
theorem d_M_receiveLines_53 : decode b_M_receiveLines 53 = .ok (.iload 7, 2) := by decide +kernel
theorem d_M_receiveLines_55 : decode b_M_receiveLines 55 = .ok (.ishl, 1) := by decide +kernel
theorem d_M_receiveLines_56 : decode b_M_receiveLines 56 = .ok (.goto 4, 3) := by decide +kernel
theorem d_M_receiveLines_59 : decode b_M_receiveLines 59 = .ok (.iconst 0, 1) := by decide +kernel
theorem d_M_receiveLines_60 : decode b_M_receiveLines 60 = .ok (.ior, 1) := by decide +kernel
theorem d_M_receiveLines_61 : decode b_M_receiveLines 61 = .ok (.istore 6, 2) := by decide +kernel
theorem d_M_receiveLines_63 : decode b_M_receiveLines 63 = .ok (.iinc 7 1, 3) := by decide +kernel
theorem d_M_receiveLines_66 : decode b_M_receiveLines 66 = .ok (.goto (-37), 3) := by decide +kernel
theorem d_M_receiveLines_69 : decode b_M_receiveLines 69 = .ok (.aload_n 0, 1) := by decide +kernel
theorem d_M_receiveLines_70 : decode b_M_receiveLines 70 = .ok (.getfield 26, 3) := by decide +kernel
theorem d_M_receiveLines_73 : decode b_M_receiveLines 73 = .ok (.iload_n 3, 1) := by decide +kernel
theorem d_M_receiveLines_74 : decode b_M_receiveLines 74 = .ok (.iconst 1, 1) := by decide +kernel
theorem d_M_receiveLines_75 : decode b_M_receiveLines 75 = .ok (.if_icmp .ne 11, 3) := by decide +kernel
theorem d_M_receiveLines_78 : decode b_M_receiveLines 78 = .ok (.iload 6, 2) := by decide +kernel
theorem d_M_receiveLines_80 : decode b_M_receiveLines 80 = .ok (.bipush 8, 2) := by decide +kernel
theorem d_M_receiveLines_82 : decode b_M_receiveLines 82 = .ok (.ishl, 1) := by decide +kernel
theorem d_M_receiveLines_83 : decode b_M_receiveLines 83 = .ok (.goto 5, 3) := by decide +kernel
theorem d_M_receiveLines_86 : decode b_M_receiveLines 86 = .ok (.iload 6, 2) := by decide +kernel
theorem d_M_receiveLines_88 : decode b_M_receiveLines 88 = .ok (.invokevirtual 163, 3) := by decide +kernel
theorem d_M_receiveLines_91 : decode b_M_receiveLines 91 = .ok (.istore 7, 2) := by decide +kernel
theorem d_M_receiveLines_93 : decode b_M_receiveLines 93 = .ok (.aload_n 0, 1) := by decide +kernel
theorem d_M_receiveLines_94 : decode b_M_receiveLines 94 = .ok (.getfield 12, 3) := by decide +kernel
theorem d_M_receiveLines_97 : decode b_M_receiveLines 97 = .ok (.iload 4, 2) := by decide +kernel
theorem d_M_receiveLines_99 : decode b_M_receiveLines 99 = .ok (.iload 7, 2) := by decide +kernel
theorem d_M_receiveLines_101 : decode b_M_receiveLines 101 = .ok (.iload_n 3, 1) := by decide +kernel
theorem d_M_receiveLines_102 : decode b_M_receiveLines 102 = .ok (.invokevirtual 159, 3) := by decide +kernel
theorem d_M_receiveLines_105 : decode b_M_receiveLines 105 = .ok (.aload_n 0, 1) := by decide +kernel
theorem d_M_receiveLines_106 : decode b_M_receiveLines 106 = .ok (.getfield 26, 3) := by decide +kernel
theorem d_M_receiveLines_109 : decode b_M_receiveLines 109 = .ok (.iload 7, 2) := by decide +kernel
theorem d_M_receiveLines_111 : decode b_M_receiveLines 111 = .ok (.iload_n 3, 1) := by decide +kernel
theorem d_M_receiveLines_112 : decode b_M_receiveLines 112 = .ok (.invokevirtual 152, 3) := by decide +kernel
theorem d_M_receiveLines_115 : decode b_M_receiveLines 115 = .ok (.return_, 1) := by decide +kernel
theorem d_M_multiply_0 : decode b_M_multiply 0 = .ok (.iload_n 2, 1) := by decide +kernel
theorem d_M_multiply_1 : decode b_M_multiply 1 = .ok (.i2l, 1) := by decide +kernel
theorem d_M_multiply_2 : decode b_M_multiply 2 = .ok (.iload_n 3, 1) := by decide +kernel
theorem d_M_multiply_3 : decode b_M_multiply 3 = .ok (.i2l, 1) := by decide +kernel
theorem d_M_multiply_4 : decode b_M_multiply 4 = .ok (.lmul, 1) := by decide +kernel
theorem d_M_multiply_5 : decode b_M_multiply 5 = .ok (.lstore 4, 2) := by decide +kernel
theorem d_M_multiply_7 : decode b_M_multiply 7 = .ok (.aload_n 0, 1) := by decide +kernel
theorem d_M_multiply_8 : decode b_M_multiply 8 = .ok (.iload_n 1, 1) := by decide +kernel
theorem d_M_multiply_9 : decode b_M_multiply 9 = .ok (.lload 4, 2) := by decide +kernel
theorem d_M_multiply_11 : decode b_M_multiply 11 = .ok (.bipush 16, 2) := by decide +kernel
theorem d_M_multiply_13 : decode b_M_multiply 13 = .ok (.lshr, 1) := by decide +kernel
theorem d_M_multiply_14 : decode b_M_multiply 14 = .ok (.l2i, 1) := by decide +kernel
theorem d_M_multiply_15 : decode b_M_multiply 15 = .ok (.invokevirtual 90, 3) := by decide +kernel
theorem d_M_multiply_18 : decode b_M_multiply 18 = .ok (.aload_n 0, 1) := by decide +kernel
theorem d_M_multiply_19 : decode b_M_multiply 19 = .ok (.iload_n 1, 1) := by decide +kernel
theorem d_M_multiply_20 : decode b_M_multiply 20 = .ok (.iconst 1, 1) := by decide +kernel
theorem d_M_multiply_21 : decode b_M_multiply 21 = .ok (.iadd, 1) := by decide +kernel
theorem d_M_multiply_22 : decode b_M_multiply 22 = .ok (.lload 4, 2) := by decide +kernel
theorem d_M_multiply_24 : decode b_M_multiply 24 = .ok (.l2i, 1) := by decide +kernel
theorem d_M_multiply_25 : decode b_M_multiply 25 = .ok (.invokevirtual 90, 3) := by decide +kernel
theorem d_M_multiply_28 : decode b_M_multiply 28 = .ok (.return_, 1) := by decide +kernel
theorem d_M_divide_0 : decode b_M_divide 0 = .ok (.iload_n 3, 1) := by decide +kernel
theorem d_M_divide_1 : decode b_M_divide 1 = .ok (.iload_n 2, 1) := by decide +kernel
theorem d_M_divide_2 : decode b_M_divide 2 = .ok (.if_icmp .le 7, 3) := by decide +kernel
theorem d_M_divide_5 : decode b_M_divide 5 = .ok (.iconst 1, 1) := by decide +kernel
theorem d_M_divide_6 : decode b_M_divide 6 = .ok (.goto 4, 3) := by decide +kernel
theorem d_M_divide_9 : decode b_M_divide 9 = .ok (.iconst 0, 1) := by decide +kernel
theorem d_M_divide_10 : decode b_M_divide 10 = .ok (.istore 4, 2) := by decide +kernel
theorem d_M_divide_12 : decode b_M_divide 12 = .ok (.aload_n 0, 1) := by decide +kernel
theorem d_M_divide_13 : decode b_M_divide 13 = .ok (.getfield 26, 3) := by decide +kernel
theorem d_M_divide_16 : decode b_M_divide 16 = .ok (.sipush 2048, 3) := by decide +kernel
theorem d_M_divide_19 : decode b_M_divide 19 = .ok (.iload 4, 2) := by decide +kernel
theorem d_M_divide_21 : decode b_M_divide 21 = .ok (.ifCond .ne 7, 3) := by decide +kernel
theorem d_M_divide_24 : decode b_M_divide 24 = .ok (.iconst 1, 1) := by decide +kernel
theorem d_M_divide_25 : decode b_M_divide 25 = .ok (.goto 4, 3) := by decide +kernel
theorem d_M_divide_28 : decode b_M_divide 28 = .ok (.iconst 0, 1) := by decide +kernel
theorem d_M_divide_29 : decode b_M_divide 29 = .ok (.invokevirtual 182, 3) := by decide +kernel
theorem d_M_divide_32 : decode b_M_divide 32 = .ok (.iload 4, 2) := by decide +kernel
theorem d_M_divide_34 : decode b_M_divide 34 = .ok (.ifCond .eq 43, 3) := by decide +kernel
theorem d_M_divide_37 : decode b_M_divide 37 = .ok (.iload_n 2, 1) := by decide +kernel
theorem d_M_divide_38 : decode b_M_divide 38 = .ok (.i2l, 1) := by decide +kernel
theorem d_M_divide_39 : decode b_M_divide 39 = .ok (.bipush 16, 2) := by decide +kernel
theorem d_M_divide_41 : decode b_M_divide 41 = .ok (.lshl, 1) := by decide +kernel
theorem d_M_divide_42 : decode b_M_divide 42 = .ok (.aload_n 0, 1) := by decide +kernel
theorem d_M_divide_43 : decode b_M_divide 43 = .ok (.iload_n 1, 1) := by decide +kernel
theorem d_M_divide_44 : decode b_M_divide 44 = .ok (.iconst 1, 1) := by decide +kernel
theorem d_M_divide_45 : decode b_M_divide 45 = .ok (.iadd, 1) := by decide +kernel
theorem d_M_divide_46 : decode b_M_divide 46 = .ok (.invokevirtual 77, 3) := by decide +kernel
theorem d_M_divide_49 : decode b_M_divide 49 = .ok (.i2l, 1) := by decide +kernel
theorem d_M_divide_50 : decode b_M_divide 50 = .ok (.lor, 1) := by decide +kernel
theorem d_M_divide_51 : decode b_M_divide 51 = .ok (.lstore 5, 2) := by decide +kernel
theorem d_M_divide_53 : decode b_M_divide 53 = .ok (.aload_n 0, 1) := by decide +kernel
theorem d_M_divide_54 : decode b_M_divide 54 = .ok (.iload_n 1, 1) := by decide +kernel
theorem d_M_divide_55 : decode b_M_divide 55 = .ok (.lload 5, 2) := by decide +kernel
theorem d_M_divide_57 : decode b_M_divide 57 = .ok (.iload_n 3, 1) := by decide +kernel
theorem d_M_divide_58 : decode b_M_divide 58 = .ok (.i2l, 1) := by decide +kernel
theorem d_M_divide_59 : decode b_M_divide 59 = .ok (.ldiv, 1) := by decide +kernel
theorem d_M_divide_60 : decode b_M_divide 60 = .ok (.l2i, 1) := by decide +kernel
theorem d_M_divide_61 : decode b_M_divide 61 = .ok (.invokevirtual 90, 3) := by decide +kernel
theorem d_M_divide_64 : decode b_M_divide 64 = .ok (.aload_n 0, 1) := by decide +kernel
theorem d_M_divide_65 : decode b_M_divide 65 = .ok (.iload_n 1, 1) := by decide +kernel
theorem d_M_divide_66 : decode b_M_divide 66 = .ok (.iconst 1, 1) := by decide +kernel
theorem d_M_divide_67 : decode b_M_divide 67 = .ok (.iadd, 1) := by decide +kernel
theorem d_M_divide_68 : decode b_M_divide 68 = .ok (.lload 5, 2) := by decide +kernel
theorem d_M_divide_70 : decode b_M_divide 70 = .ok (.iload_n 3, 1) := by decide +kernel
theorem d_M_divide_71 : decode b_M_divide 71 = .ok (.i2l, 1) := by decide +kernel
theorem d_M_divide_72 : decode b_M_divide 72 = .ok (.lrem, 1) := by decide +kernel
theorem d_M_divide_73 : decode b_M_divide 73 = .ok (.l2i, 1) := by decide +kernel
theorem d_M_divide_74 : decode b_M_divide 74 = .ok (.invokevirtual 90, 3) := by decide +kernel
theorem d_M_divide_77 : decode b_M_divide 77 = .ok (.return_, 1) := by decide +kernel
theorem d_M_combineIntoRegister_0 : decode b_M_combineIntoRegister 0 = .ok (.aload_n 0, 1) := by decide +kernel
theorem d_M_combineIntoRegister_1 : decode b_M_combineIntoRegister 1 = .ok (.iload_n 2, 1) := by decide +kernel
theorem d_M_combineIntoRegister_2 : decode b_M_combineIntoRegister 2 = .ok (.invokevirtual 77, 3) := by decide +kernel
theorem d_M_combineIntoRegister_5 : decode b_M_combineIntoRegister 5 = .ok (.istore 4, 2) := by decide +kernel
theorem d_M_combineIntoRegister_7 : decode b_M_combineIntoRegister 7 = .ok (.iload_n 1, 1) := by decide +kernel
theorem d_M_combineIntoRegister_8 : decode b_M_combineIntoRegister 8 = .ok (.tableswitch 126 8 14 #[44, 71, 96, 126, 126, 126, 115], 44) := by decide +kernel
theorem d_M_combineIntoRegister_52 : decode b_M_combineIntoRegister 52 = .ok (.aload_n 0, 1) := by decide +kernel
theorem d_M_combineIntoRegister_53 : decode b_M_combineIntoRegister 53 = .ok (.getfield 26, 3) := by decide +kernel
theorem d_M_combineIntoRegister_56 : decode b_M_combineIntoRegister 56 = .ok (.sipush 8192, 3) := by decide +kernel
theorem d_M_combineIntoRegister_59 : decode b_M_combineIntoRegister 59 = .ok (.iload_n 3, 1) := by decide +kernel
theorem d_M_combineIntoRegister_60 : decode b_M_combineIntoRegister 60 = .ok (.iload 4, 2) := by decide +kernel
theorem d_M_combineIntoRegister_62 : decode b_M_combineIntoRegister 62 = .ok (.iconst (-1), 1) := by decide +kernel
theorem d_M_combineIntoRegister_63 : decode b_M_combineIntoRegister 63 = .ok (.ixor, 1) := by decide +kernel
theorem d_M_combineIntoRegister_64 : decode b_M_combineIntoRegister 64 = .ok (.iand, 1) := by decide +kernel
theorem d_M_combineIntoRegister_65 : decode b_M_combineIntoRegister 65 = .ok (.ifCond .ne 7, 3) := by decide +kernel
theorem d_M_combineIntoRegister_68 : decode b_M_combineIntoRegister 68 = .ok (.iconst 1, 1) := by decide +kernel
theorem d_M_combineIntoRegister_69 : decode b_M_combineIntoRegister 69 = .ok (.goto 4, 3) := by decide +kernel
theorem d_M_combineIntoRegister_72 : decode b_M_combineIntoRegister 72 = .ok (.iconst 0, 1) := by decide +kernel
theorem d_M_combineIntoRegister_73 : decode b_M_combineIntoRegister 73 = .ok (.invokevirtual 182, 3) := by decide +kernel
theorem d_M_combineIntoRegister_76 : decode b_M_combineIntoRegister 76 = .ok (.goto 66, 3) := by decide +kernel
theorem d_M_combineIntoRegister_79 : decode b_M_combineIntoRegister 79 = .ok (.aload_n 0, 1) := by decide +kernel
theorem d_M_combineIntoRegister_80 : decode b_M_combineIntoRegister 80 = .ok (.getfield 26, 3) := by decide +kernel
theorem d_M_combineIntoRegister_83 : decode b_M_combineIntoRegister 83 = .ok (.sipush 8192, 3) := by decide +kernel
theorem d_M_combineIntoRegister_86 : decode b_M_combineIntoRegister 86 = .ok (.iload_n 3, 1) := by decide +kernel
theorem d_M_combineIntoRegister_87 : decode b_M_combineIntoRegister 87 = .ok (.iload 4, 2) := by decide +kernel
theorem d_M_combineIntoRegister_89 : decode b_M_combineIntoRegister 89 = .ok (.iand, 1) := by decide +kernel
theorem d_M_combineIntoRegister_90 : decode b_M_combineIntoRegister 90 = .ok (.ifCond .ne 7, 3) := by decide +kernel
theorem d_M_combineIntoRegister_93 : decode b_M_combineIntoRegister 93 = .ok (.iconst 1, 1) := by decide +kernel
theorem d_M_combineIntoRegister_94 : decode b_M_combineIntoRegister 94 = .ok (.goto 4, 3) := by decide +kernel
theorem d_M_combineIntoRegister_97 : decode b_M_combineIntoRegister 97 = .ok (.iconst 0, 1) := by decide +kernel
theorem d_M_combineIntoRegister_98 : decode b_M_combineIntoRegister 98 = .ok (.invokevirtual 182, 3) := by decide +kernel
theorem d_M_combineIntoRegister_101 : decode b_M_combineIntoRegister 101 = .ok (.goto 41, 3) := by decide +kernel
theorem d_M_combineIntoRegister_104 : decode b_M_combineIntoRegister 104 = .ok (.aload_n 0, 1) := by decide +kernel
theorem d_M_combineIntoRegister_105 : decode b_M_combineIntoRegister 105 = .ok (.iload_n 2, 1) := by decide +kernel
theorem d_M_combineIntoRegister_106 : decode b_M_combineIntoRegister 106 = .ok (.aload_n 0, 1) := by decide +kernel
theorem d_M_combineIntoRegister_107 : decode b_M_combineIntoRegister 107 = .ok (.getfield 26, 3) := by decide +kernel
theorem d_M_combineIntoRegister_110 : decode b_M_combineIntoRegister 110 = .ok (.iload 4, 2) := by decide +kernel
theorem d_M_combineIntoRegister_112 : decode b_M_combineIntoRegister 112 = .ok (.iload_n 3, 1) := by decide +kernel
theorem d_M_combineIntoRegister_113 : decode b_M_combineIntoRegister 113 = .ok (.ixor, 1) := by decide +kernel
theorem d_M_combineIntoRegister_114 : decode b_M_combineIntoRegister 114 = .ok (.invokevirtual 163, 3) := by decide +kernel
theorem d_M_combineIntoRegister_117 : decode b_M_combineIntoRegister 117 = .ok (.invokevirtual 90, 3) := by decide +kernel
theorem d_M_combineIntoRegister_120 : decode b_M_combineIntoRegister 120 = .ok (.goto 22, 3) := by decide +kernel
theorem d_M_combineIntoRegister_123 : decode b_M_combineIntoRegister 123 = .ok (.aload_n 0, 1) := by decide +kernel
theorem d_M_combineIntoRegister_124 : decode b_M_combineIntoRegister 124 = .ok (.iload_n 2, 1) := by decide +kernel
theorem d_M_combineIntoRegister_125 : decode b_M_combineIntoRegister 125 = .ok (.iload 4, 2) := by decide +kernel
theorem d_M_combineIntoRegister_127 : decode b_M_combineIntoRegister 127 = .ok (.iload_n 3, 1) := by decide +kernel
theorem d_M_combineIntoRegister_128 : decode b_M_combineIntoRegister 128 = .ok (.invokevirtual 188, 3) := by decide +kernel
theorem d_M_combineIntoRegister_131 : decode b_M_combineIntoRegister 131 = .ok (.goto 11, 3) := by decide +kernel
theorem d_M_combineIntoRegister_134 : decode b_M_combineIntoRegister 134 = .ok (.aload_n 0, 1) := by decide +kernel
theorem d_M_combineIntoRegister_135 : decode b_M_combineIntoRegister 135 = .ok (.iload_n 2, 1) := by decide +kernel
theorem d_M_combineIntoRegister_136 : decode b_M_combineIntoRegister 136 = .ok (.iload 4, 2) := by decide +kernel
theorem d_M_combineIntoRegister_138 : decode b_M_combineIntoRegister 138 = .ok (.iload_n 3, 1) := by decide +kernel
theorem d_M_combineIntoRegister_139 : decode b_M_combineIntoRegister 139 = .ok (.invokevirtual 191, 3) := by decide +kernel
theorem d_M_combineIntoRegister_142 : decode b_M_combineIntoRegister 142 = .ok (.return_, 1) := by decide +kernel
theorem d_M_runOnRegisterAndOperand_0 : decode b_M_runOnRegisterAndOperand 0 = .ok (.iload_n 1, 1) := by decide +kernel
theorem d_M_runOnRegisterAndOperand_1 : decode b_M_runOnRegisterAndOperand 1 = .ok (.bipush 6, 2) := by decide +kernel
theorem d_M_runOnRegisterAndOperand_3 : decode b_M_runOnRegisterAndOperand 3 = .ok (.ishr, 1) := by decide +kernel
theorem d_M_runOnRegisterAndOperand_4 : decode b_M_runOnRegisterAndOperand 4 = .ok (.bipush 15, 2) := by decide +kernel
theorem d_M_runOnRegisterAndOperand_6 : decode b_M_runOnRegisterAndOperand 6 = .ok (.iand, 1) := by decide +kernel
theorem d_M_runOnRegisterAndOperand_7 : decode b_M_runOnRegisterAndOperand 7 = .ok (.istore_n 2, 1) := by decide +kernel
theorem d_M_runOnRegisterAndOperand_8 : decode b_M_runOnRegisterAndOperand 8 = .ok (.iload_n 1, 1) := by decide +kernel
theorem d_M_runOnRegisterAndOperand_9 : decode b_M_runOnRegisterAndOperand 9 = .ok (.bipush 10, 2) := by decide +kernel
theorem d_M_runOnRegisterAndOperand_11 : decode b_M_runOnRegisterAndOperand 11 = .ok (.ishr, 1) := by decide +kernel
theorem d_M_runOnRegisterAndOperand_12 : decode b_M_runOnRegisterAndOperand 12 = .ok (.istore_n 3, 1) := by decide +kernel
theorem d_M_runOnRegisterAndOperand_13 : decode b_M_runOnRegisterAndOperand 13 = .ok (.iload_n 3, 1) := by decide +kernel
theorem d_M_runOnRegisterAndOperand_14 : decode b_M_runOnRegisterAndOperand 14 = .ok (.tableswitch 76 11 13 #[26, 40, 58], 26) := by decide +kernel
theorem d_M_runOnRegisterAndOperand_40 : decode b_M_runOnRegisterAndOperand 40 = .ok (.aload_n 0, 1) := by decide +kernel
theorem d_M_runOnRegisterAndOperand_41 : decode b_M_runOnRegisterAndOperand 41 = .ok (.iload_n 2, 1) := by decide +kernel
theorem d_M_runOnRegisterAndOperand_42 : decode b_M_runOnRegisterAndOperand 42 = .ok (.aload_n 0, 1) := by decide +kernel
theorem d_M_runOnRegisterAndOperand_43 : decode b_M_runOnRegisterAndOperand 43 = .ok (.iload_n 1, 1) := by decide +kernel
theorem d_M_runOnRegisterAndOperand_44 : decode b_M_runOnRegisterAndOperand 44 = .ok (.iconst 2, 1) := by decide +kernel
theorem d_M_runOnRegisterAndOperand_45 : decode b_M_runOnRegisterAndOperand 45 = .ok (.invokevirtual 83, 3) := by decide +kernel
theorem d_M_runOnRegisterAndOperand_48 : decode b_M_runOnRegisterAndOperand 48 = .ok (.invokevirtual 170, 3) := by decide +kernel
theorem d_M_runOnRegisterAndOperand_51 : decode b_M_runOnRegisterAndOperand 51 = .ok (.goto 58, 3) := by decide +kernel
theorem d_M_runOnRegisterAndOperand_54 : decode b_M_runOnRegisterAndOperand 54 = .ok (.aload_n 0, 1) := by decide +kernel
theorem d_M_runOnRegisterAndOperand_55 : decode b_M_runOnRegisterAndOperand 55 = .ok (.iload_n 1, 1) := by decide +kernel
theorem d_M_runOnRegisterAndOperand_56 : decode b_M_runOnRegisterAndOperand 56 = .ok (.iload_n 2, 1) := by decide +kernel
theorem d_M_runOnRegisterAndOperand_57 : decode b_M_runOnRegisterAndOperand 57 = .ok (.ifCond .ne 8, 3) := by decide +kernel
theorem d_M_runOnRegisterAndOperand_60 : decode b_M_runOnRegisterAndOperand 60 = .ok (.bipush 16, 2) := by decide +kernel
theorem d_M_runOnRegisterAndOperand_62 : decode b_M_runOnRegisterAndOperand 62 = .ok (.goto 4, 3) := by decide +kernel
theorem d_M_runOnRegisterAndOperand_65 : decode b_M_runOnRegisterAndOperand 65 = .ok (.iload_n 2, 1) := by decide +kernel
theorem d_M_runOnRegisterAndOperand_66 : decode b_M_runOnRegisterAndOperand 66 = .ok (.invokevirtual 173, 3) := by decide +kernel
theorem d_M_runOnRegisterAndOperand_69 : decode b_M_runOnRegisterAndOperand 69 = .ok (.goto 40, 3) := by decide +kernel
theorem d_M_runOnRegisterAndOperand_72 : decode b_M_runOnRegisterAndOperand 72 = .ok (.aload_n 0, 1) := by decide +kernel
theorem d_M_runOnRegisterAndOperand_73 : decode b_M_runOnRegisterAndOperand 73 = .ok (.iload_n 1, 1) := by decide +kernel
theorem d_M_runOnRegisterAndOperand_74 : decode b_M_runOnRegisterAndOperand 74 = .ok (.iload_n 2, 1) := by decide +kernel
theorem d_M_runOnRegisterAndOperand_75 : decode b_M_runOnRegisterAndOperand 75 = .ok (.ifCond .ne 8, 3) := by decide +kernel
theorem d_M_runOnRegisterAndOperand_78 : decode b_M_runOnRegisterAndOperand 78 = .ok (.bipush 16, 2) := by decide +kernel
theorem d_M_runOnRegisterAndOperand_80 : decode b_M_runOnRegisterAndOperand 80 = .ok (.goto 4, 3) := by decide +kernel
theorem d_M_runOnRegisterAndOperand_83 : decode b_M_runOnRegisterAndOperand 83 = .ok (.iload_n 2, 1) := by decide +kernel
theorem d_M_runOnRegisterAndOperand_84 : decode b_M_runOnRegisterAndOperand 84 = .ok (.invokevirtual 176, 3) := by decide +kernel
theorem d_M_runOnRegisterAndOperand_87 : decode b_M_runOnRegisterAndOperand 87 = .ok (.goto 22, 3) := by decide +kernel
theorem d_M_runOnRegisterAndOperand_90 : decode b_M_runOnRegisterAndOperand 90 = .ok (.aload_n 0, 1) := by decide +kernel
theorem d_M_runOnRegisterAndOperand_91 : decode b_M_runOnRegisterAndOperand 91 = .ok (.iload_n 3, 1) := by decide +kernel
theorem d_M_runOnRegisterAndOperand_92 : decode b_M_runOnRegisterAndOperand 92 = .ok (.iload_n 2, 1) := by decide +kernel
theorem d_M_runOnRegisterAndOperand_93 : decode b_M_runOnRegisterAndOperand 93 = .ok (.aload_n 0, 1) := by decide +kernel
theorem d_M_runOnRegisterAndOperand_94 : decode b_M_runOnRegisterAndOperand 94 = .ok (.getfield 12, 3) := by decide +kernel
theorem d_M_runOnRegisterAndOperand_97 : decode b_M_runOnRegisterAndOperand 97 = .ok (.aload_n 0, 1) := by decide +kernel
theorem d_M_runOnRegisterAndOperand_98 : decode b_M_runOnRegisterAndOperand 98 = .ok (.iload_n 1, 1) := by decide +kernel
theorem d_M_runOnRegisterAndOperand_99 : decode b_M_runOnRegisterAndOperand 99 = .ok (.iconst 2, 1) := by decide +kernel
theorem d_M_runOnRegisterAndOperand_100 : decode b_M_runOnRegisterAndOperand 100 = .ok (.invokevirtual 83, 3) := by decide +kernel
theorem d_M_runOnRegisterAndOperand_103 : decode b_M_runOnRegisterAndOperand 103 = .ok (.invokevirtual 60, 3) := by decide +kernel
theorem d_M_runOnRegisterAndOperand_106 : decode b_M_runOnRegisterAndOperand 106 = .ok (.invokevirtual 179, 3) := by decide +kernel
theorem d_M_runOnRegisterAndOperand_109 : decode b_M_runOnRegisterAndOperand 109 = .ok (.iconst 0, 1) := by decide +kernel
theorem d_M_runOnRegisterAndOperand_110 : decode b_M_runOnRegisterAndOperand 110 = .ok (.ireturn, 1) := by decide +kernel
theorem d_St_has_0 : decode b_St_has 0 = .ok (.aload_n 0, 1) := by decide +kernel
theorem d_St_has_1 : decode b_St_has 1 = .ok (.getfield 9, 3) := by decide +kernel
theorem d_St_has_4 : decode b_St_has 4 = .ok (.iload_n 1, 1) := by decide +kernel
theorem d_St_has_5 : decode b_St_has 5 = .ok (.iand, 1) := by decide +kernel
theorem d_St_has_6 : decode b_St_has 6 = .ok (.ifCond .eq 7, 3) := by decide +kernel
theorem d_St_has_9 : decode b_St_has 9 = .ok (.iconst 1, 1) := by decide +kernel
theorem d_St_has_10 : decode b_St_has 10 = .ok (.goto 4, 3) := by decide +kernel
theorem d_St_has_13 : decode b_St_has 13 = .ok (.iconst 0, 1) := by decide +kernel
theorem d_St_has_14 : decode b_St_has 14 = .ok (.ireturn, 1) := by decide +kernel
theorem d_M_isJumpTaken_0 : decode b_M_isJumpTaken 0 = .ok (.aload_n 0, 1) := by decide +kernel
theorem d_M_isJumpTaken_1 : decode b_M_isJumpTaken 1 = .ok (.getfield 26, 3) := by decide +kernel
theorem d_M_isJumpTaken_4 : decode b_M_isJumpTaken 4 = .ok (.ldc 197, 2) := by decide +kernel
theorem d_M_isJumpTaken_6 : decode b_M_isJumpTaken 6 = .ok (.invokevirtual 198, 3) := by decide +kernel
theorem d_M_isJumpTaken_9 : decode b_M_isJumpTaken 9 = .ok (.istore_n 2, 1) := by decide +kernel
theorem d_M_isJumpTaken_10 : decode b_M_isJumpTaken 10 = .ok (.aload_n 0, 1) := by decide +kernel
theorem d_M_isJumpTaken_11 : decode b_M_isJumpTaken 11 = .ok (.getfield 26, 3) := by decide +kernel
theorem d_M_isJumpTaken_14 : decode b_M_isJumpTaken 14 = .ok (.sipush 16384, 3) := by decide +kernel
theorem d_M_isJumpTaken_17 : decode b_M_isJumpTaken 17 = .ok (.invokevirtual 198, 3) := by decide +kernel
theorem d_M_isJumpTaken_20 : decode b_M_isJumpTaken 20 = .ok (.istore_n 3, 1) := by decide +kernel
theorem d_M_isJumpTaken_21 : decode b_M_isJumpTaken 21 = .ok (.aload_n 0, 1) := by decide +kernel
theorem d_M_isJumpTaken_22 : decode b_M_isJumpTaken 22 = .ok (.getfield 26, 3) := by decide +kernel
theorem d_M_isJumpTaken_25 : decode b_M_isJumpTaken 25 = .ok (.sipush 8192, 3) := by decide +kernel
theorem d_M_isJumpTaken_28 : decode b_M_isJumpTaken 28 = .ok (.invokevirtual 198, 3) := by decide +kernel
theorem d_M_isJumpTaken_31 : decode b_M_isJumpTaken 31 = .ok (.istore 4, 2) := by decide +kernel
theorem d_M_isJumpTaken_33 : decode b_M_isJumpTaken 33 = .ok (.iload_n 1, 1) := by decide +kernel
theorem d_M_isJumpTaken_34 : decode b_M_isJumpTaken 34 = .ok (.tableswitch 204 16 27 #[62, 64, 79, 94, 97, 112, 114, 125, 144, 155, 174, 189], 62) := by decide +kernel
theorem d_M_isJumpTaken_96 : decode b_M_isJumpTaken 96 = .ok (.iconst 1, 1) := by decide +kernel
theorem d_M_isJumpTaken_97 : decode b_M_isJumpTaken 97 = .ok (.ireturn, 1) := by decide +kernel
theorem d_M_isJumpTaken_98 : decode b_M_isJumpTaken 98 = .ok (.iload_n 3, 1) := by decide +kernel
theorem d_M_isJumpTaken_99 : decode b_M_isJumpTaken 99 = .ok (.ifCond .ne 12, 3) := by decide +kernel
theorem d_M_isJumpTaken_102 : decode b_M_isJumpTaken 102 = .ok (.iload 4, 2) := by decide +kernel
theorem d_M_isJumpTaken_104 : decode b_M_isJumpTaken 104 = .ok (.ifCond .ne 7, 3) := by decide +kernel
theorem d_M_isJumpTaken_107 : decode b_M_isJumpTaken 107 = .ok (.iconst 1, 1) := by decide +kernel
theorem d_M_isJumpTaken_108 : decode b_M_isJumpTaken 108 = .ok (.goto 4, 3) := by decide +kernel
theorem d_M_isJumpTaken_111 : decode b_M_isJumpTaken 111 = .ok (.iconst 0, 1) := by decide +kernel
theorem d_M_isJumpTaken_112 : decode b_M_isJumpTaken 112 = .ok (.ireturn, 1) := by decide +kernel
theorem d_M_isJumpTaken_113 : decode b_M_isJumpTaken 113 = .ok (.iload_n 2, 1) := by decide +kernel
theorem d_M_isJumpTaken_114 : decode b_M_isJumpTaken 114 = .ok (.ifCond .eq 8, 3) := by decide +kernel
theorem d_M_isJumpTaken_117 : decode b_M_isJumpTaken 117 = .ok (.iload 4, 2) := by decide +kernel
theorem d_M_isJumpTaken_119 : decode b_M_isJumpTaken 119 = .ok (.ifCond .eq 7, 3) := by decide +kernel
theorem d_M_isJumpTaken_122 : decode b_M_isJumpTaken 122 = .ok (.iconst 1, 1) := by decide +kernel
theorem d_M_isJumpTaken_123 : decode b_M_isJumpTaken 123 = .ok (.goto 4, 3) := by decide +kernel
theorem d_M_isJumpTaken_126 : decode b_M_isJumpTaken 126 = .ok (.iconst 0, 1) := by decide +kernel
theorem d_M_isJumpTaken_127 : decode b_M_isJumpTaken 127 = .ok (.ireturn, 1) := by decide +kernel
theorem d_M_isJumpTaken_128 : decode b_M_isJumpTaken 128 = .ok (.iload 4, 2) := by decide +kernel
theorem d_M_isJumpTaken_130 : decode b_M_isJumpTaken 130 = .ok (.ireturn, 1) := by decide +kernel
theorem d_M_isJumpTaken_131 : decode b_M_isJumpTaken 131 = .ok (.iload_n 2, 1) := by decide +kernel
theorem d_M_isJumpTaken_132 : decode b_M_isJumpTaken 132 = .ok (.ifCond .ne 8, 3) := by decide +kernel
theorem d_M_isJumpTaken_135 : decode b_M_isJumpTaken 135 = .ok (.iload 4, 2) := by decide +kernel
theorem d_M_isJumpTaken_137 : decode b_M_isJumpTaken 137 = .ok (.ifCond .eq 7, 3) := by decide +kernel
theorem d_M_isJumpTaken_140 : decode b_M_isJumpTaken 140 = .ok (.iconst 1, 1) := by decide +kernel
theorem d_M_isJumpTaken_141 : decode b_M_isJumpTaken 141 = .ok (.goto 4, 3) := by decide +kernel
theorem d_M_isJumpTaken_144 : decode b_M_isJumpTaken 144 = .ok (.iconst 0, 1) := by decide +kernel
theorem d_M_isJumpTaken_145 : decode b_M_isJumpTaken 145 = .ok (.ireturn, 1) := by decide +kernel
theorem d_M_isJumpTaken_146 : decode b_M_isJumpTaken 146 = .ok (.iload_n 3, 1) := by decide +kernel
theorem d_M_isJumpTaken_147 : decode b_M_isJumpTaken 147 = .ok (.ireturn, 1) := by decide +kernel
theorem d_M_isJumpTaken_148 : decode b_M_isJumpTaken 148 = .ok (.iload 4, 2) := by decide +kernel
theorem d_M_isJumpTaken_150 : decode b_M_isJumpTaken 150 = .ok (.ifCond .ne 7, 3) := by decide +kernel
theorem d_M_isJumpTaken_153 : decode b_M_isJumpTaken 153 = .ok (.iconst 1, 1) := by decide +kernel
theorem d_M_isJumpTaken_154 : decode b_M_isJumpTaken 154 = .ok (.goto 4, 3) := by decide +kernel
theorem d_M_isJumpTaken_157 : decode b_M_isJumpTaken 157 = .ok (.iconst 0, 1) := by decide +kernel
theorem d_M_isJumpTaken_158 : decode b_M_isJumpTaken 158 = .ok (.ireturn, 1) := by decide +kernel
theorem d_M_isJumpTaken_159 : decode b_M_isJumpTaken 159 = .ok (.aload_n 0, 1) := by decide +kernel
theorem d_M_isJumpTaken_160 : decode b_M_isJumpTaken 160 = .ok (.getfield 26, 3) := by decide +kernel
theorem d_M_isJumpTaken_163 : decode b_M_isJumpTaken 163 = .ok (.sipush 4096, 3) := by decide +kernel
theorem d_M_isJumpTaken_166 : decode b_M_isJumpTaken 166 = .ok (.invokevirtual 198, 3) := by decide +kernel
theorem d_M_isJumpTaken_169 : decode b_M_isJumpTaken 169 = .ok (.ifCond .ne 7, 3) := by decide +kernel
theorem d_M_isJumpTaken_172 : decode b_M_isJumpTaken 172 = .ok (.iconst 1, 1) := by decide +kernel
theorem d_M_isJumpTaken_173 : decode b_M_isJumpTaken 173 = .ok (.goto 4, 3) := by decide +kernel
theorem d_M_isJumpTaken_176 : decode b_M_isJumpTaken 176 = .ok (.iconst 0, 1) := by decide +kernel
theorem d_M_isJumpTaken_177 : decode b_M_isJumpTaken 177 = .ok (.ireturn, 1) := by decide +kernel
theorem d_M_isJumpTaken_178 : decode b_M_isJumpTaken 178 = .ok (.aload_n 0, 1) := by decide +kernel
theorem d_M_isJumpTaken_179 : decode b_M_isJumpTaken 179 = .ok (.getfield 26, 3) := by decide +kernel
theorem d_M_isJumpTaken_182 : decode b_M_isJumpTaken 182 = .ok (.sipush 4096, 3) := by decide +kernel
theorem d_M_isJumpTaken_185 : decode b_M_isJumpTaken 185 = .ok (.invokevirtual 198, 3) := by decide +kernel
theorem d_M_isJumpTaken_188 : decode b_M_isJumpTaken 188 = .ok (.ireturn, 1) := by decide +kernel
theorem d_M_isJumpTaken_189 : decode b_M_isJumpTaken 189 = .ok (.aload_n 0, 1) := by decide +kernel
theorem d_M_isJumpTaken_190 : decode b_M_isJumpTaken 190 = .ok (.getfield 26, 3) := by decide +kernel
theorem d_M_isJumpTaken_193 : decode b_M_isJumpTaken 193 = .ok (.sipush 2048, 3) := by decide +kernel
theorem d_M_isJumpTaken_196 : decode b_M_isJumpTaken 196 = .ok (.invokevirtual 198, 3) := by decide +kernel
theorem d_M_isJumpTaken_199 : decode b_M_isJumpTaken 199 = .ok (.ifCond .ne 7, 3) := by decide +kernel
theorem d_M_isJumpTaken_202 : decode b_M_isJumpTaken 202 = .ok (.iconst 1, 1) := by decide +kernel
theorem d_M_isJumpTaken_203 : decode b_M_isJumpTaken 203 = .ok (.goto 4, 3) := by decide +kernel
theorem d_M_isJumpTaken_206 : decode b_M_isJumpTaken 206 = .ok (.iconst 0, 1) := by decide +kernel
theorem d_M_isJumpTaken_207 : decode b_M_isJumpTaken 207 = .ok (.ireturn, 1) := by decide +kernel
theorem d_M_isJumpTaken_208 : decode b_M_isJumpTaken 208 = .ok (.iload_n 2, 1) := by decide +kernel
theorem d_M_isJumpTaken_209 : decode b_M_isJumpTaken 209 = .ok (.ifCond .ne 12, 3) := by decide +kernel
theorem d_M_isJumpTaken_212 : decode b_M_isJumpTaken 212 = .ok (.iload 4, 2) := by decide +kernel
theorem d_M_isJumpTaken_214 : decode b_M_isJumpTaken 214 = .ok (.ifCond .ne 7, 3) := by decide +kernel
theorem d_M_isJumpTaken_217 : decode b_M_isJumpTaken 217 = .ok (.iconst 1, 1) := by decide +kernel
theorem d_M_isJumpTaken_218 : decode b_M_isJumpTaken 218 = .ok (.goto 4, 3) := by decide +kernel
theorem d_M_isJumpTaken_221 : decode b_M_isJumpTaken 221 = .ok (.iconst 0, 1) := by decide +kernel
theorem d_M_isJumpTaken_222 : decode b_M_isJumpTaken 222 = .ok (.ireturn, 1) := by decide +kernel
theorem d_M_isJumpTaken_223 : decode b_M_isJumpTaken 223 = .ok (.iload_n 2, 1) := by decide +kernel
theorem d_M_isJumpTaken_224 : decode b_M_isJumpTaken 224 = .ok (.ifCond .eq 12, 3) := by decide +kernel
theorem d_M_isJumpTaken_227 : decode b_M_isJumpTaken 227 = .ok (.iload 4, 2) := by decide +kernel
theorem d_M_isJumpTaken_229 : decode b_M_isJumpTaken 229 = .ok (.ifCond .ne 7, 3) := by decide +kernel
theorem d_M_isJumpTaken_232 : decode b_M_isJumpTaken 232 = .ok (.iconst 1, 1) := by decide +kernel
theorem d_M_isJumpTaken_233 : decode b_M_isJumpTaken 233 = .ok (.goto 4, 3) := by decide +kernel
theorem d_M_isJumpTaken_236 : decode b_M_isJumpTaken 236 = .ok (.iconst 0, 1) := by decide +kernel
theorem d_M_isJumpTaken_237 : decode b_M_isJumpTaken 237 = .ok (.ireturn, 1) := by decide +kernel
theorem d_M_isJumpTaken_238 : decode b_M_isJumpTaken 238 = .ok (.aload_n 0, 1) := by decide +kernel
theorem d_M_isJumpTaken_239 : decode b_M_isJumpTaken 239 = .ok (.getfield 26, 3) := by decide +kernel
theorem d_M_isJumpTaken_242 : decode b_M_isJumpTaken 242 = .ok (.sipush 1024, 3) := by decide +kernel
theorem d_M_isJumpTaken_245 : decode b_M_isJumpTaken 245 = .ok (.invokevirtual 198, 3) := by decide +kernel
theorem d_M_isJumpTaken_248 : decode b_M_isJumpTaken 248 = .ok (.ireturn, 1) := by decide +kernel
theorem d_M_runJump_0 : decode b_M_runJump 0 = .ok (.aload_n 0, 1) := by decide +kernel
theorem d_M_runJump_1 : decode b_M_runJump 1 = .ok (.iload_n 1, 1) := by decide +kernel
theorem d_M_runJump_2 : decode b_M_runJump 2 = .ok (.bipush 8, 2) := by decide +kernel
theorem d_M_runJump_4 : decode b_M_runJump 4 = .ok (.ishr, 1) := by decide +kernel
theorem d_M_runJump_5 : decode b_M_runJump 5 = .ok (.invokevirtual 194, 3) := by decide +kernel
theorem d_M_runJump_8 : decode b_M_runJump 8 = .ok (.ifCond .eq 16, 3) := by decide +kernel
theorem d_M_runJump_11 : decode b_M_runJump 11 = .ok (.aload_n 0, 1) := by decide +kernel
theorem d_M_runJump_12 : decode b_M_runJump 12 = .ok (.aload_n 0, 1) := by decide +kernel
theorem d_M_runJump_13 : decode b_M_runJump 13 = .ok (.getfield 71, 3) := by decide +kernel
theorem d_M_runJump_16 : decode b_M_runJump 16 = .ok (.iconst 2, 1) := by decide +kernel
theorem d_M_runJump_17 : decode b_M_runJump 17 = .ok (.iload_n 1, 1) := by decide +kernel
theorem d_M_runJump_18 : decode b_M_runJump 18 = .ok (.i2b, 1) := by decide +kernel
theorem d_M_runJump_19 : decode b_M_runJump 19 = .ok (.imul, 1) := by decide +kernel
theorem d_M_runJump_20 : decode b_M_runJump 20 = .ok (.iadd, 1) := by decide +kernel
theorem d_M_runJump_21 : decode b_M_runJump 21 = .ok (.invokevirtual 116, 3) := by decide +kernel
theorem d_M_runJump_24 : decode b_M_runJump 24 = .ok (.iconst 0, 1) := by decide +kernel
theorem d_M_runJump_25 : decode b_M_runJump 25 = .ok (.ireturn, 1) := by decide +kernel
theorem d_M_runOnLine_0 : decode b_M_runOnLine 0 = .ok (.aload_n 0, 1) := by decide +kernel
theorem d_M_runOnLine_1 : decode b_M_runOnLine 1 = .ok (.bipush 12, 2) := by decide +kernel
theorem d_M_runOnLine_3 : decode b_M_runOnLine 3 = .ok (.invokevirtual 77, 3) := by decide +kernel
theorem d_M_runOnLine_6 : decode b_M_runOnLine 6 = .ok (.iconst 2, 1) := by decide +kernel
theorem d_M_runOnLine_7 : decode b_M_runOnLine 7 = .ok (.idiv, 1) := by decide +kernel
theorem d_M_runOnLine_8 : decode b_M_runOnLine 8 = .ok (.iload_n 1, 1) := by decide +kernel
theorem d_M_runOnLine_9 : decode b_M_runOnLine 9 = .ok (.i2b, 1) := by decide +kernel
theorem d_M_runOnLine_10 : decode b_M_runOnLine 10 = .ok (.iadd, 1) := by decide +kernel
theorem d_M_runOnLine_11 : decode b_M_runOnLine 11 = .ok (.istore_n 2, 1) := by decide +kernel
theorem d_M_runOnLine_12 : decode b_M_runOnLine 12 = .ok (.iload_n 1, 1) := by decide +kernel
theorem d_M_runOnLine_13 : decode b_M_runOnLine 13 = .ok (.bipush 8, 2) := by decide +kernel
theorem d_M_runOnLine_15 : decode b_M_runOnLine 15 = .ok (.ishr, 1) := by decide +kernel
theorem d_M_runOnLine_16 : decode b_M_runOnLine 16 = .ok (.lookupswitch 52 #[(29, 28), (30, 40)], 28) := by decide +kernel
theorem d_M_runOnLine_44 : decode b_M_runOnLine 44 = .ok (.aload_n 0, 1) := by decide +kernel
theorem d_M_runOnLine_45 : decode b_M_runOnLine 45 = .ok (.getfield 19, 3) := by decide +kernel
theorem d_M_runOnLine_48 : decode b_M_runOnLine 48 = .ok (.iload_n 2, 1) := by decide +kernel
theorem d_M_runOnLine_49 : decode b_M_runOnLine 49 = .ok (.iconst 1, 1) := by decide +kernel
theorem d_M_runOnLine_50 : decode b_M_runOnLine 50 = .ok (.invokevirtual 100, 3) := by decide +kernel
theorem d_M_runOnLine_53 : decode b_M_runOnLine 53 = .ok (.goto 33, 3) := by decide +kernel
theorem d_M_runOnLine_56 : decode b_M_runOnLine 56 = .ok (.aload_n 0, 1) := by decide +kernel
theorem d_M_runOnLine_57 : decode b_M_runOnLine 57 = .ok (.getfield 19, 3) := by decide +kernel
theorem d_M_runOnLine_60 : decode b_M_runOnLine 60 = .ok (.iload_n 2, 1) := by decide +kernel
theorem d_M_runOnLine_61 : decode b_M_runOnLine 61 = .ok (.iconst 0, 1) := by decide +kernel
theorem d_M_runOnLine_62 : decode b_M_runOnLine 62 = .ok (.invokevirtual 100, 3) := by decide +kernel
theorem d_M_runOnLine_65 : decode b_M_runOnLine 65 = .ok (.goto 21, 3) := by decide +kernel
theorem d_M_runOnLine_68 : decode b_M_runOnLine 68 = .ok (.aload_n 0, 1) := by decide +kernel
theorem d_M_runOnLine_69 : decode b_M_runOnLine 69 = .ok (.getfield 26, 3) := by decide +kernel
theorem d_M_runOnLine_72 : decode b_M_runOnLine 72 = .ok (.sipush 8192, 3) := by decide +kernel
theorem d_M_runOnLine_75 : decode b_M_runOnLine 75 = .ok (.aload_n 0, 1) := by decide +kernel
theorem d_M_runOnLine_76 : decode b_M_runOnLine 76 = .ok (.getfield 19, 3) := by decide +kernel
theorem d_M_runOnLine_79 : decode b_M_runOnLine 79 = .ok (.iload_n 2, 1) := by decide +kernel
theorem d_M_runOnLine_80 : decode b_M_runOnLine 80 = .ok (.invokevirtual 104, 3) := by decide +kernel
theorem d_M_runOnLine_83 : decode b_M_runOnLine 83 = .ok (.invokevirtual 182, 3) := by decide +kernel
theorem d_M_runOnLine_86 : decode b_M_runOnLine 86 = .ok (.iconst 0, 1) := by decide +kernel
theorem d_M_runOnLine_87 : decode b_M_runOnLine 87 = .ok (.ireturn, 1) := by decide +kernel
theorem d_M_shiftCount_0 : decode b_M_shiftCount 0 = .ok (.iload_n 1, 1) := by decide +kernel
theorem d_M_shiftCount_1 : decode b_M_shiftCount 1 = .ok (.ifCond .eq 5, 3) := by decide +kernel
theorem d_M_shiftCount_4 : decode b_M_shiftCount 4 = .ok (.iload_n 1, 1) := by decide +kernel
theorem d_M_shiftCount_5 : decode b_M_shiftCount 5 = .ok (.ireturn, 1) := by decide +kernel
theorem d_M_shiftCount_6 : decode b_M_shiftCount 6 = .ok (.aload_n 0, 1) := by decide +kernel
theorem d_M_shiftCount_7 : decode b_M_shiftCount 7 = .ok (.iconst 0, 1) := by decide +kernel
theorem d_M_shiftCount_8 : decode b_M_shiftCount 8 = .ok (.invokevirtual 77, 3) := by decide +kernel
theorem d_M_shiftCount_11 : decode b_M_shiftCount 11 = .ok (.bipush 15, 2) := by decide +kernel
theorem d_M_shiftCount_13 : decode b_M_shiftCount 13 = .ok (.iand, 1) := by decide +kernel
theorem d_M_shiftCount_14 : decode b_M_shiftCount 14 = .ok (.istore_n 2, 1) := by decide +kernel
theorem d_M_shiftCount_15 : decode b_M_shiftCount 15 = .ok (.iload_n 2, 1) := by decide +kernel
theorem d_M_shiftCount_16 : decode b_M_shiftCount 16 = .ok (.ifCond .eq 7, 3) := by decide +kernel
theorem d_M_shiftCount_19 : decode b_M_shiftCount 19 = .ok (.iload_n 2, 1) := by decide +kernel
theorem d_M_shiftCount_20 : decode b_M_shiftCount 20 = .ok (.goto 5, 3) := by decide +kernel
theorem d_M_shiftCount_23 : decode b_M_shiftCount 23 = .ok (.bipush 16, 2) := by decide +kernel
theorem d_M_shiftCount_25 : decode b_M_shiftCount 25 = .ok (.ireturn, 1) := by decide +kernel
theorem d_M_shiftedOnce_0 : decode b_M_shiftedOnce 0 = .ok (.iload_n 0, 1) := by decide +kernel
theorem d_M_shiftedOnce_1 : decode b_M_shiftedOnce 1 = .ok (.tableswitch 47 8 10 #[27, 36, 40], 27) := by decide +kernel
theorem d_M_shiftedOnce_28 : decode b_M_shiftedOnce 28 = .ok (.iload_n 1, 1) := by decide +kernel
theorem d_M_shiftedOnce_29 : decode b_M_shiftedOnce 29 = .ok (.ldc 197, 2) := by decide +kernel
theorem d_M_shiftedOnce_31 : decode b_M_shiftedOnce 31 = .ok (.iand, 1) := by decide +kernel
theorem d_M_shiftedOnce_32 : decode b_M_shiftedOnce 32 = .ok (.iload_n 1, 1) := by decide +kernel
theorem d_M_shiftedOnce_33 : decode b_M_shiftedOnce 33 = .ok (.iconst 1, 1) := by decide +kernel
theorem d_M_shiftedOnce_34 : decode b_M_shiftedOnce 34 = .ok (.ishr, 1) := by decide +kernel
theorem d_M_shiftedOnce_35 : decode b_M_shiftedOnce 35 = .ok (.ior, 1) := by decide +kernel
theorem d_M_shiftedOnce_36 : decode b_M_shiftedOnce 36 = .ok (.ireturn, 1) := by decide +kernel
theorem d_M_shiftedOnce_37 : decode b_M_shiftedOnce 37 = .ok (.iload_n 1, 1) := by decide +kernel
theorem d_M_shiftedOnce_38 : decode b_M_shiftedOnce 38 = .ok (.iconst 1, 1) := by decide +kernel
theorem d_M_shiftedOnce_39 : decode b_M_shiftedOnce 39 = .ok (.ishr, 1) := by decide +kernel
theorem d_M_shiftedOnce_40 : decode b_M_shiftedOnce 40 = .ok (.ireturn, 1) := by decide +kernel
theorem d_M_shiftedOnce_41 : decode b_M_shiftedOnce 41 = .ok (.iload_n 1, 1) := by decide +kernel
theorem d_M_shiftedOnce_42 : decode b_M_shiftedOnce 42 = .ok (.iconst 1, 1) := by decide +kernel
theorem d_M_shiftedOnce_43 : decode b_M_shiftedOnce 43 = .ok (.ishl, 1) := by decide +kernel
theorem d_M_shiftedOnce_44 : decode b_M_shiftedOnce 44 = .ok (.ldc 166, 2) := by decide +kernel
theorem d_M_shiftedOnce_46 : decode b_M_shiftedOnce 46 = .ok (.iand, 1) := by decide +kernel
theorem d_M_shiftedOnce_47 : decode b_M_shiftedOnce 47 = .ok (.ireturn, 1) := by decide +kernel
theorem d_M_shiftedOnce_48 : decode b_M_shiftedOnce 48 = .ok (.iload_n 1, 1) := by decide +kernel
theorem d_M_shiftedOnce_49 : decode b_M_shiftedOnce 49 = .ok (.iconst 1, 1) := by decide +kernel
theorem d_M_shiftedOnce_50 : decode b_M_shiftedOnce 50 = .ok (.ishr, 1) := by decide +kernel
theorem d_M_shiftedOnce_51 : decode b_M_shiftedOnce 51 = .ok (.iload_n 1, 1) := by decide +kernel
theorem d_M_shiftedOnce_52 : decode b_M_shiftedOnce 52 = .ok (.iconst 1, 1) := by decide +kernel
theorem d_M_shiftedOnce_53 : decode b_M_shiftedOnce 53 = .ok (.iand, 1) := by decide +kernel
theorem d_M_shiftedOnce_54 : decode b_M_shiftedOnce 54 = .ok (.bipush 15, 2) := by decide +kernel
theorem d_M_shiftedOnce_56 : decode b_M_shiftedOnce 56 = .ok (.ishl, 1) := by decide +kernel
theorem d_M_shiftedOnce_57 : decode b_M_shiftedOnce 57 = .ok (.ior, 1) := by decide +kernel
theorem d_M_shiftedOnce_58 : decode b_M_shiftedOnce 58 = .ok (.ireturn, 1) := by decide +kernel
theorem d_M_runShift_0 : decode b_M_runShift 0 = .ok (.iload_n 1, 1) := by decide +kernel
theorem d_M_runShift_1 : decode b_M_runShift 1 = .ok (.bipush 8, 2) := by decide +kernel
theorem d_M_runShift_3 : decode b_M_runShift 3 = .ok (.ishr, 1) := by decide +kernel
theorem d_M_runShift_4 : decode b_M_runShift 4 = .ok (.istore_n 2, 1) := by decide +kernel
theorem d_M_runShift_5 : decode b_M_runShift 5 = .ok (.iload_n 1, 1) := by decide +kernel
theorem d_M_runShift_6 : decode b_M_runShift 6 = .ok (.bipush 15, 2) := by decide +kernel
theorem d_M_runShift_8 : decode b_M_runShift 8 = .ok (.iand, 1) := by decide +kernel
theorem d_M_runShift_9 : decode b_M_runShift 9 = .ok (.istore_n 3, 1) := by decide +kernel
theorem d_M_runShift_10 : decode b_M_runShift 10 = .ok (.aload_n 0, 1) := by decide +kernel
theorem d_M_runShift_11 : decode b_M_runShift 11 = .ok (.iload_n 1, 1) := by decide +kernel
theorem d_M_runShift_12 : decode b_M_runShift 12 = .ok (.iconst 4, 1) := by decide +kernel
theorem d_M_runShift_13 : decode b_M_runShift 13 = .ok (.ishr, 1) := by decide +kernel
theorem d_M_runShift_14 : decode b_M_runShift 14 = .ok (.bipush 15, 2) := by decide +kernel
theorem d_M_runShift_16 : decode b_M_runShift 16 = .ok (.iand, 1) := by decide +kernel
theorem d_M_runShift_17 : decode b_M_runShift 17 = .ok (.invokevirtual 201, 3) := by decide +kernel
theorem d_M_runShift_20 : decode b_M_runShift 20 = .ok (.istore 4, 2) := by decide +kernel
theorem d_M_runShift_22 : decode b_M_runShift 22 = .ok (.aload_n 0, 1) := by decide +kernel
theorem d_M_runShift_23 : decode b_M_runShift 23 = .ok (.iload_n 3, 1) := by decide +kernel
theorem d_M_runShift_24 : decode b_M_runShift 24 = .ok (.invokevirtual 77, 3) := by decide +kernel
theorem d_M_runShift_27 : decode b_M_runShift 27 = .ok (.istore 5, 2) := by decide +kernel
theorem d_M_runShift_29 : decode b_M_runShift 29 = .ok (.iconst 0, 1) := by decide +kernel
theorem d_M_runShift_30 : decode b_M_runShift 30 = .ok (.istore 6, 2) := by decide +kernel
theorem d_M_runShift_32 : decode b_M_runShift 32 = .ok (.iconst 0, 1) := by decide +kernel
theorem d_M_runShift_33 : decode b_M_runShift 33 = .ok (.istore 7, 2) := by decide +kernel
theorem d_M_runShift_35 : decode b_M_runShift 35 = .ok (.iconst 0, 1) := by decide +kernel
theorem d_M_runShift_36 : decode b_M_runShift 36 = .ok (.istore 8, 2) := by decide +kernel
theorem d_M_runShift_38 : decode b_M_runShift 38 = .ok (.iload 8, 2) := by decide +kernel
theorem d_M_runShift_40 : decode b_M_runShift 40 = .ok (.iload 4, 2) := by decide +kernel
theorem d_M_runShift_42 : decode b_M_runShift 42 = .ok (.if_icmp .ge 64, 3) := by decide +kernel
theorem d_M_runShift_45 : decode b_M_runShift 45 = .ok (.iload_n 2, 1) := by decide +kernel
theorem d_M_runShift_46 : decode b_M_runShift 46 = .ok (.bipush 10, 2) := by decide +kernel
theorem d_M_runShift_48 : decode b_M_runShift 48 = .ok (.if_icmp .ne 11, 3) := by decide +kernel
theorem d_M_runShift_51 : decode b_M_runShift 51 = .ok (.iload 5, 2) := by decide +kernel
theorem d_M_runShift_53 : decode b_M_runShift 53 = .ok (.bipush 15, 2) := by decide +kernel
theorem d_M_runShift_55 : decode b_M_runShift 55 = .ok (.ishr, 1) := by decide +kernel
theorem d_M_runShift_56 : decode b_M_runShift 56 = .ok (.goto 7, 3) := by decide +kernel
theorem d_M_runShift_59 : decode b_M_runShift 59 = .ok (.iload 5, 2) := by decide +kernel
theorem d_M_runShift_61 : decode b_M_runShift 61 = .ok (.iconst 1, 1) := by decide +kernel
theorem d_M_runShift_62 : decode b_M_runShift 62 = .ok (.iand, 1) := by decide +kernel
theorem d_M_runShift_63 : decode b_M_runShift 63 = .ok (.istore 6, 2) := by decide +kernel
theorem d_M_runShift_65 : decode b_M_runShift 65 = .ok (.iload_n 2, 1) := by decide +kernel
theorem d_M_runShift_66 : decode b_M_runShift 66 = .ok (.iload 5, 2) := by decide +kernel
theorem d_M_runShift_68 : decode b_M_runShift 68 = .ok (.invokestatic 204, 3) := by decide +kernel
theorem d_M_runShift_71 : decode b_M_runShift 71 = .ok (.istore 9, 2) := by decide +kernel
theorem d_M_runShift_73 : decode b_M_runShift 73 = .ok (.iload 7, 2) := by decide +kernel
theorem d_M_runShift_75 : decode b_M_runShift 75 = .ok (.ifCond .ne 14, 3) := by decide +kernel
theorem d_M_runShift_78 : decode b_M_runShift 78 = .ok (.iload 5, 2) := by decide +kernel
theorem d_M_runShift_80 : decode b_M_runShift 80 = .ok (.iload 9, 2) := by decide +kernel
theorem d_M_runShift_82 : decode b_M_runShift 82 = .ok (.ixor, 1) := by decide +kernel
theorem d_M_runShift_83 : decode b_M_runShift 83 = .ok (.ldc 197, 2) := by decide +kernel
theorem d_M_runShift_85 : decode b_M_runShift 85 = .ok (.iand, 1) := by decide +kernel
theorem d_M_runShift_86 : decode b_M_runShift 86 = .ok (.ifCond .eq 7, 3) := by decide +kernel
theorem d_M_runShift_89 : decode b_M_runShift 89 = .ok (.iconst 1, 1) := by decide +kernel
theorem d_M_runShift_90 : decode b_M_runShift 90 = .ok (.goto 4, 3) := by decide +kernel
theorem d_M_runShift_93 : decode b_M_runShift 93 = .ok (.iconst 0, 1) := by decide +kernel
theorem d_M_runShift_94 : decode b_M_runShift 94 = .ok (.istore 7, 2) := by decide +kernel
theorem d_M_runShift_96 : decode b_M_runShift 96 = .ok (.iload 9, 2) := by decide +kernel
theorem d_M_runShift_98 : decode b_M_runShift 98 = .ok (.istore 5, 2) := by decide +kernel
theorem d_M_runShift_100 : decode b_M_runShift 100 = .ok (.iinc 8 1, 3) := by decide +kernel
end
section
/-! decode rows, laid by gen.py -/
theorem d_M_runShift_103 : decode b_M_runShift 103 = .ok (.goto (-65), 3) := by decide +kernel
theorem d_M_runShift_106 : decode b_M_runShift 106 = .ok (.aload_n 0, 1) := by decide +kernel
theorem d_M_runShift_107 : decode b_M_runShift 107 = .ok (.iload_n 3, 1) := by decide +kernel
theorem d_M_runShift_108 : decode b_M_runShift 108 = .ok (.aload_n 0, 1) := by decide +kernel
theorem d_M_runShift_109 : decode b_M_runShift 109 = .ok (.getfield 26, 3) := by decide +kernel
theorem d_M_runShift_112 : decode b_M_runShift 112 = .ok (.iload 5, 2) := by decide +kernel
theorem d_M_runShift_114 : decode b_M_runShift 114 = .ok (.invokevirtual 163, 3) := by decide +kernel
theorem d_M_runShift_117 : decode b_M_runShift 117 = .ok (.invokevirtual 90, 3) := by decide +kernel
theorem d_M_runShift_120 : decode b_M_runShift 120 = .ok (.aload_n 0, 1) := by decide +kernel
theorem d_M_runShift_121 : decode b_M_runShift 121 = .ok (.getfield 26, 3) := by decide +kernel
theorem d_M_runShift_124 : decode b_M_runShift 124 = .ok (.sipush 4096, 3) := by decide +kernel
theorem d_M_runShift_127 : decode b_M_runShift 127 = .ok (.iload 6, 2) := by decide +kernel
theorem d_M_runShift_129 : decode b_M_runShift 129 = .ok (.iconst 1, 1) := by decide +kernel
theorem d_M_runShift_130 : decode b_M_runShift 130 = .ok (.if_icmp .ne 7, 3) := by decide +kernel
theorem d_M_runShift_133 : decode b_M_runShift 133 = .ok (.iconst 1, 1) := by decide +kernel
theorem d_M_runShift_134 : decode b_M_runShift 134 = .ok (.goto 4, 3) := by decide +kernel
theorem d_M_runShift_137 : decode b_M_runShift 137 = .ok (.iconst 0, 1) := by decide +kernel
theorem d_M_runShift_138 : decode b_M_runShift 138 = .ok (.invokevirtual 182, 3) := by decide +kernel
theorem d_M_runShift_141 : decode b_M_runShift 141 = .ok (.iload_n 2, 1) := by decide +kernel
theorem d_M_runShift_142 : decode b_M_runShift 142 = .ok (.bipush 10, 2) := by decide +kernel
theorem d_M_runShift_144 : decode b_M_runShift 144 = .ok (.if_icmp .ne 15, 3) := by decide +kernel
theorem d_M_runShift_147 : decode b_M_runShift 147 = .ok (.aload_n 0, 1) := by decide +kernel
theorem d_M_runShift_148 : decode b_M_runShift 148 = .ok (.getfield 26, 3) := by decide +kernel
theorem d_M_runShift_151 : decode b_M_runShift 151 = .ok (.sipush 2048, 3) := by decide +kernel
theorem d_M_runShift_154 : decode b_M_runShift 154 = .ok (.iload 7, 2) := by decide +kernel
theorem d_M_runShift_156 : decode b_M_runShift 156 = .ok (.invokevirtual 182, 3) := by decide +kernel
theorem d_M_runShift_159 : decode b_M_runShift 159 = .ok (.iconst 0, 1) := by decide +kernel
theorem d_M_runShift_160 : decode b_M_runShift 160 = .ok (.ireturn, 1) := by decide +kernel
theorem d_M_negated_0 : decode b_M_negated 0 = .ok (.aload_n 0, 1) := by decide +kernel
theorem d_M_negated_1 : decode b_M_negated 1 = .ok (.getfield 26, 3) := by decide +kernel
theorem d_M_negated_4 : decode b_M_negated 4 = .ok (.sipush 4096, 3) := by decide +kernel
theorem d_M_negated_7 : decode b_M_negated 7 = .ok (.iload_n 1, 1) := by decide +kernel
theorem d_M_negated_8 : decode b_M_negated 8 = .ok (.ifCond .ne 7, 3) := by decide +kernel
theorem d_M_negated_11 : decode b_M_negated 11 = .ok (.iconst 1, 1) := by decide +kernel
theorem d_M_negated_12 : decode b_M_negated 12 = .ok (.goto 4, 3) := by decide +kernel
theorem d_M_negated_15 : decode b_M_negated 15 = .ok (.iconst 0, 1) := by decide +kernel
theorem d_M_negated_16 : decode b_M_negated 16 = .ok (.invokevirtual 182, 3) := by decide +kernel
theorem d_M_negated_19 : decode b_M_negated 19 = .ok (.aload_n 0, 1) := by decide +kernel
theorem d_M_negated_20 : decode b_M_negated 20 = .ok (.getfield 26, 3) := by decide +kernel
theorem d_M_negated_23 : decode b_M_negated 23 = .ok (.sipush 2048, 3) := by decide +kernel
theorem d_M_negated_26 : decode b_M_negated 26 = .ok (.iload_n 1, 1) := by decide +kernel
theorem d_M_negated_27 : decode b_M_negated 27 = .ok (.ldc 197, 2) := by decide +kernel
theorem d_M_negated_29 : decode b_M_negated 29 = .ok (.if_icmp .ne 7, 3) := by decide +kernel
theorem d_M_negated_32 : decode b_M_negated 32 = .ok (.iconst 1, 1) := by decide +kernel
theorem d_M_negated_33 : decode b_M_negated 33 = .ok (.goto 4, 3) := by decide +kernel
theorem d_M_negated_36 : decode b_M_negated 36 = .ok (.iconst 0, 1) := by decide +kernel
theorem d_M_negated_37 : decode b_M_negated 37 = .ok (.invokevirtual 182, 3) := by decide +kernel
theorem d_M_negated_40 : decode b_M_negated 40 = .ok (.aload_n 0, 1) := by decide +kernel
theorem d_M_negated_41 : decode b_M_negated 41 = .ok (.getfield 26, 3) := by decide +kernel
theorem d_M_negated_44 : decode b_M_negated 44 = .ok (.iload_n 1, 1) := by decide +kernel
theorem d_M_negated_45 : decode b_M_negated 45 = .ok (.ineg, 1) := by decide +kernel
theorem d_M_negated_46 : decode b_M_negated 46 = .ok (.ldc 166, 2) := by decide +kernel
theorem d_M_negated_48 : decode b_M_negated 48 = .ok (.iand, 1) := by decide +kernel
theorem d_M_negated_49 : decode b_M_negated 49 = .ok (.invokevirtual 163, 3) := by decide +kernel
theorem d_M_negated_52 : decode b_M_negated 52 = .ok (.ireturn, 1) := by decide +kernel
theorem d_M_withoutSign_0 : decode b_M_withoutSign 0 = .ok (.aload_n 0, 1) := by decide +kernel
theorem d_M_withoutSign_1 : decode b_M_withoutSign 1 = .ok (.getfield 26, 3) := by decide +kernel
theorem d_M_withoutSign_4 : decode b_M_withoutSign 4 = .ok (.iload_n 1, 1) := by decide +kernel
theorem d_M_withoutSign_5 : decode b_M_withoutSign 5 = .ok (.iconst 0, 1) := by decide +kernel
theorem d_M_withoutSign_6 : decode b_M_withoutSign 6 = .ok (.invokevirtual 149, 3) := by decide +kernel
theorem d_M_withoutSign_9 : decode b_M_withoutSign 9 = .ok (.aload_n 0, 1) := by decide +kernel
theorem d_M_withoutSign_10 : decode b_M_withoutSign 10 = .ok (.getfield 26, 3) := by decide +kernel
theorem d_M_withoutSign_13 : decode b_M_withoutSign 13 = .ok (.sipush 4096, 3) := by decide +kernel
theorem d_M_withoutSign_16 : decode b_M_withoutSign 16 = .ok (.iconst 0, 1) := by decide +kernel
theorem d_M_withoutSign_17 : decode b_M_withoutSign 17 = .ok (.invokevirtual 182, 3) := by decide +kernel
theorem d_M_withoutSign_20 : decode b_M_withoutSign 20 = .ok (.aload_n 0, 1) := by decide +kernel
theorem d_M_withoutSign_21 : decode b_M_withoutSign 21 = .ok (.getfield 26, 3) := by decide +kernel
theorem d_M_withoutSign_24 : decode b_M_withoutSign 24 = .ok (.sipush 2048, 3) := by decide +kernel
theorem d_M_withoutSign_27 : decode b_M_withoutSign 27 = .ok (.iload_n 1, 1) := by decide +kernel
theorem d_M_withoutSign_28 : decode b_M_withoutSign 28 = .ok (.ldc 197, 2) := by decide +kernel
theorem d_M_withoutSign_30 : decode b_M_withoutSign 30 = .ok (.if_icmp .ne 7, 3) := by decide +kernel
theorem d_M_withoutSign_33 : decode b_M_withoutSign 33 = .ok (.iconst 1, 1) := by decide +kernel
theorem d_M_withoutSign_34 : decode b_M_withoutSign 34 = .ok (.goto 4, 3) := by decide +kernel
theorem d_M_withoutSign_37 : decode b_M_withoutSign 37 = .ok (.iconst 0, 1) := by decide +kernel
theorem d_M_withoutSign_38 : decode b_M_withoutSign 38 = .ok (.invokevirtual 182, 3) := by decide +kernel
theorem d_M_withoutSign_41 : decode b_M_withoutSign 41 = .ok (.iload_n 1, 1) := by decide +kernel
theorem d_M_withoutSign_42 : decode b_M_withoutSign 42 = .ok (.ldc 197, 2) := by decide +kernel
theorem d_M_withoutSign_44 : decode b_M_withoutSign 44 = .ok (.iand, 1) := by decide +kernel
theorem d_M_withoutSign_45 : decode b_M_withoutSign 45 = .ok (.ifCond .ne 7, 3) := by decide +kernel
theorem d_M_withoutSign_48 : decode b_M_withoutSign 48 = .ok (.iload_n 1, 1) := by decide +kernel
theorem d_M_withoutSign_49 : decode b_M_withoutSign 49 = .ok (.goto 8, 3) := by decide +kernel
theorem d_M_withoutSign_52 : decode b_M_withoutSign 52 = .ok (.iload_n 1, 1) := by decide +kernel
theorem d_M_withoutSign_53 : decode b_M_withoutSign 53 = .ok (.ineg, 1) := by decide +kernel
theorem d_M_withoutSign_54 : decode b_M_withoutSign 54 = .ok (.ldc 166, 2) := by decide +kernel
theorem d_M_withoutSign_56 : decode b_M_withoutSign 56 = .ok (.iand, 1) := by decide +kernel
theorem d_M_withoutSign_57 : decode b_M_withoutSign 57 = .ok (.ireturn, 1) := by decide +kernel
theorem d_M_changed_0 : decode b_M_changed 0 = .ok (.iload_n 1, 1) := by decide +kernel
theorem d_M_changed_1 : decode b_M_changed 1 = .ok (.tableswitch 140 3 12 #[55, 57, 63, 77, 88, 99, 111, 140, 123, 137], 55) := by decide +kernel
theorem d_M_changed_56 : decode b_M_changed 56 = .ok (.iconst 0, 1) := by decide +kernel
theorem d_M_changed_57 : decode b_M_changed 57 = .ok (.ireturn, 1) := by decide +kernel
theorem d_M_changed_58 : decode b_M_changed 58 = .ok (.aload_n 0, 1) := by decide +kernel
theorem d_M_changed_59 : decode b_M_changed 59 = .ok (.iload_n 2, 1) := by decide +kernel
theorem d_M_changed_60 : decode b_M_changed 60 = .ok (.invokevirtual 210, 3) := by decide +kernel
theorem d_M_changed_63 : decode b_M_changed 63 = .ok (.ireturn, 1) := by decide +kernel
theorem d_M_changed_64 : decode b_M_changed 64 = .ok (.aload_n 0, 1) := by decide +kernel
theorem d_M_changed_65 : decode b_M_changed 65 = .ok (.getfield 26, 3) := by decide +kernel
theorem d_M_changed_68 : decode b_M_changed 68 = .ok (.iload_n 2, 1) := by decide +kernel
theorem d_M_changed_69 : decode b_M_changed 69 = .ok (.iconst (-1), 1) := by decide +kernel
theorem d_M_changed_70 : decode b_M_changed 70 = .ok (.ixor, 1) := by decide +kernel
theorem d_M_changed_71 : decode b_M_changed 71 = .ok (.ldc 166, 2) := by decide +kernel
theorem d_M_changed_73 : decode b_M_changed 73 = .ok (.iand, 1) := by decide +kernel
theorem d_M_changed_74 : decode b_M_changed 74 = .ok (.invokevirtual 163, 3) := by decide +kernel
theorem d_M_changed_77 : decode b_M_changed 77 = .ok (.ireturn, 1) := by decide +kernel
theorem d_M_changed_78 : decode b_M_changed 78 = .ok (.aload_n 0, 1) := by decide +kernel
theorem d_M_changed_79 : decode b_M_changed 79 = .ok (.getfield 26, 3) := by decide +kernel
theorem d_M_changed_82 : decode b_M_changed 82 = .ok (.iload_n 2, 1) := by decide +kernel
theorem d_M_changed_83 : decode b_M_changed 83 = .ok (.iconst 1, 1) := by decide +kernel
theorem d_M_changed_84 : decode b_M_changed 84 = .ok (.iconst 0, 1) := by decide +kernel
theorem d_M_changed_85 : decode b_M_changed 85 = .ok (.invokevirtual 167, 3) := by decide +kernel
theorem d_M_changed_88 : decode b_M_changed 88 = .ok (.ireturn, 1) := by decide +kernel
theorem d_M_changed_89 : decode b_M_changed 89 = .ok (.aload_n 0, 1) := by decide +kernel
theorem d_M_changed_90 : decode b_M_changed 90 = .ok (.getfield 26, 3) := by decide +kernel
theorem d_M_changed_93 : decode b_M_changed 93 = .ok (.iload_n 2, 1) := by decide +kernel
theorem d_M_changed_94 : decode b_M_changed 94 = .ok (.iconst 2, 1) := by decide +kernel
theorem d_M_changed_95 : decode b_M_changed 95 = .ok (.iconst 0, 1) := by decide +kernel
theorem d_M_changed_96 : decode b_M_changed 96 = .ok (.invokevirtual 167, 3) := by decide +kernel
theorem d_M_changed_99 : decode b_M_changed 99 = .ok (.ireturn, 1) := by decide +kernel
theorem d_M_changed_100 : decode b_M_changed 100 = .ok (.aload_n 0, 1) := by decide +kernel
theorem d_M_changed_101 : decode b_M_changed 101 = .ok (.getfield 26, 3) := by decide +kernel
theorem d_M_changed_104 : decode b_M_changed 104 = .ok (.iload_n 2, 1) := by decide +kernel
theorem d_M_changed_105 : decode b_M_changed 105 = .ok (.ldc 166, 2) := by decide +kernel
theorem d_M_changed_107 : decode b_M_changed 107 = .ok (.iconst 0, 1) := by decide +kernel
theorem d_M_changed_108 : decode b_M_changed 108 = .ok (.invokevirtual 167, 3) := by decide +kernel
theorem d_M_changed_111 : decode b_M_changed 111 = .ok (.ireturn, 1) := by decide +kernel
theorem d_M_changed_112 : decode b_M_changed 112 = .ok (.aload_n 0, 1) := by decide +kernel
theorem d_M_changed_113 : decode b_M_changed 113 = .ok (.getfield 26, 3) := by decide +kernel
theorem d_M_changed_116 : decode b_M_changed 116 = .ok (.iload_n 2, 1) := by decide +kernel
theorem d_M_changed_117 : decode b_M_changed 117 = .ok (.ldc 213, 2) := by decide +kernel
theorem d_M_changed_119 : decode b_M_changed 119 = .ok (.iconst 0, 1) := by decide +kernel
theorem d_M_changed_120 : decode b_M_changed 120 = .ok (.invokevirtual 167, 3) := by decide +kernel
theorem d_M_changed_123 : decode b_M_changed 123 = .ok (.ireturn, 1) := by decide +kernel
theorem d_M_changed_124 : decode b_M_changed 124 = .ok (.iload_n 2, 1) := by decide +kernel
theorem d_M_changed_125 : decode b_M_changed 125 = .ok (.bipush 8, 2) := by decide +kernel
theorem d_M_changed_127 : decode b_M_changed 127 = .ok (.ishr, 1) := by decide +kernel
theorem d_M_changed_128 : decode b_M_changed 128 = .ok (.iload_n 2, 1) := by decide +kernel
theorem d_M_changed_129 : decode b_M_changed 129 = .ok (.sipush 255, 3) := by decide +kernel
theorem d_M_changed_132 : decode b_M_changed 132 = .ok (.iand, 1) := by decide +kernel
theorem d_M_changed_133 : decode b_M_changed 133 = .ok (.bipush 8, 2) := by decide +kernel
theorem d_M_changed_135 : decode b_M_changed 135 = .ok (.ishl, 1) := by decide +kernel
theorem d_M_changed_136 : decode b_M_changed 136 = .ok (.ior, 1) := by decide +kernel
theorem d_M_changed_137 : decode b_M_changed 137 = .ok (.ireturn, 1) := by decide +kernel
theorem d_M_changed_138 : decode b_M_changed 138 = .ok (.ldc 166, 2) := by decide +kernel
theorem d_M_changed_140 : decode b_M_changed 140 = .ok (.ireturn, 1) := by decide +kernel
theorem d_M_changed_141 : decode b_M_changed 141 = .ok (.aload_n 0, 1) := by decide +kernel
theorem d_M_changed_142 : decode b_M_changed 142 = .ok (.iload_n 2, 1) := by decide +kernel
theorem d_M_changed_143 : decode b_M_changed 143 = .ok (.invokevirtual 214, 3) := by decide +kernel
theorem d_M_changed_146 : decode b_M_changed 146 = .ok (.ireturn, 1) := by decide +kernel
theorem d_M_runOnOneOperand_0 : decode b_M_runOnOneOperand 0 = .ok (.iload_n 1, 1) := by decide +kernel
theorem d_M_runOnOneOperand_1 : decode b_M_runOnOneOperand 1 = .ok (.bipush 6, 2) := by decide +kernel
theorem d_M_runOnOneOperand_3 : decode b_M_runOnOneOperand 3 = .ok (.ishr, 1) := by decide +kernel
theorem d_M_runOnOneOperand_4 : decode b_M_runOnOneOperand 4 = .ok (.bipush 15, 2) := by decide +kernel
theorem d_M_runOnOneOperand_6 : decode b_M_runOnOneOperand 6 = .ok (.iand, 1) := by decide +kernel
theorem d_M_runOnOneOperand_7 : decode b_M_runOnOneOperand 7 = .ok (.istore_n 2, 1) := by decide +kernel
theorem d_M_runOnOneOperand_8 : decode b_M_runOnOneOperand 8 = .ok (.aload_n 0, 1) := by decide +kernel
theorem d_M_runOnOneOperand_9 : decode b_M_runOnOneOperand 9 = .ok (.iload_n 1, 1) := by decide +kernel
theorem d_M_runOnOneOperand_10 : decode b_M_runOnOneOperand 10 = .ok (.iconst 2, 1) := by decide +kernel
theorem d_M_runOnOneOperand_11 : decode b_M_runOnOneOperand 11 = .ok (.invokevirtual 83, 3) := by decide +kernel
theorem d_M_runOnOneOperand_14 : decode b_M_runOnOneOperand 14 = .ok (.istore_n 3, 1) := by decide +kernel
theorem d_M_runOnOneOperand_15 : decode b_M_runOnOneOperand 15 = .ok (.iload_n 2, 1) := by decide +kernel
theorem d_M_runOnOneOperand_16 : decode b_M_runOnOneOperand 16 = .ok (.lookupswitch 70 #[(0, 36), (1, 44), (10, 52)], 36) := by decide +kernel
theorem d_M_runOnOneOperand_52 : decode b_M_runOnOneOperand 52 = .ok (.aload_n 0, 1) := by decide +kernel
theorem d_M_runOnOneOperand_53 : decode b_M_runOnOneOperand 53 = .ok (.iload_n 3, 1) := by decide +kernel
theorem d_M_runOnOneOperand_54 : decode b_M_runOnOneOperand 54 = .ok (.invokevirtual 34, 3) := by decide +kernel
theorem d_M_runOnOneOperand_57 : decode b_M_runOnOneOperand 57 = .ok (.goto 50, 3) := by decide +kernel
theorem d_M_runOnOneOperand_60 : decode b_M_runOnOneOperand 60 = .ok (.aload_n 0, 1) := by decide +kernel
theorem d_M_runOnOneOperand_61 : decode b_M_runOnOneOperand 61 = .ok (.iload_n 3, 1) := by decide +kernel
theorem d_M_runOnOneOperand_62 : decode b_M_runOnOneOperand 62 = .ok (.invokevirtual 116, 3) := by decide +kernel
theorem d_M_runOnOneOperand_65 : decode b_M_runOnOneOperand 65 = .ok (.goto 42, 3) := by decide +kernel
theorem d_M_runOnOneOperand_68 : decode b_M_runOnOneOperand 68 = .ok (.aload_n 0, 1) := by decide +kernel
theorem d_M_runOnOneOperand_69 : decode b_M_runOnOneOperand 69 = .ok (.bipush 11, 2) := by decide +kernel
theorem d_M_runOnOneOperand_71 : decode b_M_runOnOneOperand 71 = .ok (.aload_n 0, 1) := by decide +kernel
theorem d_M_runOnOneOperand_72 : decode b_M_runOnOneOperand 72 = .ok (.getfield 71, 3) := by decide +kernel
theorem d_M_runOnOneOperand_75 : decode b_M_runOnOneOperand 75 = .ok (.invokevirtual 90, 3) := by decide +kernel
theorem d_M_runOnOneOperand_78 : decode b_M_runOnOneOperand 78 = .ok (.aload_n 0, 1) := by decide +kernel
theorem d_M_runOnOneOperand_79 : decode b_M_runOnOneOperand 79 = .ok (.iload_n 3, 1) := by decide +kernel
theorem d_M_runOnOneOperand_80 : decode b_M_runOnOneOperand 80 = .ok (.invokevirtual 116, 3) := by decide +kernel
theorem d_M_runOnOneOperand_83 : decode b_M_runOnOneOperand 83 = .ok (.goto 24, 3) := by decide +kernel
theorem d_M_runOnOneOperand_86 : decode b_M_runOnOneOperand 86 = .ok (.aload_n 0, 1) := by decide +kernel
theorem d_M_runOnOneOperand_87 : decode b_M_runOnOneOperand 87 = .ok (.getfield 12, 3) := by decide +kernel
theorem d_M_runOnOneOperand_90 : decode b_M_runOnOneOperand 90 = .ok (.iload_n 3, 1) := by decide +kernel
theorem d_M_runOnOneOperand_91 : decode b_M_runOnOneOperand 91 = .ok (.aload_n 0, 1) := by decide +kernel
theorem d_M_runOnOneOperand_92 : decode b_M_runOnOneOperand 92 = .ok (.iload_n 2, 1) := by decide +kernel
theorem d_M_runOnOneOperand_93 : decode b_M_runOnOneOperand 93 = .ok (.aload_n 0, 1) := by decide +kernel
theorem d_M_runOnOneOperand_94 : decode b_M_runOnOneOperand 94 = .ok (.getfield 12, 3) := by decide +kernel
theorem d_M_runOnOneOperand_97 : decode b_M_runOnOneOperand 97 = .ok (.iload_n 3, 1) := by decide +kernel
theorem d_M_runOnOneOperand_98 : decode b_M_runOnOneOperand 98 = .ok (.invokevirtual 60, 3) := by decide +kernel
theorem d_M_runOnOneOperand_101 : decode b_M_runOnOneOperand 101 = .ok (.invokevirtual 207, 3) := by decide +kernel
theorem d_M_runOnOneOperand_104 : decode b_M_runOnOneOperand 104 = .ok (.invokevirtual 56, 3) := by decide +kernel
theorem d_M_runOnOneOperand_107 : decode b_M_runOnOneOperand 107 = .ok (.iconst 0, 1) := by decide +kernel
theorem d_M_runOnOneOperand_108 : decode b_M_runOnOneOperand 108 = .ok (.ireturn, 1) := by decide +kernel
theorem d_M_runImmediate_0 : decode b_M_runImmediate 0 = .ok (.iload_n 1, 1) := by decide +kernel
theorem d_M_runImmediate_1 : decode b_M_runImmediate 1 = .ok (.tableswitch 113 0 3 #[31, 47, 69, 91], 31) := by decide +kernel
theorem d_M_runImmediate_32 : decode b_M_runImmediate 32 = .ok (.aload_n 0, 1) := by decide +kernel
theorem d_M_runImmediate_33 : decode b_M_runImmediate 33 = .ok (.iload_n 2, 1) := by decide +kernel
theorem d_M_runImmediate_34 : decode b_M_runImmediate 34 = .ok (.aload_n 0, 1) := by decide +kernel
theorem d_M_runImmediate_35 : decode b_M_runImmediate 35 = .ok (.getfield 26, 3) := by decide +kernel
theorem d_M_runImmediate_38 : decode b_M_runImmediate 38 = .ok (.iload_n 3, 1) := by decide +kernel
theorem d_M_runImmediate_39 : decode b_M_runImmediate 39 = .ok (.invokevirtual 163, 3) := by decide +kernel
theorem d_M_runImmediate_42 : decode b_M_runImmediate 42 = .ok (.invokevirtual 90, 3) := by decide +kernel
theorem d_M_runImmediate_45 : decode b_M_runImmediate 45 = .ok (.goto 82, 3) := by decide +kernel
theorem d_M_runImmediate_48 : decode b_M_runImmediate 48 = .ok (.aload_n 0, 1) := by decide +kernel
theorem d_M_runImmediate_49 : decode b_M_runImmediate 49 = .ok (.iload_n 2, 1) := by decide +kernel
theorem d_M_runImmediate_50 : decode b_M_runImmediate 50 = .ok (.aload_n 0, 1) := by decide +kernel
theorem d_M_runImmediate_51 : decode b_M_runImmediate 51 = .ok (.getfield 26, 3) := by decide +kernel
theorem d_M_runImmediate_54 : decode b_M_runImmediate 54 = .ok (.aload_n 0, 1) := by decide +kernel
theorem d_M_runImmediate_55 : decode b_M_runImmediate 55 = .ok (.iload_n 2, 1) := by decide +kernel
theorem d_M_runImmediate_56 : decode b_M_runImmediate 56 = .ok (.invokevirtual 77, 3) := by decide +kernel
theorem d_M_runImmediate_59 : decode b_M_runImmediate 59 = .ok (.iload_n 3, 1) := by decide +kernel
theorem d_M_runImmediate_60 : decode b_M_runImmediate 60 = .ok (.iconst 0, 1) := by decide +kernel
theorem d_M_runImmediate_61 : decode b_M_runImmediate 61 = .ok (.invokevirtual 167, 3) := by decide +kernel
theorem d_M_runImmediate_64 : decode b_M_runImmediate 64 = .ok (.invokevirtual 90, 3) := by decide +kernel
theorem d_M_runImmediate_67 : decode b_M_runImmediate 67 = .ok (.goto 60, 3) := by decide +kernel
theorem d_M_runImmediate_70 : decode b_M_runImmediate 70 = .ok (.aload_n 0, 1) := by decide +kernel
theorem d_M_runImmediate_71 : decode b_M_runImmediate 71 = .ok (.iload_n 2, 1) := by decide +kernel
theorem d_M_runImmediate_72 : decode b_M_runImmediate 72 = .ok (.aload_n 0, 1) := by decide +kernel
theorem d_M_runImmediate_73 : decode b_M_runImmediate 73 = .ok (.getfield 26, 3) := by decide +kernel
theorem d_M_runImmediate_76 : decode b_M_runImmediate 76 = .ok (.aload_n 0, 1) := by decide +kernel
theorem d_M_runImmediate_77 : decode b_M_runImmediate 77 = .ok (.iload_n 2, 1) := by decide +kernel
theorem d_M_runImmediate_78 : decode b_M_runImmediate 78 = .ok (.invokevirtual 77, 3) := by decide +kernel
theorem d_M_runImmediate_81 : decode b_M_runImmediate 81 = .ok (.iload_n 3, 1) := by decide +kernel
theorem d_M_runImmediate_82 : decode b_M_runImmediate 82 = .ok (.iand, 1) := by decide +kernel
theorem d_M_runImmediate_83 : decode b_M_runImmediate 83 = .ok (.invokevirtual 163, 3) := by decide +kernel
theorem d_M_runImmediate_86 : decode b_M_runImmediate 86 = .ok (.invokevirtual 90, 3) := by decide +kernel
theorem d_M_runImmediate_89 : decode b_M_runImmediate 89 = .ok (.goto 38, 3) := by decide +kernel
theorem d_M_runImmediate_92 : decode b_M_runImmediate 92 = .ok (.aload_n 0, 1) := by decide +kernel
theorem d_M_runImmediate_93 : decode b_M_runImmediate 93 = .ok (.iload_n 2, 1) := by decide +kernel
theorem d_M_runImmediate_94 : decode b_M_runImmediate 94 = .ok (.aload_n 0, 1) := by decide +kernel
theorem d_M_runImmediate_95 : decode b_M_runImmediate 95 = .ok (.getfield 26, 3) := by decide +kernel
theorem d_M_runImmediate_98 : decode b_M_runImmediate 98 = .ok (.aload_n 0, 1) := by decide +kernel
theorem d_M_runImmediate_99 : decode b_M_runImmediate 99 = .ok (.iload_n 2, 1) := by decide +kernel
theorem d_M_runImmediate_100 : decode b_M_runImmediate 100 = .ok (.invokevirtual 77, 3) := by decide +kernel
theorem d_M_runImmediate_103 : decode b_M_runImmediate 103 = .ok (.iload_n 3, 1) := by decide +kernel
theorem d_M_runImmediate_104 : decode b_M_runImmediate 104 = .ok (.ior, 1) := by decide +kernel
theorem d_M_runImmediate_105 : decode b_M_runImmediate 105 = .ok (.invokevirtual 163, 3) := by decide +kernel
theorem d_M_runImmediate_108 : decode b_M_runImmediate 108 = .ok (.invokevirtual 90, 3) := by decide +kernel
theorem d_M_runImmediate_111 : decode b_M_runImmediate 111 = .ok (.goto 16, 3) := by decide +kernel
theorem d_M_runImmediate_114 : decode b_M_runImmediate 114 = .ok (.aload_n 0, 1) := by decide +kernel
theorem d_M_runImmediate_115 : decode b_M_runImmediate 115 = .ok (.getfield 26, 3) := by decide +kernel
theorem d_M_runImmediate_118 : decode b_M_runImmediate 118 = .ok (.aload_n 0, 1) := by decide +kernel
theorem d_M_runImmediate_119 : decode b_M_runImmediate 119 = .ok (.iload_n 2, 1) := by decide +kernel
theorem d_M_runImmediate_120 : decode b_M_runImmediate 120 = .ok (.invokevirtual 77, 3) := by decide +kernel
theorem d_M_runImmediate_123 : decode b_M_runImmediate 123 = .ok (.iload_n 3, 1) := by decide +kernel
theorem d_M_runImmediate_124 : decode b_M_runImmediate 124 = .ok (.invokevirtual 149, 3) := by decide +kernel
theorem d_M_runImmediate_127 : decode b_M_runImmediate 127 = .ok (.return_, 1) := by decide +kernel
theorem d_St_setBits_0 : decode b_St_setBits 0 = .ok (.aload_n 0, 1) := by decide +kernel
theorem d_St_setBits_1 : decode b_St_setBits 1 = .ok (.iload_n 1, 1) := by decide +kernel
theorem d_St_setBits_2 : decode b_St_setBits 2 = .ok (.putfield 9, 3) := by decide +kernel
theorem d_St_setBits_5 : decode b_St_setBits 5 = .ok (.return_, 1) := by decide +kernel
theorem d_M_switchBack_0 : decode b_M_switchBack 0 = .ok (.aload_n 0, 1) := by decide +kernel
theorem d_M_switchBack_1 : decode b_M_switchBack 1 = .ok (.getfield 26, 3) := by decide +kernel
theorem d_M_switchBack_4 : decode b_M_switchBack 4 = .ok (.aload_n 0, 1) := by decide +kernel
theorem d_M_switchBack_5 : decode b_M_switchBack 5 = .ok (.bipush 15, 2) := by decide +kernel
theorem d_M_switchBack_7 : decode b_M_switchBack 7 = .ok (.invokevirtual 77, 3) := by decide +kernel
theorem d_M_switchBack_10 : decode b_M_switchBack 10 = .ok (.invokevirtual 223, 3) := by decide +kernel
theorem d_M_switchBack_13 : decode b_M_switchBack 13 = .ok (.aload_n 0, 1) := by decide +kernel
theorem d_M_switchBack_14 : decode b_M_switchBack 14 = .ok (.aload_n 0, 1) := by decide +kernel
theorem d_M_switchBack_15 : decode b_M_switchBack 15 = .ok (.bipush 14, 2) := by decide +kernel
theorem d_M_switchBack_17 : decode b_M_switchBack 17 = .ok (.invokevirtual 77, 3) := by decide +kernel
theorem d_M_switchBack_20 : decode b_M_switchBack 20 = .ok (.invokevirtual 116, 3) := by decide +kernel
theorem d_M_switchBack_23 : decode b_M_switchBack 23 = .ok (.aload_n 0, 1) := by decide +kernel
theorem d_M_switchBack_24 : decode b_M_switchBack 24 = .ok (.aload_n 0, 1) := by decide +kernel
theorem d_M_switchBack_25 : decode b_M_switchBack 25 = .ok (.bipush 13, 2) := by decide +kernel
theorem d_M_switchBack_27 : decode b_M_switchBack 27 = .ok (.invokevirtual 77, 3) := by decide +kernel
theorem d_M_switchBack_30 : decode b_M_switchBack 30 = .ok (.invokevirtual 122, 3) := by decide +kernel
theorem d_M_switchBack_33 : decode b_M_switchBack 33 = .ok (.return_, 1) := by decide +kernel
theorem d_M_runImmediateOrControl_0 : decode b_M_runImmediateOrControl 0 = .ok (.iload_n 1, 1) := by decide +kernel
theorem d_M_runImmediateOrControl_1 : decode b_M_runImmediateOrControl 1 = .ok (.iconst 5, 1) := by decide +kernel
theorem d_M_runImmediateOrControl_2 : decode b_M_runImmediateOrControl 2 = .ok (.ishr, 1) := by decide +kernel
theorem d_M_runImmediateOrControl_3 : decode b_M_runImmediateOrControl 3 = .ok (.bipush 15, 2) := by decide +kernel
theorem d_M_runImmediateOrControl_5 : decode b_M_runImmediateOrControl 5 = .ok (.iand, 1) := by decide +kernel
theorem d_M_runImmediateOrControl_6 : decode b_M_runImmediateOrControl 6 = .ok (.istore_n 2, 1) := by decide +kernel
theorem d_M_runImmediateOrControl_7 : decode b_M_runImmediateOrControl 7 = .ok (.iload_n 1, 1) := by decide +kernel
theorem d_M_runImmediateOrControl_8 : decode b_M_runImmediateOrControl 8 = .ok (.bipush 15, 2) := by decide +kernel
theorem d_M_runImmediateOrControl_10 : decode b_M_runImmediateOrControl 10 = .ok (.iand, 1) := by decide +kernel
theorem d_M_runImmediateOrControl_11 : decode b_M_runImmediateOrControl 11 = .ok (.istore_n 3, 1) := by decide +kernel
theorem d_M_runImmediateOrControl_12 : decode b_M_runImmediateOrControl 12 = .ok (.iload_n 2, 1) := by decide +kernel
theorem d_M_runImmediateOrControl_13 : decode b_M_runImmediateOrControl 13 = .ok (.iconst 4, 1) := by decide +kernel
theorem d_M_runImmediateOrControl_14 : decode b_M_runImmediateOrControl 14 = .ok (.if_icmp .gt 15, 3) := by decide +kernel
theorem d_M_runImmediateOrControl_17 : decode b_M_runImmediateOrControl 17 = .ok (.aload_n 0, 1) := by decide +kernel
theorem d_M_runImmediateOrControl_18 : decode b_M_runImmediateOrControl 18 = .ok (.iload_n 2, 1) := by decide +kernel
theorem d_M_runImmediateOrControl_19 : decode b_M_runImmediateOrControl 19 = .ok (.iload_n 3, 1) := by decide +kernel
theorem d_M_runImmediateOrControl_20 : decode b_M_runImmediateOrControl 20 = .ok (.aload_n 0, 1) := by decide +kernel
theorem d_M_runImmediateOrControl_21 : decode b_M_runImmediateOrControl 21 = .ok (.invokevirtual 74, 3) := by decide +kernel
theorem d_M_runImmediateOrControl_24 : decode b_M_runImmediateOrControl 24 = .ok (.invokevirtual 217, 3) := by decide +kernel
theorem d_M_runImmediateOrControl_27 : decode b_M_runImmediateOrControl 27 = .ok (.iconst 0, 1) := by decide +kernel
theorem d_M_runImmediateOrControl_28 : decode b_M_runImmediateOrControl 28 = .ok (.ireturn, 1) := by decide +kernel
theorem d_M_runImmediateOrControl_29 : decode b_M_runImmediateOrControl 29 = .ok (.iload_n 2, 1) := by decide +kernel
theorem d_M_runImmediateOrControl_30 : decode b_M_runImmediateOrControl 30 = .ok (.tableswitch 119 5 12 #[46, 57, 71, 81, 94, 96, 103, 113], 46) := by decide +kernel
theorem d_M_runImmediateOrControl_76 : decode b_M_runImmediateOrControl 76 = .ok (.aload_n 0, 1) := by decide +kernel
theorem d_M_runImmediateOrControl_77 : decode b_M_runImmediateOrControl 77 = .ok (.iload_n 3, 1) := by decide +kernel
theorem d_M_runImmediateOrControl_78 : decode b_M_runImmediateOrControl 78 = .ok (.aload_n 0, 1) := by decide +kernel
theorem d_M_runImmediateOrControl_79 : decode b_M_runImmediateOrControl 79 = .ok (.getfield 107, 3) := by decide +kernel
theorem d_M_runImmediateOrControl_82 : decode b_M_runImmediateOrControl 82 = .ok (.invokevirtual 90, 3) := by decide +kernel
theorem d_M_runImmediateOrControl_85 : decode b_M_runImmediateOrControl 85 = .ok (.iconst 0, 1) := by decide +kernel
theorem d_M_runImmediateOrControl_86 : decode b_M_runImmediateOrControl 86 = .ok (.ireturn, 1) := by decide +kernel
theorem d_M_runImmediateOrControl_87 : decode b_M_runImmediateOrControl 87 = .ok (.aload_n 0, 1) := by decide +kernel
theorem d_M_runImmediateOrControl_88 : decode b_M_runImmediateOrControl 88 = .ok (.iload_n 3, 1) := by decide +kernel
theorem d_M_runImmediateOrControl_89 : decode b_M_runImmediateOrControl 89 = .ok (.aload_n 0, 1) := by decide +kernel
theorem d_M_runImmediateOrControl_90 : decode b_M_runImmediateOrControl 90 = .ok (.getfield 26, 3) := by decide +kernel
theorem d_M_runImmediateOrControl_93 : decode b_M_runImmediateOrControl 93 = .ok (.invokevirtual 110, 3) := by decide +kernel
theorem d_M_runImmediateOrControl_96 : decode b_M_runImmediateOrControl 96 = .ok (.invokevirtual 90, 3) := by decide +kernel
theorem d_M_runImmediateOrControl_99 : decode b_M_runImmediateOrControl 99 = .ok (.iconst 0, 1) := by decide +kernel
theorem d_M_runImmediateOrControl_100 : decode b_M_runImmediateOrControl 100 = .ok (.ireturn, 1) := by decide +kernel
theorem d_M_runImmediateOrControl_101 : decode b_M_runImmediateOrControl 101 = .ok (.aload_n 0, 1) := by decide +kernel
theorem d_M_runImmediateOrControl_102 : decode b_M_runImmediateOrControl 102 = .ok (.aload_n 0, 1) := by decide +kernel
theorem d_M_runImmediateOrControl_103 : decode b_M_runImmediateOrControl 103 = .ok (.invokevirtual 74, 3) := by decide +kernel
theorem d_M_runImmediateOrControl_106 : decode b_M_runImmediateOrControl 106 = .ok (.invokevirtual 122, 3) := by decide +kernel
theorem d_M_runImmediateOrControl_109 : decode b_M_runImmediateOrControl 109 = .ok (.iconst 0, 1) := by decide +kernel
theorem d_M_runImmediateOrControl_110 : decode b_M_runImmediateOrControl 110 = .ok (.ireturn, 1) := by decide +kernel
theorem d_M_runImmediateOrControl_111 : decode b_M_runImmediateOrControl 111 = .ok (.aload_n 0, 1) := by decide +kernel
theorem d_M_runImmediateOrControl_112 : decode b_M_runImmediateOrControl 112 = .ok (.getfield 26, 3) := by decide +kernel
theorem d_M_runImmediateOrControl_115 : decode b_M_runImmediateOrControl 115 = .ok (.aload_n 0, 1) := by decide +kernel
theorem d_M_runImmediateOrControl_116 : decode b_M_runImmediateOrControl 116 = .ok (.invokevirtual 74, 3) := by decide +kernel
theorem d_M_runImmediateOrControl_119 : decode b_M_runImmediateOrControl 119 = .ok (.invokevirtual 38, 3) := by decide +kernel
theorem d_M_runImmediateOrControl_122 : decode b_M_runImmediateOrControl 122 = .ok (.iconst 0, 1) := by decide +kernel
theorem d_M_runImmediateOrControl_123 : decode b_M_runImmediateOrControl 123 = .ok (.ireturn, 1) := by decide +kernel
theorem d_M_runImmediateOrControl_124 : decode b_M_runImmediateOrControl 124 = .ok (.iconst 2, 1) := by decide +kernel
theorem d_M_runImmediateOrControl_125 : decode b_M_runImmediateOrControl 125 = .ok (.ireturn, 1) := by decide +kernel
theorem d_M_runImmediateOrControl_126 : decode b_M_runImmediateOrControl 126 = .ok (.aload_n 0, 1) := by decide +kernel
theorem d_M_runImmediateOrControl_127 : decode b_M_runImmediateOrControl 127 = .ok (.iconst 1, 1) := by decide +kernel
theorem d_M_runImmediateOrControl_128 : decode b_M_runImmediateOrControl 128 = .ok (.putfield 41, 3) := by decide +kernel
theorem d_M_runImmediateOrControl_131 : decode b_M_runImmediateOrControl 131 = .ok (.iconst 1, 1) := by decide +kernel
theorem d_M_runImmediateOrControl_132 : decode b_M_runImmediateOrControl 132 = .ok (.ireturn, 1) := by decide +kernel
theorem d_M_runImmediateOrControl_133 : decode b_M_runImmediateOrControl 133 = .ok (.aload_n 0, 1) := by decide +kernel
theorem d_M_runImmediateOrControl_134 : decode b_M_runImmediateOrControl 134 = .ok (.getfield 26, 3) := by decide +kernel
theorem d_M_runImmediateOrControl_137 : decode b_M_runImmediateOrControl 137 = .ok (.iconst 0, 1) := by decide +kernel
theorem d_M_runImmediateOrControl_138 : decode b_M_runImmediateOrControl 138 = .ok (.invokevirtual 38, 3) := by decide +kernel
theorem d_M_runImmediateOrControl_141 : decode b_M_runImmediateOrControl 141 = .ok (.iconst 0, 1) := by decide +kernel
theorem d_M_runImmediateOrControl_142 : decode b_M_runImmediateOrControl 142 = .ok (.ireturn, 1) := by decide +kernel
theorem d_M_runImmediateOrControl_143 : decode b_M_runImmediateOrControl 143 = .ok (.aload_n 0, 1) := by decide +kernel
theorem d_M_runImmediateOrControl_144 : decode b_M_runImmediateOrControl 144 = .ok (.invokevirtual 220, 3) := by decide +kernel
theorem d_M_runImmediateOrControl_147 : decode b_M_runImmediateOrControl 147 = .ok (.iconst 0, 1) := by decide +kernel
theorem d_M_runImmediateOrControl_148 : decode b_M_runImmediateOrControl 148 = .ok (.ireturn, 1) := by decide +kernel
theorem d_M_runImmediateOrControl_149 : decode b_M_runImmediateOrControl 149 = .ok (.iconst 0, 1) := by decide +kernel
theorem d_M_runImmediateOrControl_150 : decode b_M_runImmediateOrControl 150 = .ok (.ireturn, 1) := by decide +kernel
theorem d_M_run_0 : decode b_M_run 0 = .ok (.iload_n 1, 1) := by decide +kernel
theorem d_M_run_1 : decode b_M_run 1 = .ok (.sipush 16384, 3) := by decide +kernel
theorem d_M_run_4 : decode b_M_run 4 = .ok (.if_icmp .lt 9, 3) := by decide +kernel
theorem d_M_run_7 : decode b_M_run 7 = .ok (.aload_n 0, 1) := by decide +kernel
theorem d_M_run_8 : decode b_M_run 8 = .ok (.iload_n 1, 1) := by decide +kernel
theorem d_M_run_9 : decode b_M_run 9 = .ok (.invokevirtual 125, 3) := by decide +kernel
theorem d_M_run_12 : decode b_M_run 12 = .ok (.ireturn, 1) := by decide +kernel
theorem d_M_run_13 : decode b_M_run 13 = .ok (.iload_n 1, 1) := by decide +kernel
theorem d_M_run_14 : decode b_M_run 14 = .ok (.sipush 8192, 3) := by decide +kernel
theorem d_M_run_17 : decode b_M_run 17 = .ok (.if_icmp .lt 9, 3) := by decide +kernel
theorem d_M_run_20 : decode b_M_run 20 = .ok (.aload_n 0, 1) := by decide +kernel
theorem d_M_run_21 : decode b_M_run 21 = .ok (.iload_n 1, 1) := by decide +kernel
theorem d_M_run_22 : decode b_M_run 22 = .ok (.invokevirtual 128, 3) := by decide +kernel
theorem d_M_run_25 : decode b_M_run 25 = .ok (.ireturn, 1) := by decide +kernel
theorem d_M_run_26 : decode b_M_run 26 = .ok (.iload_n 1, 1) := by decide +kernel
theorem d_M_run_27 : decode b_M_run 27 = .ok (.sipush 4096, 3) := by decide +kernel
theorem d_M_run_30 : decode b_M_run 30 = .ok (.if_icmp .lt 24, 3) := by decide +kernel
theorem d_M_run_33 : decode b_M_run 33 = .ok (.iload_n 1, 1) := by decide +kernel
theorem d_M_run_34 : decode b_M_run 34 = .ok (.sipush 7424, 3) := by decide +kernel
theorem d_M_run_37 : decode b_M_run 37 = .ok (.if_icmp .ge 11, 3) := by decide +kernel
theorem d_M_run_40 : decode b_M_run 40 = .ok (.aload_n 0, 1) := by decide +kernel
theorem d_M_run_41 : decode b_M_run 41 = .ok (.iload_n 1, 1) := by decide +kernel
theorem d_M_run_42 : decode b_M_run 42 = .ok (.invokevirtual 131, 3) := by decide +kernel
theorem d_M_run_45 : decode b_M_run 45 = .ok (.goto 8, 3) := by decide +kernel
theorem d_M_run_48 : decode b_M_run 48 = .ok (.aload_n 0, 1) := by decide +kernel
theorem d_M_run_49 : decode b_M_run 49 = .ok (.iload_n 1, 1) := by decide +kernel
theorem d_M_run_50 : decode b_M_run 50 = .ok (.invokevirtual 134, 3) := by decide +kernel
theorem d_M_run_53 : decode b_M_run 53 = .ok (.ireturn, 1) := by decide +kernel
theorem d_M_run_54 : decode b_M_run 54 = .ok (.iload_n 1, 1) := by decide +kernel
theorem d_M_run_55 : decode b_M_run 55 = .ok (.sipush 2048, 3) := by decide +kernel
theorem d_M_run_58 : decode b_M_run 58 = .ok (.if_icmp .lt 20, 3) := by decide +kernel
theorem d_M_run_61 : decode b_M_run 61 = .ok (.iload_n 1, 1) := by decide +kernel
theorem d_M_run_62 : decode b_M_run 62 = .ok (.sipush 3072, 3) := by decide +kernel
theorem d_M_run_65 : decode b_M_run 65 = .ok (.if_icmp .ge 11, 3) := by decide +kernel
theorem d_M_run_68 : decode b_M_run 68 = .ok (.aload_n 0, 1) := by decide +kernel
theorem d_M_run_69 : decode b_M_run 69 = .ok (.iload_n 1, 1) := by decide +kernel
theorem d_M_run_70 : decode b_M_run 70 = .ok (.invokevirtual 137, 3) := by decide +kernel
theorem d_M_run_73 : decode b_M_run 73 = .ok (.goto 4, 3) := by decide +kernel
theorem d_M_run_76 : decode b_M_run 76 = .ok (.iconst 2, 1) := by decide +kernel
theorem d_M_run_77 : decode b_M_run 77 = .ok (.ireturn, 1) := by decide +kernel
theorem d_M_run_78 : decode b_M_run 78 = .ok (.iload_n 1, 1) := by decide +kernel
theorem d_M_run_79 : decode b_M_run 79 = .ok (.invokestatic 80, 3) := by decide +kernel
theorem d_M_run_82 : decode b_M_run 82 = .ok (.ifCond .eq 5, 3) := by decide +kernel
theorem d_M_run_85 : decode b_M_run 85 = .ok (.iconst 3, 1) := by decide +kernel
theorem d_M_run_86 : decode b_M_run 86 = .ok (.ireturn, 1) := by decide +kernel
theorem d_M_run_87 : decode b_M_run 87 = .ok (.iload_n 1, 1) := by decide +kernel
theorem d_M_run_88 : decode b_M_run 88 = .ok (.sipush 1024, 3) := by decide +kernel
theorem d_M_run_91 : decode b_M_run 91 = .ok (.if_icmp .lt 20, 3) := by decide +kernel
theorem d_M_run_94 : decode b_M_run 94 = .ok (.iload_n 1, 1) := by decide +kernel
theorem d_M_run_95 : decode b_M_run 95 = .ok (.sipush 1920, 3) := by decide +kernel
theorem d_M_run_98 : decode b_M_run 98 = .ok (.if_icmp .ge 11, 3) := by decide +kernel
theorem d_M_run_101 : decode b_M_run 101 = .ok (.aload_n 0, 1) := by decide +kernel
theorem d_M_run_102 : decode b_M_run 102 = .ok (.iload_n 1, 1) := by decide +kernel
theorem d_M_run_103 : decode b_M_run 103 = .ok (.invokevirtual 140, 3) := by decide +kernel
theorem d_M_run_106 : decode b_M_run 106 = .ok (.goto 4, 3) := by decide +kernel
theorem d_M_run_109 : decode b_M_run 109 = .ok (.iconst 2, 1) := by decide +kernel
theorem d_M_run_110 : decode b_M_run 110 = .ok (.ireturn, 1) := by decide +kernel
theorem d_M_run_111 : decode b_M_run 111 = .ok (.iload_n 1, 1) := by decide +kernel
theorem d_M_run_112 : decode b_M_run 112 = .ok (.sipush 512, 3) := by decide +kernel
theorem d_M_run_115 : decode b_M_run 115 = .ok (.if_icmp .lt 18, 3) := by decide +kernel
theorem d_M_run_118 : decode b_M_run 118 = .ok (.iload_n 1, 1) := by decide +kernel
theorem d_M_run_119 : decode b_M_run 119 = .ok (.bipush 16, 2) := by decide +kernel
theorem d_M_run_121 : decode b_M_run 121 = .ok (.iand, 1) := by decide +kernel
theorem d_M_run_122 : decode b_M_run 122 = .ok (.ifCond .ne 11, 3) := by decide +kernel
theorem d_M_run_125 : decode b_M_run 125 = .ok (.aload_n 0, 1) := by decide +kernel
theorem d_M_run_126 : decode b_M_run 126 = .ok (.iload_n 1, 1) := by decide +kernel
theorem d_M_run_127 : decode b_M_run 127 = .ok (.invokevirtual 143, 3) := by decide +kernel
theorem d_M_run_130 : decode b_M_run 130 = .ok (.goto 4, 3) := by decide +kernel
theorem d_M_run_133 : decode b_M_run 133 = .ok (.iconst 2, 1) := by decide +kernel
theorem d_M_run_134 : decode b_M_run 134 = .ok (.ireturn, 1) := by decide +kernel
theorem d_M_step_0 : decode b_M_step 0 = .ok (.aload_n 0, 1) := by decide +kernel
theorem d_M_step_1 : decode b_M_step 1 = .ok (.getfield 30, 3) := by decide +kernel
theorem d_M_step_4 : decode b_M_step 4 = .ok (.aload_n 0, 1) := by decide +kernel
theorem d_M_step_5 : decode b_M_step 5 = .ok (.getfield 26, 3) := by decide +kernel
theorem d_M_step_8 : decode b_M_step 8 = .ok (.invokevirtual 64, 3) := by decide +kernel
theorem d_M_step_11 : decode b_M_step 11 = .ok (.if_icmp .gt 9, 3) := by decide +kernel
theorem d_M_step_14 : decode b_M_step 14 = .ok (.aload_n 0, 1) := by decide +kernel
theorem d_M_step_15 : decode b_M_step 15 = .ok (.invokevirtual 68, 3) := by decide +kernel
theorem d_M_step_18 : decode b_M_step 18 = .ok (.iconst 0, 1) := by decide +kernel
theorem d_M_step_19 : decode b_M_step 19 = .ok (.ireturn, 1) := by decide +kernel
theorem d_M_step_20 : decode b_M_step 20 = .ok (.aload_n 0, 1) := by decide +kernel
theorem d_M_step_21 : decode b_M_step 21 = .ok (.getfield 41, 3) := by decide +kernel
theorem d_M_step_24 : decode b_M_step 24 = .ok (.ifCond .eq 5, 3) := by decide +kernel
theorem d_M_step_27 : decode b_M_step 27 = .ok (.iconst 1, 1) := by decide +kernel
theorem d_M_step_28 : decode b_M_step 28 = .ok (.ireturn, 1) := by decide +kernel
theorem d_M_step_29 : decode b_M_step 29 = .ok (.aload_n 0, 1) := by decide +kernel
theorem d_M_step_30 : decode b_M_step 30 = .ok (.getfield 71, 3) := by decide +kernel
theorem d_M_step_33 : decode b_M_step 33 = .ok (.istore_n 1, 1) := by decide +kernel
theorem d_M_step_34 : decode b_M_step 34 = .ok (.aload_n 0, 1) := by decide +kernel
theorem d_M_step_35 : decode b_M_step 35 = .ok (.invokevirtual 74, 3) := by decide +kernel
theorem d_M_step_38 : decode b_M_step 38 = .ok (.istore_n 2, 1) := by decide +kernel
theorem d_M_step_39 : decode b_M_step 39 = .ok (.iload_n 2, 1) := by decide +kernel
theorem d_M_step_40 : decode b_M_step 40 = .ok (.bipush 15, 2) := by decide +kernel
theorem d_M_step_42 : decode b_M_step 42 = .ok (.iand, 1) := by decide +kernel
theorem d_M_step_43 : decode b_M_step 43 = .ok (.istore_n 3, 1) := by decide +kernel
theorem d_M_step_44 : decode b_M_step 44 = .ok (.aload_n 0, 1) := by decide +kernel
theorem d_M_step_45 : decode b_M_step 45 = .ok (.iload_n 3, 1) := by decide +kernel
theorem d_M_step_46 : decode b_M_step 46 = .ok (.invokevirtual 77, 3) := by decide +kernel
theorem d_M_step_49 : decode b_M_step 49 = .ok (.istore 4, 2) := by decide +kernel
theorem d_M_step_51 : decode b_M_step 51 = .ok (.aload_n 0, 1) := by decide +kernel
theorem d_M_step_52 : decode b_M_step 52 = .ok (.iload_n 2, 1) := by decide +kernel
theorem d_M_step_53 : decode b_M_step 53 = .ok (.invokestatic 80, 3) := by decide +kernel
theorem d_M_step_56 : decode b_M_step 56 = .ok (.ifCond .eq 19, 3) := by decide +kernel
theorem d_M_step_59 : decode b_M_step 59 = .ok (.aload_n 0, 1) := by decide +kernel
theorem d_M_step_60 : decode b_M_step 60 = .ok (.getfield 12, 3) := by decide +kernel
theorem d_M_step_63 : decode b_M_step 63 = .ok (.aload_n 0, 1) := by decide +kernel
theorem d_M_step_64 : decode b_M_step 64 = .ok (.iload_n 2, 1) := by decide +kernel
theorem d_M_step_65 : decode b_M_step 65 = .ok (.iconst 2, 1) := by decide +kernel
theorem d_M_step_66 : decode b_M_step 66 = .ok (.invokevirtual 83, 3) := by decide +kernel
theorem d_M_step_69 : decode b_M_step 69 = .ok (.invokevirtual 60, 3) := by decide +kernel
theorem d_M_step_72 : decode b_M_step 72 = .ok (.goto 4, 3) := by decide +kernel
theorem d_M_step_75 : decode b_M_step 75 = .ok (.iload_n 2, 1) := by decide +kernel
theorem d_M_step_76 : decode b_M_step 76 = .ok (.invokevirtual 87, 3) := by decide +kernel
theorem d_M_step_79 : decode b_M_step 79 = .ok (.istore 5, 2) := by decide +kernel
theorem d_M_step_81 : decode b_M_step 81 = .ok (.iload 5, 2) := by decide +kernel
theorem d_M_step_83 : decode b_M_step 83 = .ok (.iconst 2, 1) := by decide +kernel
theorem d_M_step_84 : decode b_M_step 84 = .ok (.if_icmp .eq 9, 3) := by decide +kernel
theorem d_M_step_87 : decode b_M_step 87 = .ok (.iload 5, 2) := by decide +kernel
theorem d_M_step_89 : decode b_M_step 89 = .ok (.iconst 3, 1) := by decide +kernel
theorem d_M_step_90 : decode b_M_step 90 = .ok (.if_icmp .ne 15, 3) := by decide +kernel
theorem d_M_step_93 : decode b_M_step 93 = .ok (.aload_n 0, 1) := by decide +kernel
theorem d_M_step_94 : decode b_M_step 94 = .ok (.iload_n 1, 1) := by decide +kernel
theorem d_M_step_95 : decode b_M_step 95 = .ok (.putfield 71, 3) := by decide +kernel
theorem d_M_step_98 : decode b_M_step 98 = .ok (.aload_n 0, 1) := by decide +kernel
theorem d_M_step_99 : decode b_M_step 99 = .ok (.iload_n 3, 1) := by decide +kernel
theorem d_M_step_100 : decode b_M_step 100 = .ok (.iload 4, 2) := by decide +kernel
theorem d_M_step_102 : decode b_M_step 102 = .ok (.invokevirtual 90, 3) := by decide +kernel
theorem d_M_step_105 : decode b_M_step 105 = .ok (.iload 5, 2) := by decide +kernel
theorem d_M_step_107 : decode b_M_step 107 = .ok (.ireturn, 1) := by decide +kernel
theorem d_M_level_0 : decode b_M_level 0 = .ok (.iload_n 1, 1) := by decide +kernel
theorem d_M_level_1 : decode b_M_level 1 = .ok (.ifCond .lt 9, 3) := by decide +kernel
theorem d_M_level_4 : decode b_M_level 4 = .ok (.iload_n 1, 1) := by decide +kernel
theorem d_M_level_5 : decode b_M_level 5 = .ok (.bipush 16, 2) := by decide +kernel
theorem d_M_level_7 : decode b_M_level 7 = .ok (.if_icmp .le 13, 3) := by decide +kernel
theorem d_M_level_10 : decode b_M_level 10 = .ok (.new 49, 3) := by decide +kernel
theorem d_M_level_13 : decode b_M_level 13 = .ok (.dup, 1) := by decide +kernel
theorem d_M_level_14 : decode b_M_level 14 = .ok (.ldc 93, 2) := by decide +kernel
theorem d_M_level_16 : decode b_M_level 16 = .ok (.invokespecial 53, 3) := by decide +kernel
theorem d_M_level_19 : decode b_M_level 19 = .ok (.athrow, 1) := by decide +kernel
theorem d_M_level_20 : decode b_M_level 20 = .ok (.aload_n 0, 1) := by decide +kernel
theorem d_M_level_21 : decode b_M_level 21 = .ok (.iload_n 1, 1) := by decide +kernel
theorem d_M_level_22 : decode b_M_level 22 = .ok (.putfield 30, 3) := by decide +kernel
theorem d_M_level_25 : decode b_M_level 25 = .ok (.return_, 1) := by decide +kernel
theorem d_M_isLine_0 : decode b_M_isLine 0 = .ok (.iload_n 0, 1) := by decide +kernel
theorem d_M_isLine_1 : decode b_M_isLine 1 = .ok (.ifCond .lt 13, 3) := by decide +kernel
theorem d_M_isLine_4 : decode b_M_isLine 4 = .ok (.iload_n 0, 1) := by decide +kernel
theorem d_M_isLine_5 : decode b_M_isLine 5 = .ok (.bipush 64, 2) := by decide +kernel
theorem d_M_isLine_7 : decode b_M_isLine 7 = .ok (.if_icmp .ge 7, 3) := by decide +kernel
theorem d_M_isLine_10 : decode b_M_isLine 10 = .ok (.iconst 1, 1) := by decide +kernel
theorem d_M_isLine_11 : decode b_M_isLine 11 = .ok (.goto 4, 3) := by decide +kernel
theorem d_M_isLine_14 : decode b_M_isLine 14 = .ok (.iconst 0, 1) := by decide +kernel
theorem d_M_isLine_15 : decode b_M_isLine 15 = .ok (.ireturn, 1) := by decide +kernel
theorem d_M_wire_0 : decode b_M_wire 0 = .ok (.iload_n 1, 1) := by decide +kernel
theorem d_M_wire_1 : decode b_M_wire 1 = .ok (.invokestatic 95, 3) := by decide +kernel
theorem d_M_wire_4 : decode b_M_wire 4 = .ok (.ifCond .ne 13, 3) := by decide +kernel
theorem d_M_wire_7 : decode b_M_wire 7 = .ok (.new 49, 3) := by decide +kernel
theorem d_M_wire_10 : decode b_M_wire 10 = .ok (.dup, 1) := by decide +kernel
theorem d_M_wire_11 : decode b_M_wire 11 = .ok (.ldc 98, 2) := by decide +kernel
theorem d_M_wire_13 : decode b_M_wire 13 = .ok (.invokespecial 53, 3) := by decide +kernel
theorem d_M_wire_16 : decode b_M_wire 16 = .ok (.athrow, 1) := by decide +kernel
theorem d_M_wire_17 : decode b_M_wire 17 = .ok (.aload_n 0, 1) := by decide +kernel
theorem d_M_wire_18 : decode b_M_wire 18 = .ok (.getfield 19, 3) := by decide +kernel
theorem d_M_wire_21 : decode b_M_wire 21 = .ok (.iload_n 1, 1) := by decide +kernel
theorem d_M_wire_22 : decode b_M_wire 22 = .ok (.iload_n 2, 1) := by decide +kernel
theorem d_M_wire_23 : decode b_M_wire 23 = .ok (.invokevirtual 100, 3) := by decide +kernel
theorem d_M_wire_26 : decode b_M_wire 26 = .ok (.return_, 1) := by decide +kernel
theorem d_M_line_0 : decode b_M_line 0 = .ok (.iload_n 1, 1) := by decide +kernel
theorem d_M_line_1 : decode b_M_line 1 = .ok (.invokestatic 95, 3) := by decide +kernel
theorem d_M_line_4 : decode b_M_line 4 = .ok (.ifCond .ne 13, 3) := by decide +kernel
theorem d_M_line_7 : decode b_M_line 7 = .ok (.new 49, 3) := by decide +kernel
theorem d_M_line_10 : decode b_M_line 10 = .ok (.dup, 1) := by decide +kernel
theorem d_M_line_11 : decode b_M_line 11 = .ok (.ldc 98, 2) := by decide +kernel
theorem d_M_line_13 : decode b_M_line 13 = .ok (.invokespecial 53, 3) := by decide +kernel
theorem d_M_line_16 : decode b_M_line 16 = .ok (.athrow, 1) := by decide +kernel
theorem d_M_line_17 : decode b_M_line 17 = .ok (.aload_n 0, 1) := by decide +kernel
theorem d_M_line_18 : decode b_M_line 18 = .ok (.getfield 19, 3) := by decide +kernel
theorem d_M_line_21 : decode b_M_line 21 = .ok (.iload_n 1, 1) := by decide +kernel
theorem d_M_line_22 : decode b_M_line 22 = .ok (.invokevirtual 104, 3) := by decide +kernel
theorem d_M_line_25 : decode b_M_line 25 = .ok (.ireturn, 1) := by decide +kernel
theorem d_M_state_0 : decode b_M_state 0 = .ok (.iload_n 1, 1) := by decide +kernel
theorem d_M_state_1 : decode b_M_state 1 = .ok (.tableswitch 71 0 4 #[35, 40, 45, 53, 58], 35) := by decide +kernel
theorem d_M_state_36 : decode b_M_state 36 = .ok (.aload_n 0, 1) := by decide +kernel
theorem d_M_state_37 : decode b_M_state 37 = .ok (.getfield 107, 3) := by decide +kernel
theorem d_M_state_40 : decode b_M_state 40 = .ok (.ireturn, 1) := by decide +kernel
theorem d_M_state_41 : decode b_M_state 41 = .ok (.aload_n 0, 1) := by decide +kernel
theorem d_M_state_42 : decode b_M_state 42 = .ok (.getfield 71, 3) := by decide +kernel
theorem d_M_state_45 : decode b_M_state 45 = .ok (.ireturn, 1) := by decide +kernel
theorem d_M_state_46 : decode b_M_state 46 = .ok (.aload_n 0, 1) := by decide +kernel
theorem d_M_state_47 : decode b_M_state 47 = .ok (.getfield 26, 3) := by decide +kernel
theorem d_M_state_50 : decode b_M_state 50 = .ok (.invokevirtual 110, 3) := by decide +kernel
theorem d_M_state_53 : decode b_M_state 53 = .ok (.ireturn, 1) := by decide +kernel
theorem d_M_state_54 : decode b_M_state 54 = .ok (.aload_n 0, 1) := by decide +kernel
theorem d_M_state_55 : decode b_M_state 55 = .ok (.getfield 30, 3) := by decide +kernel
theorem d_M_state_58 : decode b_M_state 58 = .ok (.ireturn, 1) := by decide +kernel
theorem d_M_state_59 : decode b_M_state 59 = .ok (.aload_n 0, 1) := by decide +kernel
theorem d_M_state_60 : decode b_M_state 60 = .ok (.getfield 41, 3) := by decide +kernel
theorem d_M_state_63 : decode b_M_state 63 = .ok (.ifCond .eq 7, 3) := by decide +kernel
theorem d_M_state_66 : decode b_M_state 66 = .ok (.iconst 1, 1) := by decide +kernel
theorem d_M_state_67 : decode b_M_state 67 = .ok (.goto 4, 3) := by decide +kernel
theorem d_M_state_70 : decode b_M_state 70 = .ok (.iconst 0, 1) := by decide +kernel
theorem d_M_state_71 : decode b_M_state 71 = .ok (.ireturn, 1) := by decide +kernel
theorem d_M_state_72 : decode b_M_state 72 = .ok (.new 49, 3) := by decide +kernel
theorem d_M_state_75 : decode b_M_state 75 = .ok (.dup, 1) := by decide +kernel
theorem d_M_state_76 : decode b_M_state 76 = .ok (.ldc 113, 2) := by decide +kernel
theorem d_M_state_78 : decode b_M_state 78 = .ok (.invokespecial 53, 3) := by decide +kernel
theorem d_M_state_81 : decode b_M_state 81 = .ok (.athrow, 1) := by decide +kernel
end
section
/-! decode rows, laid by gen.py -/
theorem d_Mo_thrown_0 : decode b_Mo_thrown 0 = .ok (.aload_n 0, 1) := by decide +kernel
theorem d_Mo_thrown_1 : decode b_Mo_thrown 1 = .ok (.getfield 21, 3) := by decide +kernel
theorem d_Mo_thrown_4 : decode b_Mo_thrown 4 = .ok (.ireturn, 1) := by decide +kernel
theorem d_Mo_fails_0 : decode b_Mo_fails 0 = .ok (.aload_n 0, 1) := by decide +kernel
theorem d_Mo_fails_1 : decode b_Mo_fails 1 = .ok (.iload_n 1, 1) := by decide +kernel
theorem d_Mo_fails_2 : decode b_Mo_fails 2 = .ok (.ifCond .eq 7, 3) := by decide +kernel
theorem d_Mo_fails_5 : decode b_Mo_fails 5 = .ok (.iconst 1, 1) := by decide +kernel
theorem d_Mo_fails_6 : decode b_Mo_fails 6 = .ok (.goto 4, 3) := by decide +kernel
theorem d_Mo_fails_9 : decode b_Mo_fails 9 = .ok (.iconst 0, 1) := by decide +kernel
theorem d_Mo_fails_10 : decode b_Mo_fails 10 = .ok (.putfield 21, 3) := by decide +kernel
theorem d_Mo_fails_13 : decode b_Mo_fails 13 = .ok (.iload_n 1, 1) := by decide +kernel
theorem d_Mo_fails_14 : decode b_Mo_fails 14 = .ok (.ireturn, 1) := by decide +kernel
theorem d_Mo_word_0 : decode b_Mo_word 0 = .ok (.aload_n 0, 1) := by decide +kernel
theorem d_Mo_word_1 : decode b_Mo_word 1 = .ok (.getfield 7, 3) := by decide +kernel
theorem d_Mo_word_4 : decode b_Mo_word 4 = .ok (.iload_n 1, 1) := by decide +kernel
theorem d_Mo_word_5 : decode b_Mo_word 5 = .ok (.iconst 1, 1) := by decide +kernel
theorem d_Mo_word_6 : decode b_Mo_word 6 = .ok (.ishr, 1) := by decide +kernel
theorem d_Mo_word_7 : decode b_Mo_word 7 = .ok (.sipush 511, 3) := by decide +kernel
theorem d_Mo_word_10 : decode b_Mo_word 10 = .ok (.iand, 1) := by decide +kernel
theorem d_Mo_word_11 : decode b_Mo_word 11 = .ok (.iaload, 1) := by decide +kernel
theorem d_Mo_word_12 : decode b_Mo_word 12 = .ok (.ireturn, 1) := by decide +kernel
theorem d_Mo_setWord_0 : decode b_Mo_setWord 0 = .ok (.aload_n 0, 1) := by decide +kernel
theorem d_Mo_setWord_1 : decode b_Mo_setWord 1 = .ok (.getfield 7, 3) := by decide +kernel
theorem d_Mo_setWord_4 : decode b_Mo_setWord 4 = .ok (.iload_n 1, 1) := by decide +kernel
theorem d_Mo_setWord_5 : decode b_Mo_setWord 5 = .ok (.iconst 1, 1) := by decide +kernel
theorem d_Mo_setWord_6 : decode b_Mo_setWord 6 = .ok (.ishr, 1) := by decide +kernel
theorem d_Mo_setWord_7 : decode b_Mo_setWord 7 = .ok (.sipush 511, 3) := by decide +kernel
theorem d_Mo_setWord_10 : decode b_Mo_setWord 10 = .ok (.iand, 1) := by decide +kernel
theorem d_Mo_setWord_11 : decode b_Mo_setWord 11 = .ok (.iload_n 2, 1) := by decide +kernel
theorem d_Mo_setWord_12 : decode b_Mo_setWord 12 = .ok (.ldc 24, 2) := by decide +kernel
theorem d_Mo_setWord_14 : decode b_Mo_setWord 14 = .ok (.iand, 1) := by decide +kernel
theorem d_Mo_setWord_15 : decode b_Mo_setWord 15 = .ok (.iastore, 1) := by decide +kernel
theorem d_Mo_setWord_16 : decode b_Mo_setWord 16 = .ok (.return_, 1) := by decide +kernel
theorem d_Mo_register_0 : decode b_Mo_register 0 = .ok (.aload_n 0, 1) := by decide +kernel
theorem d_Mo_register_1 : decode b_Mo_register 1 = .ok (.aload_n 0, 1) := by decide +kernel
theorem d_Mo_register_2 : decode b_Mo_register 2 = .ok (.getfield 25, 3) := by decide +kernel
theorem d_Mo_register_5 : decode b_Mo_register 5 = .ok (.iconst 2, 1) := by decide +kernel
theorem d_Mo_register_6 : decode b_Mo_register 6 = .ok (.iload_n 1, 1) := by decide +kernel
theorem d_Mo_register_7 : decode b_Mo_register 7 = .ok (.imul, 1) := by decide +kernel
theorem d_Mo_register_8 : decode b_Mo_register 8 = .ok (.iadd, 1) := by decide +kernel
theorem d_Mo_register_9 : decode b_Mo_register 9 = .ok (.invokevirtual 28, 3) := by decide +kernel
theorem d_Mo_register_12 : decode b_Mo_register 12 = .ok (.ireturn, 1) := by decide +kernel
theorem d_Mo_setRegister_0 : decode b_Mo_setRegister 0 = .ok (.aload_n 0, 1) := by decide +kernel
theorem d_Mo_setRegister_1 : decode b_Mo_setRegister 1 = .ok (.aload_n 0, 1) := by decide +kernel
theorem d_Mo_setRegister_2 : decode b_Mo_setRegister 2 = .ok (.getfield 25, 3) := by decide +kernel
theorem d_Mo_setRegister_5 : decode b_Mo_setRegister 5 = .ok (.iconst 2, 1) := by decide +kernel
theorem d_Mo_setRegister_6 : decode b_Mo_setRegister 6 = .ok (.iload_n 1, 1) := by decide +kernel
theorem d_Mo_setRegister_7 : decode b_Mo_setRegister 7 = .ok (.imul, 1) := by decide +kernel
theorem d_Mo_setRegister_8 : decode b_Mo_setRegister 8 = .ok (.iadd, 1) := by decide +kernel
theorem d_Mo_setRegister_9 : decode b_Mo_setRegister 9 = .ok (.iload_n 2, 1) := by decide +kernel
theorem d_Mo_setRegister_10 : decode b_Mo_setRegister 10 = .ok (.invokevirtual 32, 3) := by decide +kernel
theorem d_Mo_setRegister_13 : decode b_Mo_setRegister 13 = .ok (.return_, 1) := by decide +kernel
theorem d_Mo_next_0 : decode b_Mo_next 0 = .ok (.aload_n 0, 1) := by decide +kernel
theorem d_Mo_next_1 : decode b_Mo_next 1 = .ok (.aload_n 0, 1) := by decide +kernel
theorem d_Mo_next_2 : decode b_Mo_next 2 = .ok (.getfield 36, 3) := by decide +kernel
theorem d_Mo_next_5 : decode b_Mo_next 5 = .ok (.invokevirtual 28, 3) := by decide +kernel
theorem d_Mo_next_8 : decode b_Mo_next 8 = .ok (.istore_n 1, 1) := by decide +kernel
theorem d_Mo_next_9 : decode b_Mo_next 9 = .ok (.aload_n 0, 1) := by decide +kernel
theorem d_Mo_next_10 : decode b_Mo_next 10 = .ok (.aload_n 0, 1) := by decide +kernel
theorem d_Mo_next_11 : decode b_Mo_next 11 = .ok (.getfield 36, 3) := by decide +kernel
theorem d_Mo_next_14 : decode b_Mo_next 14 = .ok (.iconst 2, 1) := by decide +kernel
theorem d_Mo_next_15 : decode b_Mo_next 15 = .ok (.iadd, 1) := by decide +kernel
theorem d_Mo_next_16 : decode b_Mo_next 16 = .ok (.sipush 1022, 3) := by decide +kernel
theorem d_Mo_next_19 : decode b_Mo_next 19 = .ok (.iand, 1) := by decide +kernel
theorem d_Mo_next_20 : decode b_Mo_next 20 = .ok (.putfield 36, 3) := by decide +kernel
theorem d_Mo_next_23 : decode b_Mo_next 23 = .ok (.iload_n 1, 1) := by decide +kernel
theorem d_Mo_next_24 : decode b_Mo_next 24 = .ok (.ireturn, 1) := by decide +kernel
theorem d_Mo_value_0 : decode b_Mo_value 0 = .ok (.aload_n 0, 1) := by decide +kernel
theorem d_Mo_value_1 : decode b_Mo_value 1 = .ok (.iload_n 1, 1) := by decide +kernel
theorem d_Mo_value_2 : decode b_Mo_value 2 = .ok (.invokevirtual 28, 3) := by decide +kernel
theorem d_Mo_value_5 : decode b_Mo_value 5 = .ok (.istore_n 3, 1) := by decide +kernel
theorem d_Mo_value_6 : decode b_Mo_value 6 = .ok (.iload_n 2, 1) := by decide +kernel
theorem d_Mo_value_7 : decode b_Mo_value 7 = .ok (.ifCond .ne 7, 3) := by decide +kernel
theorem d_Mo_value_10 : decode b_Mo_value 10 = .ok (.iload_n 3, 1) := by decide +kernel
theorem d_Mo_value_11 : decode b_Mo_value 11 = .ok (.goto 23, 3) := by decide +kernel
theorem d_Mo_value_14 : decode b_Mo_value 14 = .ok (.iload_n 1, 1) := by decide +kernel
theorem d_Mo_value_15 : decode b_Mo_value 15 = .ok (.iconst 1, 1) := by decide +kernel
theorem d_Mo_value_16 : decode b_Mo_value 16 = .ok (.iand, 1) := by decide +kernel
theorem d_Mo_value_17 : decode b_Mo_value 17 = .ok (.ifCond .ne 10, 3) := by decide +kernel
theorem d_Mo_value_20 : decode b_Mo_value 20 = .ok (.iload_n 3, 1) := by decide +kernel
theorem d_Mo_value_21 : decode b_Mo_value 21 = .ok (.ldc 39, 2) := by decide +kernel
theorem d_Mo_value_23 : decode b_Mo_value 23 = .ok (.iand, 1) := by decide +kernel
theorem d_Mo_value_24 : decode b_Mo_value 24 = .ok (.goto 10, 3) := by decide +kernel
theorem d_Mo_value_27 : decode b_Mo_value 27 = .ok (.iload_n 3, 1) := by decide +kernel
theorem d_Mo_value_28 : decode b_Mo_value 28 = .ok (.bipush 8, 2) := by decide +kernel
theorem d_Mo_value_30 : decode b_Mo_value 30 = .ok (.ishl, 1) := by decide +kernel
theorem d_Mo_value_31 : decode b_Mo_value 31 = .ok (.ldc 39, 2) := by decide +kernel
theorem d_Mo_value_33 : decode b_Mo_value 33 = .ok (.iand, 1) := by decide +kernel
theorem d_Mo_value_34 : decode b_Mo_value 34 = .ok (.ireturn, 1) := by decide +kernel
theorem d_Mo_store_0 : decode b_Mo_store 0 = .ok (.aload_n 0, 1) := by decide +kernel
theorem d_Mo_store_1 : decode b_Mo_store 1 = .ok (.iload_n 1, 1) := by decide +kernel
theorem d_Mo_store_2 : decode b_Mo_store 2 = .ok (.invokevirtual 28, 3) := by decide +kernel
theorem d_Mo_store_5 : decode b_Mo_store 5 = .ok (.istore 4, 2) := by decide +kernel
theorem d_Mo_store_7 : decode b_Mo_store 7 = .ok (.aload_n 0, 1) := by decide +kernel
theorem d_Mo_store_8 : decode b_Mo_store 8 = .ok (.iload_n 1, 1) := by decide +kernel
theorem d_Mo_store_9 : decode b_Mo_store 9 = .ok (.iload_n 3, 1) := by decide +kernel
theorem d_Mo_store_10 : decode b_Mo_store 10 = .ok (.ifCond .ne 7, 3) := by decide +kernel
theorem d_Mo_store_13 : decode b_Mo_store 13 = .ok (.iload_n 2, 1) := by decide +kernel
theorem d_Mo_store_14 : decode b_Mo_store 14 = .ok (.goto 37, 3) := by decide +kernel
theorem d_Mo_store_17 : decode b_Mo_store 17 = .ok (.iload_n 1, 1) := by decide +kernel
theorem d_Mo_store_18 : decode b_Mo_store 18 = .ok (.iconst 1, 1) := by decide +kernel
theorem d_Mo_store_19 : decode b_Mo_store 19 = .ok (.iand, 1) := by decide +kernel
theorem d_Mo_store_20 : decode b_Mo_store 20 = .ok (.ifCond .ne 17, 3) := by decide +kernel
theorem d_Mo_store_23 : decode b_Mo_store 23 = .ok (.iload 4, 2) := by decide +kernel
theorem d_Mo_store_25 : decode b_Mo_store 25 = .ok (.sipush 255, 3) := by decide +kernel
theorem d_Mo_store_28 : decode b_Mo_store 28 = .ok (.iand, 1) := by decide +kernel
theorem d_Mo_store_29 : decode b_Mo_store 29 = .ok (.iload_n 2, 1) := by decide +kernel
theorem d_Mo_store_30 : decode b_Mo_store 30 = .ok (.ldc 39, 2) := by decide +kernel
theorem d_Mo_store_32 : decode b_Mo_store 32 = .ok (.iand, 1) := by decide +kernel
theorem d_Mo_store_33 : decode b_Mo_store 33 = .ok (.ior, 1) := by decide +kernel
theorem d_Mo_store_34 : decode b_Mo_store 34 = .ok (.goto 17, 3) := by decide +kernel
theorem d_Mo_store_37 : decode b_Mo_store 37 = .ok (.iload 4, 2) := by decide +kernel
theorem d_Mo_store_39 : decode b_Mo_store 39 = .ok (.ldc 39, 2) := by decide +kernel
theorem d_Mo_store_41 : decode b_Mo_store 41 = .ok (.iand, 1) := by decide +kernel
theorem d_Mo_store_42 : decode b_Mo_store 42 = .ok (.iload_n 2, 1) := by decide +kernel
theorem d_Mo_store_43 : decode b_Mo_store 43 = .ok (.bipush 8, 2) := by decide +kernel
theorem d_Mo_store_45 : decode b_Mo_store 45 = .ok (.ishr, 1) := by decide +kernel
theorem d_Mo_store_46 : decode b_Mo_store 46 = .ok (.sipush 255, 3) := by decide +kernel
theorem d_Mo_store_49 : decode b_Mo_store 49 = .ok (.iand, 1) := by decide +kernel
theorem d_Mo_store_50 : decode b_Mo_store 50 = .ok (.ior, 1) := by decide +kernel
theorem d_Mo_store_51 : decode b_Mo_store 51 = .ok (.invokevirtual 32, 3) := by decide +kernel
theorem d_Mo_store_54 : decode b_Mo_store 54 = .ok (.return_, 1) := by decide +kernel
theorem d_Mo_address_0 : decode b_Mo_address 0 = .ok (.iload_n 1, 1) := by decide +kernel
theorem d_Mo_address_1 : decode b_Mo_address 1 = .ok (.iconst 4, 1) := by decide +kernel
theorem d_Mo_address_2 : decode b_Mo_address 2 = .ok (.ishr, 1) := by decide +kernel
theorem d_Mo_address_3 : decode b_Mo_address 3 = .ok (.iconst 3, 1) := by decide +kernel
theorem d_Mo_address_4 : decode b_Mo_address 4 = .ok (.iand, 1) := by decide +kernel
theorem d_Mo_address_5 : decode b_Mo_address 5 = .ok (.istore_n 3, 1) := by decide +kernel
theorem d_Mo_address_6 : decode b_Mo_address 6 = .ok (.iload_n 1, 1) := by decide +kernel
theorem d_Mo_address_7 : decode b_Mo_address 7 = .ok (.bipush 15, 2) := by decide +kernel
theorem d_Mo_address_9 : decode b_Mo_address 9 = .ok (.iand, 1) := by decide +kernel
theorem d_Mo_address_10 : decode b_Mo_address 10 = .ok (.istore 4, 2) := by decide +kernel
theorem d_Mo_address_12 : decode b_Mo_address 12 = .ok (.iload_n 3, 1) := by decide +kernel
theorem d_Mo_address_13 : decode b_Mo_address 13 = .ok (.ifCond .ne 17, 3) := by decide +kernel
theorem d_Mo_address_16 : decode b_Mo_address 16 = .ok (.aload_n 0, 1) := by decide +kernel
theorem d_Mo_address_17 : decode b_Mo_address 17 = .ok (.getfield 25, 3) := by decide +kernel
theorem d_Mo_address_20 : decode b_Mo_address 20 = .ok (.iconst 2, 1) := by decide +kernel
theorem d_Mo_address_21 : decode b_Mo_address 21 = .ok (.iload 4, 2) := by decide +kernel
theorem d_Mo_address_23 : decode b_Mo_address 23 = .ok (.imul, 1) := by decide +kernel
theorem d_Mo_address_24 : decode b_Mo_address 24 = .ok (.iadd, 1) := by decide +kernel
theorem d_Mo_address_25 : decode b_Mo_address 25 = .ok (.sipush 1023, 3) := by decide +kernel
theorem d_Mo_address_28 : decode b_Mo_address 28 = .ok (.iand, 1) := by decide +kernel
theorem d_Mo_address_29 : decode b_Mo_address 29 = .ok (.ireturn, 1) := by decide +kernel
theorem d_Mo_address_30 : decode b_Mo_address 30 = .ok (.iload_n 3, 1) := by decide +kernel
theorem d_Mo_address_31 : decode b_Mo_address 31 = .ok (.iconst 1, 1) := by decide +kernel
theorem d_Mo_address_32 : decode b_Mo_address 32 = .ok (.if_icmp .ne 14, 3) := by decide +kernel
theorem d_Mo_address_35 : decode b_Mo_address 35 = .ok (.aload_n 0, 1) := by decide +kernel
theorem d_Mo_address_36 : decode b_Mo_address 36 = .ok (.iload 4, 2) := by decide +kernel
theorem d_Mo_address_38 : decode b_Mo_address 38 = .ok (.invokevirtual 40, 3) := by decide +kernel
theorem d_Mo_address_41 : decode b_Mo_address 41 = .ok (.sipush 1023, 3) := by decide +kernel
theorem d_Mo_address_44 : decode b_Mo_address 44 = .ok (.iand, 1) := by decide +kernel
theorem d_Mo_address_45 : decode b_Mo_address 45 = .ok (.ireturn, 1) := by decide +kernel
theorem d_Mo_address_46 : decode b_Mo_address 46 = .ok (.iload_n 3, 1) := by decide +kernel
theorem d_Mo_address_47 : decode b_Mo_address 47 = .ok (.iconst 2, 1) := by decide +kernel
theorem d_Mo_address_48 : decode b_Mo_address 48 = .ok (.if_icmp .ne 33, 3) := by decide +kernel
theorem d_Mo_address_51 : decode b_Mo_address 51 = .ok (.aload_n 0, 1) := by decide +kernel
theorem d_Mo_address_52 : decode b_Mo_address 52 = .ok (.invokevirtual 43, 3) := by decide +kernel
theorem d_Mo_address_55 : decode b_Mo_address 55 = .ok (.istore 5, 2) := by decide +kernel
theorem d_Mo_address_57 : decode b_Mo_address 57 = .ok (.iload 4, 2) := by decide +kernel
theorem d_Mo_address_59 : decode b_Mo_address 59 = .ok (.ifCond .ne 8, 3) := by decide +kernel
theorem d_Mo_address_62 : decode b_Mo_address 62 = .ok (.iload 5, 2) := by decide +kernel
theorem d_Mo_address_64 : decode b_Mo_address 64 = .ok (.goto 12, 3) := by decide +kernel
theorem d_Mo_address_67 : decode b_Mo_address 67 = .ok (.iload 5, 2) := by decide +kernel
theorem d_Mo_address_69 : decode b_Mo_address 69 = .ok (.aload_n 0, 1) := by decide +kernel
theorem d_Mo_address_70 : decode b_Mo_address 70 = .ok (.iload 4, 2) := by decide +kernel
theorem d_Mo_address_72 : decode b_Mo_address 72 = .ok (.invokevirtual 40, 3) := by decide +kernel
theorem d_Mo_address_75 : decode b_Mo_address 75 = .ok (.iadd, 1) := by decide +kernel
theorem d_Mo_address_76 : decode b_Mo_address 76 = .ok (.sipush 1023, 3) := by decide +kernel
theorem d_Mo_address_79 : decode b_Mo_address 79 = .ok (.iand, 1) := by decide +kernel
theorem d_Mo_address_80 : decode b_Mo_address 80 = .ok (.ireturn, 1) := by decide +kernel
theorem d_Mo_address_81 : decode b_Mo_address 81 = .ok (.aload_n 0, 1) := by decide +kernel
theorem d_Mo_address_82 : decode b_Mo_address 82 = .ok (.iload 4, 2) := by decide +kernel
theorem d_Mo_address_84 : decode b_Mo_address 84 = .ok (.invokevirtual 40, 3) := by decide +kernel
theorem d_Mo_address_87 : decode b_Mo_address 87 = .ok (.istore 5, 2) := by decide +kernel
theorem d_Mo_address_89 : decode b_Mo_address 89 = .ok (.aload_n 0, 1) := by decide +kernel
theorem d_Mo_address_90 : decode b_Mo_address 90 = .ok (.aload_n 0, 1) := by decide +kernel
theorem d_Mo_address_91 : decode b_Mo_address 91 = .ok (.getfield 25, 3) := by decide +kernel
theorem d_Mo_address_94 : decode b_Mo_address 94 = .ok (.iconst 2, 1) := by decide +kernel
theorem d_Mo_address_95 : decode b_Mo_address 95 = .ok (.iload 4, 2) := by decide +kernel
theorem d_Mo_address_97 : decode b_Mo_address 97 = .ok (.imul, 1) := by decide +kernel
theorem d_Mo_address_98 : decode b_Mo_address 98 = .ok (.iadd, 1) := by decide +kernel
theorem d_Mo_address_99 : decode b_Mo_address 99 = .ok (.putfield 47, 3) := by decide +kernel
theorem d_Mo_address_102 : decode b_Mo_address 102 = .ok (.aload_n 0, 1) := by decide +kernel
theorem d_Mo_address_103 : decode b_Mo_address 103 = .ok (.iload 5, 2) := by decide +kernel
theorem d_Mo_address_105 : decode b_Mo_address 105 = .ok (.putfield 50, 3) := by decide +kernel
theorem d_Mo_address_108 : decode b_Mo_address 108 = .ok (.aload_n 0, 1) := by decide +kernel
theorem d_Mo_address_109 : decode b_Mo_address 109 = .ok (.iload 4, 2) := by decide +kernel
theorem d_Mo_address_111 : decode b_Mo_address 111 = .ok (.iload 5, 2) := by decide +kernel
theorem d_Mo_address_113 : decode b_Mo_address 113 = .ok (.iload_n 2, 1) := by decide +kernel
theorem d_Mo_address_114 : decode b_Mo_address 114 = .ok (.ifCond .eq 7, 3) := by decide +kernel
theorem d_Mo_address_117 : decode b_Mo_address 117 = .ok (.iconst 1, 1) := by decide +kernel
theorem d_Mo_address_118 : decode b_Mo_address 118 = .ok (.goto 4, 3) := by decide +kernel
theorem d_Mo_address_121 : decode b_Mo_address 121 = .ok (.iconst 2, 1) := by decide +kernel
theorem d_Mo_address_122 : decode b_Mo_address 122 = .ok (.iadd, 1) := by decide +kernel
theorem d_Mo_address_123 : decode b_Mo_address 123 = .ok (.invokevirtual 53, 3) := by decide +kernel
theorem d_Mo_address_126 : decode b_Mo_address 126 = .ok (.iload 5, 2) := by decide +kernel
theorem d_Mo_address_128 : decode b_Mo_address 128 = .ok (.sipush 1023, 3) := by decide +kernel
theorem d_Mo_address_131 : decode b_Mo_address 131 = .ok (.iand, 1) := by decide +kernel
theorem d_Mo_address_132 : decode b_Mo_address 132 = .ok (.ireturn, 1) := by decide +kernel
theorem d_Mo_flag_0 : decode b_Mo_flag 0 = .ok (.aload_n 0, 1) := by decide +kernel
theorem d_Mo_flag_1 : decode b_Mo_flag 1 = .ok (.iload_n 2, 1) := by decide +kernel
theorem d_Mo_flag_2 : decode b_Mo_flag 2 = .ok (.ifCond .eq 12, 3) := by decide +kernel
theorem d_Mo_flag_5 : decode b_Mo_flag 5 = .ok (.aload_n 0, 1) := by decide +kernel
theorem d_Mo_flag_6 : decode b_Mo_flag 6 = .ok (.getfield 56, 3) := by decide +kernel
theorem d_Mo_flag_9 : decode b_Mo_flag 9 = .ok (.iload_n 1, 1) := by decide +kernel
theorem d_Mo_flag_10 : decode b_Mo_flag 10 = .ok (.ior, 1) := by decide +kernel
theorem d_Mo_flag_11 : decode b_Mo_flag 11 = .ok (.goto 11, 3) := by decide +kernel
theorem d_Mo_flag_14 : decode b_Mo_flag 14 = .ok (.aload_n 0, 1) := by decide +kernel
theorem d_Mo_flag_15 : decode b_Mo_flag 15 = .ok (.getfield 56, 3) := by decide +kernel
theorem d_Mo_flag_18 : decode b_Mo_flag 18 = .ok (.iload_n 1, 1) := by decide +kernel
theorem d_Mo_flag_19 : decode b_Mo_flag 19 = .ok (.iconst (-1), 1) := by decide +kernel
theorem d_Mo_flag_20 : decode b_Mo_flag 20 = .ok (.ixor, 1) := by decide +kernel
theorem d_Mo_flag_21 : decode b_Mo_flag 21 = .ok (.iand, 1) := by decide +kernel
theorem d_Mo_flag_22 : decode b_Mo_flag 22 = .ok (.putfield 56, 3) := by decide +kernel
theorem d_Mo_flag_25 : decode b_Mo_flag 25 = .ok (.return_, 1) := by decide +kernel
theorem d_Mo_has_0 : decode b_Mo_has 0 = .ok (.aload_n 0, 1) := by decide +kernel
theorem d_Mo_has_1 : decode b_Mo_has 1 = .ok (.getfield 56, 3) := by decide +kernel
theorem d_Mo_has_4 : decode b_Mo_has 4 = .ok (.iload_n 1, 1) := by decide +kernel
theorem d_Mo_has_5 : decode b_Mo_has 5 = .ok (.iand, 1) := by decide +kernel
theorem d_Mo_has_6 : decode b_Mo_has 6 = .ok (.ifCond .eq 7, 3) := by decide +kernel
theorem d_Mo_has_9 : decode b_Mo_has 9 = .ok (.iconst 1, 1) := by decide +kernel
theorem d_Mo_has_10 : decode b_Mo_has 10 = .ok (.goto 4, 3) := by decide +kernel
theorem d_Mo_has_13 : decode b_Mo_has 13 = .ok (.iconst 0, 1) := by decide +kernel
theorem d_Mo_has_14 : decode b_Mo_has 14 = .ok (.ireturn, 1) := by decide +kernel
theorem d_Mo_signed_0 : decode b_Mo_signed 0 = .ok (.iload_n 0, 1) := by decide +kernel
theorem d_Mo_signed_1 : decode b_Mo_signed 1 = .ok (.sipush 32767, 3) := by decide +kernel
theorem d_Mo_signed_4 : decode b_Mo_signed 4 = .ok (.if_icmp .le 10, 3) := by decide +kernel
theorem d_Mo_signed_7 : decode b_Mo_signed 7 = .ok (.iload_n 0, 1) := by decide +kernel
theorem d_Mo_signed_8 : decode b_Mo_signed 8 = .ok (.ldc 59, 2) := by decide +kernel
theorem d_Mo_signed_10 : decode b_Mo_signed 10 = .ok (.isub, 1) := by decide +kernel
theorem d_Mo_signed_11 : decode b_Mo_signed 11 = .ok (.goto 4, 3) := by decide +kernel
theorem d_Mo_signed_14 : decode b_Mo_signed 14 = .ok (.iload_n 0, 1) := by decide +kernel
theorem d_Mo_signed_15 : decode b_Mo_signed 15 = .ok (.ireturn, 1) := by decide +kernel
theorem d_Mo_compare_0 : decode b_Mo_compare 0 = .ok (.aload_n 0, 1) := by decide +kernel
theorem d_Mo_compare_1 : decode b_Mo_compare 1 = .ok (.ldc 60, 2) := by decide +kernel
theorem d_Mo_compare_3 : decode b_Mo_compare 3 = .ok (.iload_n 1, 1) := by decide +kernel
theorem d_Mo_compare_4 : decode b_Mo_compare 4 = .ok (.iload_n 2, 1) := by decide +kernel
theorem d_Mo_compare_5 : decode b_Mo_compare 5 = .ok (.if_icmp .le 7, 3) := by decide +kernel
theorem d_Mo_compare_8 : decode b_Mo_compare 8 = .ok (.iconst 1, 1) := by decide +kernel
theorem d_Mo_compare_9 : decode b_Mo_compare 9 = .ok (.goto 4, 3) := by decide +kernel
theorem d_Mo_compare_12 : decode b_Mo_compare 12 = .ok (.iconst 0, 1) := by decide +kernel
theorem d_Mo_compare_13 : decode b_Mo_compare 13 = .ok (.invokevirtual 61, 3) := by decide +kernel
theorem d_Mo_compare_16 : decode b_Mo_compare 16 = .ok (.aload_n 0, 1) := by decide +kernel
theorem d_Mo_compare_17 : decode b_Mo_compare 17 = .ok (.sipush 16384, 3) := by decide +kernel
theorem d_Mo_compare_20 : decode b_Mo_compare 20 = .ok (.iload_n 1, 1) := by decide +kernel
theorem d_Mo_compare_21 : decode b_Mo_compare 21 = .ok (.invokestatic 65, 3) := by decide +kernel
theorem d_Mo_compare_24 : decode b_Mo_compare 24 = .ok (.iload_n 2, 1) := by decide +kernel
theorem d_Mo_compare_25 : decode b_Mo_compare 25 = .ok (.invokestatic 65, 3) := by decide +kernel
theorem d_Mo_compare_28 : decode b_Mo_compare 28 = .ok (.if_icmp .le 7, 3) := by decide +kernel
theorem d_Mo_compare_31 : decode b_Mo_compare 31 = .ok (.iconst 1, 1) := by decide +kernel
theorem d_Mo_compare_32 : decode b_Mo_compare 32 = .ok (.goto 4, 3) := by decide +kernel
theorem d_Mo_compare_35 : decode b_Mo_compare 35 = .ok (.iconst 0, 1) := by decide +kernel
theorem d_Mo_compare_36 : decode b_Mo_compare 36 = .ok (.invokevirtual 61, 3) := by decide +kernel
theorem d_Mo_compare_39 : decode b_Mo_compare 39 = .ok (.aload_n 0, 1) := by decide +kernel
theorem d_Mo_compare_40 : decode b_Mo_compare 40 = .ok (.sipush 8192, 3) := by decide +kernel
theorem d_Mo_compare_43 : decode b_Mo_compare 43 = .ok (.iload_n 1, 1) := by decide +kernel
theorem d_Mo_compare_44 : decode b_Mo_compare 44 = .ok (.iload_n 2, 1) := by decide +kernel
theorem d_Mo_compare_45 : decode b_Mo_compare 45 = .ok (.if_icmp .ne 7, 3) := by decide +kernel
theorem d_Mo_compare_48 : decode b_Mo_compare 48 = .ok (.iconst 1, 1) := by decide +kernel
theorem d_Mo_compare_49 : decode b_Mo_compare 49 = .ok (.goto 4, 3) := by decide +kernel
theorem d_Mo_compare_52 : decode b_Mo_compare 52 = .ok (.iconst 0, 1) := by decide +kernel
theorem d_Mo_compare_53 : decode b_Mo_compare 53 = .ok (.invokevirtual 61, 3) := by decide +kernel
theorem d_Mo_compare_56 : decode b_Mo_compare 56 = .ok (.return_, 1) := by decide +kernel
theorem d_Mo_test_0 : decode b_Mo_test 0 = .ok (.aload_n 0, 1) := by decide +kernel
theorem d_Mo_test_1 : decode b_Mo_test 1 = .ok (.iload_n 1, 1) := by decide +kernel
theorem d_Mo_test_2 : decode b_Mo_test 2 = .ok (.iconst 0, 1) := by decide +kernel
theorem d_Mo_test_3 : decode b_Mo_test 3 = .ok (.invokevirtual 68, 3) := by decide +kernel
theorem d_Mo_test_6 : decode b_Mo_test 6 = .ok (.return_, 1) := by decide +kernel
theorem d_Mo_parity_0 : decode b_Mo_parity 0 = .ok (.iconst 0, 1) := by decide +kernel
theorem d_Mo_parity_1 : decode b_Mo_parity 1 = .ok (.istore_n 2, 1) := by decide +kernel
theorem d_Mo_parity_2 : decode b_Mo_parity 2 = .ok (.bipush 8, 2) := by decide +kernel
theorem d_Mo_parity_4 : decode b_Mo_parity 4 = .ok (.istore_n 3, 1) := by decide +kernel
theorem d_Mo_parity_5 : decode b_Mo_parity 5 = .ok (.iload_n 3, 1) := by decide +kernel
theorem d_Mo_parity_6 : decode b_Mo_parity 6 = .ok (.bipush 16, 2) := by decide +kernel
theorem d_Mo_parity_8 : decode b_Mo_parity 8 = .ok (.if_icmp .ge 17, 3) := by decide +kernel
theorem d_Mo_parity_11 : decode b_Mo_parity 11 = .ok (.iload_n 2, 1) := by decide +kernel
theorem d_Mo_parity_12 : decode b_Mo_parity 12 = .ok (.iload_n 1, 1) := by decide +kernel
theorem d_Mo_parity_13 : decode b_Mo_parity 13 = .ok (.iload_n 3, 1) := by decide +kernel
theorem d_Mo_parity_14 : decode b_Mo_parity 14 = .ok (.ishr, 1) := by decide +kernel
theorem d_Mo_parity_15 : decode b_Mo_parity 15 = .ok (.iconst 1, 1) := by decide +kernel
theorem d_Mo_parity_16 : decode b_Mo_parity 16 = .ok (.iand, 1) := by decide +kernel
theorem d_Mo_parity_17 : decode b_Mo_parity 17 = .ok (.iadd, 1) := by decide +kernel
theorem d_Mo_parity_18 : decode b_Mo_parity 18 = .ok (.istore_n 2, 1) := by decide +kernel
theorem d_Mo_parity_19 : decode b_Mo_parity 19 = .ok (.iinc 3 1, 3) := by decide +kernel
theorem d_Mo_parity_22 : decode b_Mo_parity 22 = .ok (.goto (-17), 3) := by decide +kernel
theorem d_Mo_parity_25 : decode b_Mo_parity 25 = .ok (.aload_n 0, 1) := by decide +kernel
theorem d_Mo_parity_26 : decode b_Mo_parity 26 = .ok (.sipush 1024, 3) := by decide +kernel
theorem d_Mo_parity_29 : decode b_Mo_parity 29 = .ok (.iload_n 2, 1) := by decide +kernel
theorem d_Mo_parity_30 : decode b_Mo_parity 30 = .ok (.iconst 1, 1) := by decide +kernel
theorem d_Mo_parity_31 : decode b_Mo_parity 31 = .ok (.iand, 1) := by decide +kernel
theorem d_Mo_parity_32 : decode b_Mo_parity 32 = .ok (.iconst 1, 1) := by decide +kernel
theorem d_Mo_parity_33 : decode b_Mo_parity 33 = .ok (.if_icmp .ne 7, 3) := by decide +kernel
theorem d_Mo_parity_36 : decode b_Mo_parity 36 = .ok (.iconst 1, 1) := by decide +kernel
theorem d_Mo_parity_37 : decode b_Mo_parity 37 = .ok (.goto 4, 3) := by decide +kernel
theorem d_Mo_parity_40 : decode b_Mo_parity 40 = .ok (.iconst 0, 1) := by decide +kernel
theorem d_Mo_parity_41 : decode b_Mo_parity 41 = .ok (.invokevirtual 61, 3) := by decide +kernel
theorem d_Mo_parity_44 : decode b_Mo_parity 44 = .ok (.return_, 1) := by decide +kernel
theorem d_Mo_sum_0 : decode b_Mo_sum 0 = .ok (.iload_n 1, 1) := by decide +kernel
theorem d_Mo_sum_1 : decode b_Mo_sum 1 = .ok (.iload_n 2, 1) := by decide +kernel
theorem d_Mo_sum_2 : decode b_Mo_sum 2 = .ok (.iadd, 1) := by decide +kernel
theorem d_Mo_sum_3 : decode b_Mo_sum 3 = .ok (.iload 4, 2) := by decide +kernel
theorem d_Mo_sum_5 : decode b_Mo_sum 5 = .ok (.ifCond .eq 11, 3) := by decide +kernel
theorem d_Mo_sum_8 : decode b_Mo_sum 8 = .ok (.sipush 256, 3) := by decide +kernel
theorem d_Mo_sum_11 : decode b_Mo_sum 11 = .ok (.iload_n 3, 1) := by decide +kernel
theorem d_Mo_sum_12 : decode b_Mo_sum 12 = .ok (.imul, 1) := by decide +kernel
theorem d_Mo_sum_13 : decode b_Mo_sum 13 = .ok (.goto 4, 3) := by decide +kernel
theorem d_Mo_sum_16 : decode b_Mo_sum 16 = .ok (.iload_n 3, 1) := by decide +kernel
theorem d_Mo_sum_17 : decode b_Mo_sum 17 = .ok (.iadd, 1) := by decide +kernel
theorem d_Mo_sum_18 : decode b_Mo_sum 18 = .ok (.istore 5, 2) := by decide +kernel
theorem d_Mo_sum_20 : decode b_Mo_sum 20 = .ok (.iload 5, 2) := by decide +kernel
theorem d_Mo_sum_22 : decode b_Mo_sum 22 = .ok (.ldc 24, 2) := by decide +kernel
theorem d_Mo_sum_24 : decode b_Mo_sum 24 = .ok (.iand, 1) := by decide +kernel
theorem d_Mo_sum_25 : decode b_Mo_sum 25 = .ok (.istore 6, 2) := by decide +kernel
theorem d_Mo_sum_27 : decode b_Mo_sum 27 = .ok (.aload_n 0, 1) := by decide +kernel
theorem d_Mo_sum_28 : decode b_Mo_sum 28 = .ok (.sipush 4096, 3) := by decide +kernel
theorem d_Mo_sum_31 : decode b_Mo_sum 31 = .ok (.iload 5, 2) := by decide +kernel
theorem d_Mo_sum_33 : decode b_Mo_sum 33 = .ok (.ldc 24, 2) := by decide +kernel
theorem d_Mo_sum_35 : decode b_Mo_sum 35 = .ok (.if_icmp .le 7, 3) := by decide +kernel
theorem d_Mo_sum_38 : decode b_Mo_sum 38 = .ok (.iconst 1, 1) := by decide +kernel
theorem d_Mo_sum_39 : decode b_Mo_sum 39 = .ok (.goto 4, 3) := by decide +kernel
theorem d_Mo_sum_42 : decode b_Mo_sum 42 = .ok (.iconst 0, 1) := by decide +kernel
theorem d_Mo_sum_43 : decode b_Mo_sum 43 = .ok (.invokevirtual 61, 3) := by decide +kernel
theorem d_Mo_sum_46 : decode b_Mo_sum 46 = .ok (.aload_n 0, 1) := by decide +kernel
theorem d_Mo_sum_47 : decode b_Mo_sum 47 = .ok (.sipush 2048, 3) := by decide +kernel
theorem d_Mo_sum_50 : decode b_Mo_sum 50 = .ok (.iload_n 1, 1) := by decide +kernel
theorem d_Mo_sum_51 : decode b_Mo_sum 51 = .ok (.iload 6, 2) := by decide +kernel
theorem d_Mo_sum_53 : decode b_Mo_sum 53 = .ok (.ixor, 1) := by decide +kernel
theorem d_Mo_sum_54 : decode b_Mo_sum 54 = .ok (.iload_n 2, 1) := by decide +kernel
theorem d_Mo_sum_55 : decode b_Mo_sum 55 = .ok (.iload 6, 2) := by decide +kernel
theorem d_Mo_sum_57 : decode b_Mo_sum 57 = .ok (.ixor, 1) := by decide +kernel
theorem d_Mo_sum_58 : decode b_Mo_sum 58 = .ok (.iand, 1) := by decide +kernel
theorem d_Mo_sum_59 : decode b_Mo_sum 59 = .ok (.ldc 60, 2) := by decide +kernel
theorem d_Mo_sum_61 : decode b_Mo_sum 61 = .ok (.iand, 1) := by decide +kernel
theorem d_Mo_sum_62 : decode b_Mo_sum 62 = .ok (.ifCond .eq 7, 3) := by decide +kernel
theorem d_Mo_sum_65 : decode b_Mo_sum 65 = .ok (.iconst 1, 1) := by decide +kernel
theorem d_Mo_sum_66 : decode b_Mo_sum 66 = .ok (.goto 4, 3) := by decide +kernel
theorem d_Mo_sum_69 : decode b_Mo_sum 69 = .ok (.iconst 0, 1) := by decide +kernel
theorem d_Mo_sum_70 : decode b_Mo_sum 70 = .ok (.invokevirtual 61, 3) := by decide +kernel
theorem d_Mo_sum_73 : decode b_Mo_sum 73 = .ok (.iload 6, 2) := by decide +kernel
theorem d_Mo_sum_75 : decode b_Mo_sum 75 = .ok (.ireturn, 1) := by decide +kernel
theorem d_Mo_change_0 : decode b_Mo_change 0 = .ok (.aload_n 0, 1) := by decide +kernel
theorem d_Mo_change_1 : decode b_Mo_change 1 = .ok (.iload_n 1, 1) := by decide +kernel
theorem d_Mo_change_2 : decode b_Mo_change 2 = .ok (.invokevirtual 28, 3) := by decide +kernel
theorem d_Mo_change_5 : decode b_Mo_change 5 = .ok (.istore_n 2, 1) := by decide +kernel
theorem d_Mo_change_6 : decode b_Mo_change 6 = .ok (.aload_n 0, 1) := by decide +kernel
theorem d_Mo_change_7 : decode b_Mo_change 7 = .ok (.iload_n 1, 1) := by decide +kernel
theorem d_Mo_change_8 : decode b_Mo_change 8 = .ok (.iconst 2, 1) := by decide +kernel
theorem d_Mo_change_9 : decode b_Mo_change 9 = .ok (.iadd, 1) := by decide +kernel
theorem d_Mo_change_10 : decode b_Mo_change 10 = .ok (.invokevirtual 28, 3) := by decide +kernel
theorem d_Mo_change_13 : decode b_Mo_change 13 = .ok (.istore_n 3, 1) := by decide +kernel
theorem d_Mo_change_14 : decode b_Mo_change 14 = .ok (.aload_n 0, 1) := by decide +kernel
theorem d_Mo_change_15 : decode b_Mo_change 15 = .ok (.getfield 25, 3) := by decide +kernel
theorem d_Mo_change_18 : decode b_Mo_change 18 = .ok (.istore 4, 2) := by decide +kernel
theorem d_Mo_change_20 : decode b_Mo_change 20 = .ok (.aload_n 0, 1) := by decide +kernel
theorem d_Mo_change_21 : decode b_Mo_change 21 = .ok (.iload_n 2, 1) := by decide +kernel
theorem d_Mo_change_22 : decode b_Mo_change 22 = .ok (.sipush 1022, 3) := by decide +kernel
theorem d_Mo_change_25 : decode b_Mo_change 25 = .ok (.iand, 1) := by decide +kernel
theorem d_Mo_change_26 : decode b_Mo_change 26 = .ok (.putfield 25, 3) := by decide +kernel
theorem d_Mo_change_29 : decode b_Mo_change 29 = .ok (.aload_n 0, 1) := by decide +kernel
theorem d_Mo_change_30 : decode b_Mo_change 30 = .ok (.bipush 13, 2) := by decide +kernel
theorem d_Mo_change_32 : decode b_Mo_change 32 = .ok (.iload 4, 2) := by decide +kernel
theorem d_Mo_change_34 : decode b_Mo_change 34 = .ok (.invokevirtual 53, 3) := by decide +kernel
theorem d_Mo_change_37 : decode b_Mo_change 37 = .ok (.aload_n 0, 1) := by decide +kernel
theorem d_Mo_change_38 : decode b_Mo_change 38 = .ok (.bipush 14, 2) := by decide +kernel
theorem d_Mo_change_40 : decode b_Mo_change 40 = .ok (.aload_n 0, 1) := by decide +kernel
theorem d_Mo_change_41 : decode b_Mo_change 41 = .ok (.getfield 36, 3) := by decide +kernel
theorem d_Mo_change_44 : decode b_Mo_change 44 = .ok (.invokevirtual 53, 3) := by decide +kernel
theorem d_Mo_change_47 : decode b_Mo_change 47 = .ok (.aload_n 0, 1) := by decide +kernel
theorem d_Mo_change_48 : decode b_Mo_change 48 = .ok (.bipush 15, 2) := by decide +kernel
theorem d_Mo_change_50 : decode b_Mo_change 50 = .ok (.aload_n 0, 1) := by decide +kernel
theorem d_Mo_change_51 : decode b_Mo_change 51 = .ok (.getfield 56, 3) := by decide +kernel
theorem d_Mo_change_54 : decode b_Mo_change 54 = .ok (.invokevirtual 53, 3) := by decide +kernel
theorem d_Mo_change_57 : decode b_Mo_change 57 = .ok (.aload_n 0, 1) := by decide +kernel
theorem d_Mo_change_58 : decode b_Mo_change 58 = .ok (.iload_n 3, 1) := by decide +kernel
theorem d_Mo_change_59 : decode b_Mo_change 59 = .ok (.sipush 1022, 3) := by decide +kernel
theorem d_Mo_change_62 : decode b_Mo_change 62 = .ok (.iand, 1) := by decide +kernel
theorem d_Mo_change_63 : decode b_Mo_change 63 = .ok (.putfield 36, 3) := by decide +kernel
theorem d_Mo_change_66 : decode b_Mo_change 66 = .ok (.return_, 1) := by decide +kernel
theorem d_Mo_setMask_0 : decode b_Mo_setMask 0 = .ok (.aload_n 0, 1) := by decide +kernel
theorem d_Mo_setMask_1 : decode b_Mo_setMask 1 = .ok (.aload_n 0, 1) := by decide +kernel
theorem d_Mo_setMask_2 : decode b_Mo_setMask 2 = .ok (.getfield 56, 3) := by decide +kernel
theorem d_Mo_setMask_5 : decode b_Mo_setMask 5 = .ok (.bipush (-16), 2) := by decide +kernel
theorem d_Mo_setMask_7 : decode b_Mo_setMask 7 = .ok (.iand, 1) := by decide +kernel
theorem d_Mo_setMask_8 : decode b_Mo_setMask 8 = .ok (.iload_n 1, 1) := by decide +kernel
theorem d_Mo_setMask_9 : decode b_Mo_setMask 9 = .ok (.bipush 15, 2) := by decide +kernel
theorem d_Mo_setMask_11 : decode b_Mo_setMask 11 = .ok (.iand, 1) := by decide +kernel
theorem d_Mo_setMask_12 : decode b_Mo_setMask 12 = .ok (.ior, 1) := by decide +kernel
theorem d_Mo_setMask_13 : decode b_Mo_setMask 13 = .ok (.putfield 56, 3) := by decide +kernel
theorem d_Mo_setMask_16 : decode b_Mo_setMask 16 = .ok (.return_, 1) := by decide +kernel
theorem d_Mo_known_0 : decode b_Mo_known 0 = .ok (.iload_n 0, 1) := by decide +kernel
theorem d_Mo_known_1 : decode b_Mo_known 1 = .ok (.sipush 4096, 3) := by decide +kernel
theorem d_Mo_known_4 : decode b_Mo_known 4 = .ok (.if_icmp .lt 5, 3) := by decide +kernel
theorem d_Mo_known_7 : decode b_Mo_known 7 = .ok (.iconst 1, 1) := by decide +kernel
theorem d_Mo_known_8 : decode b_Mo_known 8 = .ok (.ireturn, 1) := by decide +kernel
theorem d_Mo_known_9 : decode b_Mo_known 9 = .ok (.iload_n 0, 1) := by decide +kernel
theorem d_Mo_known_10 : decode b_Mo_known 10 = .ok (.sipush 2048, 3) := by decide +kernel
theorem d_Mo_known_13 : decode b_Mo_known 13 = .ok (.if_icmp .lt 16, 3) := by decide +kernel
theorem d_Mo_known_16 : decode b_Mo_known 16 = .ok (.iload_n 0, 1) := by decide +kernel
theorem d_Mo_known_17 : decode b_Mo_known 17 = .ok (.sipush 3072, 3) := by decide +kernel
theorem d_Mo_known_20 : decode b_Mo_known 20 = .ok (.if_icmp .ge 7, 3) := by decide +kernel
theorem d_Mo_known_23 : decode b_Mo_known 23 = .ok (.iconst 1, 1) := by decide +kernel
theorem d_Mo_known_24 : decode b_Mo_known 24 = .ok (.goto 4, 3) := by decide +kernel
theorem d_Mo_known_27 : decode b_Mo_known 27 = .ok (.iconst 0, 1) := by decide +kernel
theorem d_Mo_known_28 : decode b_Mo_known 28 = .ok (.ireturn, 1) := by decide +kernel
theorem d_Mo_known_29 : decode b_Mo_known 29 = .ok (.iload_n 0, 1) := by decide +kernel
theorem d_Mo_known_30 : decode b_Mo_known 30 = .ok (.sipush 1024, 3) := by decide +kernel
theorem d_Mo_known_33 : decode b_Mo_known 33 = .ok (.if_icmp .lt 16, 3) := by decide +kernel
theorem d_Mo_known_36 : decode b_Mo_known 36 = .ok (.iload_n 0, 1) := by decide +kernel
theorem d_Mo_known_37 : decode b_Mo_known 37 = .ok (.sipush 1920, 3) := by decide +kernel
theorem d_Mo_known_40 : decode b_Mo_known 40 = .ok (.if_icmp .ge 7, 3) := by decide +kernel
theorem d_Mo_known_43 : decode b_Mo_known 43 = .ok (.iconst 1, 1) := by decide +kernel
theorem d_Mo_known_44 : decode b_Mo_known 44 = .ok (.goto 4, 3) := by decide +kernel
theorem d_Mo_known_47 : decode b_Mo_known 47 = .ok (.iconst 0, 1) := by decide +kernel
theorem d_Mo_known_48 : decode b_Mo_known 48 = .ok (.ireturn, 1) := by decide +kernel
theorem d_Mo_known_49 : decode b_Mo_known 49 = .ok (.iload_n 0, 1) := by decide +kernel
theorem d_Mo_known_50 : decode b_Mo_known 50 = .ok (.sipush 512, 3) := by decide +kernel
theorem d_Mo_known_53 : decode b_Mo_known 53 = .ok (.if_icmp .lt 25, 3) := by decide +kernel
theorem d_Mo_known_56 : decode b_Mo_known 56 = .ok (.iload_n 0, 1) := by decide +kernel
theorem d_Mo_known_57 : decode b_Mo_known 57 = .ok (.bipush 16, 2) := by decide +kernel
theorem d_Mo_known_59 : decode b_Mo_known 59 = .ok (.iand, 1) := by decide +kernel
theorem d_Mo_known_60 : decode b_Mo_known 60 = .ok (.ifCond .ne 18, 3) := by decide +kernel
theorem d_Mo_known_63 : decode b_Mo_known 63 = .ok (.iload_n 0, 1) := by decide +kernel
theorem d_Mo_known_64 : decode b_Mo_known 64 = .ok (.iconst 5, 1) := by decide +kernel
theorem d_Mo_known_65 : decode b_Mo_known 65 = .ok (.ishr, 1) := by decide +kernel
theorem d_Mo_known_66 : decode b_Mo_known 66 = .ok (.bipush 15, 2) := by decide +kernel
theorem d_Mo_known_68 : decode b_Mo_known 68 = .ok (.iand, 1) := by decide +kernel
theorem d_Mo_known_69 : decode b_Mo_known 69 = .ok (.bipush 9, 2) := by decide +kernel
theorem d_Mo_known_71 : decode b_Mo_known 71 = .ok (.if_icmp .eq 7, 3) := by decide +kernel
theorem d_Mo_known_74 : decode b_Mo_known 74 = .ok (.iconst 1, 1) := by decide +kernel
theorem d_Mo_known_75 : decode b_Mo_known 75 = .ok (.goto 4, 3) := by decide +kernel
theorem d_Mo_known_78 : decode b_Mo_known 78 = .ok (.iconst 0, 1) := by decide +kernel
theorem d_Mo_known_79 : decode b_Mo_known 79 = .ok (.ireturn, 1) := by decide +kernel
theorem d_Mo_isX_0 : decode b_Mo_isX 0 = .ok (.iload_n 0, 1) := by decide +kernel
theorem d_Mo_isX_1 : decode b_Mo_isX 1 = .ok (.sipush 1152, 3) := by decide +kernel
theorem d_Mo_isX_4 : decode b_Mo_isX 4 = .ok (.if_icmp .lt 14, 3) := by decide +kernel
theorem d_Mo_isX_7 : decode b_Mo_isX 7 = .ok (.iload_n 0, 1) := by decide +kernel
theorem d_Mo_isX_8 : decode b_Mo_isX 8 = .ok (.sipush 1216, 3) := by decide +kernel
theorem d_Mo_isX_11 : decode b_Mo_isX 11 = .ok (.if_icmp .ge 7, 3) := by decide +kernel
theorem d_Mo_isX_14 : decode b_Mo_isX 14 = .ok (.iconst 1, 1) := by decide +kernel
theorem d_Mo_isX_15 : decode b_Mo_isX 15 = .ok (.goto 4, 3) := by decide +kernel
theorem d_Mo_isX_18 : decode b_Mo_isX 18 = .ok (.iconst 0, 1) := by decide +kernel
theorem d_Mo_isX_19 : decode b_Mo_isX 19 = .ok (.ireturn, 1) := by decide +kernel
theorem d_Mo_twoOperands_0 : decode b_Mo_twoOperands 0 = .ok (.iload_n 1, 1) := by decide +kernel
theorem d_Mo_twoOperands_1 : decode b_Mo_twoOperands 1 = .ok (.bipush 12, 2) := by decide +kernel
theorem d_Mo_twoOperands_3 : decode b_Mo_twoOperands 3 = .ok (.ishr, 1) := by decide +kernel
theorem d_Mo_twoOperands_4 : decode b_Mo_twoOperands 4 = .ok (.istore_n 2, 1) := by decide +kernel
theorem d_Mo_twoOperands_5 : decode b_Mo_twoOperands 5 = .ok (.iload_n 2, 1) := by decide +kernel
theorem d_Mo_twoOperands_6 : decode b_Mo_twoOperands 6 = .ok (.iconst 1, 1) := by decide +kernel
theorem d_Mo_twoOperands_7 : decode b_Mo_twoOperands 7 = .ok (.iand, 1) := by decide +kernel
theorem d_Mo_twoOperands_8 : decode b_Mo_twoOperands 8 = .ok (.iconst 1, 1) := by decide +kernel
theorem d_Mo_twoOperands_9 : decode b_Mo_twoOperands 9 = .ok (.if_icmp .ne 7, 3) := by decide +kernel
theorem d_Mo_twoOperands_12 : decode b_Mo_twoOperands 12 = .ok (.iconst 1, 1) := by decide +kernel
theorem d_Mo_twoOperands_13 : decode b_Mo_twoOperands 13 = .ok (.goto 4, 3) := by decide +kernel
theorem d_Mo_twoOperands_16 : decode b_Mo_twoOperands 16 = .ok (.iconst 0, 1) := by decide +kernel
theorem d_Mo_twoOperands_17 : decode b_Mo_twoOperands 17 = .ok (.istore_n 3, 1) := by decide +kernel
theorem d_Mo_twoOperands_18 : decode b_Mo_twoOperands 18 = .ok (.aload_n 0, 1) := by decide +kernel
theorem d_Mo_twoOperands_19 : decode b_Mo_twoOperands 19 = .ok (.aload_n 0, 1) := by decide +kernel
theorem d_Mo_twoOperands_20 : decode b_Mo_twoOperands 20 = .ok (.iload_n 1, 1) := by decide +kernel
theorem d_Mo_twoOperands_21 : decode b_Mo_twoOperands 21 = .ok (.bipush 63, 2) := by decide +kernel
theorem d_Mo_twoOperands_23 : decode b_Mo_twoOperands 23 = .ok (.iand, 1) := by decide +kernel
theorem d_Mo_twoOperands_24 : decode b_Mo_twoOperands 24 = .ok (.iload_n 3, 1) := by decide +kernel
theorem d_Mo_twoOperands_25 : decode b_Mo_twoOperands 25 = .ok (.invokevirtual 71, 3) := by decide +kernel
theorem d_Mo_twoOperands_28 : decode b_Mo_twoOperands 28 = .ok (.iload_n 3, 1) := by decide +kernel
theorem d_Mo_twoOperands_29 : decode b_Mo_twoOperands 29 = .ok (.invokevirtual 75, 3) := by decide +kernel
theorem d_Mo_twoOperands_32 : decode b_Mo_twoOperands 32 = .ok (.istore 4, 2) := by decide +kernel
theorem d_Mo_twoOperands_34 : decode b_Mo_twoOperands 34 = .ok (.aload_n 0, 1) := by decide +kernel
theorem d_Mo_twoOperands_35 : decode b_Mo_twoOperands 35 = .ok (.iload_n 1, 1) := by decide +kernel
theorem d_Mo_twoOperands_36 : decode b_Mo_twoOperands 36 = .ok (.bipush 6, 2) := by decide +kernel
theorem d_Mo_twoOperands_38 : decode b_Mo_twoOperands 38 = .ok (.ishr, 1) := by decide +kernel
theorem d_Mo_twoOperands_39 : decode b_Mo_twoOperands 39 = .ok (.bipush 63, 2) := by decide +kernel
theorem d_Mo_twoOperands_41 : decode b_Mo_twoOperands 41 = .ok (.iand, 1) := by decide +kernel
theorem d_Mo_twoOperands_42 : decode b_Mo_twoOperands 42 = .ok (.iload_n 3, 1) := by decide +kernel
theorem d_Mo_twoOperands_43 : decode b_Mo_twoOperands 43 = .ok (.invokevirtual 71, 3) := by decide +kernel
theorem d_Mo_twoOperands_46 : decode b_Mo_twoOperands 46 = .ok (.istore 5, 2) := by decide +kernel
theorem d_Mo_twoOperands_48 : decode b_Mo_twoOperands 48 = .ok (.aload_n 0, 1) := by decide +kernel
theorem d_Mo_twoOperands_49 : decode b_Mo_twoOperands 49 = .ok (.iload 5, 2) := by decide +kernel
theorem d_Mo_twoOperands_51 : decode b_Mo_twoOperands 51 = .ok (.iload_n 3, 1) := by decide +kernel
theorem d_Mo_twoOperands_52 : decode b_Mo_twoOperands 52 = .ok (.invokevirtual 75, 3) := by decide +kernel
theorem d_Mo_twoOperands_55 : decode b_Mo_twoOperands 55 = .ok (.istore 6, 2) := by decide +kernel
theorem d_Mo_twoOperands_57 : decode b_Mo_twoOperands 57 = .ok (.iload 4, 2) := by decide +kernel
theorem d_Mo_twoOperands_59 : decode b_Mo_twoOperands 59 = .ok (.iload_n 3, 1) := by decide +kernel
theorem d_Mo_twoOperands_60 : decode b_Mo_twoOperands 60 = .ok (.ifCond .eq 8, 3) := by decide +kernel
theorem d_Mo_twoOperands_63 : decode b_Mo_twoOperands 63 = .ok (.ldc 39, 2) := by decide +kernel
theorem d_Mo_twoOperands_65 : decode b_Mo_twoOperands 65 = .ok (.goto 5, 3) := by decide +kernel
theorem d_Mo_twoOperands_68 : decode b_Mo_twoOperands 68 = .ok (.ldc 24, 2) := by decide +kernel
theorem d_Mo_twoOperands_70 : decode b_Mo_twoOperands 70 = .ok (.ixor, 1) := by decide +kernel
theorem d_Mo_twoOperands_71 : decode b_Mo_twoOperands 71 = .ok (.istore 7, 2) := by decide +kernel
theorem d_Mo_twoOperands_73 : decode b_Mo_twoOperands 73 = .ok (.iload 6, 2) := by decide +kernel
theorem d_Mo_twoOperands_75 : decode b_Mo_twoOperands 75 = .ok (.istore 8, 2) := by decide +kernel
theorem d_Mo_twoOperands_77 : decode b_Mo_twoOperands 77 = .ok (.iload_n 2, 1) := by decide +kernel
theorem d_Mo_twoOperands_78 : decode b_Mo_twoOperands 78 = .ok (.bipush 6, 2) := by decide +kernel
theorem d_Mo_twoOperands_80 : decode b_Mo_twoOperands 80 = .ok (.if_icmp .ge 13, 3) := by decide +kernel
theorem d_Mo_twoOperands_83 : decode b_Mo_twoOperands 83 = .ok (.iload 6, 2) := by decide +kernel
theorem d_Mo_twoOperands_85 : decode b_Mo_twoOperands 85 = .ok (.iload 7, 2) := by decide +kernel
theorem d_Mo_twoOperands_87 : decode b_Mo_twoOperands 87 = .ok (.iand, 1) := by decide +kernel
theorem d_Mo_twoOperands_88 : decode b_Mo_twoOperands 88 = .ok (.istore 8, 2) := by decide +kernel
theorem d_Mo_twoOperands_90 : decode b_Mo_twoOperands 90 = .ok (.goto 82, 3) := by decide +kernel
theorem d_Mo_twoOperands_93 : decode b_Mo_twoOperands 93 = .ok (.iload_n 2, 1) := by decide +kernel
theorem d_Mo_twoOperands_94 : decode b_Mo_twoOperands 94 = .ok (.bipush 8, 2) := by decide +kernel
theorem d_Mo_twoOperands_96 : decode b_Mo_twoOperands 96 = .ok (.if_icmp .ge 18, 3) := by decide +kernel
theorem d_Mo_twoOperands_99 : decode b_Mo_twoOperands 99 = .ok (.aload_n 0, 1) := by decide +kernel
theorem d_Mo_twoOperands_100 : decode b_Mo_twoOperands 100 = .ok (.iload 6, 2) := by decide +kernel
theorem d_Mo_twoOperands_102 : decode b_Mo_twoOperands 102 = .ok (.iload 7, 2) := by decide +kernel
theorem d_Mo_twoOperands_104 : decode b_Mo_twoOperands 104 = .ok (.iconst 1, 1) := by decide +kernel
theorem d_Mo_twoOperands_105 : decode b_Mo_twoOperands 105 = .ok (.iload_n 3, 1) := by decide +kernel
theorem d_Mo_twoOperands_106 : decode b_Mo_twoOperands 106 = .ok (.invokevirtual 78, 3) := by decide +kernel
theorem d_Mo_twoOperands_109 : decode b_Mo_twoOperands 109 = .ok (.istore 8, 2) := by decide +kernel
theorem d_Mo_twoOperands_111 : decode b_Mo_twoOperands 111 = .ok (.goto 61, 3) := by decide +kernel
theorem d_Mo_twoOperands_114 : decode b_Mo_twoOperands 114 = .ok (.iload_n 2, 1) := by decide +kernel
theorem d_Mo_twoOperands_115 : decode b_Mo_twoOperands 115 = .ok (.bipush 10, 2) := by decide +kernel
theorem d_Mo_twoOperands_117 : decode b_Mo_twoOperands 117 = .ok (.if_icmp .ge 14, 3) := by decide +kernel
theorem d_Mo_twoOperands_120 : decode b_Mo_twoOperands 120 = .ok (.aload_n 0, 1) := by decide +kernel
theorem d_Mo_twoOperands_121 : decode b_Mo_twoOperands 121 = .ok (.iload 4, 2) := by decide +kernel
theorem d_Mo_twoOperands_123 : decode b_Mo_twoOperands 123 = .ok (.iload 6, 2) := by decide +kernel
theorem d_Mo_twoOperands_125 : decode b_Mo_twoOperands 125 = .ok (.invokevirtual 68, 3) := by decide +kernel
theorem d_Mo_twoOperands_128 : decode b_Mo_twoOperands 128 = .ok (.goto 44, 3) := by decide +kernel
theorem d_Mo_twoOperands_131 : decode b_Mo_twoOperands 131 = .ok (.iload_n 2, 1) := by decide +kernel
theorem d_Mo_twoOperands_132 : decode b_Mo_twoOperands 132 = .ok (.bipush 12, 2) := by decide +kernel
theorem d_Mo_twoOperands_134 : decode b_Mo_twoOperands 134 = .ok (.if_icmp .ge 18, 3) := by decide +kernel
theorem d_Mo_twoOperands_137 : decode b_Mo_twoOperands 137 = .ok (.aload_n 0, 1) := by decide +kernel
theorem d_Mo_twoOperands_138 : decode b_Mo_twoOperands 138 = .ok (.iload 6, 2) := by decide +kernel
theorem d_Mo_twoOperands_140 : decode b_Mo_twoOperands 140 = .ok (.iload 4, 2) := by decide +kernel
theorem d_Mo_twoOperands_142 : decode b_Mo_twoOperands 142 = .ok (.iconst 0, 1) := by decide +kernel
theorem d_Mo_twoOperands_143 : decode b_Mo_twoOperands 143 = .ok (.iload_n 3, 1) := by decide +kernel
theorem d_Mo_twoOperands_144 : decode b_Mo_twoOperands 144 = .ok (.invokevirtual 78, 3) := by decide +kernel
theorem d_Mo_twoOperands_147 : decode b_Mo_twoOperands 147 = .ok (.istore 8, 2) := by decide +kernel
theorem d_Mo_twoOperands_149 : decode b_Mo_twoOperands 149 = .ok (.goto 23, 3) := by decide +kernel
theorem d_Mo_twoOperands_152 : decode b_Mo_twoOperands 152 = .ok (.iload_n 2, 1) := by decide +kernel
theorem d_Mo_twoOperands_153 : decode b_Mo_twoOperands 153 = .ok (.bipush 14, 2) := by decide +kernel
theorem d_Mo_twoOperands_155 : decode b_Mo_twoOperands 155 = .ok (.if_icmp .ge 10, 3) := by decide +kernel
theorem d_Mo_twoOperands_158 : decode b_Mo_twoOperands 158 = .ok (.iload 4, 2) := by decide +kernel
theorem d_Mo_twoOperands_160 : decode b_Mo_twoOperands 160 = .ok (.istore 8, 2) := by decide +kernel
theorem d_Mo_twoOperands_162 : decode b_Mo_twoOperands 162 = .ok (.goto 10, 3) := by decide +kernel
theorem d_Mo_twoOperands_165 : decode b_Mo_twoOperands 165 = .ok (.iload 6, 2) := by decide +kernel
theorem d_Mo_twoOperands_167 : decode b_Mo_twoOperands 167 = .ok (.iload 4, 2) := by decide +kernel
theorem d_Mo_twoOperands_169 : decode b_Mo_twoOperands 169 = .ok (.ior, 1) := by decide +kernel
theorem d_Mo_twoOperands_170 : decode b_Mo_twoOperands 170 = .ok (.istore 8, 2) := by decide +kernel
theorem d_Mo_twoOperands_172 : decode b_Mo_twoOperands 172 = .ok (.iload_n 2, 1) := by decide +kernel
theorem d_Mo_twoOperands_173 : decode b_Mo_twoOperands 173 = .ok (.bipush 8, 2) := by decide +kernel
theorem d_Mo_twoOperands_175 : decode b_Mo_twoOperands 175 = .ok (.if_icmp .eq 24, 3) := by decide +kernel
theorem d_Mo_twoOperands_178 : decode b_Mo_twoOperands 178 = .ok (.iload_n 2, 1) := by decide +kernel
theorem d_Mo_twoOperands_179 : decode b_Mo_twoOperands 179 = .ok (.bipush 9, 2) := by decide +kernel
theorem d_Mo_twoOperands_181 : decode b_Mo_twoOperands 181 = .ok (.if_icmp .eq 18, 3) := by decide +kernel
theorem d_Mo_twoOperands_184 : decode b_Mo_twoOperands 184 = .ok (.aload_n 0, 1) := by decide +kernel
theorem d_Mo_twoOperands_185 : decode b_Mo_twoOperands 185 = .ok (.iload 8, 2) := by decide +kernel
theorem d_Mo_twoOperands_187 : decode b_Mo_twoOperands 187 = .ok (.invokevirtual 82, 3) := by decide +kernel
theorem d_Mo_twoOperands_190 : decode b_Mo_twoOperands 190 = .ok (.aload_n 0, 1) := by decide +kernel
theorem d_Mo_twoOperands_191 : decode b_Mo_twoOperands 191 = .ok (.iload 5, 2) := by decide +kernel
theorem d_Mo_twoOperands_193 : decode b_Mo_twoOperands 193 = .ok (.iload 8, 2) := by decide +kernel
theorem d_Mo_twoOperands_195 : decode b_Mo_twoOperands 195 = .ok (.iload_n 3, 1) := by decide +kernel
theorem d_Mo_twoOperands_196 : decode b_Mo_twoOperands 196 = .ok (.invokevirtual 86, 3) := by decide +kernel
theorem d_Mo_twoOperands_199 : decode b_Mo_twoOperands 199 = .ok (.iload_n 3, 1) := by decide +kernel
theorem d_Mo_twoOperands_200 : decode b_Mo_twoOperands 200 = .ok (.ifCond .eq 20, 3) := by decide +kernel
theorem d_Mo_twoOperands_203 : decode b_Mo_twoOperands 203 = .ok (.aload_n 0, 1) := by decide +kernel
theorem d_Mo_twoOperands_204 : decode b_Mo_twoOperands 204 = .ok (.iload_n 2, 1) := by decide +kernel
theorem d_Mo_twoOperands_205 : decode b_Mo_twoOperands 205 = .ok (.bipush 9, 2) := by decide +kernel
theorem d_Mo_twoOperands_207 : decode b_Mo_twoOperands 207 = .ok (.if_icmp .ne 8, 3) := by decide +kernel
theorem d_Mo_twoOperands_210 : decode b_Mo_twoOperands 210 = .ok (.iload 4, 2) := by decide +kernel
theorem d_Mo_twoOperands_212 : decode b_Mo_twoOperands 212 = .ok (.goto 5, 3) := by decide +kernel
theorem d_Mo_twoOperands_215 : decode b_Mo_twoOperands 215 = .ok (.iload 8, 2) := by decide +kernel
theorem d_Mo_twoOperands_217 : decode b_Mo_twoOperands 217 = .ok (.invokevirtual 90, 3) := by decide +kernel
theorem d_Mo_twoOperands_220 : decode b_Mo_twoOperands 220 = .ok (.return_, 1) := by decide +kernel
theorem d_Mo_base_0 : decode b_Mo_base 0 = .ok (.aload_n 0, 1) := by decide +kernel
theorem d_Mo_base_1 : decode b_Mo_base 1 = .ok (.bipush 12, 2) := by decide +kernel
theorem d_Mo_base_3 : decode b_Mo_base 3 = .ok (.invokevirtual 40, 3) := by decide +kernel
theorem d_Mo_base_6 : decode b_Mo_base 6 = .ok (.iconst 1, 1) := by decide +kernel
theorem d_Mo_base_7 : decode b_Mo_base 7 = .ok (.ishr, 1) := by decide +kernel
theorem d_Mo_base_8 : decode b_Mo_base 8 = .ok (.ireturn, 1) := by decide +kernel
theorem d_Mo_lineOperand_0 : decode b_Mo_lineOperand 0 = .ok (.iload_n 1, 1) := by decide +kernel
theorem d_Mo_lineOperand_1 : decode b_Mo_lineOperand 1 = .ok (.bipush 6, 2) := by decide +kernel
theorem d_Mo_lineOperand_3 : decode b_Mo_lineOperand 3 = .ok (.ishr, 1) := by decide +kernel
theorem d_Mo_lineOperand_4 : decode b_Mo_lineOperand 4 = .ok (.bipush 15, 2) := by decide +kernel
theorem d_Mo_lineOperand_6 : decode b_Mo_lineOperand 6 = .ok (.iand, 1) := by decide +kernel
theorem d_Mo_lineOperand_7 : decode b_Mo_lineOperand 7 = .ok (.ifCond .ne 8, 3) := by decide +kernel
theorem d_Mo_lineOperand_10 : decode b_Mo_lineOperand 10 = .ok (.bipush 16, 2) := by decide +kernel
theorem d_Mo_lineOperand_12 : decode b_Mo_lineOperand 12 = .ok (.goto 10, 3) := by decide +kernel
theorem d_Mo_lineOperand_15 : decode b_Mo_lineOperand 15 = .ok (.iload_n 1, 1) := by decide +kernel
theorem d_Mo_lineOperand_16 : decode b_Mo_lineOperand 16 = .ok (.bipush 6, 2) := by decide +kernel
theorem d_Mo_lineOperand_18 : decode b_Mo_lineOperand 18 = .ok (.ishr, 1) := by decide +kernel
theorem d_Mo_lineOperand_19 : decode b_Mo_lineOperand 19 = .ok (.bipush 15, 2) := by decide +kernel
theorem d_Mo_lineOperand_21 : decode b_Mo_lineOperand 21 = .ok (.iand, 1) := by decide +kernel
theorem d_Mo_lineOperand_22 : decode b_Mo_lineOperand 22 = .ok (.istore_n 3, 1) := by decide +kernel
theorem d_Mo_lineOperand_23 : decode b_Mo_lineOperand 23 = .ok (.iload_n 3, 1) := by decide +kernel
theorem d_Mo_lineOperand_24 : decode b_Mo_lineOperand 24 = .ok (.bipush 8, 2) := by decide +kernel
theorem d_Mo_lineOperand_26 : decode b_Mo_lineOperand 26 = .ok (.if_icmp .gt 7, 3) := by decide +kernel
theorem d_Mo_lineOperand_29 : decode b_Mo_lineOperand 29 = .ok (.iconst 1, 1) := by decide +kernel
theorem d_Mo_lineOperand_30 : decode b_Mo_lineOperand 30 = .ok (.goto 4, 3) := by decide +kernel
theorem d_Mo_lineOperand_33 : decode b_Mo_lineOperand 33 = .ok (.iconst 0, 1) := by decide +kernel
theorem d_Mo_lineOperand_34 : decode b_Mo_lineOperand 34 = .ok (.istore 4, 2) := by decide +kernel
theorem d_Mo_lineOperand_36 : decode b_Mo_lineOperand 36 = .ok (.aload_n 0, 1) := by decide +kernel
theorem d_Mo_lineOperand_37 : decode b_Mo_lineOperand 37 = .ok (.iload_n 1, 1) := by decide +kernel
theorem d_Mo_lineOperand_38 : decode b_Mo_lineOperand 38 = .ok (.bipush 63, 2) := by decide +kernel
theorem d_Mo_lineOperand_40 : decode b_Mo_lineOperand 40 = .ok (.iand, 1) := by decide +kernel
theorem d_Mo_lineOperand_41 : decode b_Mo_lineOperand 41 = .ok (.iload 4, 2) := by decide +kernel
theorem d_Mo_lineOperand_43 : decode b_Mo_lineOperand 43 = .ok (.invokevirtual 71, 3) := by decide +kernel
theorem d_Mo_lineOperand_46 : decode b_Mo_lineOperand 46 = .ok (.istore 5, 2) := by decide +kernel
theorem d_Mo_lineOperand_48 : decode b_Mo_lineOperand 48 = .ok (.iload 4, 2) := by decide +kernel
theorem d_Mo_lineOperand_50 : decode b_Mo_lineOperand 50 = .ok (.ifCond .eq 8, 3) := by decide +kernel
theorem d_Mo_lineOperand_53 : decode b_Mo_lineOperand 53 = .ok (.bipush 8, 2) := by decide +kernel
theorem d_Mo_lineOperand_55 : decode b_Mo_lineOperand 55 = .ok (.goto 4, 3) := by decide +kernel
end
section
/-! decode rows, laid by gen.py -/
theorem d_Mo_lineOperand_58 : decode b_Mo_lineOperand 58 = .ok (.iconst 0, 1) := by decide +kernel
theorem d_Mo_lineOperand_59 : decode b_Mo_lineOperand 59 = .ok (.istore 6, 2) := by decide +kernel
theorem d_Mo_lineOperand_61 : decode b_Mo_lineOperand 61 = .ok (.iload_n 2, 1) := by decide +kernel
theorem d_Mo_lineOperand_62 : decode b_Mo_lineOperand 62 = .ok (.ifCond .eq 14, 3) := by decide +kernel
theorem d_Mo_lineOperand_65 : decode b_Mo_lineOperand 65 = .ok (.aload_n 0, 1) := by decide +kernel
theorem d_Mo_lineOperand_66 : decode b_Mo_lineOperand 66 = .ok (.iload 5, 2) := by decide +kernel
theorem d_Mo_lineOperand_68 : decode b_Mo_lineOperand 68 = .ok (.iload 4, 2) := by decide +kernel
theorem d_Mo_lineOperand_70 : decode b_Mo_lineOperand 70 = .ok (.invokevirtual 75, 3) := by decide +kernel
theorem d_Mo_lineOperand_73 : decode b_Mo_lineOperand 73 = .ok (.goto 4, 3) := by decide +kernel
theorem d_Mo_lineOperand_76 : decode b_Mo_lineOperand 76 = .ok (.iconst 0, 1) := by decide +kernel
theorem d_Mo_lineOperand_77 : decode b_Mo_lineOperand 77 = .ok (.istore 7, 2) := by decide +kernel
theorem d_Mo_lineOperand_79 : decode b_Mo_lineOperand 79 = .ok (.iconst 0, 1) := by decide +kernel
theorem d_Mo_lineOperand_80 : decode b_Mo_lineOperand 80 = .ok (.istore 8, 2) := by decide +kernel
theorem d_Mo_lineOperand_82 : decode b_Mo_lineOperand 82 = .ok (.iload 8, 2) := by decide +kernel
theorem d_Mo_lineOperand_84 : decode b_Mo_lineOperand 84 = .ok (.iload_n 3, 1) := by decide +kernel
theorem d_Mo_lineOperand_85 : decode b_Mo_lineOperand 85 = .ok (.if_icmp .ge 81, 3) := by decide +kernel
theorem d_Mo_lineOperand_88 : decode b_Mo_lineOperand 88 = .ok (.aload_n 0, 1) := by decide +kernel
theorem d_Mo_lineOperand_89 : decode b_Mo_lineOperand 89 = .ok (.invokevirtual 93, 3) := by decide +kernel
theorem d_Mo_lineOperand_92 : decode b_Mo_lineOperand 92 = .ok (.iload 8, 2) := by decide +kernel
theorem d_Mo_lineOperand_94 : decode b_Mo_lineOperand 94 = .ok (.iadd, 1) := by decide +kernel
theorem d_Mo_lineOperand_95 : decode b_Mo_lineOperand 95 = .ok (.bipush 63, 2) := by decide +kernel
theorem d_Mo_lineOperand_97 : decode b_Mo_lineOperand 97 = .ok (.iand, 1) := by decide +kernel
theorem d_Mo_lineOperand_98 : decode b_Mo_lineOperand 98 = .ok (.istore 9, 2) := by decide +kernel
theorem d_Mo_lineOperand_100 : decode b_Mo_lineOperand 100 = .ok (.iload_n 2, 1) := by decide +kernel
theorem d_Mo_lineOperand_101 : decode b_Mo_lineOperand 101 = .ok (.ifCond .eq 32, 3) := by decide +kernel
theorem d_Mo_lineOperand_104 : decode b_Mo_lineOperand 104 = .ok (.aload_n 0, 1) := by decide +kernel
theorem d_Mo_lineOperand_105 : decode b_Mo_lineOperand 105 = .ok (.getfield 13, 3) := by decide +kernel
theorem d_Mo_lineOperand_108 : decode b_Mo_lineOperand 108 = .ok (.iload 9, 2) := by decide +kernel
theorem d_Mo_lineOperand_110 : decode b_Mo_lineOperand 110 = .ok (.iload 7, 2) := by decide +kernel
theorem d_Mo_lineOperand_112 : decode b_Mo_lineOperand 112 = .ok (.iload 8, 2) := by decide +kernel
theorem d_Mo_lineOperand_114 : decode b_Mo_lineOperand 114 = .ok (.iload 6, 2) := by decide +kernel
theorem d_Mo_lineOperand_116 : decode b_Mo_lineOperand 116 = .ok (.iadd, 1) := by decide +kernel
theorem d_Mo_lineOperand_117 : decode b_Mo_lineOperand 117 = .ok (.ishr, 1) := by decide +kernel
theorem d_Mo_lineOperand_118 : decode b_Mo_lineOperand 118 = .ok (.iconst 1, 1) := by decide +kernel
theorem d_Mo_lineOperand_119 : decode b_Mo_lineOperand 119 = .ok (.iand, 1) := by decide +kernel
theorem d_Mo_lineOperand_120 : decode b_Mo_lineOperand 120 = .ok (.iconst 1, 1) := by decide +kernel
theorem d_Mo_lineOperand_121 : decode b_Mo_lineOperand 121 = .ok (.if_icmp .ne 7, 3) := by decide +kernel
theorem d_Mo_lineOperand_124 : decode b_Mo_lineOperand 124 = .ok (.iconst 1, 1) := by decide +kernel
theorem d_Mo_lineOperand_125 : decode b_Mo_lineOperand 125 = .ok (.goto 4, 3) := by decide +kernel
theorem d_Mo_lineOperand_128 : decode b_Mo_lineOperand 128 = .ok (.iconst 0, 1) := by decide +kernel
theorem d_Mo_lineOperand_129 : decode b_Mo_lineOperand 129 = .ok (.bastore, 1) := by decide +kernel
theorem d_Mo_lineOperand_130 : decode b_Mo_lineOperand 130 = .ok (.goto 30, 3) := by decide +kernel
theorem d_Mo_lineOperand_133 : decode b_Mo_lineOperand 133 = .ok (.aload_n 0, 1) := by decide +kernel
theorem d_Mo_lineOperand_134 : decode b_Mo_lineOperand 134 = .ok (.getfield 13, 3) := by decide +kernel
theorem d_Mo_lineOperand_137 : decode b_Mo_lineOperand 137 = .ok (.iload 9, 2) := by decide +kernel
theorem d_Mo_lineOperand_139 : decode b_Mo_lineOperand 139 = .ok (.baload, 1) := by decide +kernel
theorem d_Mo_lineOperand_140 : decode b_Mo_lineOperand 140 = .ok (.ifCond .eq 16, 3) := by decide +kernel
theorem d_Mo_lineOperand_143 : decode b_Mo_lineOperand 143 = .ok (.iload 7, 2) := by decide +kernel
theorem d_Mo_lineOperand_145 : decode b_Mo_lineOperand 145 = .ok (.iconst 1, 1) := by decide +kernel
theorem d_Mo_lineOperand_146 : decode b_Mo_lineOperand 146 = .ok (.iload 8, 2) := by decide +kernel
theorem d_Mo_lineOperand_148 : decode b_Mo_lineOperand 148 = .ok (.iload 6, 2) := by decide +kernel
theorem d_Mo_lineOperand_150 : decode b_Mo_lineOperand 150 = .ok (.iadd, 1) := by decide +kernel
theorem d_Mo_lineOperand_151 : decode b_Mo_lineOperand 151 = .ok (.ishl, 1) := by decide +kernel
theorem d_Mo_lineOperand_152 : decode b_Mo_lineOperand 152 = .ok (.ior, 1) := by decide +kernel
theorem d_Mo_lineOperand_153 : decode b_Mo_lineOperand 153 = .ok (.goto 5, 3) := by decide +kernel
theorem d_Mo_lineOperand_156 : decode b_Mo_lineOperand 156 = .ok (.iload 7, 2) := by decide +kernel
theorem d_Mo_lineOperand_158 : decode b_Mo_lineOperand 158 = .ok (.istore 7, 2) := by decide +kernel
theorem d_Mo_lineOperand_160 : decode b_Mo_lineOperand 160 = .ok (.iinc 8 1, 3) := by decide +kernel
theorem d_Mo_lineOperand_163 : decode b_Mo_lineOperand 163 = .ok (.goto (-81), 3) := by decide +kernel
theorem d_Mo_lineOperand_166 : decode b_Mo_lineOperand 166 = .ok (.aload_n 0, 1) := by decide +kernel
theorem d_Mo_lineOperand_167 : decode b_Mo_lineOperand 167 = .ok (.iload 7, 2) := by decide +kernel
theorem d_Mo_lineOperand_169 : decode b_Mo_lineOperand 169 = .ok (.invokevirtual 82, 3) := by decide +kernel
theorem d_Mo_lineOperand_172 : decode b_Mo_lineOperand 172 = .ok (.iload 4, 2) := by decide +kernel
theorem d_Mo_lineOperand_174 : decode b_Mo_lineOperand 174 = .ok (.ifCond .eq 9, 3) := by decide +kernel
theorem d_Mo_lineOperand_177 : decode b_Mo_lineOperand 177 = .ok (.aload_n 0, 1) := by decide +kernel
theorem d_Mo_lineOperand_178 : decode b_Mo_lineOperand 178 = .ok (.iload 7, 2) := by decide +kernel
theorem d_Mo_lineOperand_180 : decode b_Mo_lineOperand 180 = .ok (.invokevirtual 90, 3) := by decide +kernel
theorem d_Mo_lineOperand_183 : decode b_Mo_lineOperand 183 = .ok (.iload_n 2, 1) := by decide +kernel
theorem d_Mo_lineOperand_184 : decode b_Mo_lineOperand 184 = .ok (.ifCond .ne 13, 3) := by decide +kernel
theorem d_Mo_lineOperand_187 : decode b_Mo_lineOperand 187 = .ok (.aload_n 0, 1) := by decide +kernel
theorem d_Mo_lineOperand_188 : decode b_Mo_lineOperand 188 = .ok (.iload 5, 2) := by decide +kernel
theorem d_Mo_lineOperand_190 : decode b_Mo_lineOperand 190 = .ok (.iload 7, 2) := by decide +kernel
theorem d_Mo_lineOperand_192 : decode b_Mo_lineOperand 192 = .ok (.iload 4, 2) := by decide +kernel
theorem d_Mo_lineOperand_194 : decode b_Mo_lineOperand 194 = .ok (.invokevirtual 86, 3) := by decide +kernel
theorem d_Mo_lineOperand_197 : decode b_Mo_lineOperand 197 = .ok (.return_, 1) := by decide +kernel
theorem d_Mo_withRegister_0 : decode b_Mo_withRegister 0 = .ok (.iload_n 1, 1) := by decide +kernel
theorem d_Mo_withRegister_1 : decode b_Mo_withRegister 1 = .ok (.bipush 10, 2) := by decide +kernel
theorem d_Mo_withRegister_3 : decode b_Mo_withRegister 3 = .ok (.ishr, 1) := by decide +kernel
theorem d_Mo_withRegister_4 : decode b_Mo_withRegister 4 = .ok (.istore_n 2, 1) := by decide +kernel
theorem d_Mo_withRegister_5 : decode b_Mo_withRegister 5 = .ok (.iload_n 1, 1) := by decide +kernel
theorem d_Mo_withRegister_6 : decode b_Mo_withRegister 6 = .ok (.bipush 6, 2) := by decide +kernel
theorem d_Mo_withRegister_8 : decode b_Mo_withRegister 8 = .ok (.ishr, 1) := by decide +kernel
theorem d_Mo_withRegister_9 : decode b_Mo_withRegister 9 = .ok (.bipush 15, 2) := by decide +kernel
theorem d_Mo_withRegister_11 : decode b_Mo_withRegister 11 = .ok (.iand, 1) := by decide +kernel
theorem d_Mo_withRegister_12 : decode b_Mo_withRegister 12 = .ok (.istore_n 3, 1) := by decide +kernel
theorem d_Mo_withRegister_13 : decode b_Mo_withRegister 13 = .ok (.iload_n 2, 1) := by decide +kernel
theorem d_Mo_withRegister_14 : decode b_Mo_withRegister 14 = .ok (.bipush 12, 2) := by decide +kernel
theorem d_Mo_withRegister_16 : decode b_Mo_withRegister 16 = .ok (.if_icmp .eq 9, 3) := by decide +kernel
theorem d_Mo_withRegister_19 : decode b_Mo_withRegister 19 = .ok (.iload_n 2, 1) := by decide +kernel
theorem d_Mo_withRegister_20 : decode b_Mo_withRegister 20 = .ok (.bipush 13, 2) := by decide +kernel
theorem d_Mo_withRegister_22 : decode b_Mo_withRegister 22 = .ok (.if_icmp .ne 20, 3) := by decide +kernel
theorem d_Mo_withRegister_25 : decode b_Mo_withRegister 25 = .ok (.aload_n 0, 1) := by decide +kernel
theorem d_Mo_withRegister_26 : decode b_Mo_withRegister 26 = .ok (.iload_n 1, 1) := by decide +kernel
theorem d_Mo_withRegister_27 : decode b_Mo_withRegister 27 = .ok (.iload_n 2, 1) := by decide +kernel
theorem d_Mo_withRegister_28 : decode b_Mo_withRegister 28 = .ok (.bipush 12, 2) := by decide +kernel
theorem d_Mo_withRegister_30 : decode b_Mo_withRegister 30 = .ok (.if_icmp .ne 7, 3) := by decide +kernel
theorem d_Mo_withRegister_33 : decode b_Mo_withRegister 33 = .ok (.iconst 1, 1) := by decide +kernel
theorem d_Mo_withRegister_34 : decode b_Mo_withRegister 34 = .ok (.goto 4, 3) := by decide +kernel
theorem d_Mo_withRegister_37 : decode b_Mo_withRegister 37 = .ok (.iconst 0, 1) := by decide +kernel
theorem d_Mo_withRegister_38 : decode b_Mo_withRegister 38 = .ok (.invokevirtual 96, 3) := by decide +kernel
theorem d_Mo_withRegister_41 : decode b_Mo_withRegister 41 = .ok (.return_, 1) := by decide +kernel
theorem d_Mo_withRegister_42 : decode b_Mo_withRegister 42 = .ok (.aload_n 0, 1) := by decide +kernel
theorem d_Mo_withRegister_43 : decode b_Mo_withRegister 43 = .ok (.iload_n 1, 1) := by decide +kernel
theorem d_Mo_withRegister_44 : decode b_Mo_withRegister 44 = .ok (.bipush 63, 2) := by decide +kernel
theorem d_Mo_withRegister_46 : decode b_Mo_withRegister 46 = .ok (.iand, 1) := by decide +kernel
theorem d_Mo_withRegister_47 : decode b_Mo_withRegister 47 = .ok (.iconst 0, 1) := by decide +kernel
theorem d_Mo_withRegister_48 : decode b_Mo_withRegister 48 = .ok (.invokevirtual 71, 3) := by decide +kernel
theorem d_Mo_withRegister_51 : decode b_Mo_withRegister 51 = .ok (.istore 4, 2) := by decide +kernel
theorem d_Mo_withRegister_53 : decode b_Mo_withRegister 53 = .ok (.aload_n 0, 1) := by decide +kernel
theorem d_Mo_withRegister_54 : decode b_Mo_withRegister 54 = .ok (.iload 4, 2) := by decide +kernel
theorem d_Mo_withRegister_56 : decode b_Mo_withRegister 56 = .ok (.invokevirtual 28, 3) := by decide +kernel
theorem d_Mo_withRegister_59 : decode b_Mo_withRegister 59 = .ok (.istore 5, 2) := by decide +kernel
theorem d_Mo_withRegister_61 : decode b_Mo_withRegister 61 = .ok (.iload_n 2, 1) := by decide +kernel
theorem d_Mo_withRegister_62 : decode b_Mo_withRegister 62 = .ok (.bipush 11, 2) := by decide +kernel
theorem d_Mo_withRegister_64 : decode b_Mo_withRegister 64 = .ok (.if_icmp .ne 30, 3) := by decide +kernel
theorem d_Mo_withRegister_67 : decode b_Mo_withRegister 67 = .ok (.aload_n 0, 1) := by decide +kernel
theorem d_Mo_withRegister_68 : decode b_Mo_withRegister 68 = .ok (.bipush 64, 2) := by decide +kernel
theorem d_Mo_withRegister_70 : decode b_Mo_withRegister 70 = .ok (.iconst 4, 1) := by decide +kernel
theorem d_Mo_withRegister_71 : decode b_Mo_withRegister 71 = .ok (.iload_n 3, 1) := by decide +kernel
theorem d_Mo_withRegister_72 : decode b_Mo_withRegister 72 = .ok (.imul, 1) := by decide +kernel
theorem d_Mo_withRegister_73 : decode b_Mo_withRegister 73 = .ok (.iadd, 1) := by decide +kernel
theorem d_Mo_withRegister_74 : decode b_Mo_withRegister 74 = .ok (.invokevirtual 99, 3) := by decide +kernel
theorem d_Mo_withRegister_77 : decode b_Mo_withRegister 77 = .ok (.aload_n 0, 1) := by decide +kernel
theorem d_Mo_withRegister_78 : decode b_Mo_withRegister 78 = .ok (.bipush 11, 2) := by decide +kernel
theorem d_Mo_withRegister_80 : decode b_Mo_withRegister 80 = .ok (.iload 4, 2) := by decide +kernel
theorem d_Mo_withRegister_82 : decode b_Mo_withRegister 82 = .ok (.invokevirtual 53, 3) := by decide +kernel
theorem d_Mo_withRegister_85 : decode b_Mo_withRegister 85 = .ok (.aload_n 0, 1) := by decide +kernel
theorem d_Mo_withRegister_86 : decode b_Mo_withRegister 86 = .ok (.sipush 512, 3) := by decide +kernel
theorem d_Mo_withRegister_89 : decode b_Mo_withRegister 89 = .ok (.iconst 1, 1) := by decide +kernel
theorem d_Mo_withRegister_90 : decode b_Mo_withRegister 90 = .ok (.invokevirtual 61, 3) := by decide +kernel
theorem d_Mo_withRegister_93 : decode b_Mo_withRegister 93 = .ok (.return_, 1) := by decide +kernel
theorem d_Mo_withRegister_94 : decode b_Mo_withRegister 94 = .ok (.aload_n 0, 1) := by decide +kernel
theorem d_Mo_withRegister_95 : decode b_Mo_withRegister 95 = .ok (.iload_n 3, 1) := by decide +kernel
theorem d_Mo_withRegister_96 : decode b_Mo_withRegister 96 = .ok (.invokevirtual 40, 3) := by decide +kernel
theorem d_Mo_withRegister_99 : decode b_Mo_withRegister 99 = .ok (.istore 6, 2) := by decide +kernel
theorem d_Mo_withRegister_101 : decode b_Mo_withRegister 101 = .ok (.iload_n 2, 1) := by decide +kernel
theorem d_Mo_withRegister_102 : decode b_Mo_withRegister 102 = .ok (.bipush 8, 2) := by decide +kernel
theorem d_Mo_withRegister_104 : decode b_Mo_withRegister 104 = .ok (.if_icmp .ne 25, 3) := by decide +kernel
theorem d_Mo_withRegister_107 : decode b_Mo_withRegister 107 = .ok (.aload_n 0, 1) := by decide +kernel
theorem d_Mo_withRegister_108 : decode b_Mo_withRegister 108 = .ok (.sipush 8192, 3) := by decide +kernel
theorem d_Mo_withRegister_111 : decode b_Mo_withRegister 111 = .ok (.iload 5, 2) := by decide +kernel
theorem d_Mo_withRegister_113 : decode b_Mo_withRegister 113 = .ok (.iload 6, 2) := by decide +kernel
theorem d_Mo_withRegister_115 : decode b_Mo_withRegister 115 = .ok (.iconst (-1), 1) := by decide +kernel
theorem d_Mo_withRegister_116 : decode b_Mo_withRegister 116 = .ok (.ixor, 1) := by decide +kernel
theorem d_Mo_withRegister_117 : decode b_Mo_withRegister 117 = .ok (.iand, 1) := by decide +kernel
theorem d_Mo_withRegister_118 : decode b_Mo_withRegister 118 = .ok (.ifCond .ne 7, 3) := by decide +kernel
theorem d_Mo_withRegister_121 : decode b_Mo_withRegister 121 = .ok (.iconst 1, 1) := by decide +kernel
theorem d_Mo_withRegister_122 : decode b_Mo_withRegister 122 = .ok (.goto 4, 3) := by decide +kernel
theorem d_Mo_withRegister_125 : decode b_Mo_withRegister 125 = .ok (.iconst 0, 1) := by decide +kernel
theorem d_Mo_withRegister_126 : decode b_Mo_withRegister 126 = .ok (.invokevirtual 61, 3) := by decide +kernel
theorem d_Mo_withRegister_129 : decode b_Mo_withRegister 129 = .ok (.iload_n 2, 1) := by decide +kernel
theorem d_Mo_withRegister_130 : decode b_Mo_withRegister 130 = .ok (.bipush 9, 2) := by decide +kernel
theorem d_Mo_withRegister_132 : decode b_Mo_withRegister 132 = .ok (.if_icmp .ne 23, 3) := by decide +kernel
theorem d_Mo_withRegister_135 : decode b_Mo_withRegister 135 = .ok (.aload_n 0, 1) := by decide +kernel
theorem d_Mo_withRegister_136 : decode b_Mo_withRegister 136 = .ok (.sipush 8192, 3) := by decide +kernel
theorem d_Mo_withRegister_139 : decode b_Mo_withRegister 139 = .ok (.iload 5, 2) := by decide +kernel
theorem d_Mo_withRegister_141 : decode b_Mo_withRegister 141 = .ok (.iload 6, 2) := by decide +kernel
theorem d_Mo_withRegister_143 : decode b_Mo_withRegister 143 = .ok (.iand, 1) := by decide +kernel
theorem d_Mo_withRegister_144 : decode b_Mo_withRegister 144 = .ok (.ifCond .ne 7, 3) := by decide +kernel
theorem d_Mo_withRegister_147 : decode b_Mo_withRegister 147 = .ok (.iconst 1, 1) := by decide +kernel
theorem d_Mo_withRegister_148 : decode b_Mo_withRegister 148 = .ok (.goto 4, 3) := by decide +kernel
theorem d_Mo_withRegister_151 : decode b_Mo_withRegister 151 = .ok (.iconst 0, 1) := by decide +kernel
theorem d_Mo_withRegister_152 : decode b_Mo_withRegister 152 = .ok (.invokevirtual 61, 3) := by decide +kernel
theorem d_Mo_withRegister_155 : decode b_Mo_withRegister 155 = .ok (.iload_n 2, 1) := by decide +kernel
theorem d_Mo_withRegister_156 : decode b_Mo_withRegister 156 = .ok (.bipush 10, 2) := by decide +kernel
theorem d_Mo_withRegister_158 : decode b_Mo_withRegister 158 = .ok (.if_icmp .ne 22, 3) := by decide +kernel
theorem d_Mo_withRegister_161 : decode b_Mo_withRegister 161 = .ok (.aload_n 0, 1) := by decide +kernel
theorem d_Mo_withRegister_162 : decode b_Mo_withRegister 162 = .ok (.iload 6, 2) := by decide +kernel
theorem d_Mo_withRegister_164 : decode b_Mo_withRegister 164 = .ok (.iload 5, 2) := by decide +kernel
theorem d_Mo_withRegister_166 : decode b_Mo_withRegister 166 = .ok (.ixor, 1) := by decide +kernel
theorem d_Mo_withRegister_167 : decode b_Mo_withRegister 167 = .ok (.invokevirtual 82, 3) := by decide +kernel
theorem d_Mo_withRegister_170 : decode b_Mo_withRegister 170 = .ok (.aload_n 0, 1) := by decide +kernel
theorem d_Mo_withRegister_171 : decode b_Mo_withRegister 171 = .ok (.iload_n 3, 1) := by decide +kernel
theorem d_Mo_withRegister_172 : decode b_Mo_withRegister 172 = .ok (.iload 6, 2) := by decide +kernel
theorem d_Mo_withRegister_174 : decode b_Mo_withRegister 174 = .ok (.iload 5, 2) := by decide +kernel
theorem d_Mo_withRegister_176 : decode b_Mo_withRegister 176 = .ok (.ixor, 1) := by decide +kernel
theorem d_Mo_withRegister_177 : decode b_Mo_withRegister 177 = .ok (.invokevirtual 53, 3) := by decide +kernel
theorem d_Mo_withRegister_180 : decode b_Mo_withRegister 180 = .ok (.iload_n 2, 1) := by decide +kernel
theorem d_Mo_withRegister_181 : decode b_Mo_withRegister 181 = .ok (.bipush 14, 2) := by decide +kernel
theorem d_Mo_withRegister_183 : decode b_Mo_withRegister 183 = .ok (.if_icmp .ne 37, 3) := by decide +kernel
theorem d_Mo_withRegister_186 : decode b_Mo_withRegister 186 = .ok (.iload 6, 2) := by decide +kernel
theorem d_Mo_withRegister_188 : decode b_Mo_withRegister 188 = .ok (.i2l, 1) := by decide +kernel
theorem d_Mo_withRegister_189 : decode b_Mo_withRegister 189 = .ok (.iload 5, 2) := by decide +kernel
theorem d_Mo_withRegister_191 : decode b_Mo_withRegister 191 = .ok (.i2l, 1) := by decide +kernel
theorem d_Mo_withRegister_192 : decode b_Mo_withRegister 192 = .ok (.lmul, 1) := by decide +kernel
theorem d_Mo_withRegister_193 : decode b_Mo_withRegister 193 = .ok (.lstore 7, 2) := by decide +kernel
theorem d_Mo_withRegister_195 : decode b_Mo_withRegister 195 = .ok (.aload_n 0, 1) := by decide +kernel
theorem d_Mo_withRegister_196 : decode b_Mo_withRegister 196 = .ok (.iload_n 3, 1) := by decide +kernel
theorem d_Mo_withRegister_197 : decode b_Mo_withRegister 197 = .ok (.lload 7, 2) := by decide +kernel
theorem d_Mo_withRegister_199 : decode b_Mo_withRegister 199 = .ok (.bipush 16, 2) := by decide +kernel
theorem d_Mo_withRegister_201 : decode b_Mo_withRegister 201 = .ok (.lshr, 1) := by decide +kernel
theorem d_Mo_withRegister_202 : decode b_Mo_withRegister 202 = .ok (.l2i, 1) := by decide +kernel
theorem d_Mo_withRegister_203 : decode b_Mo_withRegister 203 = .ok (.invokevirtual 53, 3) := by decide +kernel
theorem d_Mo_withRegister_206 : decode b_Mo_withRegister 206 = .ok (.aload_n 0, 1) := by decide +kernel
theorem d_Mo_withRegister_207 : decode b_Mo_withRegister 207 = .ok (.iload_n 3, 1) := by decide +kernel
theorem d_Mo_withRegister_208 : decode b_Mo_withRegister 208 = .ok (.iconst 1, 1) := by decide +kernel
theorem d_Mo_withRegister_209 : decode b_Mo_withRegister 209 = .ok (.iadd, 1) := by decide +kernel
theorem d_Mo_withRegister_210 : decode b_Mo_withRegister 210 = .ok (.lload 7, 2) := by decide +kernel
theorem d_Mo_withRegister_212 : decode b_Mo_withRegister 212 = .ok (.ldc2_w 102, 3) := by decide +kernel
theorem d_Mo_withRegister_215 : decode b_Mo_withRegister 215 = .ok (.land, 1) := by decide +kernel
theorem d_Mo_withRegister_216 : decode b_Mo_withRegister 216 = .ok (.l2i, 1) := by decide +kernel
theorem d_Mo_withRegister_217 : decode b_Mo_withRegister 217 = .ok (.invokevirtual 53, 3) := by decide +kernel
theorem d_Mo_withRegister_220 : decode b_Mo_withRegister 220 = .ok (.iload_n 2, 1) := by decide +kernel
theorem d_Mo_withRegister_221 : decode b_Mo_withRegister 221 = .ok (.bipush 15, 2) := by decide +kernel
theorem d_Mo_withRegister_223 : decode b_Mo_withRegister 223 = .ok (.if_icmp .ne 73, 3) := by decide +kernel
theorem d_Mo_withRegister_226 : decode b_Mo_withRegister 226 = .ok (.aload_n 0, 1) := by decide +kernel
theorem d_Mo_withRegister_227 : decode b_Mo_withRegister 227 = .ok (.sipush 2048, 3) := by decide +kernel
theorem d_Mo_withRegister_230 : decode b_Mo_withRegister 230 = .ok (.iload 5, 2) := by decide +kernel
theorem d_Mo_withRegister_232 : decode b_Mo_withRegister 232 = .ok (.iload 6, 2) := by decide +kernel
theorem d_Mo_withRegister_234 : decode b_Mo_withRegister 234 = .ok (.if_icmp .gt 7, 3) := by decide +kernel
theorem d_Mo_withRegister_237 : decode b_Mo_withRegister 237 = .ok (.iconst 1, 1) := by decide +kernel
theorem d_Mo_withRegister_238 : decode b_Mo_withRegister 238 = .ok (.goto 4, 3) := by decide +kernel
theorem d_Mo_withRegister_241 : decode b_Mo_withRegister 241 = .ok (.iconst 0, 1) := by decide +kernel
theorem d_Mo_withRegister_242 : decode b_Mo_withRegister 242 = .ok (.invokevirtual 61, 3) := by decide +kernel
theorem d_Mo_withRegister_245 : decode b_Mo_withRegister 245 = .ok (.iload 5, 2) := by decide +kernel
theorem d_Mo_withRegister_247 : decode b_Mo_withRegister 247 = .ok (.iload 6, 2) := by decide +kernel
theorem d_Mo_withRegister_249 : decode b_Mo_withRegister 249 = .ok (.if_icmp .le 47, 3) := by decide +kernel
theorem d_Mo_withRegister_252 : decode b_Mo_withRegister 252 = .ok (.iload 6, 2) := by decide +kernel
theorem d_Mo_withRegister_254 : decode b_Mo_withRegister 254 = .ok (.i2l, 1) := by decide +kernel
theorem d_Mo_withRegister_255 : decode b_Mo_withRegister 255 = .ok (.ldc2_w 104, 3) := by decide +kernel
theorem d_Mo_withRegister_258 : decode b_Mo_withRegister 258 = .ok (.lmul, 1) := by decide +kernel
theorem d_Mo_withRegister_259 : decode b_Mo_withRegister 259 = .ok (.aload_n 0, 1) := by decide +kernel
theorem d_Mo_withRegister_260 : decode b_Mo_withRegister 260 = .ok (.iload_n 3, 1) := by decide +kernel
theorem d_Mo_withRegister_261 : decode b_Mo_withRegister 261 = .ok (.iconst 1, 1) := by decide +kernel
theorem d_Mo_withRegister_262 : decode b_Mo_withRegister 262 = .ok (.iadd, 1) := by decide +kernel
theorem d_Mo_withRegister_263 : decode b_Mo_withRegister 263 = .ok (.invokevirtual 40, 3) := by decide +kernel
theorem d_Mo_withRegister_266 : decode b_Mo_withRegister 266 = .ok (.i2l, 1) := by decide +kernel
theorem d_Mo_withRegister_267 : decode b_Mo_withRegister 267 = .ok (.ladd, 1) := by decide +kernel
theorem d_Mo_withRegister_268 : decode b_Mo_withRegister 268 = .ok (.lstore 7, 2) := by decide +kernel
theorem d_Mo_withRegister_270 : decode b_Mo_withRegister 270 = .ok (.aload_n 0, 1) := by decide +kernel
theorem d_Mo_withRegister_271 : decode b_Mo_withRegister 271 = .ok (.iload_n 3, 1) := by decide +kernel
theorem d_Mo_withRegister_272 : decode b_Mo_withRegister 272 = .ok (.lload 7, 2) := by decide +kernel
theorem d_Mo_withRegister_274 : decode b_Mo_withRegister 274 = .ok (.iload 5, 2) := by decide +kernel
theorem d_Mo_withRegister_276 : decode b_Mo_withRegister 276 = .ok (.i2l, 1) := by decide +kernel
theorem d_Mo_withRegister_277 : decode b_Mo_withRegister 277 = .ok (.ldiv, 1) := by decide +kernel
theorem d_Mo_withRegister_278 : decode b_Mo_withRegister 278 = .ok (.l2i, 1) := by decide +kernel
theorem d_Mo_withRegister_279 : decode b_Mo_withRegister 279 = .ok (.invokevirtual 53, 3) := by decide +kernel
theorem d_Mo_withRegister_282 : decode b_Mo_withRegister 282 = .ok (.aload_n 0, 1) := by decide +kernel
theorem d_Mo_withRegister_283 : decode b_Mo_withRegister 283 = .ok (.iload_n 3, 1) := by decide +kernel
theorem d_Mo_withRegister_284 : decode b_Mo_withRegister 284 = .ok (.iconst 1, 1) := by decide +kernel
theorem d_Mo_withRegister_285 : decode b_Mo_withRegister 285 = .ok (.iadd, 1) := by decide +kernel
theorem d_Mo_withRegister_286 : decode b_Mo_withRegister 286 = .ok (.lload 7, 2) := by decide +kernel
theorem d_Mo_withRegister_288 : decode b_Mo_withRegister 288 = .ok (.iload 5, 2) := by decide +kernel
theorem d_Mo_withRegister_290 : decode b_Mo_withRegister 290 = .ok (.i2l, 1) := by decide +kernel
theorem d_Mo_withRegister_291 : decode b_Mo_withRegister 291 = .ok (.lrem, 1) := by decide +kernel
theorem d_Mo_withRegister_292 : decode b_Mo_withRegister 292 = .ok (.l2i, 1) := by decide +kernel
theorem d_Mo_withRegister_293 : decode b_Mo_withRegister 293 = .ok (.invokevirtual 53, 3) := by decide +kernel
theorem d_Mo_withRegister_296 : decode b_Mo_withRegister 296 = .ok (.return_, 1) := by decide +kernel
theorem d_Mo_holds_0 : decode b_Mo_holds 0 = .ok (.aload_n 0, 1) := by decide +kernel
theorem d_Mo_holds_1 : decode b_Mo_holds 1 = .ok (.ldc 60, 2) := by decide +kernel
theorem d_Mo_holds_3 : decode b_Mo_holds 3 = .ok (.invokevirtual 106, 3) := by decide +kernel
theorem d_Mo_holds_6 : decode b_Mo_holds 6 = .ok (.istore_n 2, 1) := by decide +kernel
theorem d_Mo_holds_7 : decode b_Mo_holds 7 = .ok (.aload_n 0, 1) := by decide +kernel
theorem d_Mo_holds_8 : decode b_Mo_holds 8 = .ok (.sipush 8192, 3) := by decide +kernel
theorem d_Mo_holds_11 : decode b_Mo_holds 11 = .ok (.invokevirtual 106, 3) := by decide +kernel
theorem d_Mo_holds_14 : decode b_Mo_holds 14 = .ok (.istore_n 3, 1) := by decide +kernel
theorem d_Mo_holds_15 : decode b_Mo_holds 15 = .ok (.iload_n 1, 1) := by decide +kernel
theorem d_Mo_holds_16 : decode b_Mo_holds 16 = .ok (.tableswitch 202 0 11 #[64, 66, 86, 100, 102, 116, 124, 134, 150, 158, 174, 188], 64) := by decide +kernel
theorem d_Mo_holds_80 : decode b_Mo_holds 80 = .ok (.iconst 1, 1) := by decide +kernel
theorem d_Mo_holds_81 : decode b_Mo_holds 81 = .ok (.ireturn, 1) := by decide +kernel
theorem d_Mo_holds_82 : decode b_Mo_holds 82 = .ok (.aload_n 0, 1) := by decide +kernel
theorem d_Mo_holds_83 : decode b_Mo_holds 83 = .ok (.sipush 16384, 3) := by decide +kernel
theorem d_Mo_holds_86 : decode b_Mo_holds 86 = .ok (.invokevirtual 106, 3) := by decide +kernel
theorem d_Mo_holds_89 : decode b_Mo_holds 89 = .ok (.ifCond .ne 11, 3) := by decide +kernel
theorem d_Mo_holds_92 : decode b_Mo_holds 92 = .ok (.iload_n 3, 1) := by decide +kernel
theorem d_Mo_holds_93 : decode b_Mo_holds 93 = .ok (.ifCond .ne 7, 3) := by decide +kernel
theorem d_Mo_holds_96 : decode b_Mo_holds 96 = .ok (.iconst 1, 1) := by decide +kernel
theorem d_Mo_holds_97 : decode b_Mo_holds 97 = .ok (.goto 4, 3) := by decide +kernel
theorem d_Mo_holds_100 : decode b_Mo_holds 100 = .ok (.iconst 0, 1) := by decide +kernel
theorem d_Mo_holds_101 : decode b_Mo_holds 101 = .ok (.ireturn, 1) := by decide +kernel
theorem d_Mo_holds_102 : decode b_Mo_holds 102 = .ok (.iload_n 2, 1) := by decide +kernel
theorem d_Mo_holds_103 : decode b_Mo_holds 103 = .ok (.ifCond .eq 7, 3) := by decide +kernel
theorem d_Mo_holds_106 : decode b_Mo_holds 106 = .ok (.iload_n 3, 1) := by decide +kernel
theorem d_Mo_holds_107 : decode b_Mo_holds 107 = .ok (.ifCond .eq 7, 3) := by decide +kernel
theorem d_Mo_holds_110 : decode b_Mo_holds 110 = .ok (.iconst 1, 1) := by decide +kernel
theorem d_Mo_holds_111 : decode b_Mo_holds 111 = .ok (.goto 4, 3) := by decide +kernel
theorem d_Mo_holds_114 : decode b_Mo_holds 114 = .ok (.iconst 0, 1) := by decide +kernel
theorem d_Mo_holds_115 : decode b_Mo_holds 115 = .ok (.ireturn, 1) := by decide +kernel
theorem d_Mo_holds_116 : decode b_Mo_holds 116 = .ok (.iload_n 3, 1) := by decide +kernel
theorem d_Mo_holds_117 : decode b_Mo_holds 117 = .ok (.ireturn, 1) := by decide +kernel
theorem d_Mo_holds_118 : decode b_Mo_holds 118 = .ok (.iload_n 2, 1) := by decide +kernel
theorem d_Mo_holds_119 : decode b_Mo_holds 119 = .ok (.ifCond .ne 7, 3) := by decide +kernel
theorem d_Mo_holds_122 : decode b_Mo_holds 122 = .ok (.iload_n 3, 1) := by decide +kernel
theorem d_Mo_holds_123 : decode b_Mo_holds 123 = .ok (.ifCond .eq 7, 3) := by decide +kernel
theorem d_Mo_holds_126 : decode b_Mo_holds 126 = .ok (.iconst 1, 1) := by decide +kernel
theorem d_Mo_holds_127 : decode b_Mo_holds 127 = .ok (.goto 4, 3) := by decide +kernel
theorem d_Mo_holds_130 : decode b_Mo_holds 130 = .ok (.iconst 0, 1) := by decide +kernel
theorem d_Mo_holds_131 : decode b_Mo_holds 131 = .ok (.ireturn, 1) := by decide +kernel
theorem d_Mo_holds_132 : decode b_Mo_holds 132 = .ok (.aload_n 0, 1) := by decide +kernel
theorem d_Mo_holds_133 : decode b_Mo_holds 133 = .ok (.sipush 16384, 3) := by decide +kernel
theorem d_Mo_holds_136 : decode b_Mo_holds 136 = .ok (.invokevirtual 106, 3) := by decide +kernel
theorem d_Mo_holds_139 : decode b_Mo_holds 139 = .ok (.ireturn, 1) := by decide +kernel
theorem d_Mo_holds_140 : decode b_Mo_holds 140 = .ok (.iload_n 3, 1) := by decide +kernel
theorem d_Mo_holds_141 : decode b_Mo_holds 141 = .ok (.ifCond .ne 7, 3) := by decide +kernel
theorem d_Mo_holds_144 : decode b_Mo_holds 144 = .ok (.iconst 1, 1) := by decide +kernel
theorem d_Mo_holds_145 : decode b_Mo_holds 145 = .ok (.goto 4, 3) := by decide +kernel
theorem d_Mo_holds_148 : decode b_Mo_holds 148 = .ok (.iconst 0, 1) := by decide +kernel
theorem d_Mo_holds_149 : decode b_Mo_holds 149 = .ok (.ireturn, 1) := by decide +kernel
theorem d_Mo_holds_150 : decode b_Mo_holds 150 = .ok (.aload_n 0, 1) := by decide +kernel
theorem d_Mo_holds_151 : decode b_Mo_holds 151 = .ok (.sipush 4096, 3) := by decide +kernel
theorem d_Mo_holds_154 : decode b_Mo_holds 154 = .ok (.invokevirtual 106, 3) := by decide +kernel
theorem d_Mo_holds_157 : decode b_Mo_holds 157 = .ok (.ifCond .ne 7, 3) := by decide +kernel
theorem d_Mo_holds_160 : decode b_Mo_holds 160 = .ok (.iconst 1, 1) := by decide +kernel
theorem d_Mo_holds_161 : decode b_Mo_holds 161 = .ok (.goto 4, 3) := by decide +kernel
theorem d_Mo_holds_164 : decode b_Mo_holds 164 = .ok (.iconst 0, 1) := by decide +kernel
theorem d_Mo_holds_165 : decode b_Mo_holds 165 = .ok (.ireturn, 1) := by decide +kernel
theorem d_Mo_holds_166 : decode b_Mo_holds 166 = .ok (.aload_n 0, 1) := by decide +kernel
theorem d_Mo_holds_167 : decode b_Mo_holds 167 = .ok (.sipush 4096, 3) := by decide +kernel
theorem d_Mo_holds_170 : decode b_Mo_holds 170 = .ok (.invokevirtual 106, 3) := by decide +kernel
theorem d_Mo_holds_173 : decode b_Mo_holds 173 = .ok (.ireturn, 1) := by decide +kernel
theorem d_Mo_holds_174 : decode b_Mo_holds 174 = .ok (.aload_n 0, 1) := by decide +kernel
theorem d_Mo_holds_175 : decode b_Mo_holds 175 = .ok (.sipush 2048, 3) := by decide +kernel
theorem d_Mo_holds_178 : decode b_Mo_holds 178 = .ok (.invokevirtual 106, 3) := by decide +kernel
theorem d_Mo_holds_181 : decode b_Mo_holds 181 = .ok (.ifCond .ne 7, 3) := by decide +kernel
theorem d_Mo_holds_184 : decode b_Mo_holds 184 = .ok (.iconst 1, 1) := by decide +kernel
theorem d_Mo_holds_185 : decode b_Mo_holds 185 = .ok (.goto 4, 3) := by decide +kernel
theorem d_Mo_holds_188 : decode b_Mo_holds 188 = .ok (.iconst 0, 1) := by decide +kernel
theorem d_Mo_holds_189 : decode b_Mo_holds 189 = .ok (.ireturn, 1) := by decide +kernel
theorem d_Mo_holds_190 : decode b_Mo_holds 190 = .ok (.iload_n 2, 1) := by decide +kernel
theorem d_Mo_holds_191 : decode b_Mo_holds 191 = .ok (.ifCond .ne 11, 3) := by decide +kernel
theorem d_Mo_holds_194 : decode b_Mo_holds 194 = .ok (.iload_n 3, 1) := by decide +kernel
theorem d_Mo_holds_195 : decode b_Mo_holds 195 = .ok (.ifCond .ne 7, 3) := by decide +kernel
theorem d_Mo_holds_198 : decode b_Mo_holds 198 = .ok (.iconst 1, 1) := by decide +kernel
theorem d_Mo_holds_199 : decode b_Mo_holds 199 = .ok (.goto 4, 3) := by decide +kernel
theorem d_Mo_holds_202 : decode b_Mo_holds 202 = .ok (.iconst 0, 1) := by decide +kernel
theorem d_Mo_holds_203 : decode b_Mo_holds 203 = .ok (.ireturn, 1) := by decide +kernel
theorem d_Mo_holds_204 : decode b_Mo_holds 204 = .ok (.iload_n 2, 1) := by decide +kernel
theorem d_Mo_holds_205 : decode b_Mo_holds 205 = .ok (.ifCond .eq 11, 3) := by decide +kernel
theorem d_Mo_holds_208 : decode b_Mo_holds 208 = .ok (.iload_n 3, 1) := by decide +kernel
theorem d_Mo_holds_209 : decode b_Mo_holds 209 = .ok (.ifCond .ne 7, 3) := by decide +kernel
theorem d_Mo_holds_212 : decode b_Mo_holds 212 = .ok (.iconst 1, 1) := by decide +kernel
theorem d_Mo_holds_213 : decode b_Mo_holds 213 = .ok (.goto 4, 3) := by decide +kernel
theorem d_Mo_holds_216 : decode b_Mo_holds 216 = .ok (.iconst 0, 1) := by decide +kernel
theorem d_Mo_holds_217 : decode b_Mo_holds 217 = .ok (.ireturn, 1) := by decide +kernel
theorem d_Mo_holds_218 : decode b_Mo_holds 218 = .ok (.aload_n 0, 1) := by decide +kernel
theorem d_Mo_holds_219 : decode b_Mo_holds 219 = .ok (.sipush 1024, 3) := by decide +kernel
theorem d_Mo_holds_222 : decode b_Mo_holds 222 = .ok (.invokevirtual 106, 3) := by decide +kernel
theorem d_Mo_holds_225 : decode b_Mo_holds 225 = .ok (.ireturn, 1) := by decide +kernel
theorem d_Mo_jumpOrLine_0 : decode b_Mo_jumpOrLine 0 = .ok (.iload_n 1, 1) := by decide +kernel
theorem d_Mo_jumpOrLine_1 : decode b_Mo_jumpOrLine 1 = .ok (.bipush 8, 2) := by decide +kernel
theorem d_Mo_jumpOrLine_3 : decode b_Mo_jumpOrLine 3 = .ok (.ishr, 1) := by decide +kernel
theorem d_Mo_jumpOrLine_4 : decode b_Mo_jumpOrLine 4 = .ok (.bipush 15, 2) := by decide +kernel
theorem d_Mo_jumpOrLine_6 : decode b_Mo_jumpOrLine 6 = .ok (.iand, 1) := by decide +kernel
theorem d_Mo_jumpOrLine_7 : decode b_Mo_jumpOrLine 7 = .ok (.istore_n 2, 1) := by decide +kernel
theorem d_Mo_jumpOrLine_8 : decode b_Mo_jumpOrLine 8 = .ok (.iload_n 1, 1) := by decide +kernel
theorem d_Mo_jumpOrLine_9 : decode b_Mo_jumpOrLine 9 = .ok (.sipush 255, 3) := by decide +kernel
theorem d_Mo_jumpOrLine_12 : decode b_Mo_jumpOrLine 12 = .ok (.iand, 1) := by decide +kernel
theorem d_Mo_jumpOrLine_13 : decode b_Mo_jumpOrLine 13 = .ok (.bipush 127, 2) := by decide +kernel
theorem d_Mo_jumpOrLine_15 : decode b_Mo_jumpOrLine 15 = .ok (.if_icmp .le 15, 3) := by decide +kernel
theorem d_Mo_jumpOrLine_18 : decode b_Mo_jumpOrLine 18 = .ok (.iload_n 1, 1) := by decide +kernel
theorem d_Mo_jumpOrLine_19 : decode b_Mo_jumpOrLine 19 = .ok (.sipush 255, 3) := by decide +kernel
theorem d_Mo_jumpOrLine_22 : decode b_Mo_jumpOrLine 22 = .ok (.iand, 1) := by decide +kernel
theorem d_Mo_jumpOrLine_23 : decode b_Mo_jumpOrLine 23 = .ok (.sipush 256, 3) := by decide +kernel
theorem d_Mo_jumpOrLine_26 : decode b_Mo_jumpOrLine 26 = .ok (.isub, 1) := by decide +kernel
theorem d_Mo_jumpOrLine_27 : decode b_Mo_jumpOrLine 27 = .ok (.goto 8, 3) := by decide +kernel
theorem d_Mo_jumpOrLine_30 : decode b_Mo_jumpOrLine 30 = .ok (.iload_n 1, 1) := by decide +kernel
theorem d_Mo_jumpOrLine_31 : decode b_Mo_jumpOrLine 31 = .ok (.sipush 255, 3) := by decide +kernel
theorem d_Mo_jumpOrLine_34 : decode b_Mo_jumpOrLine 34 = .ok (.iand, 1) := by decide +kernel
theorem d_Mo_jumpOrLine_35 : decode b_Mo_jumpOrLine 35 = .ok (.istore_n 3, 1) := by decide +kernel
theorem d_Mo_jumpOrLine_36 : decode b_Mo_jumpOrLine 36 = .ok (.aload_n 0, 1) := by decide +kernel
theorem d_Mo_jumpOrLine_37 : decode b_Mo_jumpOrLine 37 = .ok (.invokevirtual 93, 3) := by decide +kernel
theorem d_Mo_jumpOrLine_40 : decode b_Mo_jumpOrLine 40 = .ok (.iload_n 3, 1) := by decide +kernel
theorem d_Mo_jumpOrLine_41 : decode b_Mo_jumpOrLine 41 = .ok (.iadd, 1) := by decide +kernel
theorem d_Mo_jumpOrLine_42 : decode b_Mo_jumpOrLine 42 = .ok (.bipush 63, 2) := by decide +kernel
theorem d_Mo_jumpOrLine_44 : decode b_Mo_jumpOrLine 44 = .ok (.iand, 1) := by decide +kernel
theorem d_Mo_jumpOrLine_45 : decode b_Mo_jumpOrLine 45 = .ok (.istore 4, 2) := by decide +kernel
theorem d_Mo_jumpOrLine_47 : decode b_Mo_jumpOrLine 47 = .ok (.iload_n 2, 1) := by decide +kernel
theorem d_Mo_jumpOrLine_48 : decode b_Mo_jumpOrLine 48 = .ok (.bipush 13, 2) := by decide +kernel
theorem d_Mo_jumpOrLine_50 : decode b_Mo_jumpOrLine 50 = .ok (.if_icmp .ge 37, 3) := by decide +kernel
theorem d_Mo_jumpOrLine_53 : decode b_Mo_jumpOrLine 53 = .ok (.aload_n 0, 1) := by decide +kernel
theorem d_Mo_jumpOrLine_54 : decode b_Mo_jumpOrLine 54 = .ok (.aload_n 0, 1) := by decide +kernel
theorem d_Mo_jumpOrLine_55 : decode b_Mo_jumpOrLine 55 = .ok (.iload_n 2, 1) := by decide +kernel
theorem d_Mo_jumpOrLine_56 : decode b_Mo_jumpOrLine 56 = .ok (.invokevirtual 110, 3) := by decide +kernel
theorem d_Mo_jumpOrLine_59 : decode b_Mo_jumpOrLine 59 = .ok (.ifCond .eq 18, 3) := by decide +kernel
theorem d_Mo_jumpOrLine_62 : decode b_Mo_jumpOrLine 62 = .ok (.aload_n 0, 1) := by decide +kernel
theorem d_Mo_jumpOrLine_63 : decode b_Mo_jumpOrLine 63 = .ok (.getfield 36, 3) := by decide +kernel
theorem d_Mo_jumpOrLine_66 : decode b_Mo_jumpOrLine 66 = .ok (.iconst 2, 1) := by decide +kernel
theorem d_Mo_jumpOrLine_67 : decode b_Mo_jumpOrLine 67 = .ok (.iload_n 3, 1) := by decide +kernel
theorem d_Mo_jumpOrLine_68 : decode b_Mo_jumpOrLine 68 = .ok (.imul, 1) := by decide +kernel
theorem d_Mo_jumpOrLine_69 : decode b_Mo_jumpOrLine 69 = .ok (.iadd, 1) := by decide +kernel
theorem d_Mo_jumpOrLine_70 : decode b_Mo_jumpOrLine 70 = .ok (.sipush 1022, 3) := by decide +kernel
theorem d_Mo_jumpOrLine_73 : decode b_Mo_jumpOrLine 73 = .ok (.iand, 1) := by decide +kernel
theorem d_Mo_jumpOrLine_74 : decode b_Mo_jumpOrLine 74 = .ok (.goto 7, 3) := by decide +kernel
theorem d_Mo_jumpOrLine_77 : decode b_Mo_jumpOrLine 77 = .ok (.aload_n 0, 1) := by decide +kernel
theorem d_Mo_jumpOrLine_78 : decode b_Mo_jumpOrLine 78 = .ok (.getfield 36, 3) := by decide +kernel
theorem d_Mo_jumpOrLine_81 : decode b_Mo_jumpOrLine 81 = .ok (.putfield 36, 3) := by decide +kernel
theorem d_Mo_jumpOrLine_84 : decode b_Mo_jumpOrLine 84 = .ok (.goto 44, 3) := by decide +kernel
theorem d_Mo_jumpOrLine_87 : decode b_Mo_jumpOrLine 87 = .ok (.iload_n 2, 1) := by decide +kernel
theorem d_Mo_jumpOrLine_88 : decode b_Mo_jumpOrLine 88 = .ok (.bipush 15, 2) := by decide +kernel
theorem d_Mo_jumpOrLine_90 : decode b_Mo_jumpOrLine 90 = .ok (.if_icmp .ge 24, 3) := by decide +kernel
theorem d_Mo_jumpOrLine_93 : decode b_Mo_jumpOrLine 93 = .ok (.aload_n 0, 1) := by decide +kernel
theorem d_Mo_jumpOrLine_94 : decode b_Mo_jumpOrLine 94 = .ok (.getfield 13, 3) := by decide +kernel
theorem d_Mo_jumpOrLine_97 : decode b_Mo_jumpOrLine 97 = .ok (.iload 4, 2) := by decide +kernel
theorem d_Mo_jumpOrLine_99 : decode b_Mo_jumpOrLine 99 = .ok (.iload_n 2, 1) := by decide +kernel
theorem d_Mo_jumpOrLine_100 : decode b_Mo_jumpOrLine 100 = .ok (.bipush 13, 2) := by decide +kernel
theorem d_Mo_jumpOrLine_102 : decode b_Mo_jumpOrLine 102 = .ok (.if_icmp .ne 7, 3) := by decide +kernel
theorem d_Mo_jumpOrLine_105 : decode b_Mo_jumpOrLine 105 = .ok (.iconst 1, 1) := by decide +kernel
theorem d_Mo_jumpOrLine_106 : decode b_Mo_jumpOrLine 106 = .ok (.goto 4, 3) := by decide +kernel
theorem d_Mo_jumpOrLine_109 : decode b_Mo_jumpOrLine 109 = .ok (.iconst 0, 1) := by decide +kernel
theorem d_Mo_jumpOrLine_110 : decode b_Mo_jumpOrLine 110 = .ok (.bastore, 1) := by decide +kernel
theorem d_Mo_jumpOrLine_111 : decode b_Mo_jumpOrLine 111 = .ok (.goto 17, 3) := by decide +kernel
theorem d_Mo_jumpOrLine_114 : decode b_Mo_jumpOrLine 114 = .ok (.aload_n 0, 1) := by decide +kernel
theorem d_Mo_jumpOrLine_115 : decode b_Mo_jumpOrLine 115 = .ok (.sipush 8192, 3) := by decide +kernel
theorem d_Mo_jumpOrLine_118 : decode b_Mo_jumpOrLine 118 = .ok (.aload_n 0, 1) := by decide +kernel
theorem d_Mo_jumpOrLine_119 : decode b_Mo_jumpOrLine 119 = .ok (.getfield 13, 3) := by decide +kernel
theorem d_Mo_jumpOrLine_122 : decode b_Mo_jumpOrLine 122 = .ok (.iload 4, 2) := by decide +kernel
theorem d_Mo_jumpOrLine_124 : decode b_Mo_jumpOrLine 124 = .ok (.baload, 1) := by decide +kernel
theorem d_Mo_jumpOrLine_125 : decode b_Mo_jumpOrLine 125 = .ok (.invokevirtual 61, 3) := by decide +kernel
theorem d_Mo_jumpOrLine_128 : decode b_Mo_jumpOrLine 128 = .ok (.return_, 1) := by decide +kernel
theorem d_Mo_shift_0 : decode b_Mo_shift 0 = .ok (.iload_n 1, 1) := by decide +kernel
theorem d_Mo_shift_1 : decode b_Mo_shift 1 = .ok (.bipush 15, 2) := by decide +kernel
theorem d_Mo_shift_3 : decode b_Mo_shift 3 = .ok (.iand, 1) := by decide +kernel
theorem d_Mo_shift_4 : decode b_Mo_shift 4 = .ok (.istore_n 2, 1) := by decide +kernel
theorem d_Mo_shift_5 : decode b_Mo_shift 5 = .ok (.iload_n 1, 1) := by decide +kernel
theorem d_Mo_shift_6 : decode b_Mo_shift 6 = .ok (.iconst 4, 1) := by decide +kernel
theorem d_Mo_shift_7 : decode b_Mo_shift 7 = .ok (.ishr, 1) := by decide +kernel
theorem d_Mo_shift_8 : decode b_Mo_shift 8 = .ok (.bipush 15, 2) := by decide +kernel
theorem d_Mo_shift_10 : decode b_Mo_shift 10 = .ok (.iand, 1) := by decide +kernel
theorem d_Mo_shift_11 : decode b_Mo_shift 11 = .ok (.istore_n 3, 1) := by decide +kernel
theorem d_Mo_shift_12 : decode b_Mo_shift 12 = .ok (.iload_n 3, 1) := by decide +kernel
theorem d_Mo_shift_13 : decode b_Mo_shift 13 = .ok (.ifCond .ne 14, 3) := by decide +kernel
theorem d_Mo_shift_16 : decode b_Mo_shift 16 = .ok (.aload_n 0, 1) := by decide +kernel
theorem d_Mo_shift_17 : decode b_Mo_shift 17 = .ok (.iconst 0, 1) := by decide +kernel
theorem d_Mo_shift_18 : decode b_Mo_shift 18 = .ok (.invokevirtual 40, 3) := by decide +kernel
theorem d_Mo_shift_21 : decode b_Mo_shift 21 = .ok (.bipush 15, 2) := by decide +kernel
theorem d_Mo_shift_23 : decode b_Mo_shift 23 = .ok (.iand, 1) := by decide +kernel
theorem d_Mo_shift_24 : decode b_Mo_shift 24 = .ok (.goto 4, 3) := by decide +kernel
theorem d_Mo_shift_27 : decode b_Mo_shift 27 = .ok (.iload_n 3, 1) := by decide +kernel
theorem d_Mo_shift_28 : decode b_Mo_shift 28 = .ok (.istore_n 3, 1) := by decide +kernel
theorem d_Mo_shift_29 : decode b_Mo_shift 29 = .ok (.iload_n 3, 1) := by decide +kernel
theorem d_Mo_shift_30 : decode b_Mo_shift 30 = .ok (.ifCond .ne 8, 3) := by decide +kernel
theorem d_Mo_shift_33 : decode b_Mo_shift 33 = .ok (.bipush 16, 2) := by decide +kernel
theorem d_Mo_shift_35 : decode b_Mo_shift 35 = .ok (.goto 4, 3) := by decide +kernel
theorem d_Mo_shift_38 : decode b_Mo_shift 38 = .ok (.iload_n 3, 1) := by decide +kernel
theorem d_Mo_shift_39 : decode b_Mo_shift 39 = .ok (.istore_n 3, 1) := by decide +kernel
theorem d_Mo_shift_40 : decode b_Mo_shift 40 = .ok (.iload_n 1, 1) := by decide +kernel
theorem d_Mo_shift_41 : decode b_Mo_shift 41 = .ok (.bipush 8, 2) := by decide +kernel
theorem d_Mo_shift_43 : decode b_Mo_shift 43 = .ok (.ishr, 1) := by decide +kernel
theorem d_Mo_shift_44 : decode b_Mo_shift 44 = .ok (.iconst 3, 1) := by decide +kernel
theorem d_Mo_shift_45 : decode b_Mo_shift 45 = .ok (.iand, 1) := by decide +kernel
theorem d_Mo_shift_46 : decode b_Mo_shift 46 = .ok (.istore 4, 2) := by decide +kernel
theorem d_Mo_shift_48 : decode b_Mo_shift 48 = .ok (.aload_n 0, 1) := by decide +kernel
theorem d_Mo_shift_49 : decode b_Mo_shift 49 = .ok (.iload_n 2, 1) := by decide +kernel
theorem d_Mo_shift_50 : decode b_Mo_shift 50 = .ok (.invokevirtual 40, 3) := by decide +kernel
theorem d_Mo_shift_53 : decode b_Mo_shift 53 = .ok (.istore 5, 2) := by decide +kernel
theorem d_Mo_shift_55 : decode b_Mo_shift 55 = .ok (.iconst 0, 1) := by decide +kernel
theorem d_Mo_shift_56 : decode b_Mo_shift 56 = .ok (.istore 6, 2) := by decide +kernel
theorem d_Mo_shift_58 : decode b_Mo_shift 58 = .ok (.iconst 0, 1) := by decide +kernel
theorem d_Mo_shift_59 : decode b_Mo_shift 59 = .ok (.istore 7, 2) := by decide +kernel
theorem d_Mo_shift_61 : decode b_Mo_shift 61 = .ok (.iconst 0, 1) := by decide +kernel
theorem d_Mo_shift_62 : decode b_Mo_shift 62 = .ok (.istore 8, 2) := by decide +kernel
theorem d_Mo_shift_64 : decode b_Mo_shift 64 = .ok (.iload 8, 2) := by decide +kernel
theorem d_Mo_shift_66 : decode b_Mo_shift 66 = .ok (.iload_n 3, 1) := by decide +kernel
theorem d_Mo_shift_67 : decode b_Mo_shift 67 = .ok (.if_icmp .ge 111, 3) := by decide +kernel
theorem d_Mo_shift_70 : decode b_Mo_shift 70 = .ok (.iload 5, 2) := by decide +kernel
theorem d_Mo_shift_72 : decode b_Mo_shift 72 = .ok (.istore 9, 2) := by decide +kernel
theorem d_Mo_shift_74 : decode b_Mo_shift 74 = .ok (.iload 4, 2) := by decide +kernel
theorem d_Mo_shift_76 : decode b_Mo_shift 76 = .ok (.iconst 2, 1) := by decide +kernel
theorem d_Mo_shift_77 : decode b_Mo_shift 77 = .ok (.if_icmp .ne 11, 3) := by decide +kernel
theorem d_Mo_shift_80 : decode b_Mo_shift 80 = .ok (.iload 5, 2) := by decide +kernel
theorem d_Mo_shift_82 : decode b_Mo_shift 82 = .ok (.bipush 15, 2) := by decide +kernel
theorem d_Mo_shift_84 : decode b_Mo_shift 84 = .ok (.ishr, 1) := by decide +kernel
theorem d_Mo_shift_85 : decode b_Mo_shift 85 = .ok (.goto 7, 3) := by decide +kernel
theorem d_Mo_shift_88 : decode b_Mo_shift 88 = .ok (.iload 5, 2) := by decide +kernel
theorem d_Mo_shift_90 : decode b_Mo_shift 90 = .ok (.iconst 1, 1) := by decide +kernel
theorem d_Mo_shift_91 : decode b_Mo_shift 91 = .ok (.iand, 1) := by decide +kernel
theorem d_Mo_shift_92 : decode b_Mo_shift 92 = .ok (.istore 7, 2) := by decide +kernel
theorem d_Mo_shift_94 : decode b_Mo_shift 94 = .ok (.iload 4, 2) := by decide +kernel
theorem d_Mo_shift_96 : decode b_Mo_shift 96 = .ok (.ifCond .ne 11, 3) := by decide +kernel
theorem d_Mo_shift_99 : decode b_Mo_shift 99 = .ok (.iload 5, 2) := by decide +kernel
theorem d_Mo_shift_101 : decode b_Mo_shift 101 = .ok (.ldc 60, 2) := by decide +kernel
theorem d_Mo_shift_103 : decode b_Mo_shift 103 = .ok (.iand, 1) := by decide +kernel
theorem d_Mo_shift_104 : decode b_Mo_shift 104 = .ok (.goto 18, 3) := by decide +kernel
theorem d_Mo_shift_107 : decode b_Mo_shift 107 = .ok (.iload 4, 2) := by decide +kernel
theorem d_Mo_shift_109 : decode b_Mo_shift 109 = .ok (.iconst 3, 1) := by decide +kernel
theorem d_Mo_shift_110 : decode b_Mo_shift 110 = .ok (.if_icmp .ne 11, 3) := by decide +kernel
theorem d_Mo_shift_113 : decode b_Mo_shift 113 = .ok (.iload 7, 2) := by decide +kernel
theorem d_Mo_shift_115 : decode b_Mo_shift 115 = .ok (.bipush 15, 2) := by decide +kernel
theorem d_Mo_shift_117 : decode b_Mo_shift 117 = .ok (.ishl, 1) := by decide +kernel
theorem d_Mo_shift_118 : decode b_Mo_shift 118 = .ok (.goto 4, 3) := by decide +kernel
theorem d_Mo_shift_121 : decode b_Mo_shift 121 = .ok (.iconst 0, 1) := by decide +kernel
theorem d_Mo_shift_122 : decode b_Mo_shift 122 = .ok (.istore 10, 2) := by decide +kernel
theorem d_Mo_shift_124 : decode b_Mo_shift 124 = .ok (.iload 4, 2) := by decide +kernel
theorem d_Mo_shift_126 : decode b_Mo_shift 126 = .ok (.iconst 2, 1) := by decide +kernel
theorem d_Mo_shift_127 : decode b_Mo_shift 127 = .ok (.if_icmp .ne 13, 3) := by decide +kernel
theorem d_Mo_shift_130 : decode b_Mo_shift 130 = .ok (.iload 5, 2) := by decide +kernel
theorem d_Mo_shift_132 : decode b_Mo_shift 132 = .ok (.iconst 1, 1) := by decide +kernel
theorem d_Mo_shift_133 : decode b_Mo_shift 133 = .ok (.ishl, 1) := by decide +kernel
theorem d_Mo_shift_134 : decode b_Mo_shift 134 = .ok (.ldc 24, 2) := by decide +kernel
theorem d_Mo_shift_136 : decode b_Mo_shift 136 = .ok (.iand, 1) := by decide +kernel
theorem d_Mo_shift_137 : decode b_Mo_shift 137 = .ok (.goto 10, 3) := by decide +kernel
theorem d_Mo_shift_140 : decode b_Mo_shift 140 = .ok (.iload 5, 2) := by decide +kernel
theorem d_Mo_shift_142 : decode b_Mo_shift 142 = .ok (.iconst 1, 1) := by decide +kernel
theorem d_Mo_shift_143 : decode b_Mo_shift 143 = .ok (.ishr, 1) := by decide +kernel
theorem d_Mo_shift_144 : decode b_Mo_shift 144 = .ok (.iload 10, 2) := by decide +kernel
theorem d_Mo_shift_146 : decode b_Mo_shift 146 = .ok (.ior, 1) := by decide +kernel
theorem d_Mo_shift_147 : decode b_Mo_shift 147 = .ok (.istore 5, 2) := by decide +kernel
theorem d_Mo_shift_149 : decode b_Mo_shift 149 = .ok (.iload 6, 2) := by decide +kernel
theorem d_Mo_shift_151 : decode b_Mo_shift 151 = .ok (.ifCond .ne 14, 3) := by decide +kernel
theorem d_Mo_shift_154 : decode b_Mo_shift 154 = .ok (.iload 9, 2) := by decide +kernel
theorem d_Mo_shift_156 : decode b_Mo_shift 156 = .ok (.iload 5, 2) := by decide +kernel
theorem d_Mo_shift_158 : decode b_Mo_shift 158 = .ok (.ixor, 1) := by decide +kernel
theorem d_Mo_shift_159 : decode b_Mo_shift 159 = .ok (.ldc 60, 2) := by decide +kernel
theorem d_Mo_shift_161 : decode b_Mo_shift 161 = .ok (.iand, 1) := by decide +kernel
theorem d_Mo_shift_162 : decode b_Mo_shift 162 = .ok (.ifCond .eq 7, 3) := by decide +kernel
theorem d_Mo_shift_165 : decode b_Mo_shift 165 = .ok (.iconst 1, 1) := by decide +kernel
theorem d_Mo_shift_166 : decode b_Mo_shift 166 = .ok (.goto 4, 3) := by decide +kernel
theorem d_Mo_shift_169 : decode b_Mo_shift 169 = .ok (.iconst 0, 1) := by decide +kernel
theorem d_Mo_shift_170 : decode b_Mo_shift 170 = .ok (.istore 6, 2) := by decide +kernel
theorem d_Mo_shift_172 : decode b_Mo_shift 172 = .ok (.iinc 8 1, 3) := by decide +kernel
theorem d_Mo_shift_175 : decode b_Mo_shift 175 = .ok (.goto (-111), 3) := by decide +kernel
theorem d_Mo_shift_178 : decode b_Mo_shift 178 = .ok (.aload_n 0, 1) := by decide +kernel
theorem d_Mo_shift_179 : decode b_Mo_shift 179 = .ok (.iload 5, 2) := by decide +kernel
theorem d_Mo_shift_181 : decode b_Mo_shift 181 = .ok (.invokevirtual 82, 3) := by decide +kernel
theorem d_Mo_shift_184 : decode b_Mo_shift 184 = .ok (.aload_n 0, 1) := by decide +kernel
theorem d_Mo_shift_185 : decode b_Mo_shift 185 = .ok (.sipush 4096, 3) := by decide +kernel
theorem d_Mo_shift_188 : decode b_Mo_shift 188 = .ok (.iload 7, 2) := by decide +kernel
theorem d_Mo_shift_190 : decode b_Mo_shift 190 = .ok (.iconst 1, 1) := by decide +kernel
theorem d_Mo_shift_191 : decode b_Mo_shift 191 = .ok (.if_icmp .ne 7, 3) := by decide +kernel
theorem d_Mo_shift_194 : decode b_Mo_shift 194 = .ok (.iconst 1, 1) := by decide +kernel
theorem d_Mo_shift_195 : decode b_Mo_shift 195 = .ok (.goto 4, 3) := by decide +kernel
theorem d_Mo_shift_198 : decode b_Mo_shift 198 = .ok (.iconst 0, 1) := by decide +kernel
theorem d_Mo_shift_199 : decode b_Mo_shift 199 = .ok (.invokevirtual 61, 3) := by decide +kernel
theorem d_Mo_shift_202 : decode b_Mo_shift 202 = .ok (.iload 4, 2) := by decide +kernel
theorem d_Mo_shift_204 : decode b_Mo_shift 204 = .ok (.iconst 2, 1) := by decide +kernel
theorem d_Mo_shift_205 : decode b_Mo_shift 205 = .ok (.if_icmp .ne 12, 3) := by decide +kernel
theorem d_Mo_shift_208 : decode b_Mo_shift 208 = .ok (.aload_n 0, 1) := by decide +kernel
theorem d_Mo_shift_209 : decode b_Mo_shift 209 = .ok (.sipush 2048, 3) := by decide +kernel
theorem d_Mo_shift_212 : decode b_Mo_shift 212 = .ok (.iload 6, 2) := by decide +kernel
theorem d_Mo_shift_214 : decode b_Mo_shift 214 = .ok (.invokevirtual 61, 3) := by decide +kernel
theorem d_Mo_shift_217 : decode b_Mo_shift 217 = .ok (.aload_n 0, 1) := by decide +kernel
theorem d_Mo_shift_218 : decode b_Mo_shift 218 = .ok (.iload_n 2, 1) := by decide +kernel
theorem d_Mo_shift_219 : decode b_Mo_shift 219 = .ok (.iload 5, 2) := by decide +kernel
theorem d_Mo_shift_221 : decode b_Mo_shift 221 = .ok (.invokevirtual 53, 3) := by decide +kernel
theorem d_Mo_shift_224 : decode b_Mo_shift 224 = .ok (.return_, 1) := by decide +kernel
theorem d_Mo_oneOperand_0 : decode b_Mo_oneOperand 0 = .ok (.iload_n 1, 1) := by decide +kernel
theorem d_Mo_oneOperand_1 : decode b_Mo_oneOperand 1 = .ok (.bipush 6, 2) := by decide +kernel
theorem d_Mo_oneOperand_3 : decode b_Mo_oneOperand 3 = .ok (.ishr, 1) := by decide +kernel
theorem d_Mo_oneOperand_4 : decode b_Mo_oneOperand 4 = .ok (.bipush 15, 2) := by decide +kernel
theorem d_Mo_oneOperand_6 : decode b_Mo_oneOperand 6 = .ok (.iand, 1) := by decide +kernel
theorem d_Mo_oneOperand_7 : decode b_Mo_oneOperand 7 = .ok (.istore_n 2, 1) := by decide +kernel
theorem d_Mo_oneOperand_8 : decode b_Mo_oneOperand 8 = .ok (.aload_n 0, 1) := by decide +kernel
theorem d_Mo_oneOperand_9 : decode b_Mo_oneOperand 9 = .ok (.iload_n 1, 1) := by decide +kernel
theorem d_Mo_oneOperand_10 : decode b_Mo_oneOperand 10 = .ok (.bipush 63, 2) := by decide +kernel
theorem d_Mo_oneOperand_12 : decode b_Mo_oneOperand 12 = .ok (.iand, 1) := by decide +kernel
theorem d_Mo_oneOperand_13 : decode b_Mo_oneOperand 13 = .ok (.iconst 0, 1) := by decide +kernel
theorem d_Mo_oneOperand_14 : decode b_Mo_oneOperand 14 = .ok (.invokevirtual 71, 3) := by decide +kernel
theorem d_Mo_oneOperand_17 : decode b_Mo_oneOperand 17 = .ok (.istore_n 3, 1) := by decide +kernel
theorem d_Mo_oneOperand_18 : decode b_Mo_oneOperand 18 = .ok (.aload_n 0, 1) := by decide +kernel
theorem d_Mo_oneOperand_19 : decode b_Mo_oneOperand 19 = .ok (.iload_n 3, 1) := by decide +kernel
theorem d_Mo_oneOperand_20 : decode b_Mo_oneOperand 20 = .ok (.invokevirtual 28, 3) := by decide +kernel
theorem d_Mo_oneOperand_23 : decode b_Mo_oneOperand 23 = .ok (.istore 4, 2) := by decide +kernel
theorem d_Mo_oneOperand_25 : decode b_Mo_oneOperand 25 = .ok (.iload_n 2, 1) := by decide +kernel
theorem d_Mo_oneOperand_26 : decode b_Mo_oneOperand 26 = .ok (.ifCond .ne 11, 3) := by decide +kernel
theorem d_Mo_oneOperand_29 : decode b_Mo_oneOperand 29 = .ok (.aload_n 0, 1) := by decide +kernel
theorem d_Mo_oneOperand_30 : decode b_Mo_oneOperand 30 = .ok (.iload_n 3, 1) := by decide +kernel
theorem d_Mo_oneOperand_31 : decode b_Mo_oneOperand 31 = .ok (.invokevirtual 99, 3) := by decide +kernel
theorem d_Mo_oneOperand_34 : decode b_Mo_oneOperand 34 = .ok (.goto 304, 3) := by decide +kernel
theorem d_Mo_oneOperand_37 : decode b_Mo_oneOperand 37 = .ok (.iload_n 2, 1) := by decide +kernel
theorem d_Mo_oneOperand_38 : decode b_Mo_oneOperand 38 = .ok (.iconst 1, 1) := by decide +kernel
theorem d_Mo_oneOperand_39 : decode b_Mo_oneOperand 39 = .ok (.if_icmp .ne 15, 3) := by decide +kernel
theorem d_Mo_oneOperand_42 : decode b_Mo_oneOperand 42 = .ok (.aload_n 0, 1) := by decide +kernel
theorem d_Mo_oneOperand_43 : decode b_Mo_oneOperand 43 = .ok (.iload_n 3, 1) := by decide +kernel
theorem d_Mo_oneOperand_44 : decode b_Mo_oneOperand 44 = .ok (.sipush 1022, 3) := by decide +kernel
theorem d_Mo_oneOperand_47 : decode b_Mo_oneOperand 47 = .ok (.iand, 1) := by decide +kernel
theorem d_Mo_oneOperand_48 : decode b_Mo_oneOperand 48 = .ok (.putfield 36, 3) := by decide +kernel
theorem d_Mo_oneOperand_51 : decode b_Mo_oneOperand 51 = .ok (.goto 287, 3) := by decide +kernel
theorem d_Mo_oneOperand_54 : decode b_Mo_oneOperand 54 = .ok (.iload_n 2, 1) := by decide +kernel
theorem d_Mo_oneOperand_55 : decode b_Mo_oneOperand 55 = .ok (.bipush 10, 2) := by decide +kernel
theorem d_Mo_oneOperand_57 : decode b_Mo_oneOperand 57 = .ok (.if_icmp .ne 25, 3) := by decide +kernel
theorem d_Mo_oneOperand_60 : decode b_Mo_oneOperand 60 = .ok (.aload_n 0, 1) := by decide +kernel
theorem d_Mo_oneOperand_61 : decode b_Mo_oneOperand 61 = .ok (.bipush 11, 2) := by decide +kernel
theorem d_Mo_oneOperand_63 : decode b_Mo_oneOperand 63 = .ok (.aload_n 0, 1) := by decide +kernel
theorem d_Mo_oneOperand_64 : decode b_Mo_oneOperand 64 = .ok (.getfield 36, 3) := by decide +kernel
theorem d_Mo_oneOperand_67 : decode b_Mo_oneOperand 67 = .ok (.invokevirtual 53, 3) := by decide +kernel
theorem d_Mo_oneOperand_70 : decode b_Mo_oneOperand 70 = .ok (.aload_n 0, 1) := by decide +kernel
theorem d_Mo_oneOperand_71 : decode b_Mo_oneOperand 71 = .ok (.iload_n 3, 1) := by decide +kernel
theorem d_Mo_oneOperand_72 : decode b_Mo_oneOperand 72 = .ok (.sipush 1022, 3) := by decide +kernel
theorem d_Mo_oneOperand_75 : decode b_Mo_oneOperand 75 = .ok (.iand, 1) := by decide +kernel
theorem d_Mo_oneOperand_76 : decode b_Mo_oneOperand 76 = .ok (.putfield 36, 3) := by decide +kernel
theorem d_Mo_oneOperand_79 : decode b_Mo_oneOperand 79 = .ok (.goto 259, 3) := by decide +kernel
theorem d_Mo_oneOperand_82 : decode b_Mo_oneOperand 82 = .ok (.iload_n 2, 1) := by decide +kernel
theorem d_Mo_oneOperand_83 : decode b_Mo_oneOperand 83 = .ok (.iconst 5, 1) := by decide +kernel
theorem d_Mo_oneOperand_84 : decode b_Mo_oneOperand 84 = .ok (.if_icmp .le 68, 3) := by decide +kernel
theorem d_Mo_oneOperand_87 : decode b_Mo_oneOperand 87 = .ok (.iload_n 2, 1) := by decide +kernel
theorem d_Mo_oneOperand_88 : decode b_Mo_oneOperand 88 = .ok (.bipush 10, 2) := by decide +kernel
theorem d_Mo_oneOperand_90 : decode b_Mo_oneOperand 90 = .ok (.if_icmp .ge 62, 3) := by decide +kernel
theorem d_Mo_oneOperand_93 : decode b_Mo_oneOperand 93 = .ok (.aload_n 0, 1) := by decide +kernel
theorem d_Mo_oneOperand_94 : decode b_Mo_oneOperand 94 = .ok (.iload 4, 2) := by decide +kernel
theorem d_Mo_oneOperand_96 : decode b_Mo_oneOperand 96 = .ok (.iload_n 2, 1) := by decide +kernel
theorem d_Mo_oneOperand_97 : decode b_Mo_oneOperand 97 = .ok (.bipush 6, 2) := by decide +kernel
theorem d_Mo_oneOperand_99 : decode b_Mo_oneOperand 99 = .ok (.if_icmp .ne 7, 3) := by decide +kernel
theorem d_Mo_oneOperand_102 : decode b_Mo_oneOperand 102 = .ok (.iconst 1, 1) := by decide +kernel
theorem d_Mo_oneOperand_103 : decode b_Mo_oneOperand 103 = .ok (.goto 26, 3) := by decide +kernel
theorem d_Mo_oneOperand_106 : decode b_Mo_oneOperand 106 = .ok (.iload_n 2, 1) := by decide +kernel
theorem d_Mo_oneOperand_107 : decode b_Mo_oneOperand 107 = .ok (.bipush 7, 2) := by decide +kernel
theorem d_Mo_oneOperand_109 : decode b_Mo_oneOperand 109 = .ok (.if_icmp .ne 7, 3) := by decide +kernel
theorem d_Mo_oneOperand_112 : decode b_Mo_oneOperand 112 = .ok (.iconst 2, 1) := by decide +kernel
theorem d_Mo_oneOperand_113 : decode b_Mo_oneOperand 113 = .ok (.goto 16, 3) := by decide +kernel
theorem d_Mo_oneOperand_116 : decode b_Mo_oneOperand 116 = .ok (.iload_n 2, 1) := by decide +kernel
end
section
/-! decode rows, laid by gen.py -/
theorem d_Mo_oneOperand_117 : decode b_Mo_oneOperand 117 = .ok (.bipush 8, 2) := by decide +kernel
theorem d_Mo_oneOperand_119 : decode b_Mo_oneOperand 119 = .ok (.if_icmp .ne 8, 3) := by decide +kernel
theorem d_Mo_oneOperand_122 : decode b_Mo_oneOperand 122 = .ok (.ldc 24, 2) := by decide +kernel
theorem d_Mo_oneOperand_124 : decode b_Mo_oneOperand 124 = .ok (.goto 5, 3) := by decide +kernel
theorem d_Mo_oneOperand_127 : decode b_Mo_oneOperand 127 = .ok (.ldc 113, 2) := by decide +kernel
theorem d_Mo_oneOperand_129 : decode b_Mo_oneOperand 129 = .ok (.iconst 0, 1) := by decide +kernel
theorem d_Mo_oneOperand_130 : decode b_Mo_oneOperand 130 = .ok (.iconst 0, 1) := by decide +kernel
theorem d_Mo_oneOperand_131 : decode b_Mo_oneOperand 131 = .ok (.invokevirtual 78, 3) := by decide +kernel
theorem d_Mo_oneOperand_134 : decode b_Mo_oneOperand 134 = .ok (.istore 5, 2) := by decide +kernel
theorem d_Mo_oneOperand_136 : decode b_Mo_oneOperand 136 = .ok (.aload_n 0, 1) := by decide +kernel
theorem d_Mo_oneOperand_137 : decode b_Mo_oneOperand 137 = .ok (.iload 5, 2) := by decide +kernel
theorem d_Mo_oneOperand_139 : decode b_Mo_oneOperand 139 = .ok (.invokevirtual 82, 3) := by decide +kernel
theorem d_Mo_oneOperand_142 : decode b_Mo_oneOperand 142 = .ok (.aload_n 0, 1) := by decide +kernel
theorem d_Mo_oneOperand_143 : decode b_Mo_oneOperand 143 = .ok (.iload_n 3, 1) := by decide +kernel
theorem d_Mo_oneOperand_144 : decode b_Mo_oneOperand 144 = .ok (.iload 5, 2) := by decide +kernel
theorem d_Mo_oneOperand_146 : decode b_Mo_oneOperand 146 = .ok (.invokevirtual 32, 3) := by decide +kernel
theorem d_Mo_oneOperand_149 : decode b_Mo_oneOperand 149 = .ok (.goto 189, 3) := by decide +kernel
theorem d_Mo_oneOperand_152 : decode b_Mo_oneOperand 152 = .ok (.iload_n 2, 1) := by decide +kernel
theorem d_Mo_oneOperand_153 : decode b_Mo_oneOperand 153 = .ok (.bipush 13, 2) := by decide +kernel
theorem d_Mo_oneOperand_155 : decode b_Mo_oneOperand 155 = .ok (.if_icmp .ne 55, 3) := by decide +kernel
theorem d_Mo_oneOperand_158 : decode b_Mo_oneOperand 158 = .ok (.aload_n 0, 1) := by decide +kernel
theorem d_Mo_oneOperand_159 : decode b_Mo_oneOperand 159 = .ok (.iload 4, 2) := by decide +kernel
theorem d_Mo_oneOperand_161 : decode b_Mo_oneOperand 161 = .ok (.invokevirtual 82, 3) := by decide +kernel
theorem d_Mo_oneOperand_164 : decode b_Mo_oneOperand 164 = .ok (.aload_n 0, 1) := by decide +kernel
theorem d_Mo_oneOperand_165 : decode b_Mo_oneOperand 165 = .ok (.sipush 2048, 3) := by decide +kernel
theorem d_Mo_oneOperand_168 : decode b_Mo_oneOperand 168 = .ok (.iload 4, 2) := by decide +kernel
theorem d_Mo_oneOperand_170 : decode b_Mo_oneOperand 170 = .ok (.ldc 60, 2) := by decide +kernel
theorem d_Mo_oneOperand_172 : decode b_Mo_oneOperand 172 = .ok (.if_icmp .ne 7, 3) := by decide +kernel
theorem d_Mo_oneOperand_175 : decode b_Mo_oneOperand 175 = .ok (.iconst 1, 1) := by decide +kernel
theorem d_Mo_oneOperand_176 : decode b_Mo_oneOperand 176 = .ok (.goto 4, 3) := by decide +kernel
theorem d_Mo_oneOperand_179 : decode b_Mo_oneOperand 179 = .ok (.iconst 0, 1) := by decide +kernel
theorem d_Mo_oneOperand_180 : decode b_Mo_oneOperand 180 = .ok (.invokevirtual 61, 3) := by decide +kernel
theorem d_Mo_oneOperand_183 : decode b_Mo_oneOperand 183 = .ok (.aload_n 0, 1) := by decide +kernel
theorem d_Mo_oneOperand_184 : decode b_Mo_oneOperand 184 = .ok (.sipush 4096, 3) := by decide +kernel
theorem d_Mo_oneOperand_187 : decode b_Mo_oneOperand 187 = .ok (.iconst 0, 1) := by decide +kernel
theorem d_Mo_oneOperand_188 : decode b_Mo_oneOperand 188 = .ok (.invokevirtual 61, 3) := by decide +kernel
theorem d_Mo_oneOperand_191 : decode b_Mo_oneOperand 191 = .ok (.iload 4, 2) := by decide +kernel
theorem d_Mo_oneOperand_193 : decode b_Mo_oneOperand 193 = .ok (.sipush 32767, 3) := by decide +kernel
theorem d_Mo_oneOperand_196 : decode b_Mo_oneOperand 196 = .ok (.if_icmp .le 142, 3) := by decide +kernel
theorem d_Mo_oneOperand_199 : decode b_Mo_oneOperand 199 = .ok (.aload_n 0, 1) := by decide +kernel
theorem d_Mo_oneOperand_200 : decode b_Mo_oneOperand 200 = .ok (.iload_n 3, 1) := by decide +kernel
theorem d_Mo_oneOperand_201 : decode b_Mo_oneOperand 201 = .ok (.iload 4, 2) := by decide +kernel
theorem d_Mo_oneOperand_203 : decode b_Mo_oneOperand 203 = .ok (.ineg, 1) := by decide +kernel
theorem d_Mo_oneOperand_204 : decode b_Mo_oneOperand 204 = .ok (.invokevirtual 32, 3) := by decide +kernel
theorem d_Mo_oneOperand_207 : decode b_Mo_oneOperand 207 = .ok (.goto 131, 3) := by decide +kernel
theorem d_Mo_oneOperand_210 : decode b_Mo_oneOperand 210 = .ok (.iload_n 2, 1) := by decide +kernel
theorem d_Mo_oneOperand_211 : decode b_Mo_oneOperand 211 = .ok (.iconst 4, 1) := by decide +kernel
theorem d_Mo_oneOperand_212 : decode b_Mo_oneOperand 212 = .ok (.if_icmp .eq 8, 3) := by decide +kernel
theorem d_Mo_oneOperand_215 : decode b_Mo_oneOperand 215 = .ok (.iload_n 2, 1) := by decide +kernel
theorem d_Mo_oneOperand_216 : decode b_Mo_oneOperand 216 = .ok (.iconst 5, 1) := by decide +kernel
theorem d_Mo_oneOperand_217 : decode b_Mo_oneOperand 217 = .ok (.if_icmp .ne 85, 3) := by decide +kernel
theorem d_Mo_oneOperand_220 : decode b_Mo_oneOperand 220 = .ok (.iload_n 2, 1) := by decide +kernel
theorem d_Mo_oneOperand_221 : decode b_Mo_oneOperand 221 = .ok (.iconst 4, 1) := by decide +kernel
theorem d_Mo_oneOperand_222 : decode b_Mo_oneOperand 222 = .ok (.if_icmp .ne 9, 3) := by decide +kernel
theorem d_Mo_oneOperand_225 : decode b_Mo_oneOperand 225 = .ok (.iload 4, 2) := by decide +kernel
theorem d_Mo_oneOperand_227 : decode b_Mo_oneOperand 227 = .ok (.ineg, 1) := by decide +kernel
theorem d_Mo_oneOperand_228 : decode b_Mo_oneOperand 228 = .ok (.goto 7, 3) := by decide +kernel
theorem d_Mo_oneOperand_231 : decode b_Mo_oneOperand 231 = .ok (.iload 4, 2) := by decide +kernel
theorem d_Mo_oneOperand_233 : decode b_Mo_oneOperand 233 = .ok (.iconst (-1), 1) := by decide +kernel
theorem d_Mo_oneOperand_234 : decode b_Mo_oneOperand 234 = .ok (.ixor, 1) := by decide +kernel
theorem d_Mo_oneOperand_235 : decode b_Mo_oneOperand 235 = .ok (.ldc 24, 2) := by decide +kernel
theorem d_Mo_oneOperand_237 : decode b_Mo_oneOperand 237 = .ok (.iand, 1) := by decide +kernel
theorem d_Mo_oneOperand_238 : decode b_Mo_oneOperand 238 = .ok (.istore 5, 2) := by decide +kernel
theorem d_Mo_oneOperand_240 : decode b_Mo_oneOperand 240 = .ok (.aload_n 0, 1) := by decide +kernel
theorem d_Mo_oneOperand_241 : decode b_Mo_oneOperand 241 = .ok (.iload 5, 2) := by decide +kernel
theorem d_Mo_oneOperand_243 : decode b_Mo_oneOperand 243 = .ok (.invokevirtual 82, 3) := by decide +kernel
theorem d_Mo_oneOperand_246 : decode b_Mo_oneOperand 246 = .ok (.iload_n 2, 1) := by decide +kernel
theorem d_Mo_oneOperand_247 : decode b_Mo_oneOperand 247 = .ok (.iconst 4, 1) := by decide +kernel
theorem d_Mo_oneOperand_248 : decode b_Mo_oneOperand 248 = .ok (.if_icmp .ne 20, 3) := by decide +kernel
theorem d_Mo_oneOperand_251 : decode b_Mo_oneOperand 251 = .ok (.aload_n 0, 1) := by decide +kernel
theorem d_Mo_oneOperand_252 : decode b_Mo_oneOperand 252 = .ok (.sipush 4096, 3) := by decide +kernel
theorem d_Mo_oneOperand_255 : decode b_Mo_oneOperand 255 = .ok (.iload 4, 2) := by decide +kernel
theorem d_Mo_oneOperand_257 : decode b_Mo_oneOperand 257 = .ok (.ifCond .ne 7, 3) := by decide +kernel
theorem d_Mo_oneOperand_260 : decode b_Mo_oneOperand 260 = .ok (.iconst 1, 1) := by decide +kernel
theorem d_Mo_oneOperand_261 : decode b_Mo_oneOperand 261 = .ok (.goto 4, 3) := by decide +kernel
theorem d_Mo_oneOperand_264 : decode b_Mo_oneOperand 264 = .ok (.iconst 0, 1) := by decide +kernel
theorem d_Mo_oneOperand_265 : decode b_Mo_oneOperand 265 = .ok (.invokevirtual 61, 3) := by decide +kernel
theorem d_Mo_oneOperand_268 : decode b_Mo_oneOperand 268 = .ok (.iload_n 2, 1) := by decide +kernel
theorem d_Mo_oneOperand_269 : decode b_Mo_oneOperand 269 = .ok (.iconst 4, 1) := by decide +kernel
theorem d_Mo_oneOperand_270 : decode b_Mo_oneOperand 270 = .ok (.if_icmp .ne 22, 3) := by decide +kernel
theorem d_Mo_oneOperand_273 : decode b_Mo_oneOperand 273 = .ok (.aload_n 0, 1) := by decide +kernel
theorem d_Mo_oneOperand_274 : decode b_Mo_oneOperand 274 = .ok (.sipush 2048, 3) := by decide +kernel
theorem d_Mo_oneOperand_277 : decode b_Mo_oneOperand 277 = .ok (.iload 4, 2) := by decide +kernel
theorem d_Mo_oneOperand_279 : decode b_Mo_oneOperand 279 = .ok (.ldc 60, 2) := by decide +kernel
theorem d_Mo_oneOperand_281 : decode b_Mo_oneOperand 281 = .ok (.if_icmp .ne 7, 3) := by decide +kernel
theorem d_Mo_oneOperand_284 : decode b_Mo_oneOperand 284 = .ok (.iconst 1, 1) := by decide +kernel
theorem d_Mo_oneOperand_285 : decode b_Mo_oneOperand 285 = .ok (.goto 4, 3) := by decide +kernel
theorem d_Mo_oneOperand_288 : decode b_Mo_oneOperand 288 = .ok (.iconst 0, 1) := by decide +kernel
theorem d_Mo_oneOperand_289 : decode b_Mo_oneOperand 289 = .ok (.invokevirtual 61, 3) := by decide +kernel
theorem d_Mo_oneOperand_292 : decode b_Mo_oneOperand 292 = .ok (.aload_n 0, 1) := by decide +kernel
theorem d_Mo_oneOperand_293 : decode b_Mo_oneOperand 293 = .ok (.iload_n 3, 1) := by decide +kernel
theorem d_Mo_oneOperand_294 : decode b_Mo_oneOperand 294 = .ok (.iload 5, 2) := by decide +kernel
theorem d_Mo_oneOperand_296 : decode b_Mo_oneOperand 296 = .ok (.invokevirtual 32, 3) := by decide +kernel
theorem d_Mo_oneOperand_299 : decode b_Mo_oneOperand 299 = .ok (.goto 39, 3) := by decide +kernel
theorem d_Mo_oneOperand_302 : decode b_Mo_oneOperand 302 = .ok (.aload_n 0, 1) := by decide +kernel
theorem d_Mo_oneOperand_303 : decode b_Mo_oneOperand 303 = .ok (.iload_n 3, 1) := by decide +kernel
theorem d_Mo_oneOperand_304 : decode b_Mo_oneOperand 304 = .ok (.iload_n 2, 1) := by decide +kernel
theorem d_Mo_oneOperand_305 : decode b_Mo_oneOperand 305 = .ok (.iconst 3, 1) := by decide +kernel
theorem d_Mo_oneOperand_306 : decode b_Mo_oneOperand 306 = .ok (.if_icmp .ne 7, 3) := by decide +kernel
theorem d_Mo_oneOperand_309 : decode b_Mo_oneOperand 309 = .ok (.iconst 0, 1) := by decide +kernel
theorem d_Mo_oneOperand_310 : decode b_Mo_oneOperand 310 = .ok (.goto 25, 3) := by decide +kernel
theorem d_Mo_oneOperand_313 : decode b_Mo_oneOperand 313 = .ok (.iload_n 2, 1) := by decide +kernel
theorem d_Mo_oneOperand_314 : decode b_Mo_oneOperand 314 = .ok (.bipush 12, 2) := by decide +kernel
theorem d_Mo_oneOperand_316 : decode b_Mo_oneOperand 316 = .ok (.if_icmp .ne 8, 3) := by decide +kernel
theorem d_Mo_oneOperand_319 : decode b_Mo_oneOperand 319 = .ok (.ldc 24, 2) := by decide +kernel
theorem d_Mo_oneOperand_321 : decode b_Mo_oneOperand 321 = .ok (.goto 14, 3) := by decide +kernel
theorem d_Mo_oneOperand_324 : decode b_Mo_oneOperand 324 = .ok (.iload 4, 2) := by decide +kernel
theorem d_Mo_oneOperand_326 : decode b_Mo_oneOperand 326 = .ok (.bipush 8, 2) := by decide +kernel
theorem d_Mo_oneOperand_328 : decode b_Mo_oneOperand 328 = .ok (.ishr, 1) := by decide +kernel
theorem d_Mo_oneOperand_329 : decode b_Mo_oneOperand 329 = .ok (.iload 4, 2) := by decide +kernel
theorem d_Mo_oneOperand_331 : decode b_Mo_oneOperand 331 = .ok (.bipush 8, 2) := by decide +kernel
theorem d_Mo_oneOperand_333 : decode b_Mo_oneOperand 333 = .ok (.ishl, 1) := by decide +kernel
theorem d_Mo_oneOperand_334 : decode b_Mo_oneOperand 334 = .ok (.ior, 1) := by decide +kernel
theorem d_Mo_oneOperand_335 : decode b_Mo_oneOperand 335 = .ok (.invokevirtual 32, 3) := by decide +kernel
theorem d_Mo_oneOperand_338 : decode b_Mo_oneOperand 338 = .ok (.return_, 1) := by decide +kernel
theorem d_Mo_immediate_0 : decode b_Mo_immediate 0 = .ok (.aload_n 0, 1) := by decide +kernel
theorem d_Mo_immediate_1 : decode b_Mo_immediate 1 = .ok (.invokevirtual 43, 3) := by decide +kernel
theorem d_Mo_immediate_4 : decode b_Mo_immediate 4 = .ok (.istore_n 3, 1) := by decide +kernel
theorem d_Mo_immediate_5 : decode b_Mo_immediate 5 = .ok (.aload_n 0, 1) := by decide +kernel
theorem d_Mo_immediate_6 : decode b_Mo_immediate 6 = .ok (.iload_n 2, 1) := by decide +kernel
theorem d_Mo_immediate_7 : decode b_Mo_immediate 7 = .ok (.invokevirtual 40, 3) := by decide +kernel
theorem d_Mo_immediate_10 : decode b_Mo_immediate 10 = .ok (.istore 4, 2) := by decide +kernel
theorem d_Mo_immediate_12 : decode b_Mo_immediate 12 = .ok (.iload_n 1, 1) := by decide +kernel
theorem d_Mo_immediate_13 : decode b_Mo_immediate 13 = .ok (.bipush 7, 2) := by decide +kernel
theorem d_Mo_immediate_15 : decode b_Mo_immediate 15 = .ok (.if_icmp .ne 15, 3) := by decide +kernel
theorem d_Mo_immediate_18 : decode b_Mo_immediate 18 = .ok (.aload_n 0, 1) := by decide +kernel
theorem d_Mo_immediate_19 : decode b_Mo_immediate 19 = .ok (.iload_n 3, 1) := by decide +kernel
theorem d_Mo_immediate_20 : decode b_Mo_immediate 20 = .ok (.sipush 1022, 3) := by decide +kernel
theorem d_Mo_immediate_23 : decode b_Mo_immediate 23 = .ok (.iand, 1) := by decide +kernel
theorem d_Mo_immediate_24 : decode b_Mo_immediate 24 = .ok (.putfield 25, 3) := by decide +kernel
theorem d_Mo_immediate_27 : decode b_Mo_immediate 27 = .ok (.goto 88, 3) := by decide +kernel
theorem d_Mo_immediate_30 : decode b_Mo_immediate 30 = .ok (.iload_n 1, 1) := by decide +kernel
theorem d_Mo_immediate_31 : decode b_Mo_immediate 31 = .ok (.bipush 8, 2) := by decide +kernel
theorem d_Mo_immediate_33 : decode b_Mo_immediate 33 = .ok (.if_icmp .ne 11, 3) := by decide +kernel
theorem d_Mo_immediate_36 : decode b_Mo_immediate 36 = .ok (.aload_n 0, 1) := by decide +kernel
theorem d_Mo_immediate_37 : decode b_Mo_immediate 37 = .ok (.iload_n 3, 1) := by decide +kernel
theorem d_Mo_immediate_38 : decode b_Mo_immediate 38 = .ok (.invokevirtual 114, 3) := by decide +kernel
theorem d_Mo_immediate_41 : decode b_Mo_immediate 41 = .ok (.goto 74, 3) := by decide +kernel
theorem d_Mo_immediate_44 : decode b_Mo_immediate 44 = .ok (.iload_n 1, 1) := by decide +kernel
theorem d_Mo_immediate_45 : decode b_Mo_immediate 45 = .ok (.iconst 4, 1) := by decide +kernel
theorem d_Mo_immediate_46 : decode b_Mo_immediate 46 = .ok (.if_icmp .ne 13, 3) := by decide +kernel
theorem d_Mo_immediate_49 : decode b_Mo_immediate 49 = .ok (.aload_n 0, 1) := by decide +kernel
theorem d_Mo_immediate_50 : decode b_Mo_immediate 50 = .ok (.iload 4, 2) := by decide +kernel
theorem d_Mo_immediate_52 : decode b_Mo_immediate 52 = .ok (.iload_n 3, 1) := by decide +kernel
theorem d_Mo_immediate_53 : decode b_Mo_immediate 53 = .ok (.invokevirtual 68, 3) := by decide +kernel
theorem d_Mo_immediate_56 : decode b_Mo_immediate 56 = .ok (.goto 59, 3) := by decide +kernel
theorem d_Mo_immediate_59 : decode b_Mo_immediate 59 = .ok (.iload_n 1, 1) := by decide +kernel
theorem d_Mo_immediate_60 : decode b_Mo_immediate 60 = .ok (.ifCond .ne 7, 3) := by decide +kernel
theorem d_Mo_immediate_63 : decode b_Mo_immediate 63 = .ok (.iload_n 3, 1) := by decide +kernel
theorem d_Mo_immediate_64 : decode b_Mo_immediate 64 = .ok (.goto 36, 3) := by decide +kernel
theorem d_Mo_immediate_67 : decode b_Mo_immediate 67 = .ok (.iload_n 1, 1) := by decide +kernel
theorem d_Mo_immediate_68 : decode b_Mo_immediate 68 = .ok (.iconst 1, 1) := by decide +kernel
theorem d_Mo_immediate_69 : decode b_Mo_immediate 69 = .ok (.if_icmp .ne 15, 3) := by decide +kernel
theorem d_Mo_immediate_72 : decode b_Mo_immediate 72 = .ok (.aload_n 0, 1) := by decide +kernel
theorem d_Mo_immediate_73 : decode b_Mo_immediate 73 = .ok (.iload 4, 2) := by decide +kernel
theorem d_Mo_immediate_75 : decode b_Mo_immediate 75 = .ok (.iload_n 3, 1) := by decide +kernel
theorem d_Mo_immediate_76 : decode b_Mo_immediate 76 = .ok (.iconst 0, 1) := by decide +kernel
theorem d_Mo_immediate_77 : decode b_Mo_immediate 77 = .ok (.iconst 0, 1) := by decide +kernel
theorem d_Mo_immediate_78 : decode b_Mo_immediate 78 = .ok (.invokevirtual 78, 3) := by decide +kernel
theorem d_Mo_immediate_81 : decode b_Mo_immediate 81 = .ok (.goto 19, 3) := by decide +kernel
theorem d_Mo_immediate_84 : decode b_Mo_immediate 84 = .ok (.iload_n 1, 1) := by decide +kernel
theorem d_Mo_immediate_85 : decode b_Mo_immediate 85 = .ok (.iconst 2, 1) := by decide +kernel
theorem d_Mo_immediate_86 : decode b_Mo_immediate 86 = .ok (.if_icmp .ne 10, 3) := by decide +kernel
theorem d_Mo_immediate_89 : decode b_Mo_immediate 89 = .ok (.iload 4, 2) := by decide +kernel
theorem d_Mo_immediate_91 : decode b_Mo_immediate 91 = .ok (.iload_n 3, 1) := by decide +kernel
theorem d_Mo_immediate_92 : decode b_Mo_immediate 92 = .ok (.iand, 1) := by decide +kernel
theorem d_Mo_immediate_93 : decode b_Mo_immediate 93 = .ok (.goto 7, 3) := by decide +kernel
theorem d_Mo_immediate_96 : decode b_Mo_immediate 96 = .ok (.iload 4, 2) := by decide +kernel
theorem d_Mo_immediate_98 : decode b_Mo_immediate 98 = .ok (.iload_n 3, 1) := by decide +kernel
theorem d_Mo_immediate_99 : decode b_Mo_immediate 99 = .ok (.ior, 1) := by decide +kernel
theorem d_Mo_immediate_100 : decode b_Mo_immediate 100 = .ok (.istore 5, 2) := by decide +kernel
theorem d_Mo_immediate_102 : decode b_Mo_immediate 102 = .ok (.aload_n 0, 1) := by decide +kernel
theorem d_Mo_immediate_103 : decode b_Mo_immediate 103 = .ok (.iload 5, 2) := by decide +kernel
theorem d_Mo_immediate_105 : decode b_Mo_immediate 105 = .ok (.invokevirtual 82, 3) := by decide +kernel
theorem d_Mo_immediate_108 : decode b_Mo_immediate 108 = .ok (.aload_n 0, 1) := by decide +kernel
theorem d_Mo_immediate_109 : decode b_Mo_immediate 109 = .ok (.iload_n 2, 1) := by decide +kernel
theorem d_Mo_immediate_110 : decode b_Mo_immediate 110 = .ok (.iload 5, 2) := by decide +kernel
theorem d_Mo_immediate_112 : decode b_Mo_immediate 112 = .ok (.invokevirtual 53, 3) := by decide +kernel
theorem d_Mo_immediate_115 : decode b_Mo_immediate 115 = .ok (.return_, 1) := by decide +kernel
theorem d_Mo_inner_0 : decode b_Mo_inner 0 = .ok (.iload_n 1, 1) := by decide +kernel
theorem d_Mo_inner_1 : decode b_Mo_inner 1 = .ok (.iconst 5, 1) := by decide +kernel
theorem d_Mo_inner_2 : decode b_Mo_inner 2 = .ok (.ishr, 1) := by decide +kernel
theorem d_Mo_inner_3 : decode b_Mo_inner 3 = .ok (.bipush 15, 2) := by decide +kernel
theorem d_Mo_inner_5 : decode b_Mo_inner 5 = .ok (.iand, 1) := by decide +kernel
theorem d_Mo_inner_6 : decode b_Mo_inner 6 = .ok (.istore_n 2, 1) := by decide +kernel
theorem d_Mo_inner_7 : decode b_Mo_inner 7 = .ok (.iload_n 2, 1) := by decide +kernel
theorem d_Mo_inner_8 : decode b_Mo_inner 8 = .ok (.iconst 5, 1) := by decide +kernel
theorem d_Mo_inner_9 : decode b_Mo_inner 9 = .ok (.if_icmp .lt 15, 3) := by decide +kernel
theorem d_Mo_inner_12 : decode b_Mo_inner 12 = .ok (.iload_n 2, 1) := by decide +kernel
theorem d_Mo_inner_13 : decode b_Mo_inner 13 = .ok (.bipush 7, 2) := by decide +kernel
theorem d_Mo_inner_15 : decode b_Mo_inner 15 = .ok (.if_icmp .eq 9, 3) := by decide +kernel
theorem d_Mo_inner_18 : decode b_Mo_inner 18 = .ok (.iload_n 2, 1) := by decide +kernel
theorem d_Mo_inner_19 : decode b_Mo_inner 19 = .ok (.bipush 8, 2) := by decide +kernel
theorem d_Mo_inner_21 : decode b_Mo_inner 21 = .ok (.if_icmp .ne 12, 3) := by decide +kernel
theorem d_Mo_inner_24 : decode b_Mo_inner 24 = .ok (.aload_n 0, 1) := by decide +kernel
theorem d_Mo_inner_25 : decode b_Mo_inner 25 = .ok (.iload_n 2, 1) := by decide +kernel
theorem d_Mo_inner_26 : decode b_Mo_inner 26 = .ok (.iload_n 1, 1) := by decide +kernel
theorem d_Mo_inner_27 : decode b_Mo_inner 27 = .ok (.bipush 15, 2) := by decide +kernel
theorem d_Mo_inner_29 : decode b_Mo_inner 29 = .ok (.iand, 1) := by decide +kernel
theorem d_Mo_inner_30 : decode b_Mo_inner 30 = .ok (.invokevirtual 117, 3) := by decide +kernel
theorem d_Mo_inner_33 : decode b_Mo_inner 33 = .ok (.iload_n 2, 1) := by decide +kernel
theorem d_Mo_inner_34 : decode b_Mo_inner 34 = .ok (.iconst 5, 1) := by decide +kernel
theorem d_Mo_inner_35 : decode b_Mo_inner 35 = .ok (.if_icmp .ne 15, 3) := by decide +kernel
theorem d_Mo_inner_38 : decode b_Mo_inner 38 = .ok (.aload_n 0, 1) := by decide +kernel
theorem d_Mo_inner_39 : decode b_Mo_inner 39 = .ok (.iload_n 1, 1) := by decide +kernel
theorem d_Mo_inner_40 : decode b_Mo_inner 40 = .ok (.bipush 15, 2) := by decide +kernel
theorem d_Mo_inner_42 : decode b_Mo_inner 42 = .ok (.iand, 1) := by decide +kernel
theorem d_Mo_inner_43 : decode b_Mo_inner 43 = .ok (.aload_n 0, 1) := by decide +kernel
theorem d_Mo_inner_44 : decode b_Mo_inner 44 = .ok (.getfield 25, 3) := by decide +kernel
theorem d_Mo_inner_47 : decode b_Mo_inner 47 = .ok (.invokevirtual 53, 3) := by decide +kernel
theorem d_Mo_inner_50 : decode b_Mo_inner 50 = .ok (.iload_n 2, 1) := by decide +kernel
theorem d_Mo_inner_51 : decode b_Mo_inner 51 = .ok (.bipush 6, 2) := by decide +kernel
theorem d_Mo_inner_53 : decode b_Mo_inner 53 = .ok (.if_icmp .ne 15, 3) := by decide +kernel
theorem d_Mo_inner_56 : decode b_Mo_inner 56 = .ok (.aload_n 0, 1) := by decide +kernel
theorem d_Mo_inner_57 : decode b_Mo_inner 57 = .ok (.iload_n 1, 1) := by decide +kernel
theorem d_Mo_inner_58 : decode b_Mo_inner 58 = .ok (.bipush 15, 2) := by decide +kernel
theorem d_Mo_inner_60 : decode b_Mo_inner 60 = .ok (.iand, 1) := by decide +kernel
theorem d_Mo_inner_61 : decode b_Mo_inner 61 = .ok (.aload_n 0, 1) := by decide +kernel
theorem d_Mo_inner_62 : decode b_Mo_inner 62 = .ok (.getfield 56, 3) := by decide +kernel
theorem d_Mo_inner_65 : decode b_Mo_inner 65 = .ok (.invokevirtual 53, 3) := by decide +kernel
theorem d_Mo_inner_68 : decode b_Mo_inner 68 = .ok (.iload_n 2, 1) := by decide +kernel
theorem d_Mo_inner_69 : decode b_Mo_inner 69 = .ok (.bipush 10, 2) := by decide +kernel
theorem d_Mo_inner_71 : decode b_Mo_inner 71 = .ok (.if_icmp .ne 8, 3) := by decide +kernel
theorem d_Mo_inner_74 : decode b_Mo_inner 74 = .ok (.aload_n 0, 1) := by decide +kernel
theorem d_Mo_inner_75 : decode b_Mo_inner 75 = .ok (.iconst 1, 1) := by decide +kernel
theorem d_Mo_inner_76 : decode b_Mo_inner 76 = .ok (.putfield 120, 3) := by decide +kernel
theorem d_Mo_inner_79 : decode b_Mo_inner 79 = .ok (.iload_n 2, 1) := by decide +kernel
theorem d_Mo_inner_80 : decode b_Mo_inner 80 = .ok (.bipush 11, 2) := by decide +kernel
theorem d_Mo_inner_82 : decode b_Mo_inner 82 = .ok (.if_icmp .ne 8, 3) := by decide +kernel
theorem d_Mo_inner_85 : decode b_Mo_inner 85 = .ok (.aload_n 0, 1) := by decide +kernel
theorem d_Mo_inner_86 : decode b_Mo_inner 86 = .ok (.iconst 0, 1) := by decide +kernel
theorem d_Mo_inner_87 : decode b_Mo_inner 87 = .ok (.invokevirtual 114, 3) := by decide +kernel
theorem d_Mo_inner_90 : decode b_Mo_inner 90 = .ok (.iload_n 2, 1) := by decide +kernel
theorem d_Mo_inner_91 : decode b_Mo_inner 91 = .ok (.bipush 12, 2) := by decide +kernel
theorem d_Mo_inner_93 : decode b_Mo_inner 93 = .ok (.if_icmp .ne 43, 3) := by decide +kernel
theorem d_Mo_inner_96 : decode b_Mo_inner 96 = .ok (.aload_n 0, 1) := by decide +kernel
theorem d_Mo_inner_97 : decode b_Mo_inner 97 = .ok (.bipush 13, 2) := by decide +kernel
theorem d_Mo_inner_99 : decode b_Mo_inner 99 = .ok (.invokevirtual 40, 3) := by decide +kernel
theorem d_Mo_inner_102 : decode b_Mo_inner 102 = .ok (.istore_n 3, 1) := by decide +kernel
theorem d_Mo_inner_103 : decode b_Mo_inner 103 = .ok (.aload_n 0, 1) := by decide +kernel
theorem d_Mo_inner_104 : decode b_Mo_inner 104 = .ok (.aload_n 0, 1) := by decide +kernel
theorem d_Mo_inner_105 : decode b_Mo_inner 105 = .ok (.bipush 14, 2) := by decide +kernel
theorem d_Mo_inner_107 : decode b_Mo_inner 107 = .ok (.invokevirtual 40, 3) := by decide +kernel
theorem d_Mo_inner_110 : decode b_Mo_inner 110 = .ok (.sipush 1022, 3) := by decide +kernel
theorem d_Mo_inner_113 : decode b_Mo_inner 113 = .ok (.iand, 1) := by decide +kernel
theorem d_Mo_inner_114 : decode b_Mo_inner 114 = .ok (.putfield 36, 3) := by decide +kernel
theorem d_Mo_inner_117 : decode b_Mo_inner 117 = .ok (.aload_n 0, 1) := by decide +kernel
theorem d_Mo_inner_118 : decode b_Mo_inner 118 = .ok (.aload_n 0, 1) := by decide +kernel
theorem d_Mo_inner_119 : decode b_Mo_inner 119 = .ok (.bipush 15, 2) := by decide +kernel
theorem d_Mo_inner_121 : decode b_Mo_inner 121 = .ok (.invokevirtual 40, 3) := by decide +kernel
theorem d_Mo_inner_124 : decode b_Mo_inner 124 = .ok (.putfield 56, 3) := by decide +kernel
theorem d_Mo_inner_127 : decode b_Mo_inner 127 = .ok (.aload_n 0, 1) := by decide +kernel
theorem d_Mo_inner_128 : decode b_Mo_inner 128 = .ok (.iload_n 3, 1) := by decide +kernel
theorem d_Mo_inner_129 : decode b_Mo_inner 129 = .ok (.sipush 1022, 3) := by decide +kernel
theorem d_Mo_inner_132 : decode b_Mo_inner 132 = .ok (.iand, 1) := by decide +kernel
theorem d_Mo_inner_133 : decode b_Mo_inner 133 = .ok (.putfield 25, 3) := by decide +kernel
theorem d_Mo_inner_136 : decode b_Mo_inner 136 = .ok (.iload_n 2, 1) := by decide +kernel
theorem d_Mo_inner_137 : decode b_Mo_inner 137 = .ok (.bipush 10, 2) := by decide +kernel
theorem d_Mo_inner_139 : decode b_Mo_inner 139 = .ok (.if_icmp .ne 7, 3) := by decide +kernel
theorem d_Mo_inner_142 : decode b_Mo_inner 142 = .ok (.iconst 1, 1) := by decide +kernel
theorem d_Mo_inner_143 : decode b_Mo_inner 143 = .ok (.goto 4, 3) := by decide +kernel
theorem d_Mo_inner_146 : decode b_Mo_inner 146 = .ok (.iconst 0, 1) := by decide +kernel
theorem d_Mo_inner_147 : decode b_Mo_inner 147 = .ok (.ireturn, 1) := by decide +kernel
theorem d_Mo_does_0 : decode b_Mo_does 0 = .ok (.iload_n 1, 1) := by decide +kernel
theorem d_Mo_does_1 : decode b_Mo_does 1 = .ok (.sipush 16384, 3) := by decide +kernel
theorem d_Mo_does_4 : decode b_Mo_does 4 = .ok (.if_icmp .lt 11, 3) := by decide +kernel
theorem d_Mo_does_7 : decode b_Mo_does 7 = .ok (.aload_n 0, 1) := by decide +kernel
theorem d_Mo_does_8 : decode b_Mo_does 8 = .ok (.iload_n 1, 1) := by decide +kernel
theorem d_Mo_does_9 : decode b_Mo_does 9 = .ok (.invokevirtual 124, 3) := by decide +kernel
theorem d_Mo_does_12 : decode b_Mo_does 12 = .ok (.goto 69, 3) := by decide +kernel
theorem d_Mo_does_15 : decode b_Mo_does 15 = .ok (.iload_n 1, 1) := by decide +kernel
theorem d_Mo_does_16 : decode b_Mo_does 16 = .ok (.sipush 8192, 3) := by decide +kernel
theorem d_Mo_does_19 : decode b_Mo_does 19 = .ok (.if_icmp .lt 11, 3) := by decide +kernel
theorem d_Mo_does_22 : decode b_Mo_does 22 = .ok (.aload_n 0, 1) := by decide +kernel
theorem d_Mo_does_23 : decode b_Mo_does 23 = .ok (.iload_n 1, 1) := by decide +kernel
theorem d_Mo_does_24 : decode b_Mo_does 24 = .ok (.invokevirtual 127, 3) := by decide +kernel
theorem d_Mo_does_27 : decode b_Mo_does 27 = .ok (.goto 54, 3) := by decide +kernel
theorem d_Mo_does_30 : decode b_Mo_does 30 = .ok (.iload_n 1, 1) := by decide +kernel
theorem d_Mo_does_31 : decode b_Mo_does 31 = .ok (.sipush 4096, 3) := by decide +kernel
theorem d_Mo_does_34 : decode b_Mo_does 34 = .ok (.if_icmp .lt 11, 3) := by decide +kernel
theorem d_Mo_does_37 : decode b_Mo_does 37 = .ok (.aload_n 0, 1) := by decide +kernel
theorem d_Mo_does_38 : decode b_Mo_does 38 = .ok (.iload_n 1, 1) := by decide +kernel
theorem d_Mo_does_39 : decode b_Mo_does 39 = .ok (.invokevirtual 130, 3) := by decide +kernel
theorem d_Mo_does_42 : decode b_Mo_does 42 = .ok (.goto 39, 3) := by decide +kernel
theorem d_Mo_does_45 : decode b_Mo_does 45 = .ok (.iload_n 1, 1) := by decide +kernel
theorem d_Mo_does_46 : decode b_Mo_does 46 = .ok (.sipush 2048, 3) := by decide +kernel
theorem d_Mo_does_49 : decode b_Mo_does 49 = .ok (.if_icmp .lt 11, 3) := by decide +kernel
theorem d_Mo_does_52 : decode b_Mo_does 52 = .ok (.aload_n 0, 1) := by decide +kernel
theorem d_Mo_does_53 : decode b_Mo_does 53 = .ok (.iload_n 1, 1) := by decide +kernel
theorem d_Mo_does_54 : decode b_Mo_does 54 = .ok (.invokevirtual 133, 3) := by decide +kernel
theorem d_Mo_does_57 : decode b_Mo_does 57 = .ok (.goto 24, 3) := by decide +kernel
theorem d_Mo_does_60 : decode b_Mo_does 60 = .ok (.iload_n 1, 1) := by decide +kernel
theorem d_Mo_does_61 : decode b_Mo_does 61 = .ok (.sipush 1024, 3) := by decide +kernel
theorem d_Mo_does_64 : decode b_Mo_does 64 = .ok (.if_icmp .lt 11, 3) := by decide +kernel
theorem d_Mo_does_67 : decode b_Mo_does 67 = .ok (.aload_n 0, 1) := by decide +kernel
theorem d_Mo_does_68 : decode b_Mo_does 68 = .ok (.iload_n 1, 1) := by decide +kernel
theorem d_Mo_does_69 : decode b_Mo_does 69 = .ok (.invokevirtual 136, 3) := by decide +kernel
theorem d_Mo_does_72 : decode b_Mo_does 72 = .ok (.goto 9, 3) := by decide +kernel
theorem d_Mo_does_75 : decode b_Mo_does 75 = .ok (.aload_n 0, 1) := by decide +kernel
theorem d_Mo_does_76 : decode b_Mo_does 76 = .ok (.iload_n 1, 1) := by decide +kernel
theorem d_Mo_does_77 : decode b_Mo_does 77 = .ok (.invokevirtual 139, 3) := by decide +kernel
theorem d_Mo_does_80 : decode b_Mo_does 80 = .ok (.ireturn, 1) := by decide +kernel
theorem d_Mo_does_81 : decode b_Mo_does 81 = .ok (.iconst 0, 1) := by decide +kernel
theorem d_Mo_does_82 : decode b_Mo_does 82 = .ok (.ireturn, 1) := by decide +kernel
theorem d_Mo_fetched_0 : decode b_Mo_fetched 0 = .ok (.aload_n 0, 1) := by decide +kernel
theorem d_Mo_fetched_1 : decode b_Mo_fetched 1 = .ok (.getfield 36, 3) := by decide +kernel
theorem d_Mo_fetched_4 : decode b_Mo_fetched 4 = .ok (.istore_n 1, 1) := by decide +kernel
theorem d_Mo_fetched_5 : decode b_Mo_fetched 5 = .ok (.aload_n 0, 1) := by decide +kernel
theorem d_Mo_fetched_6 : decode b_Mo_fetched 6 = .ok (.invokevirtual 43, 3) := by decide +kernel
theorem d_Mo_fetched_9 : decode b_Mo_fetched 9 = .ok (.istore_n 2, 1) := by decide +kernel
theorem d_Mo_fetched_10 : decode b_Mo_fetched 10 = .ok (.aload_n 0, 1) := by decide +kernel
theorem d_Mo_fetched_11 : decode b_Mo_fetched 11 = .ok (.iconst (-1), 1) := by decide +kernel
theorem d_Mo_fetched_12 : decode b_Mo_fetched 12 = .ok (.putfield 47, 3) := by decide +kernel
theorem d_Mo_fetched_15 : decode b_Mo_fetched 15 = .ok (.iload_n 2, 1) := by decide +kernel
theorem d_Mo_fetched_16 : decode b_Mo_fetched 16 = .ok (.invokestatic 142, 3) := by decide +kernel
theorem d_Mo_fetched_19 : decode b_Mo_fetched 19 = .ok (.ifCond .eq 7, 3) := by decide +kernel
theorem d_Mo_fetched_22 : decode b_Mo_fetched 22 = .ok (.iconst 0, 1) := by decide +kernel
theorem d_Mo_fetched_23 : decode b_Mo_fetched 23 = .ok (.goto 4, 3) := by decide +kernel
theorem d_Mo_fetched_26 : decode b_Mo_fetched 26 = .ok (.iconst 2, 1) := by decide +kernel
theorem d_Mo_fetched_27 : decode b_Mo_fetched 27 = .ok (.istore_n 3, 1) := by decide +kernel
theorem d_Mo_fetched_28 : decode b_Mo_fetched 28 = .ok (.iload_n 3, 1) := by decide +kernel
theorem d_Mo_fetched_29 : decode b_Mo_fetched 29 = .ok (.ifCond .ne 48, 3) := by decide +kernel
theorem d_Mo_fetched_32 : decode b_Mo_fetched 32 = .ok (.iload_n 2, 1) := by decide +kernel
theorem d_Mo_fetched_33 : decode b_Mo_fetched 33 = .ok (.invokestatic 145, 3) := by decide +kernel
theorem d_Mo_fetched_36 : decode b_Mo_fetched 36 = .ok (.ifCond .eq 41, 3) := by decide +kernel
theorem d_Mo_fetched_39 : decode b_Mo_fetched 39 = .ok (.aload_n 0, 1) := by decide +kernel
theorem d_Mo_fetched_40 : decode b_Mo_fetched 40 = .ok (.aload_n 0, 1) := by decide +kernel
theorem d_Mo_fetched_41 : decode b_Mo_fetched 41 = .ok (.iload_n 2, 1) := by decide +kernel
theorem d_Mo_fetched_42 : decode b_Mo_fetched 42 = .ok (.bipush 63, 2) := by decide +kernel
theorem d_Mo_fetched_44 : decode b_Mo_fetched 44 = .ok (.iand, 1) := by decide +kernel
theorem d_Mo_fetched_45 : decode b_Mo_fetched 45 = .ok (.iconst 0, 1) := by decide +kernel
theorem d_Mo_fetched_46 : decode b_Mo_fetched 46 = .ok (.invokevirtual 71, 3) := by decide +kernel
theorem d_Mo_fetched_49 : decode b_Mo_fetched 49 = .ok (.invokevirtual 28, 3) := by decide +kernel
theorem d_Mo_fetched_52 : decode b_Mo_fetched 52 = .ok (.istore_n 2, 1) := by decide +kernel
theorem d_Mo_fetched_53 : decode b_Mo_fetched 53 = .ok (.iload_n 2, 1) := by decide +kernel
theorem d_Mo_fetched_54 : decode b_Mo_fetched 54 = .ok (.invokestatic 142, 3) := by decide +kernel
theorem d_Mo_fetched_57 : decode b_Mo_fetched 57 = .ok (.ifCond .ne 7, 3) := by decide +kernel
theorem d_Mo_fetched_60 : decode b_Mo_fetched 60 = .ok (.iconst 2, 1) := by decide +kernel
theorem d_Mo_fetched_61 : decode b_Mo_fetched 61 = .ok (.goto 15, 3) := by decide +kernel
theorem d_Mo_fetched_64 : decode b_Mo_fetched 64 = .ok (.iload_n 2, 1) := by decide +kernel
theorem d_Mo_fetched_65 : decode b_Mo_fetched 65 = .ok (.invokestatic 145, 3) := by decide +kernel
theorem d_Mo_fetched_68 : decode b_Mo_fetched 68 = .ok (.ifCond .eq 7, 3) := by decide +kernel
theorem d_Mo_fetched_71 : decode b_Mo_fetched 71 = .ok (.iconst 3, 1) := by decide +kernel
theorem d_Mo_fetched_72 : decode b_Mo_fetched 72 = .ok (.goto 4, 3) := by decide +kernel
theorem d_Mo_fetched_75 : decode b_Mo_fetched 75 = .ok (.iconst 0, 1) := by decide +kernel
theorem d_Mo_fetched_76 : decode b_Mo_fetched 76 = .ok (.istore_n 3, 1) := by decide +kernel
theorem d_Mo_fetched_77 : decode b_Mo_fetched 77 = .ok (.iload_n 3, 1) := by decide +kernel
theorem d_Mo_fetched_78 : decode b_Mo_fetched 78 = .ok (.ifCond .ne 9, 3) := by decide +kernel
theorem d_Mo_fetched_81 : decode b_Mo_fetched 81 = .ok (.aload_n 0, 1) := by decide +kernel
theorem d_Mo_fetched_82 : decode b_Mo_fetched 82 = .ok (.iload_n 2, 1) := by decide +kernel
theorem d_Mo_fetched_83 : decode b_Mo_fetched 83 = .ok (.invokevirtual 148, 3) := by decide +kernel
theorem d_Mo_fetched_86 : decode b_Mo_fetched 86 = .ok (.ireturn, 1) := by decide +kernel
theorem d_Mo_fetched_87 : decode b_Mo_fetched 87 = .ok (.aload_n 0, 1) := by decide +kernel
theorem d_Mo_fetched_88 : decode b_Mo_fetched 88 = .ok (.iload_n 1, 1) := by decide +kernel
theorem d_Mo_fetched_89 : decode b_Mo_fetched 89 = .ok (.putfield 36, 3) := by decide +kernel
theorem d_Mo_fetched_92 : decode b_Mo_fetched 92 = .ok (.aload_n 0, 1) := by decide +kernel
theorem d_Mo_fetched_93 : decode b_Mo_fetched 93 = .ok (.getfield 47, 3) := by decide +kernel
theorem d_Mo_fetched_96 : decode b_Mo_fetched 96 = .ok (.ifCond .lt 15, 3) := by decide +kernel
theorem d_Mo_fetched_99 : decode b_Mo_fetched 99 = .ok (.aload_n 0, 1) := by decide +kernel
theorem d_Mo_fetched_100 : decode b_Mo_fetched 100 = .ok (.aload_n 0, 1) := by decide +kernel
theorem d_Mo_fetched_101 : decode b_Mo_fetched 101 = .ok (.getfield 47, 3) := by decide +kernel
theorem d_Mo_fetched_104 : decode b_Mo_fetched 104 = .ok (.aload_n 0, 1) := by decide +kernel
theorem d_Mo_fetched_105 : decode b_Mo_fetched 105 = .ok (.getfield 50, 3) := by decide +kernel
theorem d_Mo_fetched_108 : decode b_Mo_fetched 108 = .ok (.invokevirtual 32, 3) := by decide +kernel
theorem d_Mo_fetched_111 : decode b_Mo_fetched 111 = .ok (.iload_n 3, 1) := by decide +kernel
theorem d_Mo_fetched_112 : decode b_Mo_fetched 112 = .ok (.ireturn, 1) := by decide +kernel
theorem d_Mo_step_0 : decode b_Mo_step 0 = .ok (.aload_n 0, 1) := by decide +kernel
theorem d_Mo_step_1 : decode b_Mo_step 1 = .ok (.iconst 0, 1) := by decide +kernel
theorem d_Mo_step_2 : decode b_Mo_step 2 = .ok (.putfield 21, 3) := by decide +kernel
theorem d_Mo_step_5 : decode b_Mo_step 5 = .ok (.aload_n 0, 1) := by decide +kernel
theorem d_Mo_step_6 : decode b_Mo_step 6 = .ok (.getfield 17, 3) := by decide +kernel
theorem d_Mo_step_9 : decode b_Mo_step 9 = .ok (.aload_n 0, 1) := by decide +kernel
theorem d_Mo_step_10 : decode b_Mo_step 10 = .ok (.getfield 56, 3) := by decide +kernel
theorem d_Mo_step_13 : decode b_Mo_step 13 = .ok (.bipush 15, 2) := by decide +kernel
theorem d_Mo_step_15 : decode b_Mo_step 15 = .ok (.iand, 1) := by decide +kernel
theorem d_Mo_step_16 : decode b_Mo_step 16 = .ok (.if_icmp .gt 41, 3) := by decide +kernel
theorem d_Mo_step_19 : decode b_Mo_step 19 = .ok (.aload_n 0, 1) := by decide +kernel
theorem d_Mo_step_20 : decode b_Mo_step 20 = .ok (.iconst 4, 1) := by decide +kernel
theorem d_Mo_step_21 : decode b_Mo_step 21 = .ok (.aload_n 0, 1) := by decide +kernel
theorem d_Mo_step_22 : decode b_Mo_step 22 = .ok (.getfield 17, 3) := by decide +kernel
theorem d_Mo_step_25 : decode b_Mo_step 25 = .ok (.imul, 1) := by decide +kernel
theorem d_Mo_step_26 : decode b_Mo_step 26 = .ok (.invokevirtual 99, 3) := by decide +kernel
theorem d_Mo_step_29 : decode b_Mo_step 29 = .ok (.aload_n 0, 1) := by decide +kernel
theorem d_Mo_step_30 : decode b_Mo_step 30 = .ok (.aload_n 0, 1) := by decide +kernel
theorem d_Mo_step_31 : decode b_Mo_step 31 = .ok (.getfield 17, 3) := by decide +kernel
theorem d_Mo_step_34 : decode b_Mo_step 34 = .ok (.ifCond .ne 7, 3) := by decide +kernel
theorem d_Mo_step_37 : decode b_Mo_step 37 = .ok (.iconst 0, 1) := by decide +kernel
theorem d_Mo_step_38 : decode b_Mo_step 38 = .ok (.goto 9, 3) := by decide +kernel
theorem d_Mo_step_41 : decode b_Mo_step 41 = .ok (.aload_n 0, 1) := by decide +kernel
theorem d_Mo_step_42 : decode b_Mo_step 42 = .ok (.getfield 17, 3) := by decide +kernel
theorem d_Mo_step_45 : decode b_Mo_step 45 = .ok (.iconst 1, 1) := by decide +kernel
theorem d_Mo_step_46 : decode b_Mo_step 46 = .ok (.isub, 1) := by decide +kernel
theorem d_Mo_step_47 : decode b_Mo_step 47 = .ok (.invokevirtual 114, 3) := by decide +kernel
theorem d_Mo_step_50 : decode b_Mo_step 50 = .ok (.aload_n 0, 1) := by decide +kernel
theorem d_Mo_step_51 : decode b_Mo_step 51 = .ok (.iconst 0, 1) := by decide +kernel
theorem d_Mo_step_52 : decode b_Mo_step 52 = .ok (.putfield 120, 3) := by decide +kernel
theorem d_Mo_step_55 : decode b_Mo_step 55 = .ok (.iconst 0, 1) := by decide +kernel
theorem d_Mo_step_56 : decode b_Mo_step 56 = .ok (.ireturn, 1) := by decide +kernel
theorem d_Mo_step_57 : decode b_Mo_step 57 = .ok (.aload_n 0, 1) := by decide +kernel
theorem d_Mo_step_58 : decode b_Mo_step 58 = .ok (.getfield 120, 3) := by decide +kernel
theorem d_Mo_step_61 : decode b_Mo_step 61 = .ok (.ifCond .eq 7, 3) := by decide +kernel
theorem d_Mo_step_64 : decode b_Mo_step 64 = .ok (.iconst 1, 1) := by decide +kernel
theorem d_Mo_step_65 : decode b_Mo_step 65 = .ok (.goto 7, 3) := by decide +kernel
theorem d_Mo_step_68 : decode b_Mo_step 68 = .ok (.aload_n 0, 1) := by decide +kernel
theorem d_Mo_step_69 : decode b_Mo_step 69 = .ok (.invokevirtual 151, 3) := by decide +kernel
theorem d_Mo_step_72 : decode b_Mo_step 72 = .ok (.ireturn, 1) := by decide +kernel
theorem d_Mo_reset_0 : decode b_Mo_reset 0 = .ok (.aload_n 0, 1) := by decide +kernel
theorem d_Mo_reset_1 : decode b_Mo_reset 1 = .ok (.iconst 0, 1) := by decide +kernel
theorem d_Mo_reset_2 : decode b_Mo_reset 2 = .ok (.putfield 21, 3) := by decide +kernel
theorem d_Mo_reset_5 : decode b_Mo_reset 5 = .ok (.aload_n 0, 1) := by decide +kernel
theorem d_Mo_reset_6 : decode b_Mo_reset 6 = .ok (.iconst 0, 1) := by decide +kernel
theorem d_Mo_reset_7 : decode b_Mo_reset 7 = .ok (.invokevirtual 99, 3) := by decide +kernel
theorem d_Mo_reset_10 : decode b_Mo_reset 10 = .ok (.aload_n 0, 1) := by decide +kernel
theorem d_Mo_reset_11 : decode b_Mo_reset 11 = .ok (.iconst 0, 1) := by decide +kernel
theorem d_Mo_reset_12 : decode b_Mo_reset 12 = .ok (.invokevirtual 114, 3) := by decide +kernel
theorem d_Mo_reset_15 : decode b_Mo_reset 15 = .ok (.aload_n 0, 1) := by decide +kernel
theorem d_Mo_reset_16 : decode b_Mo_reset 16 = .ok (.iconst 0, 1) := by decide +kernel
theorem d_Mo_reset_17 : decode b_Mo_reset 17 = .ok (.putfield 120, 3) := by decide +kernel
theorem d_Mo_reset_20 : decode b_Mo_reset 20 = .ok (.return_, 1) := by decide +kernel
theorem d_Mo_isAddress_0 : decode b_Mo_isAddress 0 = .ok (.iload_n 0, 1) := by decide +kernel
theorem d_Mo_isAddress_1 : decode b_Mo_isAddress 1 = .ok (.ifCond .lt 20, 3) := by decide +kernel
theorem d_Mo_isAddress_4 : decode b_Mo_isAddress 4 = .ok (.iload_n 0, 1) := by decide +kernel
theorem d_Mo_isAddress_5 : decode b_Mo_isAddress 5 = .ok (.sipush 1022, 3) := by decide +kernel
theorem d_Mo_isAddress_8 : decode b_Mo_isAddress 8 = .ok (.if_icmp .gt 13, 3) := by decide +kernel
theorem d_Mo_isAddress_11 : decode b_Mo_isAddress 11 = .ok (.iload_n 0, 1) := by decide +kernel
theorem d_Mo_isAddress_12 : decode b_Mo_isAddress 12 = .ok (.iconst 1, 1) := by decide +kernel
theorem d_Mo_isAddress_13 : decode b_Mo_isAddress 13 = .ok (.iand, 1) := by decide +kernel
theorem d_Mo_isAddress_14 : decode b_Mo_isAddress 14 = .ok (.ifCond .ne 7, 3) := by decide +kernel
theorem d_Mo_isAddress_17 : decode b_Mo_isAddress 17 = .ok (.iconst 1, 1) := by decide +kernel
theorem d_Mo_isAddress_18 : decode b_Mo_isAddress 18 = .ok (.goto 4, 3) := by decide +kernel
theorem d_Mo_isAddress_21 : decode b_Mo_isAddress 21 = .ok (.iconst 0, 1) := by decide +kernel
theorem d_Mo_isAddress_22 : decode b_Mo_isAddress 22 = .ok (.ireturn, 1) := by decide +kernel
theorem d_Mo_poke_0 : decode b_Mo_poke 0 = .ok (.aload_n 0, 1) := by decide +kernel
theorem d_Mo_poke_1 : decode b_Mo_poke 1 = .ok (.iload_n 1, 1) := by decide +kernel
theorem d_Mo_poke_2 : decode b_Mo_poke 2 = .ok (.invokestatic 154, 3) := by decide +kernel
theorem d_Mo_poke_5 : decode b_Mo_poke 5 = .ok (.ifCond .ne 7, 3) := by decide +kernel
theorem d_Mo_poke_8 : decode b_Mo_poke 8 = .ok (.iconst 1, 1) := by decide +kernel
theorem d_Mo_poke_9 : decode b_Mo_poke 9 = .ok (.goto 4, 3) := by decide +kernel
theorem d_Mo_poke_12 : decode b_Mo_poke 12 = .ok (.iconst 0, 1) := by decide +kernel
theorem d_Mo_poke_13 : decode b_Mo_poke 13 = .ok (.invokevirtual 157, 3) := by decide +kernel
theorem d_Mo_poke_16 : decode b_Mo_poke 16 = .ok (.ifCond .ne 9, 3) := by decide +kernel
theorem d_Mo_poke_19 : decode b_Mo_poke 19 = .ok (.aload_n 0, 1) := by decide +kernel
theorem d_Mo_poke_20 : decode b_Mo_poke 20 = .ok (.iload_n 1, 1) := by decide +kernel
theorem d_Mo_poke_21 : decode b_Mo_poke 21 = .ok (.iload_n 2, 1) := by decide +kernel
theorem d_Mo_poke_22 : decode b_Mo_poke 22 = .ok (.invokevirtual 32, 3) := by decide +kernel
theorem d_Mo_poke_25 : decode b_Mo_poke 25 = .ok (.return_, 1) := by decide +kernel
theorem d_Mo_peek_0 : decode b_Mo_peek 0 = .ok (.aload_n 0, 1) := by decide +kernel
theorem d_Mo_peek_1 : decode b_Mo_peek 1 = .ok (.iload_n 1, 1) := by decide +kernel
theorem d_Mo_peek_2 : decode b_Mo_peek 2 = .ok (.invokestatic 154, 3) := by decide +kernel
theorem d_Mo_peek_5 : decode b_Mo_peek 5 = .ok (.ifCond .ne 7, 3) := by decide +kernel
theorem d_Mo_peek_8 : decode b_Mo_peek 8 = .ok (.iconst 1, 1) := by decide +kernel
theorem d_Mo_peek_9 : decode b_Mo_peek 9 = .ok (.goto 4, 3) := by decide +kernel
theorem d_Mo_peek_12 : decode b_Mo_peek 12 = .ok (.iconst 0, 1) := by decide +kernel
theorem d_Mo_peek_13 : decode b_Mo_peek 13 = .ok (.invokevirtual 157, 3) := by decide +kernel
theorem d_Mo_peek_16 : decode b_Mo_peek 16 = .ok (.ifCond .eq 7, 3) := by decide +kernel
theorem d_Mo_peek_19 : decode b_Mo_peek 19 = .ok (.iconst 0, 1) := by decide +kernel
theorem d_Mo_peek_20 : decode b_Mo_peek 20 = .ok (.goto 9, 3) := by decide +kernel
theorem d_Mo_peek_23 : decode b_Mo_peek 23 = .ok (.aload_n 0, 1) := by decide +kernel
theorem d_Mo_peek_24 : decode b_Mo_peek 24 = .ok (.iload_n 1, 1) := by decide +kernel
theorem d_Mo_peek_25 : decode b_Mo_peek 25 = .ok (.invokevirtual 28, 3) := by decide +kernel
theorem d_Mo_peek_28 : decode b_Mo_peek 28 = .ok (.i2c, 1) := by decide +kernel
theorem d_Mo_peek_29 : decode b_Mo_peek 29 = .ok (.ireturn, 1) := by decide +kernel
theorem d_Mo_level_0 : decode b_Mo_level 0 = .ok (.aload_n 0, 1) := by decide +kernel
theorem d_Mo_level_1 : decode b_Mo_level 1 = .ok (.iload_n 1, 1) := by decide +kernel
theorem d_Mo_level_2 : decode b_Mo_level 2 = .ok (.ifCond .lt 9, 3) := by decide +kernel
theorem d_Mo_level_5 : decode b_Mo_level 5 = .ok (.iload_n 1, 1) := by decide +kernel
theorem d_Mo_level_6 : decode b_Mo_level 6 = .ok (.bipush 16, 2) := by decide +kernel
theorem d_Mo_level_8 : decode b_Mo_level 8 = .ok (.if_icmp .le 7, 3) := by decide +kernel
theorem d_Mo_level_11 : decode b_Mo_level 11 = .ok (.iconst 1, 1) := by decide +kernel
theorem d_Mo_level_12 : decode b_Mo_level 12 = .ok (.goto 4, 3) := by decide +kernel
theorem d_Mo_level_15 : decode b_Mo_level 15 = .ok (.iconst 0, 1) := by decide +kernel
theorem d_Mo_level_16 : decode b_Mo_level 16 = .ok (.invokevirtual 157, 3) := by decide +kernel
theorem d_Mo_level_19 : decode b_Mo_level 19 = .ok (.ifCond .ne 8, 3) := by decide +kernel
theorem d_Mo_level_22 : decode b_Mo_level 22 = .ok (.aload_n 0, 1) := by decide +kernel
theorem d_Mo_level_23 : decode b_Mo_level 23 = .ok (.iload_n 1, 1) := by decide +kernel
theorem d_Mo_level_24 : decode b_Mo_level 24 = .ok (.putfield 17, 3) := by decide +kernel
theorem d_Mo_level_27 : decode b_Mo_level 27 = .ok (.return_, 1) := by decide +kernel
theorem d_Mo_wire_0 : decode b_Mo_wire 0 = .ok (.aload_n 0, 1) := by decide +kernel
theorem d_Mo_wire_1 : decode b_Mo_wire 1 = .ok (.iload_n 1, 1) := by decide +kernel
theorem d_Mo_wire_2 : decode b_Mo_wire 2 = .ok (.ifCond .lt 9, 3) := by decide +kernel
theorem d_Mo_wire_5 : decode b_Mo_wire 5 = .ok (.iload_n 1, 1) := by decide +kernel
theorem d_Mo_wire_6 : decode b_Mo_wire 6 = .ok (.bipush 63, 2) := by decide +kernel
theorem d_Mo_wire_8 : decode b_Mo_wire 8 = .ok (.if_icmp .le 7, 3) := by decide +kernel
theorem d_Mo_wire_11 : decode b_Mo_wire 11 = .ok (.iconst 1, 1) := by decide +kernel
theorem d_Mo_wire_12 : decode b_Mo_wire 12 = .ok (.goto 4, 3) := by decide +kernel
theorem d_Mo_wire_15 : decode b_Mo_wire 15 = .ok (.iconst 0, 1) := by decide +kernel
theorem d_Mo_wire_16 : decode b_Mo_wire 16 = .ok (.invokevirtual 157, 3) := by decide +kernel
theorem d_Mo_wire_19 : decode b_Mo_wire 19 = .ok (.ifCond .ne 10, 3) := by decide +kernel
theorem d_Mo_wire_22 : decode b_Mo_wire 22 = .ok (.aload_n 0, 1) := by decide +kernel
theorem d_Mo_wire_23 : decode b_Mo_wire 23 = .ok (.getfield 13, 3) := by decide +kernel
theorem d_Mo_wire_26 : decode b_Mo_wire 26 = .ok (.iload_n 1, 1) := by decide +kernel
theorem d_Mo_wire_27 : decode b_Mo_wire 27 = .ok (.iload_n 2, 1) := by decide +kernel
theorem d_Mo_wire_28 : decode b_Mo_wire 28 = .ok (.bastore, 1) := by decide +kernel
theorem d_Mo_wire_29 : decode b_Mo_wire 29 = .ok (.return_, 1) := by decide +kernel
theorem d_Mo_line_0 : decode b_Mo_line 0 = .ok (.aload_n 0, 1) := by decide +kernel
theorem d_Mo_line_1 : decode b_Mo_line 1 = .ok (.iload_n 1, 1) := by decide +kernel
theorem d_Mo_line_2 : decode b_Mo_line 2 = .ok (.ifCond .lt 9, 3) := by decide +kernel
theorem d_Mo_line_5 : decode b_Mo_line 5 = .ok (.iload_n 1, 1) := by decide +kernel
theorem d_Mo_line_6 : decode b_Mo_line 6 = .ok (.bipush 63, 2) := by decide +kernel
theorem d_Mo_line_8 : decode b_Mo_line 8 = .ok (.if_icmp .le 7, 3) := by decide +kernel
theorem d_Mo_line_11 : decode b_Mo_line 11 = .ok (.iconst 1, 1) := by decide +kernel
theorem d_Mo_line_12 : decode b_Mo_line 12 = .ok (.goto 4, 3) := by decide +kernel
theorem d_Mo_line_15 : decode b_Mo_line 15 = .ok (.iconst 0, 1) := by decide +kernel
theorem d_Mo_line_16 : decode b_Mo_line 16 = .ok (.invokevirtual 157, 3) := by decide +kernel
theorem d_Mo_line_19 : decode b_Mo_line 19 = .ok (.ifCond .ne 16, 3) := by decide +kernel
theorem d_Mo_line_22 : decode b_Mo_line 22 = .ok (.aload_n 0, 1) := by decide +kernel
theorem d_Mo_line_23 : decode b_Mo_line 23 = .ok (.getfield 13, 3) := by decide +kernel
theorem d_Mo_line_26 : decode b_Mo_line 26 = .ok (.iload_n 1, 1) := by decide +kernel
theorem d_Mo_line_27 : decode b_Mo_line 27 = .ok (.baload, 1) := by decide +kernel
theorem d_Mo_line_28 : decode b_Mo_line 28 = .ok (.ifCond .eq 7, 3) := by decide +kernel
theorem d_Mo_line_31 : decode b_Mo_line 31 = .ok (.iconst 1, 1) := by decide +kernel
theorem d_Mo_line_32 : decode b_Mo_line 32 = .ok (.goto 4, 3) := by decide +kernel
theorem d_Mo_line_35 : decode b_Mo_line 35 = .ok (.iconst 0, 1) := by decide +kernel
theorem d_Mo_line_36 : decode b_Mo_line 36 = .ok (.ireturn, 1) := by decide +kernel
theorem d_Mo_state_0 : decode b_Mo_state 0 = .ok (.aload_n 0, 1) := by decide +kernel
theorem d_Mo_state_1 : decode b_Mo_state 1 = .ok (.iload_n 1, 1) := by decide +kernel
theorem d_Mo_state_2 : decode b_Mo_state 2 = .ok (.ifCond .lt 8, 3) := by decide +kernel
theorem d_Mo_state_5 : decode b_Mo_state 5 = .ok (.iload_n 1, 1) := by decide +kernel
theorem d_Mo_state_6 : decode b_Mo_state 6 = .ok (.iconst 4, 1) := by decide +kernel
theorem d_Mo_state_7 : decode b_Mo_state 7 = .ok (.if_icmp .le 7, 3) := by decide +kernel
theorem d_Mo_state_10 : decode b_Mo_state 10 = .ok (.iconst 1, 1) := by decide +kernel
theorem d_Mo_state_11 : decode b_Mo_state 11 = .ok (.goto 4, 3) := by decide +kernel
theorem d_Mo_state_14 : decode b_Mo_state 14 = .ok (.iconst 0, 1) := by decide +kernel
theorem d_Mo_state_15 : decode b_Mo_state 15 = .ok (.invokevirtual 157, 3) := by decide +kernel
theorem d_Mo_state_18 : decode b_Mo_state 18 = .ok (.istore_n 2, 1) := by decide +kernel
theorem d_Mo_state_19 : decode b_Mo_state 19 = .ok (.iload_n 2, 1) := by decide +kernel
theorem d_Mo_state_20 : decode b_Mo_state 20 = .ok (.ifCond .eq 7, 3) := by decide +kernel
theorem d_Mo_state_23 : decode b_Mo_state 23 = .ok (.iconst 0, 1) := by decide +kernel
theorem d_Mo_state_24 : decode b_Mo_state 24 = .ok (.goto 62, 3) := by decide +kernel
theorem d_Mo_state_27 : decode b_Mo_state 27 = .ok (.iload_n 1, 1) := by decide +kernel
theorem d_Mo_state_28 : decode b_Mo_state 28 = .ok (.ifCond .ne 10, 3) := by decide +kernel
theorem d_Mo_state_31 : decode b_Mo_state 31 = .ok (.aload_n 0, 1) := by decide +kernel
theorem d_Mo_state_32 : decode b_Mo_state 32 = .ok (.getfield 25, 3) := by decide +kernel
theorem d_Mo_state_35 : decode b_Mo_state 35 = .ok (.goto 51, 3) := by decide +kernel
theorem d_Mo_state_38 : decode b_Mo_state 38 = .ok (.iload_n 1, 1) := by decide +kernel
theorem d_Mo_state_39 : decode b_Mo_state 39 = .ok (.iconst 1, 1) := by decide +kernel
theorem d_Mo_state_40 : decode b_Mo_state 40 = .ok (.if_icmp .ne 10, 3) := by decide +kernel
theorem d_Mo_state_43 : decode b_Mo_state 43 = .ok (.aload_n 0, 1) := by decide +kernel
theorem d_Mo_state_44 : decode b_Mo_state 44 = .ok (.getfield 36, 3) := by decide +kernel
theorem d_Mo_state_47 : decode b_Mo_state 47 = .ok (.goto 39, 3) := by decide +kernel
theorem d_Mo_state_50 : decode b_Mo_state 50 = .ok (.iload_n 1, 1) := by decide +kernel
theorem d_Mo_state_51 : decode b_Mo_state 51 = .ok (.iconst 2, 1) := by decide +kernel
theorem d_Mo_state_52 : decode b_Mo_state 52 = .ok (.if_icmp .ne 10, 3) := by decide +kernel
theorem d_Mo_state_55 : decode b_Mo_state 55 = .ok (.aload_n 0, 1) := by decide +kernel
theorem d_Mo_state_56 : decode b_Mo_state 56 = .ok (.getfield 56, 3) := by decide +kernel
theorem d_Mo_state_59 : decode b_Mo_state 59 = .ok (.goto 27, 3) := by decide +kernel
theorem d_Mo_state_62 : decode b_Mo_state 62 = .ok (.iload_n 1, 1) := by decide +kernel
theorem d_Mo_state_63 : decode b_Mo_state 63 = .ok (.iconst 3, 1) := by decide +kernel
theorem d_Mo_state_64 : decode b_Mo_state 64 = .ok (.if_icmp .ne 10, 3) := by decide +kernel
theorem d_Mo_state_67 : decode b_Mo_state 67 = .ok (.aload_n 0, 1) := by decide +kernel
theorem d_Mo_state_68 : decode b_Mo_state 68 = .ok (.getfield 17, 3) := by decide +kernel
theorem d_Mo_state_71 : decode b_Mo_state 71 = .ok (.goto 15, 3) := by decide +kernel
theorem d_Mo_state_74 : decode b_Mo_state 74 = .ok (.aload_n 0, 1) := by decide +kernel
theorem d_Mo_state_75 : decode b_Mo_state 75 = .ok (.getfield 120, 3) := by decide +kernel
theorem d_Mo_state_78 : decode b_Mo_state 78 = .ok (.ifCond .eq 7, 3) := by decide +kernel
theorem d_Mo_state_81 : decode b_Mo_state 81 = .ok (.iconst 1, 1) := by decide +kernel
theorem d_Mo_state_82 : decode b_Mo_state 82 = .ok (.goto 4, 3) := by decide +kernel
theorem d_Mo_state_85 : decode b_Mo_state 85 = .ok (.iconst 0, 1) := by decide +kernel
theorem d_Mo_state_86 : decode b_Mo_state 86 = .ok (.ireturn, 1) := by decide +kernel
end
section
/-! the methods as pure functions, laid by gen.py -/
def C_Me_word (u0 : CSt) (x1 : Int32) : Int32 := (u0.1 ((x1 &&& 1023) >>> ((1 : Int32) &&& 31)).toNatClampNeg)
def C_M_setWorkspace (u0 : CSt) (x1 : Int32) : CSt := (u0.1, u0.2.1, u0.2.2.1, (x1 &&& 1022), u0.2.2.2.2.1, u0.2.2.2.2.2.1, u0.2.2.2.2.2.2)
def C_M_registerAddress (u0 : CSt) (x1 : Int32) : Int32 := (u0.2.2.2.1 + (2 * x1))
def C_Me_setWord (u0 : CSt) (x1 : Int32) (x2 : Int32) : CSt := ((upd u0.1 ((x1 &&& 1023) >>> ((1 : Int32) &&& 31)).toNatClampNeg (vp_nar .char ((x2.toUInt32 % 65536).toInt32))), u0.2.1, u0.2.2.1, u0.2.2.2.1, u0.2.2.2.2.1, u0.2.2.2.2.2.1, u0.2.2.2.2.2.2)
def C_M_setRegister (u0 : CSt) (x1 : Int32) (x2 : Int32) : CSt := let r6 := C_M_registerAddress u0 x1; let u10 := C_Me_setWord u0 r6 x2; u10
def C_St_bits (u0 : CSt) : Int32 := u0.2.2.1
def C_M_setCounter (u0 : CSt) (x1 : Int32) : CSt := (u0.1, u0.2.1, u0.2.2.1, u0.2.2.2.1, (x1 &&& 1022), u0.2.2.2.2.2.1, u0.2.2.2.2.2.2)
def C_M_switchThrough (u0 : CSt) (x1 : Int32) : CSt := let r10 := C_Me_word u0 x1; let r21 := C_Me_word u0 (x1 + 2); let u28 := C_M_setWorkspace u0 r10; let u35 := C_M_setRegister u28 13 u0.2.2.2.1; let u45 := C_M_setRegister u35 14 u35.2.2.2.2.1; let r55 := C_St_bits u45; let u58 := C_M_setRegister u45 15 r55; let u64 := C_M_setCounter u58 r21; u64
def C_St_setMask (u0 : CSt) (x1 : Int32) : CSt := (u0.1, u0.2.1, ((u0.2.2.1 &&& (-16)) ||| (x1 &&& 15)), u0.2.2.2.1, u0.2.2.2.2.1, u0.2.2.2.2.2.1, u0.2.2.2.2.2.2)
def C_M_reset (u0 : CSt) : CSt := let u2 := C_M_switchThrough u0 0; let u10 := C_St_setMask u2 0; (u10.1, u10.2.1, u10.2.2.1, u10.2.2.2.1, u10.2.2.2.2.1, u10.2.2.2.2.2.1, 0)
def C_M_isWordAddress (x0 : Int32) : Int32 := if (x0 &&& 1022) = x0 then (1) else (0)
def C_M_poke (u0 : CSt) (x1 : Int32) (x2 : Int32) : CSt := let r1 := C_M_isWordAddress x1; if r1 = 0 then (u0) else (let u23 := C_Me_setWord u0 x1 x2; u23)
def C_M_peek (u0 : CSt) (x1 : Int32) : Int32 := let r1 := C_M_isWordAddress x1; if r1 = 0 then (0) else (let r22 := C_Me_word u0 x1; ((r22.toUInt32 % 65536).toInt32))
def C_St_mask (u0 : CSt) : Int32 := (u0.2.2.1 &&& 15)
def J_M_interrupt_31 (u7 : CSt) : Int32 := if u7.2.2.2.2.2.1 = 0 then (0) else ((u7.2.2.2.2.2.1 - 1))
def C_M_interrupt (u0 : CSt) : CSt := let u7 := C_M_switchThrough u0 (4 * u0.2.2.2.2.2.1); let z31 := J_M_interrupt_31 u7; let u31 := C_St_setMask u7 z31; (u31.1, u31.2.1, u31.2.2.1, u31.2.2.2.1, u31.2.2.2.2.1, u31.2.2.2.2.2.1, 0)
def C_M_fetch (u0 : CSt) : Int32 × CSt := let r8 := C_Me_word u0 u0.2.2.2.2.1; let u19 := C_M_setCounter u0 (u0.2.2.2.2.1 + 2); (r8, u19)
def C_M_register (u0 : CSt) (x1 : Int32) : Int32 := let r6 := C_M_registerAddress u0 x1; let r9 := C_Me_word u0 r6; r9
def C_M_isExecute (x0 : Int32) : Int32 := if (x0 &&& 65472) = 1152 then (1) else (0)
def J_M_operandAddress_73 (x1 : Int32) (u57 : CSt) : Int32 := if (x1 &&& 15) = 0 then (0) else (let r70 := C_M_register u57 (x1 &&& 15); r70)
def C_M_operandAddress (u0 : CSt) (x1 : Int32) (x2 : Int32) : Int32 × CSt := if ((x1 >>> ((4 : Int32) &&& 31)) &&& 3) = 0 then (let r38 := C_M_registerAddress u0 (x1 &&& 15); ((r38 &&& 1023), u0)) else if ((x1 >>> ((4 : Int32) &&& 31)) &&& 3) = 1 then (let r48 := C_M_register u0 (x1 &&& 15); ((r48 &&& 1023), u0)) else if ((x1 >>> ((4 : Int32) &&& 31)) &&& 3) = 2 then (let r57 := (C_M_fetch u0).1; let u57 := (C_M_fetch u0).2; let z73 := J_M_operandAddress_73 x1 u57; (((r57 + z73) &&& 1023), u57)) else (let r81 := C_M_register u0 (x1 &&& 15); let u92 := C_M_setRegister u0 (x1 &&& 15) (r81 + x2); ((r81 &&& 1023), u92))
def C_Me_isUpper (x0 : Int32) : Int32 := if (x0 &&& 1) = 0 then (1) else (0)
def C_Me_load (u0 : CSt) (x1 : Int32) (x2 : Int32) : Int32 := let r2 := C_Me_word u0 x1; if x2 = 2 then (r2) else (let r14 := C_Me_isUpper x1; if r14 = 0 then (((r2 &&& 255) <<< ((8 : Int32) &&& 31))) else ((r2 &&& 65280)))
def J_St_compare_11 (x1 : Int32) (x2 : Int32) : Int32 := if x1 ≤ x2 then (0) else (32768)
def J_St_compare_26 (x1 : Int32) (x2 : Int32) : Int32 := if (x1.toInt16.toInt32) ≤ (x2.toInt16.toInt32) then (0) else (16384)
def J_St_compare_40 (x1 : Int32) (x2 : Int32) : Int32 := if x1 = x2 then (8192) else (0)
def C_St_compare (u0 : CSt) (x1 : Int32) (x2 : Int32) : CSt := let z11 := J_St_compare_11 x1 x2; let z26 := J_St_compare_26 x1 x2; let z40 := J_St_compare_40 x1 x2; (u0.1, u0.2.1, ((((u0.2.2.1 &&& (-57345)) ||| z11) ||| z26) ||| z40), u0.2.2.2.1, u0.2.2.2.2.1, u0.2.2.2.2.2.1, u0.2.2.2.2.2.2)
def C_In_bitCount (x0 : Int32) : Int32 := ((((((((x0 - (((Int32.toUInt32 x0 >>> (Int32.toUInt32 1 &&& Int32.toUInt32 31)).toInt32) &&& 1431655765)) &&& 858993459) + (((Int32.toUInt32 (x0 - (((Int32.toUInt32 x0 >>> (Int32.toUInt32 1 &&& Int32.toUInt32 31)).toInt32) &&& 1431655765)) >>> (Int32.toUInt32 2 &&& Int32.toUInt32 31)).toInt32) &&& 858993459)) + ((Int32.toUInt32 (((x0 - (((Int32.toUInt32 x0 >>> (Int32.toUInt32 1 &&& Int32.toUInt32 31)).toInt32) &&& 1431655765)) &&& 858993459) + (((Int32.toUInt32 (x0 - (((Int32.toUInt32 x0 >>> (Int32.toUInt32 1 &&& Int32.toUInt32 31)).toInt32) &&& 1431655765)) >>> (Int32.toUInt32 2 &&& Int32.toUInt32 31)).toInt32) &&& 858993459)) >>> (Int32.toUInt32 4 &&& Int32.toUInt32 31)).toInt32)) &&& 252645135) + ((Int32.toUInt32 (((((x0 - (((Int32.toUInt32 x0 >>> (Int32.toUInt32 1 &&& Int32.toUInt32 31)).toInt32) &&& 1431655765)) &&& 858993459) + (((Int32.toUInt32 (x0 - (((Int32.toUInt32 x0 >>> (Int32.toUInt32 1 &&& Int32.toUInt32 31)).toInt32) &&& 1431655765)) >>> (Int32.toUInt32 2 &&& Int32.toUInt32 31)).toInt32) &&& 858993459)) + ((Int32.toUInt32 (((x0 - (((Int32.toUInt32 x0 >>> (Int32.toUInt32 1 &&& Int32.toUInt32 31)).toInt32) &&& 1431655765)) &&& 858993459) + (((Int32.toUInt32 (x0 - (((Int32.toUInt32 x0 >>> (Int32.toUInt32 1 &&& Int32.toUInt32 31)).toInt32) &&& 1431655765)) >>> (Int32.toUInt32 2 &&& Int32.toUInt32 31)).toInt32) &&& 858993459)) >>> (Int32.toUInt32 4 &&& Int32.toUInt32 31)).toInt32)) &&& 252645135) >>> (Int32.toUInt32 8 &&& Int32.toUInt32 31)).toInt32)) + ((Int32.toUInt32 ((((((x0 - (((Int32.toUInt32 x0 >>> (Int32.toUInt32 1 &&& Int32.toUInt32 31)).toInt32) &&& 1431655765)) &&& 858993459) + (((Int32.toUInt32 (x0 - (((Int32.toUInt32 x0 >>> (Int32.toUInt32 1 &&& Int32.toUInt32 31)).toInt32) &&& 1431655765)) >>> (Int32.toUInt32 2 &&& Int32.toUInt32 31)).toInt32) &&& 858993459)) + ((Int32.toUInt32 (((x0 - (((Int32.toUInt32 x0 >>> (Int32.toUInt32 1 &&& Int32.toUInt32 31)).toInt32) &&& 1431655765)) &&& 858993459) + (((Int32.toUInt32 (x0 - (((Int32.toUInt32 x0 >>> (Int32.toUInt32 1 &&& Int32.toUInt32 31)).toInt32) &&& 1431655765)) >>> (Int32.toUInt32 2 &&& Int32.toUInt32 31)).toInt32) &&& 858993459)) >>> (Int32.toUInt32 4 &&& Int32.toUInt32 31)).toInt32)) &&& 252645135) + ((Int32.toUInt32 (((((x0 - (((Int32.toUInt32 x0 >>> (Int32.toUInt32 1 &&& Int32.toUInt32 31)).toInt32) &&& 1431655765)) &&& 858993459) + (((Int32.toUInt32 (x0 - (((Int32.toUInt32 x0 >>> (Int32.toUInt32 1 &&& Int32.toUInt32 31)).toInt32) &&& 1431655765)) >>> (Int32.toUInt32 2 &&& Int32.toUInt32 31)).toInt32) &&& 858993459)) + ((Int32.toUInt32 (((x0 - (((Int32.toUInt32 x0 >>> (Int32.toUInt32 1 &&& Int32.toUInt32 31)).toInt32) &&& 1431655765)) &&& 858993459) + (((Int32.toUInt32 (x0 - (((Int32.toUInt32 x0 >>> (Int32.toUInt32 1 &&& Int32.toUInt32 31)).toInt32) &&& 1431655765)) >>> (Int32.toUInt32 2 &&& Int32.toUInt32 31)).toInt32) &&& 858993459)) >>> (Int32.toUInt32 4 &&& Int32.toUInt32 31)).toInt32)) &&& 252645135) >>> (Int32.toUInt32 8 &&& Int32.toUInt32 31)).toInt32)) >>> (Int32.toUInt32 16 &&& Int32.toUInt32 31)).toInt32)) &&& 63)
def J_St_mark_22 (u0 : CSt) (x1 : Int32) (x2 : Int32) : Int32 := if x2 = 0 then ((u0.2.2.1 &&& (x1 ^^^ (-1)))) else ((u0.2.2.1 ||| x1))
def C_St_mark (u0 : CSt) (x1 : Int32) (x2 : Int32) : CSt := let z22 := J_St_mark_22 u0 x1 x2; (u0.1, u0.2.1, z22, u0.2.2.2.1, u0.2.2.2.2.1, u0.2.2.2.2.2.1, u0.2.2.2.2.2.2)
def J_St_markParity_24 (r10 : Int32) : Int32 := if (r10 &&& 1) = 1 then (1) else (0)
def C_St_markParity (u0 : CSt) (x1 : Int32) (x2 : Int32) : CSt := if x2 = 1 then (let r10 := C_In_bitCount x1; let z24 := J_St_markParity_24 r10; let u24 := C_St_mark u0 1024 z24; u24) else (u0)
def C_St_tested (u0 : CSt) (x1 : Int32) : Int32 × CSt := let u3 := C_St_compare u0 x1 0; (x1, u3)
def J_St_sum_30 (x1 : Int32) (x2 : Int32) (x3 : Int32) : Int32 := if ((x1 + x2) + x3) ≤ 65535 then (0) else (1)
def J_St_sum_57 (x1 : Int32) (x2 : Int32) (x3 : Int32) : Int32 := if (((x1 ^^^ (((x1 + x2) + x3) &&& 65535)) &&& (x2 ^^^ (((x1 + x2) + x3) &&& 65535))) &&& 32768) = 0 then (0) else (1)
def C_St_sum (u0 : CSt) (x1 : Int32) (x2 : Int32) (x3 : Int32) : Int32 × CSt := let z30 := J_St_sum_30 x1 x2 x3; let u30 := C_St_mark u0 4096 z30; let z57 := J_St_sum_57 x1 x2 x3; let u57 := C_St_mark u30 2048 z57; let r63 := (C_St_tested u57 (((x1 + x2) + x3) &&& 65535)).1; let u63 := (C_St_tested u57 (((x1 + x2) + x3) &&& 65535)).2; (r63, u63)
def C_M_combined (u0 : CSt) (x1 : Int32) (x2 : Int32) (x3 : Int32) : Int32 × CSt := if x1 = 2 then (let r45 := (C_St_tested u0 (x3 &&& (x2 ^^^ (-1)))).1; let u45 := (C_St_tested u0 (x3 &&& (x2 ^^^ (-1)))).2; (r45, u45)) else if x1 = 3 then (let r61 := (C_St_sum u0 x3 ((x2 ^^^ (-1)) &&& 65535) 1).1; let u61 := (C_St_sum u0 x3 ((x2 ^^^ (-1)) &&& 65535) 1).2; (r61, u61)) else if x1 = 4 then (let r92 := (C_St_tested u0 (x3 ||| x2)).1; let u92 := (C_St_tested u0 (x3 ||| x2)).2; (r92, u92)) else if x1 = 5 then (let r72 := (C_St_sum u0 x3 x2 0).1; let u72 := (C_St_sum u0 x3 x2 0).2; (r72, u72)) else if x1 = 6 then (let r81 := (C_St_tested u0 x2).1; let u81 := (C_St_tested u0 x2).2; (r81, u81)) else (let r92 := (C_St_tested u0 (x3 ||| x2)).1; let u92 := (C_St_tested u0 (x3 ||| x2)).2; (r92, u92))
def C_Me_store (u0 : CSt) (x1 : Int32) (x2 : Int32) (x3 : Int32) : CSt := if x3 = 2 then (let u8 := C_Me_setWord u0 x1 x2; u8) else (let r15 := C_Me_isUpper x1; if r15 = 0 then (let r47 := C_Me_word u0 x1; let u58 := C_Me_setWord u0 x1 ((r47 &&& 65280) ||| (x2 >>> ((8 : Int32) &&& 31))); u58) else (let r29 := C_Me_word u0 x1; let u37 := C_Me_setWord u0 x1 ((x2 &&& 65280) ||| (r29 &&& 255)); u37))
def J_M_runOnTwoOperands_13 (x1 : Int32) : Int32 := if (x1 &&& 4096) = 0 then (2) else (1)
def C_M_runOnTwoOperands (u0 : CSt) (x1 : Int32) : Int32 × CSt := let z13 := J_M_runOnTwoOperands_13 x1; let r21 := (C_M_operandAddress u0 x1 z13).1; let u21 := (C_M_operandAddress u0 x1 z13).2; let r25 := C_Me_load u21 r21 z13; let r35 := (C_M_operandAddress u21 (x1 >>> ((6 : Int32) &&& 31)) z13).1; let u35 := (C_M_operandAddress u21 (x1 >>> ((6 : Int32) &&& 31)) z13).2; let r47 := C_Me_load u35 r35 z13; if (x1 >>> ((13 : Int32) &&& 31)) = 4 then (let u71 := C_St_compare u35 r25 r47; let u80 := C_St_markParity u71 r25 z13; (0, u80)) else (let r92 := (C_M_combined u35 (x1 >>> ((13 : Int32) &&& 31)) r25 r47).1; let u92 := (C_M_combined u35 (x1 >>> ((13 : Int32) &&& 31)) r25 r47).2; let u106 := C_Me_store u92 r35 r92 z13; let u116 := C_St_markParity u106 r92 z13; (0, u116))
def C_M_callExtended (u0 : CSt) (x1 : Int32) (x2 : Int32) : CSt := let u7 := C_M_switchThrough u0 (64 + (4 * x1)); let u14 := C_M_setRegister u7 11 x2; let u25 := C_St_mark u14 512 1; u25
def C_M_sizeForLines (x0 : Int32) : Int32 := if 8 < x0 then (2) else (1)
def C_Li_bitOf (x0 : Int32) : Int64 := ((1 : Int64) <<< ((x0 &&& 63).toInt64 &&& 63))
def J_Li_set_30 (u0 : CSt) (x1 : Int32) (x2 : Int32) : Int64 := if x2 = 0 then (let r22 := C_Li_bitOf x1; (u0.2.1 &&& (r22 ^^^ (-1)))) else (let r10 := C_Li_bitOf x1; (u0.2.1 ||| r10))
def C_Li_set (u0 : CSt) (x1 : Int32) (x2 : Int32) : CSt := let z30 := J_Li_set_30 u0 x1 x2; (u0.1, z30, u0.2.2.1, u0.2.2.2.1, u0.2.2.2.2.1, u0.2.2.2.2.2.1, u0.2.2.2.2.2.2)
def J_M_sendLines_36 (r1 : Int32) (r16 : Int32) : Int32 := if r1 = 1 then ((r16 >>> ((8 : Int32) &&& 31))) else (r16)
def J_M_sendLines_82 (z36 : Int32) (i7_51 : Int32) : Int32 := if ((z36 >>> (i7_51 &&& 31)) &&& 1) = 1 then (1) else (0)
def B_M_sendLines_51 (x2 : Int32) (z36 : Int32) (r41 : Int32) (v : Int32 × CSt) : Int32 × CSt := let i7_51 := v.1; let w51 := v.2; let z82 := J_M_sendLines_82 z36 i7_51; let u82 := C_Li_set w51 ((r41 / 2) + i7_51) z82; ((i7_51 + 1), u82)
def L_M_sendLines_51 (x2 : Int32) (z36 : Int32) (r41 : Int32) : Nat → Int32 × CSt → Int32 × CSt
  | 0, v => v
  | f + 1, v => if x2 ≤ v.1 then v else L_M_sendLines_51 x2 z36 r41 f (B_M_sendLines_51 x2 z36 r41 v)
theorem L_M_sendLines_51_s (x2 : Int32) (z36 : Int32) (r41 : Int32) (f : Nat) (i7_51 : Int32) (w51 : CSt) : L_M_sendLines_51 x2 z36 r41 (f + 1) (i7_51, w51) = if x2 ≤ i7_51 then (i7_51, w51) else L_M_sendLines_51 x2 z36 r41 f (B_M_sendLines_51 x2 z36 r41 (i7_51, w51)) := rfl
def C_M_sendLines (u0 : CSt) (x1 : Int32) (x2 : Int32) : CSt := let r1 := C_M_sizeForLines x2; let r12 := (C_M_operandAddress u0 x1 r1).1; let u12 := (C_M_operandAddress u0 x1 r1).2; let r16 := C_Me_load u12 r12 r1; let z36 := J_M_sendLines_36 r1 r16; let r41 := C_M_register u12 12; let i7_51 := (L_M_sendLines_51 x2 z36 r41 (((x2 : Int32).toInt - (0 : Int32).toInt).toNat) (0, u12)).1; let w51 := (L_M_sendLines_51 x2 z36 r41 (((x2 : Int32).toInt - (0 : Int32).toInt).toNat) (0, u12)).2; let u98 := C_St_compare w51 r16 0; let u108 := C_St_markParity u98 r16 r1; u108
def C_Li_isOn (u0 : CSt) (x1 : Int32) : Int32 := let r5 := C_Li_bitOf x1; if (lg_cmp (u0.2.1 &&& r5) 0) = 0 then (0) else (1)
def J_M_receiveLines_60 (i7_29 : Int32) (r46 : Int32) : Int32 := if r46 = 0 then (0) else ((1 <<< (i7_29 &&& 31)))
def B_M_receiveLines_29 (x2 : Int32) (u8 : CSt) (r16 : Int32) (v : Int32 × Int32) : Int32 × Int32 := let i6_29 := v.1; let i7_29 := v.2; let r46 := C_Li_isOn u8 ((r16 / 2) + i7_29); let z60 := J_M_receiveLines_60 i7_29 r46; ((i6_29 ||| z60), (i7_29 + 1))
def L_M_receiveLines_29 (x2 : Int32) (u8 : CSt) (r16 : Int32) : Nat → Int32 × Int32 → Int32 × Int32
  | 0, v => v
  | f + 1, v => if x2 ≤ v.2 then v else L_M_receiveLines_29 x2 u8 r16 f (B_M_receiveLines_29 x2 u8 r16 v)
theorem L_M_receiveLines_29_s (x2 : Int32) (u8 : CSt) (r16 : Int32) (f : Nat) (i6_29 : Int32) (i7_29 : Int32) : L_M_receiveLines_29 x2 u8 r16 (f + 1) (i6_29, i7_29) = if x2 ≤ i7_29 then (i6_29, i7_29) else L_M_receiveLines_29 x2 u8 r16 f (B_M_receiveLines_29 x2 u8 r16 (i6_29, i7_29)) := rfl
def J_M_receiveLines_88 (r1 : Int32) (i6_29 : Int32) : Int32 := if r1 = 1 then ((i6_29 <<< ((8 : Int32) &&& 31))) else (i6_29)
def C_M_receiveLines (u0 : CSt) (x1 : Int32) (x2 : Int32) : CSt := let r1 := C_M_sizeForLines x2; let r8 := (C_M_operandAddress u0 x1 r1).1; let u8 := (C_M_operandAddress u0 x1 r1).2; let r16 := C_M_register u8 12; let i6_29 := (L_M_receiveLines_29 x2 u8 r16 (((x2 : Int32).toInt - (0 : Int32).toInt).toNat) (0, 0)).1; let i7_29 := (L_M_receiveLines_29 x2 u8 r16 (((x2 : Int32).toInt - (0 : Int32).toInt).toNat) (0, 0)).2; let z88 := J_M_receiveLines_88 r1 i6_29; let r88 := (C_St_tested u8 z88).1; let u88 := (C_St_tested u8 z88).2; let u102 := C_Me_store u88 r8 r88 r1; let u112 := C_St_markParity u102 r88 r1; u112
def C_M_multiply (u0 : CSt) (x1 : Int32) (x2 : Int32) (x3 : Int32) : CSt := let u15 := C_M_setRegister u0 x1 ((((x2.toInt64) * (x3.toInt64)) >>> ((16 : Int32).toInt64 &&& 63)).toInt32); let u25 := C_M_setRegister u15 (x1 + 1) (((x2.toInt64) * (x3.toInt64)).toInt32); u25
def J_M_divide_10 (x2 : Int32) (x3 : Int32) : Int32 := if x3 ≤ x2 then (0) else (1)
def J_M_divide_29 (z10 : Int32) : Int32 := if z10 = 0 then (1) else (0)
def C_M_divide (u0 : CSt) (x1 : Int32) (x2 : Int32) (x3 : Int32) : CSt := let z10 := J_M_divide_10 x2 x3; let z29 := J_M_divide_29 z10; let u29 := C_St_mark u0 2048 z29; if z10 = 0 then (u29) else (let r46 := C_M_register u29 (x1 + 1); let u61 := C_M_setRegister u29 x1 (((((x2.toInt64) <<< ((16 : Int32).toInt64 &&& 63)) ||| (r46.toInt64)) / (x3.toInt64)).toInt32); let u74 := C_M_setRegister u61 (x1 + 1) (((((x2.toInt64) <<< ((16 : Int32).toInt64 &&& 63)) ||| (r46.toInt64)) - (((x2.toInt64) <<< ((16 : Int32).toInt64 &&& 63)) ||| (r46.toInt64)) / (x3.toInt64) * (x3.toInt64)).toInt32); u74)
def J_M_combineIntoRegister_73 (x3 : Int32) (r2 : Int32) : Int32 := if (x3 &&& (r2 ^^^ (-1))) = 0 then (1) else (0)
def J_M_combineIntoRegister_98 (x3 : Int32) (r2 : Int32) : Int32 := if (x3 &&& r2) = 0 then (1) else (0)
def C_M_combineIntoRegister (u0 : CSt) (x1 : Int32) (x2 : Int32) (x3 : Int32) : CSt := let r2 := C_M_register u0 x2; if x1 = 8 then (let z73 := J_M_combineIntoRegister_73 x3 r2; let u73 := C_St_mark u0 8192 z73; u73) else if x1 = 9 then (let z98 := J_M_combineIntoRegister_98 x3 r2; let u98 := C_St_mark u0 8192 z98; u98) else if x1 = 10 then (let r114 := (C_St_tested u0 (r2 ^^^ x3)).1; let u114 := (C_St_tested u0 (r2 ^^^ x3)).2; let u117 := C_M_setRegister u114 x2 r114; u117) else if x1 = 11 then (let u139 := C_M_divide u0 x2 r2 x3; u139) else if x1 = 12 then (let u139 := C_M_divide u0 x2 r2 x3; u139) else if x1 = 13 then (let u139 := C_M_divide u0 x2 r2 x3; u139) else if x1 = 14 then (let u128 := C_M_multiply u0 x2 r2 x3; u128) else (let u139 := C_M_divide u0 x2 r2 x3; u139)
def J_M_runOnRegisterAndOperand_66 (x1 : Int32) : Int32 := if ((x1 >>> ((6 : Int32) &&& 31)) &&& 15) = 0 then (16) else (((x1 >>> ((6 : Int32) &&& 31)) &&& 15))
def J_M_runOnRegisterAndOperand_84 (x1 : Int32) : Int32 := if ((x1 >>> ((6 : Int32) &&& 31)) &&& 15) = 0 then (16) else (((x1 >>> ((6 : Int32) &&& 31)) &&& 15))
def C_M_runOnRegisterAndOperand (u0 : CSt) (x1 : Int32) : Int32 × CSt := if (x1 >>> ((10 : Int32) &&& 31)) = 11 then (let r45 := (C_M_operandAddress u0 x1 2).1; let u45 := (C_M_operandAddress u0 x1 2).2; let u48 := C_M_callExtended u45 ((x1 >>> ((6 : Int32) &&& 31)) &&& 15) r45; (0, u48)) else if (x1 >>> ((10 : Int32) &&& 31)) = 12 then (let z66 := J_M_runOnRegisterAndOperand_66 x1; let u66 := C_M_sendLines u0 x1 z66; (0, u66)) else if (x1 >>> ((10 : Int32) &&& 31)) = 13 then (let z84 := J_M_runOnRegisterAndOperand_84 x1; let u84 := C_M_receiveLines u0 x1 z84; (0, u84)) else (let r100 := (C_M_operandAddress u0 x1 2).1; let u100 := (C_M_operandAddress u0 x1 2).2; let r103 := C_Me_word u100 r100; let u106 := C_M_combineIntoRegister u100 (x1 >>> ((10 : Int32) &&& 31)) ((x1 >>> ((6 : Int32) &&& 31)) &&& 15) r103; (0, u106))
def C_St_has (u0 : CSt) (x1 : Int32) : Int32 := if (u0.2.2.1 &&& x1) = 0 then (0) else (1)
def C_M_isJumpTaken (u0 : CSt) (x1 : Int32) : Int32 := let r6 := C_St_has u0 32768; let r17 := C_St_has u0 16384; let r28 := C_St_has u0 8192; if x1 = 16 then (1) else if x1 = 17 then (if r17 = 0 then (if r28 = 0 then (1) else (0)) else (0)) else if x1 = 18 then (if r6 = 0 then (1) else (if r28 = 0 then (0) else (1))) else if x1 = 19 then (r28) else if x1 = 20 then (if r6 = 0 then (if r28 = 0 then (0) else (1)) else (1)) else if x1 = 21 then (r17) else if x1 = 22 then (if r28 = 0 then (1) else (0)) else if x1 = 23 then (let r166 := C_St_has u0 4096; if r166 = 0 then (1) else (0)) else if x1 = 24 then (let r185 := C_St_has u0 4096; r185) else if x1 = 25 then (let r196 := C_St_has u0 2048; if r196 = 0 then (1) else (0)) else if x1 = 26 then (if r6 = 0 then (if r28 = 0 then (1) else (0)) else (0)) else if x1 = 27 then (if r6 = 0 then (0) else (if r28 = 0 then (1) else (0))) else (let r245 := C_St_has u0 1024; r245)
def C_M_runJump (u0 : CSt) (x1 : Int32) : Int32 × CSt := let r5 := C_M_isJumpTaken u0 (x1 >>> ((8 : Int32) &&& 31)); if r5 = 0 then ((0, u0)) else (let u21 := C_M_setCounter u0 (u0.2.2.2.2.1 + (2 * (x1.toInt8.toInt32))); (0, u21))
def C_M_runOnLine (u0 : CSt) (x1 : Int32) : Int32 × CSt := let r3 := C_M_register u0 12; if (x1 >>> ((8 : Int32) &&& 31)) = 29 then (let u50 := C_Li_set u0 ((r3 / 2) + (x1.toInt8.toInt32)) 1; (0, u50)) else if (x1 >>> ((8 : Int32) &&& 31)) = 30 then (let u62 := C_Li_set u0 ((r3 / 2) + (x1.toInt8.toInt32)) 0; (0, u62)) else (let r80 := C_Li_isOn u0 ((r3 / 2) + (x1.toInt8.toInt32)); let u83 := C_St_mark u0 8192 r80; (0, u83))
def C_M_shiftCount (u0 : CSt) (x1 : Int32) : Int32 := if x1 = 0 then (let r8 := C_M_register u0 0; if (r8 &&& 15) = 0 then (16) else ((r8 &&& 15))) else (x1)
def C_M_shiftedOnce (x0 : Int32) (x1 : Int32) : Int32 := if x0 = 8 then (((x1 &&& 32768) ||| (x1 >>> ((1 : Int32) &&& 31)))) else if x0 = 9 then ((x1 >>> ((1 : Int32) &&& 31))) else if x0 = 10 then (((x1 <<< ((1 : Int32) &&& 31)) &&& 65535)) else (((x1 >>> ((1 : Int32) &&& 31)) ||| ((x1 &&& 1) <<< ((15 : Int32) &&& 31))))
def J_M_runShift_63 (x1 : Int32) (i5_38 : Int32) : Int32 := if (x1 >>> ((8 : Int32) &&& 31)) = 10 then ((i5_38 >>> ((15 : Int32) &&& 31))) else ((i5_38 &&& 1))
def J_M_runShift_94 (i5_38 : Int32) (i7_38 : Int32) (r68 : Int32) : Int32 := if i7_38 = 0 then (if ((i5_38 ^^^ r68) &&& 32768) = 0 then (0) else (1)) else (1)
def B_M_runShift_38 (x1 : Int32) (r17 : Int32) (v : Int32 × Int32 × Int32 × Int32) : Int32 × Int32 × Int32 × Int32 := let i5_38 := v.1; let i6_38 := v.2.1; let i7_38 := v.2.2.1; let i8_38 := v.2.2.2; let z63 := J_M_runShift_63 x1 i5_38; let r68 := C_M_shiftedOnce (x1 >>> ((8 : Int32) &&& 31)) i5_38; let z94 := J_M_runShift_94 i5_38 i7_38 r68; (r68, z63, z94, (i8_38 + 1))
def L_M_runShift_38 (x1 : Int32) (r17 : Int32) : Nat → Int32 × Int32 × Int32 × Int32 → Int32 × Int32 × Int32 × Int32
  | 0, v => v
  | f + 1, v => if r17 ≤ v.2.2.2 then v else L_M_runShift_38 x1 r17 f (B_M_runShift_38 x1 r17 v)
theorem L_M_runShift_38_s (x1 : Int32) (r17 : Int32) (f : Nat) (i5_38 : Int32) (i6_38 : Int32) (i7_38 : Int32) (i8_38 : Int32) : L_M_runShift_38 x1 r17 (f + 1) (i5_38, i6_38, i7_38, i8_38) = if r17 ≤ i8_38 then (i5_38, i6_38, i7_38, i8_38) else L_M_runShift_38 x1 r17 f (B_M_runShift_38 x1 r17 (i5_38, i6_38, i7_38, i8_38)) := rfl
def J_M_runShift_138 (i6_38 : Int32) : Int32 := if i6_38 = 1 then (1) else (0)
def C_M_runShift (u0 : CSt) (x1 : Int32) : Int32 × CSt := let r17 := C_M_shiftCount u0 ((x1 >>> ((4 : Int32) &&& 31)) &&& 15); let r24 := C_M_register u0 (x1 &&& 15); let i5_38 := (L_M_runShift_38 x1 r17 (((r17 : Int32).toInt - (0 : Int32).toInt).toNat) (r24, 0, 0, 0)).1; let i6_38 := (L_M_runShift_38 x1 r17 (((r17 : Int32).toInt - (0 : Int32).toInt).toNat) (r24, 0, 0, 0)).2.1; let i7_38 := (L_M_runShift_38 x1 r17 (((r17 : Int32).toInt - (0 : Int32).toInt).toNat) (r24, 0, 0, 0)).2.2.1; let i8_38 := (L_M_runShift_38 x1 r17 (((r17 : Int32).toInt - (0 : Int32).toInt).toNat) (r24, 0, 0, 0)).2.2.2; let r114 := (C_St_tested u0 i5_38).1; let u114 := (C_St_tested u0 i5_38).2; let u117 := C_M_setRegister u114 (x1 &&& 15) r114; let z138 := J_M_runShift_138 i6_38; let u138 := C_St_mark u117 4096 z138; if (x1 >>> ((8 : Int32) &&& 31)) = 10 then (let u156 := C_St_mark u138 2048 i7_38; (0, u156)) else ((0, u138))
def J_M_negated_16 (x1 : Int32) : Int32 := if x1 = 0 then (1) else (0)
def J_M_negated_37 (x1 : Int32) : Int32 := if x1 = 32768 then (1) else (0)
def C_M_negated (u0 : CSt) (x1 : Int32) : Int32 × CSt := let z16 := J_M_negated_16 x1; let u16 := C_St_mark u0 4096 z16; let z37 := J_M_negated_37 x1; let u37 := C_St_mark u16 2048 z37; let r49 := (C_St_tested u37 ((-x1) &&& 65535)).1; let u49 := (C_St_tested u37 ((-x1) &&& 65535)).2; (r49, u49)
def J_M_withoutSign_38 (x1 : Int32) : Int32 := if x1 = 32768 then (1) else (0)
def C_M_withoutSign (u0 : CSt) (x1 : Int32) : Int32 × CSt := let u6 := C_St_compare u0 x1 0; let u17 := C_St_mark u6 4096 0; let z38 := J_M_withoutSign_38 x1; let u38 := C_St_mark u17 2048 z38; if (x1 &&& 32768) = 0 then ((x1, u38)) else ((((-x1) &&& 65535), u38))
def C_M_changed (u0 : CSt) (x1 : Int32) (x2 : Int32) : Int32 × CSt := if x1 = 3 then ((0, u0)) else if x1 = 4 then (let r60 := (C_M_negated u0 x2).1; let u60 := (C_M_negated u0 x2).2; (r60, u60)) else if x1 = 5 then (let r74 := (C_St_tested u0 ((x2 ^^^ (-1)) &&& 65535)).1; let u74 := (C_St_tested u0 ((x2 ^^^ (-1)) &&& 65535)).2; (r74, u74)) else if x1 = 6 then (let r85 := (C_St_sum u0 x2 1 0).1; let u85 := (C_St_sum u0 x2 1 0).2; (r85, u85)) else if x1 = 7 then (let r96 := (C_St_sum u0 x2 2 0).1; let u96 := (C_St_sum u0 x2 2 0).2; (r96, u96)) else if x1 = 8 then (let r108 := (C_St_sum u0 x2 65535 0).1; let u108 := (C_St_sum u0 x2 65535 0).2; (r108, u108)) else if x1 = 9 then (let r120 := (C_St_sum u0 x2 65534 0).1; let u120 := (C_St_sum u0 x2 65534 0).2; (r120, u120)) else if x1 = 10 then (let r143 := (C_M_withoutSign u0 x2).1; let u143 := (C_M_withoutSign u0 x2).2; (r143, u143)) else if x1 = 11 then ((((x2 >>> ((8 : Int32) &&& 31)) ||| ((x2 &&& 255) <<< ((8 : Int32) &&& 31))), u0)) else if x1 = 12 then ((65535, u0)) else (let r143 := (C_M_withoutSign u0 x2).1; let u143 := (C_M_withoutSign u0 x2).2; (r143, u143))
def C_M_runOnOneOperand (u0 : CSt) (x1 : Int32) : Int32 × CSt := let r11 := (C_M_operandAddress u0 x1 2).1; let u11 := (C_M_operandAddress u0 x1 2).2; if ((x1 >>> ((6 : Int32) &&& 31)) &&& 15) = 0 then (let u54 := C_M_switchThrough u11 r11; (0, u54)) else if ((x1 >>> ((6 : Int32) &&& 31)) &&& 15) = 1 then (let u62 := C_M_setCounter u11 r11; (0, u62)) else if ((x1 >>> ((6 : Int32) &&& 31)) &&& 15) = 10 then (let u75 := C_M_setRegister u11 11 u11.2.2.2.2.1; let u80 := C_M_setCounter u75 r11; (0, u80)) else (let r98 := C_Me_word u11 r11; let r101 := (C_M_changed u11 ((x1 >>> ((6 : Int32) &&& 31)) &&& 15) r98).1; let u101 := (C_M_changed u11 ((x1 >>> ((6 : Int32) &&& 31)) &&& 15) r98).2; let u104 := C_Me_setWord u101 r11 r101; (0, u104))
def C_M_runImmediate (u0 : CSt) (x1 : Int32) (x2 : Int32) (x3 : Int32) : CSt := if x1 = 0 then (let r39 := (C_St_tested u0 x3).1; let u39 := (C_St_tested u0 x3).2; let u42 := C_M_setRegister u39 x2 r39; u42) else if x1 = 1 then (let r56 := C_M_register u0 x2; let r61 := (C_St_sum u0 r56 x3 0).1; let u61 := (C_St_sum u0 r56 x3 0).2; let u64 := C_M_setRegister u61 x2 r61; u64) else if x1 = 2 then (let r78 := C_M_register u0 x2; let r83 := (C_St_tested u0 (r78 &&& x3)).1; let u83 := (C_St_tested u0 (r78 &&& x3)).2; let u86 := C_M_setRegister u83 x2 r83; u86) else if x1 = 3 then (let r100 := C_M_register u0 x2; let r105 := (C_St_tested u0 (r100 ||| x3)).1; let u105 := (C_St_tested u0 (r100 ||| x3)).2; let u108 := C_M_setRegister u105 x2 r105; u108) else (let r120 := C_M_register u0 x2; let u124 := C_St_compare u0 r120 x3; u124)
def C_St_setBits (u0 : CSt) (x1 : Int32) : CSt := (u0.1, u0.2.1, x1, u0.2.2.2.1, u0.2.2.2.2.1, u0.2.2.2.2.2.1, u0.2.2.2.2.2.2)
def C_M_switchBack (u0 : CSt) : CSt := let r7 := C_M_register u0 15; let u10 := C_St_setBits u0 r7; let r17 := C_M_register u10 14; let u20 := C_M_setCounter u10 r17; let r27 := C_M_register u20 13; let u30 := C_M_setWorkspace u20 r27; u30
def C_M_runImmediateOrControl (u0 : CSt) (x1 : Int32) : Int32 × CSt := if 4 < ((x1 >>> ((5 : Int32) &&& 31)) &&& 15) then (if ((x1 >>> ((5 : Int32) &&& 31)) &&& 15) = 5 then (let u82 := C_M_setRegister u0 (x1 &&& 15) u0.2.2.2.1; (0, u82)) else if ((x1 >>> ((5 : Int32) &&& 31)) &&& 15) = 6 then (let r93 := C_St_bits u0; let u96 := C_M_setRegister u0 (x1 &&& 15) r93; (0, u96)) else if ((x1 >>> ((5 : Int32) &&& 31)) &&& 15) = 7 then (let r103 := (C_M_fetch u0).1; let u103 := (C_M_fetch u0).2; let u106 := C_M_setWorkspace u103 r103; (0, u106)) else if ((x1 >>> ((5 : Int32) &&& 31)) &&& 15) = 8 then (let r116 := (C_M_fetch u0).1; let u116 := (C_M_fetch u0).2; let u119 := C_St_setMask u116 r116; (0, u119)) else if ((x1 >>> ((5 : Int32) &&& 31)) &&& 15) = 9 then ((2, u0)) else if ((x1 >>> ((5 : Int32) &&& 31)) &&& 15) = 10 then ((1, (u0.1, u0.2.1, u0.2.2.1, u0.2.2.2.1, u0.2.2.2.2.1, u0.2.2.2.2.2.1, 1))) else if ((x1 >>> ((5 : Int32) &&& 31)) &&& 15) = 11 then (let u138 := C_St_setMask u0 0; (0, u138)) else if ((x1 >>> ((5 : Int32) &&& 31)) &&& 15) = 12 then (let u144 := C_M_switchBack u0; (0, u144)) else ((0, u0))) else (let r21 := (C_M_fetch u0).1; let u21 := (C_M_fetch u0).2; let u24 := C_M_runImmediate u21 ((x1 >>> ((5 : Int32) &&& 31)) &&& 15) (x1 &&& 15) r21; (0, u24))
def C_M_run (u0 : CSt) (x1 : Int32) : Int32 × CSt := if x1 < 16384 then (if x1 < 8192 then (if x1 < 4096 then (if x1 < 2048 then (let r79 := C_M_isExecute x1; if r79 = 0 then (if x1 < 1024 then (if x1 < 512 then ((2, u0)) else (if (x1 &&& 16) = 0 then (let r127 := (C_M_runImmediateOrControl u0 x1).1; let u127 := (C_M_runImmediateOrControl u0 x1).2; (r127, u127)) else ((2, u0)))) else (if 1920 ≤ x1 then ((2, u0)) else (let r103 := (C_M_runOnOneOperand u0 x1).1; let u103 := (C_M_runOnOneOperand u0 x1).2; (r103, u103)))) else ((3, u0))) else (if 3072 ≤ x1 then ((2, u0)) else (let r70 := (C_M_runShift u0 x1).1; let u70 := (C_M_runShift u0 x1).2; (r70, u70)))) else (if 7424 ≤ x1 then (let r50 := (C_M_runOnLine u0 x1).1; let u50 := (C_M_runOnLine u0 x1).2; (r50, u50)) else (let r42 := (C_M_runJump u0 x1).1; let u42 := (C_M_runJump u0 x1).2; (r42, u42)))) else (let r22 := (C_M_runOnRegisterAndOperand u0 x1).1; let u22 := (C_M_runOnRegisterAndOperand u0 x1).2; (r22, u22))) else (let r9 := (C_M_runOnTwoOperands u0 x1).1; let u9 := (C_M_runOnTwoOperands u0 x1).2; (r9, u9))
def J_M_step_76 (r35 : Int32) (u35 : CSt) (r53 : Int32) : Int32 × CSt := if r53 = 0 then ((r35, u35)) else (let r66 := (C_M_operandAddress u35 r35 2).1; let u66 := (C_M_operandAddress u35 r35 2).2; let r69 := C_Me_word u66 r66; (r69, u66))
def C_M_step (u0 : CSt) : Int32 × CSt := let r8 := C_St_mask u0; if r8 < u0.2.2.2.2.2.1 then (if u0.2.2.2.2.2.2 = 0 then (let r35 := (C_M_fetch u0).1; let u35 := (C_M_fetch u0).2; let r46 := C_M_register u35 (r35 &&& 15); let r53 := C_M_isExecute r35; let z76 := (J_M_step_76 r35 u35 r53).1; let v76 := (J_M_step_76 r35 u35 r53).2; let r76 := (C_M_run v76 z76).1; let u76 := (C_M_run v76 z76).2; if r76 = 2 then (let u102 := C_M_setRegister (u76.1, u76.2.1, u76.2.2.1, u76.2.2.2.1, u0.2.2.2.2.1, u76.2.2.2.2.2.1, u76.2.2.2.2.2.2) (r35 &&& 15) r46; (r76, u102)) else (if r76 = 3 then (let u102 := C_M_setRegister (u76.1, u76.2.1, u76.2.2.1, u76.2.2.2.1, u0.2.2.2.2.1, u76.2.2.2.2.2.1, u76.2.2.2.2.2.2) (r35 &&& 15) r46; (r76, u102)) else ((r76, u76)))) else ((1, u0))) else (let u15 := C_M_interrupt u0; (0, u15))
def C_M_level (u0 : CSt) (x1 : Int32) : CSt := if x1 < 0 then (u0) else (if x1 ≤ 16 then ((u0.1, u0.2.1, u0.2.2.1, u0.2.2.2.1, u0.2.2.2.2.1, x1, u0.2.2.2.2.2.2)) else (u0))
def C_M_isLine (x0 : Int32) : Int32 := if x0 < 0 then (0) else (if 64 ≤ x0 then (0) else (1))
def C_M_wire (u0 : CSt) (x1 : Int32) (x2 : Int32) : CSt := let r1 := C_M_isLine x1; if r1 = 0 then (u0) else (let u23 := C_Li_set u0 x1 x2; u23)
def C_M_line (u0 : CSt) (x1 : Int32) : Int32 := let r1 := C_M_isLine x1; if r1 = 0 then (0) else (let r22 := C_Li_isOn u0 x1; r22)
def C_M_state (u0 : CSt) (x1 : Int32) : Int32 := if x1 = 0 then (u0.2.2.2.1) else if x1 = 1 then (u0.2.2.2.2.1) else if x1 = 2 then (let r50 := C_St_bits u0; r50) else if x1 = 3 then (u0.2.2.2.2.2.1) else if x1 = 4 then (if u0.2.2.2.2.2.2 = 0 then (0) else (1)) else (0)
def C_Mo_thrown (u0 : RSt) : Int32 := u0.2.2.1
def J_Mo_fails_10 (x1 : Int32) : Int32 := if x1 = 0 then (0) else (1)
def C_Mo_fails (u0 : RSt) (x1 : Int32) : Int32 × RSt := let z10 := J_Mo_fails_10 x1; (x1, (u0.1, u0.2.1, z10, u0.2.2.2.1, u0.2.2.2.2.1, u0.2.2.2.2.2.1, u0.2.2.2.2.2.2.1, u0.2.2.2.2.2.2.2.1, u0.2.2.2.2.2.2.2.2.1, u0.2.2.2.2.2.2.2.2.2))
def C_Mo_word (u0 : RSt) (x1 : Int32) : Int32 := (u0.1 ((x1 >>> ((1 : Int32) &&& 31)) &&& 511).toNatClampNeg)
def C_Mo_setWord (u0 : RSt) (x1 : Int32) (x2 : Int32) : RSt := ((upd u0.1 ((x1 >>> ((1 : Int32) &&& 31)) &&& 511).toNatClampNeg (x2 &&& 65535)), u0.2.1, u0.2.2.1, u0.2.2.2.1, u0.2.2.2.2.1, u0.2.2.2.2.2.1, u0.2.2.2.2.2.2.1, u0.2.2.2.2.2.2.2.1, u0.2.2.2.2.2.2.2.2.1, u0.2.2.2.2.2.2.2.2.2)
def C_Mo_register (u0 : RSt) (x1 : Int32) : Int32 := let r9 := C_Mo_word u0 (u0.2.2.2.1 + (2 * x1)); r9
def C_Mo_setRegister (u0 : RSt) (x1 : Int32) (x2 : Int32) : RSt := let u10 := C_Mo_setWord u0 (u0.2.2.2.1 + (2 * x1)) x2; u10
def C_Mo_next (u0 : RSt) : Int32 × RSt := let r5 := C_Mo_word u0 u0.2.2.2.2.1; (r5, (u0.1, u0.2.1, u0.2.2.1, u0.2.2.2.1, ((u0.2.2.2.2.1 + 2) &&& 1022), u0.2.2.2.2.2.1, u0.2.2.2.2.2.2.1, u0.2.2.2.2.2.2.2.1, u0.2.2.2.2.2.2.2.2.1, u0.2.2.2.2.2.2.2.2.2))
def C_Mo_value (u0 : RSt) (x1 : Int32) (x2 : Int32) : Int32 := let r2 := C_Mo_word u0 x1; if x2 = 0 then (r2) else (if (x1 &&& 1) = 0 then ((r2 &&& 65280)) else (((r2 <<< ((8 : Int32) &&& 31)) &&& 65280)))
def J_Mo_store_51 (x1 : Int32) (x2 : Int32) (x3 : Int32) (r2 : Int32) : Int32 := if x3 = 0 then (x2) else (if (x1 &&& 1) = 0 then (((r2 &&& 255) ||| (x2 &&& 65280))) else (((r2 &&& 65280) ||| ((x2 >>> ((8 : Int32) &&& 31)) &&& 255))))
def C_Mo_store (u0 : RSt) (x1 : Int32) (x2 : Int32) (x3 : Int32) : RSt := let r2 := C_Mo_word u0 x1; let z51 := J_Mo_store_51 x1 x2 x3 r2; let u51 := C_Mo_setWord u0 x1 z51; u51
def J_Mo_address_122 (x2 : Int32) : Int32 := if x2 = 0 then (2) else (1)
def C_Mo_address (u0 : RSt) (x1 : Int32) (x2 : Int32) : Int32 × RSt := if ((x1 >>> ((4 : Int32) &&& 31)) &&& 3) = 0 then ((((u0.2.2.2.1 + (2 * (x1 &&& 15))) &&& 1023), u0)) else (if ((x1 >>> ((4 : Int32) &&& 31)) &&& 3) = 1 then (let r38 := C_Mo_register u0 (x1 &&& 15); ((r38 &&& 1023), u0)) else (if ((x1 >>> ((4 : Int32) &&& 31)) &&& 3) = 2 then (let r52 := (C_Mo_next u0).1; let u52 := (C_Mo_next u0).2; if (x1 &&& 15) = 0 then (((r52 &&& 1023), u52)) else (let r72 := C_Mo_register u52 (x1 &&& 15); (((r52 + r72) &&& 1023), u52))) else (let r84 := C_Mo_register u0 (x1 &&& 15); let z122 := J_Mo_address_122 x2; let u123 := C_Mo_setRegister (u0.1, u0.2.1, u0.2.2.1, u0.2.2.2.1, u0.2.2.2.2.1, u0.2.2.2.2.2.1, u0.2.2.2.2.2.2.1, u0.2.2.2.2.2.2.2.1, (u0.2.2.2.1 + (2 * (x1 &&& 15))), r84) (x1 &&& 15) (r84 + z122); ((r84 &&& 1023), u123))))
def J_Mo_flag_22 (u0 : RSt) (x1 : Int32) (x2 : Int32) : Int32 := if x2 = 0 then ((u0.2.2.2.2.2.1 &&& (x1 ^^^ (-1)))) else ((u0.2.2.2.2.2.1 ||| x1))
def C_Mo_flag (u0 : RSt) (x1 : Int32) (x2 : Int32) : RSt := let z22 := J_Mo_flag_22 u0 x1 x2; (u0.1, u0.2.1, u0.2.2.1, u0.2.2.2.1, u0.2.2.2.2.1, z22, u0.2.2.2.2.2.2.1, u0.2.2.2.2.2.2.2.1, u0.2.2.2.2.2.2.2.2.1, u0.2.2.2.2.2.2.2.2.2)
def C_Mo_has (u0 : RSt) (x1 : Int32) : Int32 := if (u0.2.2.2.2.2.1 &&& x1) = 0 then (0) else (1)
def C_Mo_signed (x0 : Int32) : Int32 := if x0 ≤ 32767 then (x0) else ((x0 - 65536))
def J_Mo_compare_13 (x1 : Int32) (x2 : Int32) : Int32 := if x1 ≤ x2 then (0) else (1)
def J_Mo_compare_36 (r21 : Int32) (r25 : Int32) : Int32 := if r21 ≤ r25 then (0) else (1)
def J_Mo_compare_53 (x1 : Int32) (x2 : Int32) : Int32 := if x1 = x2 then (1) else (0)
def C_Mo_compare (u0 : RSt) (x1 : Int32) (x2 : Int32) : RSt := let z13 := J_Mo_compare_13 x1 x2; let u13 := C_Mo_flag u0 32768 z13; let r21 := C_Mo_signed x1; let r25 := C_Mo_signed x2; let z36 := J_Mo_compare_36 r21 r25; let u36 := C_Mo_flag u13 16384 z36; let z53 := J_Mo_compare_53 x1 x2; let u53 := C_Mo_flag u36 8192 z53; u53
def C_Mo_test (u0 : RSt) (x1 : Int32) : RSt := let u3 := C_Mo_compare u0 x1 0; u3
def B_Mo_parity_5 (x1 : Int32) (v : Int32 × Int32) : Int32 × Int32 := let i2_5 := v.1; let i3_5 := v.2; ((i2_5 + ((x1 >>> (i3_5 &&& 31)) &&& 1)), (i3_5 + 1))
def L_Mo_parity_5 (x1 : Int32) : Nat → Int32 × Int32 → Int32 × Int32
  | 0, v => v
  | f + 1, v => if 16 ≤ v.2 then v else L_Mo_parity_5 x1 f (B_Mo_parity_5 x1 v)
theorem L_Mo_parity_5_s (x1 : Int32) (f : Nat) (i2_5 : Int32) (i3_5 : Int32) : L_Mo_parity_5 x1 (f + 1) (i2_5, i3_5) = if 16 ≤ i3_5 then (i2_5, i3_5) else L_Mo_parity_5 x1 f (B_Mo_parity_5 x1 (i2_5, i3_5)) := rfl
def J_Mo_parity_41 (i2_5 : Int32) : Int32 := if (i2_5 &&& 1) = 1 then (1) else (0)
def C_Mo_parity (u0 : RSt) (x1 : Int32) : RSt := let i2_5 := (L_Mo_parity_5 x1 (((16 : Int32).toInt - (8 : Int32).toInt).toNat) (0, 8)).1; let i3_5 := (L_Mo_parity_5 x1 (((16 : Int32).toInt - (8 : Int32).toInt).toNat) (0, 8)).2; let z41 := J_Mo_parity_41 i2_5; let u41 := C_Mo_flag u0 1024 z41; u41
def J_Mo_sum_17 (x3 : Int32) (x4 : Int32) : Int32 := if x4 = 0 then (x3) else ((256 * x3))
def J_Mo_sum_43 (x1 : Int32) (x2 : Int32) (z17 : Int32) : Int32 := if ((x1 + x2) + z17) ≤ 65535 then (0) else (1)
def J_Mo_sum_70 (x1 : Int32) (x2 : Int32) (z17 : Int32) : Int32 := if (((x1 ^^^ (((x1 + x2) + z17) &&& 65535)) &&& (x2 ^^^ (((x1 + x2) + z17) &&& 65535))) &&& 32768) = 0 then (0) else (1)
def C_Mo_sum (u0 : RSt) (x1 : Int32) (x2 : Int32) (x3 : Int32) (x4 : Int32) : Int32 × RSt := let z17 := J_Mo_sum_17 x3 x4; let z43 := J_Mo_sum_43 x1 x2 z17; let u43 := C_Mo_flag u0 4096 z43; let z70 := J_Mo_sum_70 x1 x2 z17; let u70 := C_Mo_flag u43 2048 z70; ((((x1 + x2) + z17) &&& 65535), u70)
def C_Mo_change (u0 : RSt) (x1 : Int32) : RSt := let r2 := C_Mo_word u0 x1; let r10 := C_Mo_word u0 (x1 + 2); let u34 := C_Mo_setRegister (u0.1, u0.2.1, u0.2.2.1, (r2 &&& 1022), u0.2.2.2.2.1, u0.2.2.2.2.2.1, u0.2.2.2.2.2.2.1, u0.2.2.2.2.2.2.2.1, u0.2.2.2.2.2.2.2.2.1, u0.2.2.2.2.2.2.2.2.2) 13 u0.2.2.2.1; let u44 := C_Mo_setRegister u34 14 u34.2.2.2.2.1; let u54 := C_Mo_setRegister u44 15 u44.2.2.2.2.2.1; (u54.1, u54.2.1, u54.2.2.1, u54.2.2.2.1, (r10 &&& 1022), u54.2.2.2.2.2.1, u54.2.2.2.2.2.2.1, u54.2.2.2.2.2.2.2.1, u54.2.2.2.2.2.2.2.2.1, u54.2.2.2.2.2.2.2.2.2)
def C_Mo_setMask (u0 : RSt) (x1 : Int32) : RSt := (u0.1, u0.2.1, u0.2.2.1, u0.2.2.2.1, u0.2.2.2.2.1, ((u0.2.2.2.2.2.1 &&& (-16)) ||| (x1 &&& 15)), u0.2.2.2.2.2.2.1, u0.2.2.2.2.2.2.2.1, u0.2.2.2.2.2.2.2.2.1, u0.2.2.2.2.2.2.2.2.2)
def C_Mo_known (x0 : Int32) : Int32 := if x0 < 4096 then (if x0 < 2048 then (if x0 < 1024 then (if x0 < 512 then (0) else (if (x0 &&& 16) = 0 then (if ((x0 >>> ((5 : Int32) &&& 31)) &&& 15) = 9 then (0) else (1)) else (0))) else (if 1920 ≤ x0 then (0) else (1))) else (if 3072 ≤ x0 then (0) else (1))) else (1)
def C_Mo_isX (x0 : Int32) : Int32 := if x0 < 1152 then (0) else (if 1216 ≤ x0 then (0) else (1))
def J_Mo_twoOperands_17 (x1 : Int32) : Int32 := if ((x1 >>> ((12 : Int32) &&& 31)) &&& 1) = 1 then (1) else (0)
def J_Mo_twoOperands_70 (z17 : Int32) : Int32 := if z17 = 0 then (65535) else (65280)
def J_Mo_twoOperands_172 (x1 : Int32) (z17 : Int32) (r29 : Int32) (u43 : RSt) (r52 : Int32) (z70 : Int32) : Int32 × RSt := if 6 ≤ (x1 >>> ((12 : Int32) &&& 31)) then (if 8 ≤ (x1 >>> ((12 : Int32) &&& 31)) then (if 10 ≤ (x1 >>> ((12 : Int32) &&& 31)) then (if 12 ≤ (x1 >>> ((12 : Int32) &&& 31)) then (if 14 ≤ (x1 >>> ((12 : Int32) &&& 31)) then (((r52 ||| r29), u43)) else ((r29, u43))) else (let r144 := (C_Mo_sum u43 r52 r29 0 z17).1; let u144 := (C_Mo_sum u43 r52 r29 0 z17).2; (r144, u144))) else (let u125 := C_Mo_compare u43 r29 r52; (r52, u125))) else (let r106 := (C_Mo_sum u43 r52 (r29 ^^^ z70) 1 z17).1; let u106 := (C_Mo_sum u43 r52 (r29 ^^^ z70) 1 z17).2; (r106, u106))) else (((r52 &&& (r29 ^^^ z70)), u43))
def J_Mo_twoOperands_199 (x1 : Int32) (z17 : Int32) (r43 : Int32) (z172_l8 : Int32) (v172 : RSt) : RSt := if (x1 >>> ((12 : Int32) &&& 31)) = 8 then (v172) else (if (x1 >>> ((12 : Int32) &&& 31)) = 9 then (v172) else (let u187 := C_Mo_test v172 z172_l8; let u196 := C_Mo_store u187 r43 z172_l8 z17; u196))
def J_Mo_twoOperands_217 (x1 : Int32) (r29 : Int32) (z172_l8 : Int32) : Int32 := if (x1 >>> ((12 : Int32) &&& 31)) = 9 then (r29) else (z172_l8)
def C_Mo_twoOperands (u0 : RSt) (x1 : Int32) : RSt := let z17 := J_Mo_twoOperands_17 x1; let r25 := (C_Mo_address u0 (x1 &&& 63) z17).1; let u25 := (C_Mo_address u0 (x1 &&& 63) z17).2; let r29 := C_Mo_value u25 r25 z17; let r43 := (C_Mo_address u25 ((x1 >>> ((6 : Int32) &&& 31)) &&& 63) z17).1; let u43 := (C_Mo_address u25 ((x1 >>> ((6 : Int32) &&& 31)) &&& 63) z17).2; let r52 := C_Mo_value u43 r43 z17; let z70 := J_Mo_twoOperands_70 z17; let z172_l8 := (J_Mo_twoOperands_172 x1 z17 r29 u43 r52 z70).1; let v172 := (J_Mo_twoOperands_172 x1 z17 r29 u43 r52 z70).2; let v199 := J_Mo_twoOperands_199 x1 z17 r43 z172_l8 v172; if z17 = 0 then (v199) else (let z217 := J_Mo_twoOperands_217 x1 r29 z172_l8; let u217 := C_Mo_parity v199 z217; u217)
def C_Mo_base (u0 : RSt) : Int32 := let r3 := C_Mo_register u0 12; (r3 >>> ((1 : Int32) &&& 31))
def J_Mo_lineOperand_22 (x1 : Int32) : Int32 := if ((x1 >>> ((6 : Int32) &&& 31)) &&& 15) = 0 then (16) else (((x1 >>> ((6 : Int32) &&& 31)) &&& 15))
def J_Mo_lineOperand_34 (z22 : Int32) : Int32 := if 8 < z22 then (0) else (1)
def J_Mo_lineOperand_59 (z34 : Int32) : Int32 := if z34 = 0 then (0) else (8)
def J_Mo_lineOperand_77 (x2 : Int32) (z34 : Int32) (r43 : Int32) (u43 : RSt) : Int32 := if x2 = 0 then (0) else (let r70 := C_Mo_value u43 r43 z34; r70)
def J_Mo_lineOperand_158 (z59 : Int32) (i7_82 : Int32) (i8_82 : Int32) (w82 : RSt) (r89 : Int32) : Int32 := if (w82.2.1 ((r89 + i8_82) &&& 63).toNatClampNeg) = 0 then (i7_82) else ((i7_82 ||| (1 <<< ((i8_82 + z59) &&& 31))))
def J_Mo_lineOperand_129 (z59 : Int32) (i7_82 : Int32) (i8_82 : Int32) : Int32 := if ((i7_82 >>> ((i8_82 + z59) &&& 31)) &&& 1) = 1 then (1) else (0)
def J_Mo_lineOperand_160 (x2 : Int32) (z59 : Int32) (i7_82 : Int32) (i8_82 : Int32) (w82 : RSt) (r89 : Int32) : Int32 × RSt := if x2 = 0 then (let z158 := J_Mo_lineOperand_158 z59 i7_82 i8_82 w82 r89; (z158, w82)) else (let z129 := J_Mo_lineOperand_129 z59 i7_82 i8_82; (i7_82, (w82.1, (upd w82.2.1 ((r89 + i8_82) &&& 63).toNatClampNeg (vp_nar .boolean z129)), w82.2.2.1, w82.2.2.2.1, w82.2.2.2.2.1, w82.2.2.2.2.2.1, w82.2.2.2.2.2.2.1, w82.2.2.2.2.2.2.2.1, w82.2.2.2.2.2.2.2.2.1, w82.2.2.2.2.2.2.2.2.2)))
def B_Mo_lineOperand_82 (x2 : Int32) (z22 : Int32) (z59 : Int32) (v : Int32 × Int32 × RSt) : Int32 × Int32 × RSt := let i7_82 := v.1; let i8_82 := v.2.1; let w82 := v.2.2; let r89 := C_Mo_base w82; let z160_l7 := (J_Mo_lineOperand_160 x2 z59 i7_82 i8_82 w82 r89).1; let v160 := (J_Mo_lineOperand_160 x2 z59 i7_82 i8_82 w82 r89).2; (z160_l7, (i8_82 + 1), v160)
def L_Mo_lineOperand_82 (x2 : Int32) (z22 : Int32) (z59 : Int32) : Nat → Int32 × Int32 × RSt → Int32 × Int32 × RSt
  | 0, v => v
  | f + 1, v => if z22 ≤ v.2.1 then v else L_Mo_lineOperand_82 x2 z22 z59 f (B_Mo_lineOperand_82 x2 z22 z59 v)
theorem L_Mo_lineOperand_82_s (x2 : Int32) (z22 : Int32) (z59 : Int32) (f : Nat) (i7_82 : Int32) (i8_82 : Int32) (w82 : RSt) : L_Mo_lineOperand_82 x2 z22 z59 (f + 1) (i7_82, i8_82, w82) = if z22 ≤ i8_82 then (i7_82, i8_82, w82) else L_Mo_lineOperand_82 x2 z22 z59 f (B_Mo_lineOperand_82 x2 z22 z59 (i7_82, i8_82, w82)) := rfl
def J_Mo_lineOperand_183 (z34 : Int32) (i7_82 : Int32) (u169 : RSt) : RSt := if z34 = 0 then (u169) else (let u180 := C_Mo_parity u169 i7_82; u180)
def C_Mo_lineOperand (u0 : RSt) (x1 : Int32) (x2 : Int32) : RSt := let z22 := J_Mo_lineOperand_22 x1; let z34 := J_Mo_lineOperand_34 z22; let r43 := (C_Mo_address u0 (x1 &&& 63) z34).1; let u43 := (C_Mo_address u0 (x1 &&& 63) z34).2; let z59 := J_Mo_lineOperand_59 z34; let z77 := J_Mo_lineOperand_77 x2 z34 r43 u43; let i7_82 := (L_Mo_lineOperand_82 x2 z22 z59 (((z22 : Int32).toInt - (0 : Int32).toInt).toNat) (z77, 0, u43)).1; let i8_82 := (L_Mo_lineOperand_82 x2 z22 z59 (((z22 : Int32).toInt - (0 : Int32).toInt).toNat) (z77, 0, u43)).2.1; let w82 := (L_Mo_lineOperand_82 x2 z22 z59 (((z22 : Int32).toInt - (0 : Int32).toInt).toNat) (z77, 0, u43)).2.2; let u169 := C_Mo_test w82 i7_82; let v183 := J_Mo_lineOperand_183 z34 i7_82 u169; if x2 = 0 then (let u194 := C_Mo_store v183 r43 i7_82 z34; u194) else (v183)
def J_Mo_withRegister_38 (x1 : Int32) : Int32 := if (x1 >>> ((10 : Int32) &&& 31)) = 12 then (1) else (0)
def J_Mo_withRegister_126 (r56 : Int32) (r96 : Int32) : Int32 := if (r56 &&& (r96 ^^^ (-1))) = 0 then (1) else (0)
def J_Mo_withRegister_129 (x1 : Int32) (u48 : RSt) (r56 : Int32) (r96 : Int32) : RSt := if (x1 >>> ((10 : Int32) &&& 31)) = 8 then (let z126 := J_Mo_withRegister_126 r56 r96; let u126 := C_Mo_flag u48 8192 z126; u126) else (u48)
def J_Mo_withRegister_152 (r56 : Int32) (r96 : Int32) : Int32 := if (r56 &&& r96) = 0 then (1) else (0)
def J_Mo_withRegister_155 (x1 : Int32) (r56 : Int32) (r96 : Int32) (v129 : RSt) : RSt := if (x1 >>> ((10 : Int32) &&& 31)) = 9 then (let z152 := J_Mo_withRegister_152 r56 r96; let u152 := C_Mo_flag v129 8192 z152; u152) else (v129)
def J_Mo_withRegister_180 (x1 : Int32) (r56 : Int32) (r96 : Int32) (v155 : RSt) : RSt := if (x1 >>> ((10 : Int32) &&& 31)) = 10 then (let u167 := C_Mo_test v155 (r96 ^^^ r56); let u177 := C_Mo_setRegister u167 ((x1 >>> ((6 : Int32) &&& 31)) &&& 15) (r96 ^^^ r56); u177) else (v155)
def J_Mo_withRegister_220 (x1 : Int32) (r56 : Int32) (r96 : Int32) (v180 : RSt) : RSt := if (x1 >>> ((10 : Int32) &&& 31)) = 14 then (let u203 := C_Mo_setRegister v180 ((x1 >>> ((6 : Int32) &&& 31)) &&& 15) ((((r96.toInt64) * (r56.toInt64)) >>> ((16 : Int32).toInt64 &&& 63)).toInt32); let u217 := C_Mo_setRegister u203 (((x1 >>> ((6 : Int32) &&& 31)) &&& 15) + 1) ((((r96.toInt64) * (r56.toInt64)) &&& 65535).toInt32); u217) else (v180)
def J_Mo_withRegister_242 (r56 : Int32) (r96 : Int32) : Int32 := if r96 < r56 then (0) else (1)
def C_Mo_withRegister (u0 : RSt) (x1 : Int32) : RSt := if (x1 >>> ((10 : Int32) &&& 31)) = 12 then (let z38 := J_Mo_withRegister_38 x1; let u38 := C_Mo_lineOperand u0 x1 z38; u38) else (if (x1 >>> ((10 : Int32) &&& 31)) = 13 then (let z38 := J_Mo_withRegister_38 x1; let u38 := C_Mo_lineOperand u0 x1 z38; u38) else (let r48 := (C_Mo_address u0 (x1 &&& 63) 0).1; let u48 := (C_Mo_address u0 (x1 &&& 63) 0).2; let r56 := C_Mo_word u48 r48; if (x1 >>> ((10 : Int32) &&& 31)) = 11 then (let u74 := C_Mo_change u48 (64 + (4 * ((x1 >>> ((6 : Int32) &&& 31)) &&& 15))); let u82 := C_Mo_setRegister u74 11 r48; let u90 := C_Mo_flag u82 512 1; u90) else (let r96 := C_Mo_register u48 ((x1 >>> ((6 : Int32) &&& 31)) &&& 15); let v129 := J_Mo_withRegister_129 x1 u48 r56 r96; let v155 := J_Mo_withRegister_155 x1 r56 r96 v129; let v180 := J_Mo_withRegister_180 x1 r56 r96 v155; let v220 := J_Mo_withRegister_220 x1 r56 r96 v180; if (x1 >>> ((10 : Int32) &&& 31)) = 15 then (let z242 := J_Mo_withRegister_242 r56 r96; let u242 := C_Mo_flag v220 2048 z242; if r56 ≤ r96 then (u242) else (let r263 := C_Mo_register u242 (((x1 >>> ((6 : Int32) &&& 31)) &&& 15) + 1); let u279 := C_Mo_setRegister u242 ((x1 >>> ((6 : Int32) &&& 31)) &&& 15) (((((r96.toInt64) * 65536) + (r263.toInt64)) / (r56.toInt64)).toInt32); let u293 := C_Mo_setRegister u279 (((x1 >>> ((6 : Int32) &&& 31)) &&& 15) + 1) (((((r96.toInt64) * 65536) + (r263.toInt64)) - (((r96.toInt64) * 65536) + (r263.toInt64)) / (r56.toInt64) * (r56.toInt64)).toInt32); u293)) else (v220))))
def C_Mo_holds (u0 : RSt) (x1 : Int32) : Int32 := let r3 := C_Mo_has u0 32768; let r11 := C_Mo_has u0 8192; if x1 = 0 then (1) else if x1 = 1 then (let r86 := C_Mo_has u0 16384; if r86 = 0 then (if r11 = 0 then (1) else (0)) else (0)) else if x1 = 2 then (if r3 = 0 then (1) else (if r11 = 0 then (0) else (1))) else if x1 = 3 then (r11) else if x1 = 4 then (if r3 = 0 then (if r11 = 0 then (0) else (1)) else (1)) else if x1 = 5 then (let r136 := C_Mo_has u0 16384; r136) else if x1 = 6 then (if r11 = 0 then (1) else (0)) else if x1 = 7 then (let r154 := C_Mo_has u0 4096; if r154 = 0 then (1) else (0)) else if x1 = 8 then (let r170 := C_Mo_has u0 4096; r170) else if x1 = 9 then (let r178 := C_Mo_has u0 2048; if r178 = 0 then (1) else (0)) else if x1 = 10 then (if r3 = 0 then (if r11 = 0 then (1) else (0)) else (0)) else if x1 = 11 then (if r3 = 0 then (0) else (if r11 = 0 then (1) else (0))) else (let r222 := C_Mo_has u0 1024; r222)
def J_Mo_jumpOrLine_35 (x1 : Int32) : Int32 := if (x1 &&& 255) ≤ 127 then ((x1 &&& 255)) else (((x1 &&& 255) - 256))
def J_Mo_jumpOrLine_110 (x1 : Int32) : Int32 := if ((x1 >>> ((8 : Int32) &&& 31)) &&& 15) = 13 then (1) else (0)
def J_Mo_jumpOrLine_81 (u0 : RSt) (z35 : Int32) (r56 : Int32) : Int32 := if r56 = 0 then (u0.2.2.2.2.1) else (((u0.2.2.2.2.1 + (2 * z35)) &&& 1022))
def C_Mo_jumpOrLine (u0 : RSt) (x1 : Int32) : RSt := let z35 := J_Mo_jumpOrLine_35 x1; let r37 := C_Mo_base u0; if 13 ≤ ((x1 >>> ((8 : Int32) &&& 31)) &&& 15) then (if 15 ≤ ((x1 >>> ((8 : Int32) &&& 31)) &&& 15) then (let u125 := C_Mo_flag u0 8192 (u0.2.1 ((r37 + z35) &&& 63).toNatClampNeg); u125) else (let z110 := J_Mo_jumpOrLine_110 x1; (u0.1, (upd u0.2.1 ((r37 + z35) &&& 63).toNatClampNeg (vp_nar .boolean z110)), u0.2.2.1, u0.2.2.2.1, u0.2.2.2.2.1, u0.2.2.2.2.2.1, u0.2.2.2.2.2.2.1, u0.2.2.2.2.2.2.2.1, u0.2.2.2.2.2.2.2.2.1, u0.2.2.2.2.2.2.2.2.2))) else (let r56 := C_Mo_holds u0 ((x1 >>> ((8 : Int32) &&& 31)) &&& 15); let z81 := J_Mo_jumpOrLine_81 u0 z35 r56; (u0.1, u0.2.1, u0.2.2.1, u0.2.2.2.1, z81, u0.2.2.2.2.2.1, u0.2.2.2.2.2.2.1, u0.2.2.2.2.2.2.2.1, u0.2.2.2.2.2.2.2.2.1, u0.2.2.2.2.2.2.2.2.2))
def J_Mo_shift_28 (u0 : RSt) (x1 : Int32) : Int32 := if ((x1 >>> ((4 : Int32) &&& 31)) &&& 15) = 0 then (let r18 := C_Mo_register u0 0; (r18 &&& 15)) else (((x1 >>> ((4 : Int32) &&& 31)) &&& 15))
def J_Mo_shift_39 (z28 : Int32) : Int32 := if z28 = 0 then (16) else (z28)
def J_Mo_shift_92 (x1 : Int32) (i5_64 : Int32) : Int32 := if ((x1 >>> ((8 : Int32) &&& 31)) &&& 3) = 2 then ((i5_64 >>> ((15 : Int32) &&& 31))) else ((i5_64 &&& 1))
def J_Mo_shift_122 (x1 : Int32) (i5_64 : Int32) (z92 : Int32) : Int32 := if ((x1 >>> ((8 : Int32) &&& 31)) &&& 3) = 0 then ((i5_64 &&& 32768)) else (if ((x1 >>> ((8 : Int32) &&& 31)) &&& 3) = 3 then ((z92 <<< ((15 : Int32) &&& 31))) else (0))
def J_Mo_shift_147 (x1 : Int32) (i5_64 : Int32) (z122 : Int32) : Int32 := if ((x1 >>> ((8 : Int32) &&& 31)) &&& 3) = 2 then (((i5_64 <<< ((1 : Int32) &&& 31)) &&& 65535)) else (((i5_64 >>> ((1 : Int32) &&& 31)) ||| z122))
def J_Mo_shift_170 (i5_64 : Int32) (i6_64 : Int32) (z147 : Int32) : Int32 := if i6_64 = 0 then (if ((i5_64 ^^^ z147) &&& 32768) = 0 then (0) else (1)) else (1)
def B_Mo_shift_64 (x1 : Int32) (z39 : Int32) (v : Int32 × Int32 × Int32 × Int32) : Int32 × Int32 × Int32 × Int32 := let i5_64 := v.1; let i6_64 := v.2.1; let i7_64 := v.2.2.1; let i8_64 := v.2.2.2; let z92 := J_Mo_shift_92 x1 i5_64; let z122 := J_Mo_shift_122 x1 i5_64 z92; let z147 := J_Mo_shift_147 x1 i5_64 z122; let z170 := J_Mo_shift_170 i5_64 i6_64 z147; (z147, z170, z92, (i8_64 + 1))
def L_Mo_shift_64 (x1 : Int32) (z39 : Int32) : Nat → Int32 × Int32 × Int32 × Int32 → Int32 × Int32 × Int32 × Int32
  | 0, v => v
  | f + 1, v => if z39 ≤ v.2.2.2 then v else L_Mo_shift_64 x1 z39 f (B_Mo_shift_64 x1 z39 v)
theorem L_Mo_shift_64_s (x1 : Int32) (z39 : Int32) (f : Nat) (i5_64 : Int32) (i6_64 : Int32) (i7_64 : Int32) (i8_64 : Int32) : L_Mo_shift_64 x1 z39 (f + 1) (i5_64, i6_64, i7_64, i8_64) = if z39 ≤ i8_64 then (i5_64, i6_64, i7_64, i8_64) else L_Mo_shift_64 x1 z39 f (B_Mo_shift_64 x1 z39 (i5_64, i6_64, i7_64, i8_64)) := rfl
def J_Mo_shift_199 (i7_64 : Int32) : Int32 := if i7_64 = 1 then (1) else (0)
def J_Mo_shift_217 (x1 : Int32) (i6_64 : Int32) (u199 : RSt) : RSt := if ((x1 >>> ((8 : Int32) &&& 31)) &&& 3) = 2 then (let u214 := C_Mo_flag u199 2048 i6_64; u214) else (u199)
def C_Mo_shift (u0 : RSt) (x1 : Int32) : RSt := let z28 := J_Mo_shift_28 u0 x1; let z39 := J_Mo_shift_39 z28; let r50 := C_Mo_register u0 (x1 &&& 15); let i5_64 := (L_Mo_shift_64 x1 z39 (((z39 : Int32).toInt - (0 : Int32).toInt).toNat) (r50, 0, 0, 0)).1; let i6_64 := (L_Mo_shift_64 x1 z39 (((z39 : Int32).toInt - (0 : Int32).toInt).toNat) (r50, 0, 0, 0)).2.1; let i7_64 := (L_Mo_shift_64 x1 z39 (((z39 : Int32).toInt - (0 : Int32).toInt).toNat) (r50, 0, 0, 0)).2.2.1; let i8_64 := (L_Mo_shift_64 x1 z39 (((z39 : Int32).toInt - (0 : Int32).toInt).toNat) (r50, 0, 0, 0)).2.2.2; let u181 := C_Mo_test u0 i5_64; let z199 := J_Mo_shift_199 i7_64; let u199 := C_Mo_flag u181 4096 z199; let v217 := J_Mo_shift_217 x1 i6_64 u199; let u221 := C_Mo_setRegister v217 (x1 &&& 15) i5_64; u221
def J_Mo_oneOperand_235 (x1 : Int32) (r20 : Int32) : Int32 := if ((x1 >>> ((6 : Int32) &&& 31)) &&& 15) = 4 then ((-r20)) else ((r20 ^^^ (-1)))
def J_Mo_oneOperand_265 (r20 : Int32) : Int32 := if r20 = 0 then (1) else (0)
def J_Mo_oneOperand_268 (x1 : Int32) (r20 : Int32) (u243 : RSt) : RSt := if ((x1 >>> ((6 : Int32) &&& 31)) &&& 15) = 4 then (let z265 := J_Mo_oneOperand_265 r20; let u265 := C_Mo_flag u243 4096 z265; u265) else (u243)
def J_Mo_oneOperand_289 (r20 : Int32) : Int32 := if r20 = 32768 then (1) else (0)
def J_Mo_oneOperand_292 (x1 : Int32) (r20 : Int32) (v268 : RSt) : RSt := if ((x1 >>> ((6 : Int32) &&& 31)) &&& 15) = 4 then (let z289 := J_Mo_oneOperand_289 r20; let u289 := C_Mo_flag v268 2048 z289; u289) else (v268)
def J_Mo_oneOperand_335 (x1 : Int32) (r20 : Int32) : Int32 := if ((x1 >>> ((6 : Int32) &&& 31)) &&& 15) = 3 then (0) else (if ((x1 >>> ((6 : Int32) &&& 31)) &&& 15) = 12 then (65535) else (((r20 >>> ((8 : Int32) &&& 31)) ||| (r20 <<< ((8 : Int32) &&& 31)))))
def J_Mo_oneOperand_180 (r20 : Int32) : Int32 := if r20 = 32768 then (1) else (0)
def J_Mo_oneOperand_129 (x1 : Int32) : Int32 := if ((x1 >>> ((6 : Int32) &&& 31)) &&& 15) = 6 then (1) else (if ((x1 >>> ((6 : Int32) &&& 31)) &&& 15) = 7 then (2) else (if ((x1 >>> ((6 : Int32) &&& 31)) &&& 15) = 8 then (65535) else (65534)))
def C_Mo_oneOperand (u0 : RSt) (x1 : Int32) : RSt := let r14 := (C_Mo_address u0 (x1 &&& 63) 0).1; let u14 := (C_Mo_address u0 (x1 &&& 63) 0).2; let r20 := C_Mo_word u14 r14; if ((x1 >>> ((6 : Int32) &&& 31)) &&& 15) = 0 then (let u31 := C_Mo_change u14 r14; u31) else (if ((x1 >>> ((6 : Int32) &&& 31)) &&& 15) = 1 then ((u14.1, u14.2.1, u14.2.2.1, u14.2.2.2.1, (r14 &&& 1022), u14.2.2.2.2.2.1, u14.2.2.2.2.2.2.1, u14.2.2.2.2.2.2.2.1, u14.2.2.2.2.2.2.2.2.1, u14.2.2.2.2.2.2.2.2.2)) else (if ((x1 >>> ((6 : Int32) &&& 31)) &&& 15) = 10 then (let u67 := C_Mo_setRegister u14 11 u14.2.2.2.2.1; (u67.1, u67.2.1, u67.2.2.1, u67.2.2.2.1, (r14 &&& 1022), u67.2.2.2.2.2.1, u67.2.2.2.2.2.2.1, u67.2.2.2.2.2.2.2.1, u67.2.2.2.2.2.2.2.2.1, u67.2.2.2.2.2.2.2.2.2)) else (if ((x1 >>> ((6 : Int32) &&& 31)) &&& 15) ≤ 5 then (if ((x1 >>> ((6 : Int32) &&& 31)) &&& 15) = 13 then (let u161 := C_Mo_test u14 r20; let z180 := J_Mo_oneOperand_180 r20; let u180 := C_Mo_flag u161 2048 z180; let u188 := C_Mo_flag u180 4096 0; if r20 ≤ 32767 then (u188) else (let u204 := C_Mo_setWord u188 r14 (-r20); u204)) else (if ((x1 >>> ((6 : Int32) &&& 31)) &&& 15) = 4 then (let z235 := J_Mo_oneOperand_235 x1 r20; let u243 := C_Mo_test u14 (z235 &&& 65535); let v268 := J_Mo_oneOperand_268 x1 r20 u243; let v292 := J_Mo_oneOperand_292 x1 r20 v268; let u296 := C_Mo_setWord v292 r14 (z235 &&& 65535); u296) else (if ((x1 >>> ((6 : Int32) &&& 31)) &&& 15) = 5 then (let z235 := J_Mo_oneOperand_235 x1 r20; let u243 := C_Mo_test u14 (z235 &&& 65535); let v268 := J_Mo_oneOperand_268 x1 r20 u243; let v292 := J_Mo_oneOperand_292 x1 r20 v268; let u296 := C_Mo_setWord v292 r14 (z235 &&& 65535); u296) else (let z335 := J_Mo_oneOperand_335 x1 r20; let u335 := C_Mo_setWord u14 r14 z335; u335)))) else (if 10 ≤ ((x1 >>> ((6 : Int32) &&& 31)) &&& 15) then (if ((x1 >>> ((6 : Int32) &&& 31)) &&& 15) = 13 then (let u161 := C_Mo_test u14 r20; let z180 := J_Mo_oneOperand_180 r20; let u180 := C_Mo_flag u161 2048 z180; let u188 := C_Mo_flag u180 4096 0; if r20 ≤ 32767 then (u188) else (let u204 := C_Mo_setWord u188 r14 (-r20); u204)) else (if ((x1 >>> ((6 : Int32) &&& 31)) &&& 15) = 4 then (let z235 := J_Mo_oneOperand_235 x1 r20; let u243 := C_Mo_test u14 (z235 &&& 65535); let v268 := J_Mo_oneOperand_268 x1 r20 u243; let v292 := J_Mo_oneOperand_292 x1 r20 v268; let u296 := C_Mo_setWord v292 r14 (z235 &&& 65535); u296) else (if ((x1 >>> ((6 : Int32) &&& 31)) &&& 15) = 5 then (let z235 := J_Mo_oneOperand_235 x1 r20; let u243 := C_Mo_test u14 (z235 &&& 65535); let v268 := J_Mo_oneOperand_268 x1 r20 u243; let v292 := J_Mo_oneOperand_292 x1 r20 v268; let u296 := C_Mo_setWord v292 r14 (z235 &&& 65535); u296) else (let z335 := J_Mo_oneOperand_335 x1 r20; let u335 := C_Mo_setWord u14 r14 z335; u335)))) else (let z129 := J_Mo_oneOperand_129 x1; let r131 := (C_Mo_sum u14 r20 z129 0 0).1; let u131 := (C_Mo_sum u14 r20 z129 0 0).2; let u139 := C_Mo_test u131 r131; let u146 := C_Mo_setWord u139 r14 r131; u146)))))
def J_Mo_immediate_100 (x1 : Int32) (r1 : Int32) (u1 : RSt) (r7 : Int32) : Int32 × RSt := if x1 = 0 then ((r1, u1)) else (if x1 = 1 then (let r78 := (C_Mo_sum u1 r7 r1 0 0).1; let u78 := (C_Mo_sum u1 r7 r1 0 0).2; (r78, u78)) else (if x1 = 2 then (((r7 &&& r1), u1)) else (((r7 ||| r1), u1))))
def C_Mo_immediate (u0 : RSt) (x1 : Int32) (x2 : Int32) : RSt := let r1 := (C_Mo_next u0).1; let u1 := (C_Mo_next u0).2; let r7 := C_Mo_register u1 x2; if x1 = 7 then ((u1.1, u1.2.1, u1.2.2.1, (r1 &&& 1022), u1.2.2.2.2.1, u1.2.2.2.2.2.1, u1.2.2.2.2.2.2.1, u1.2.2.2.2.2.2.2.1, u1.2.2.2.2.2.2.2.2.1, u1.2.2.2.2.2.2.2.2.2)) else (if x1 = 8 then (let u38 := C_Mo_setMask u1 r1; u38) else (if x1 = 4 then (let u53 := C_Mo_compare u1 r7 r1; u53) else (let z100 := (J_Mo_immediate_100 x1 r1 u1 r7).1; let v100 := (J_Mo_immediate_100 x1 r1 u1 r7).2; let u105 := C_Mo_test v100 z100; let u112 := C_Mo_setRegister u105 x2 z100; u112)))
def J_Mo_inner_33 (u0 : RSt) (x1 : Int32) : RSt := if ((x1 >>> ((5 : Int32) &&& 31)) &&& 15) < 5 then (let u30 := C_Mo_immediate u0 ((x1 >>> ((5 : Int32) &&& 31)) &&& 15) (x1 &&& 15); u30) else (if ((x1 >>> ((5 : Int32) &&& 31)) &&& 15) = 7 then (let u30 := C_Mo_immediate u0 ((x1 >>> ((5 : Int32) &&& 31)) &&& 15) (x1 &&& 15); u30) else (if ((x1 >>> ((5 : Int32) &&& 31)) &&& 15) = 8 then (let u30 := C_Mo_immediate u0 ((x1 >>> ((5 : Int32) &&& 31)) &&& 15) (x1 &&& 15); u30) else (u0)))
def J_Mo_inner_50 (x1 : Int32) (v33 : RSt) : RSt := if ((x1 >>> ((5 : Int32) &&& 31)) &&& 15) = 5 then (let u47 := C_Mo_setRegister v33 (x1 &&& 15) v33.2.2.2.1; u47) else (v33)
def J_Mo_inner_68 (x1 : Int32) (v50 : RSt) : RSt := if ((x1 >>> ((5 : Int32) &&& 31)) &&& 15) = 6 then (let u65 := C_Mo_setRegister v50 (x1 &&& 15) v50.2.2.2.2.2.1; u65) else (v50)
def J_Mo_inner_79 (x1 : Int32) (v68 : RSt) : RSt := if ((x1 >>> ((5 : Int32) &&& 31)) &&& 15) = 10 then ((v68.1, v68.2.1, v68.2.2.1, v68.2.2.2.1, v68.2.2.2.2.1, v68.2.2.2.2.2.1, v68.2.2.2.2.2.2.1, 1, v68.2.2.2.2.2.2.2.2.1, v68.2.2.2.2.2.2.2.2.2)) else (v68)
def J_Mo_inner_90 (x1 : Int32) (v79 : RSt) : RSt := if ((x1 >>> ((5 : Int32) &&& 31)) &&& 15) = 11 then (let u87 := C_Mo_setMask v79 0; u87) else (v79)
def J_Mo_inner_136 (x1 : Int32) (v90 : RSt) : RSt := if ((x1 >>> ((5 : Int32) &&& 31)) &&& 15) = 12 then (let r99 := C_Mo_register v90 13; let r107 := C_Mo_register v90 14; let r121 := C_Mo_register (v90.1, v90.2.1, v90.2.2.1, v90.2.2.2.1, (r107 &&& 1022), v90.2.2.2.2.2.1, v90.2.2.2.2.2.2.1, v90.2.2.2.2.2.2.2.1, v90.2.2.2.2.2.2.2.2.1, v90.2.2.2.2.2.2.2.2.2) 15; (v90.1, v90.2.1, v90.2.2.1, (r99 &&& 1022), (r107 &&& 1022), r121, v90.2.2.2.2.2.2.1, v90.2.2.2.2.2.2.2.1, v90.2.2.2.2.2.2.2.2.1, v90.2.2.2.2.2.2.2.2.2)) else (v90)
def C_Mo_inner (u0 : RSt) (x1 : Int32) : Int32 × RSt := let v33 := J_Mo_inner_33 u0 x1; let v50 := J_Mo_inner_50 x1 v33; let v68 := J_Mo_inner_68 x1 v50; let v79 := J_Mo_inner_79 x1 v68; let v90 := J_Mo_inner_90 x1 v79; let v136 := J_Mo_inner_136 x1 v90; if ((x1 >>> ((5 : Int32) &&& 31)) &&& 15) = 10 then ((1, v136)) else ((0, v136))
def C_Mo_does (u0 : RSt) (x1 : Int32) : Int32 × RSt := if x1 < 16384 then (if x1 < 8192 then (if x1 < 4096 then (if x1 < 2048 then (if x1 < 1024 then (let r77 := (C_Mo_inner u0 x1).1; let u77 := (C_Mo_inner u0 x1).2; (r77, u77)) else (let u69 := C_Mo_oneOperand u0 x1; (0, u69))) else (let u54 := C_Mo_shift u0 x1; (0, u54))) else (let u39 := C_Mo_jumpOrLine u0 x1; (0, u39))) else (let u24 := C_Mo_withRegister u0 x1; (0, u24))) else (let u9 := C_Mo_twoOperands u0 x1; (0, u9))
def J_Mo_fetched_27 (r16 : Int32) : Int32 := if r16 = 0 then (2) else (0)
def J_Mo_fetched_76 (r49 : Int32) (r54 : Int32) : Int32 := if r54 = 0 then (2) else (let r65 := C_Mo_isX r49; if r65 = 0 then (0) else (3))
def J_Mo_fetched_77 (r6 : Int32) (u6 : RSt) (z27 : Int32) : Int32 × Int32 × RSt := if z27 = 0 then (let r33 := C_Mo_isX r6; if r33 = 0 then ((r6, z27, (u6.1, u6.2.1, u6.2.2.1, u6.2.2.2.1, u6.2.2.2.2.1, u6.2.2.2.2.2.1, u6.2.2.2.2.2.2.1, u6.2.2.2.2.2.2.2.1, (-1), u6.2.2.2.2.2.2.2.2.2))) else (let r46 := (C_Mo_address (u6.1, u6.2.1, u6.2.2.1, u6.2.2.2.1, u6.2.2.2.2.1, u6.2.2.2.2.2.1, u6.2.2.2.2.2.2.1, u6.2.2.2.2.2.2.2.1, (-1), u6.2.2.2.2.2.2.2.2.2) (r6 &&& 63) 0).1; let u46 := (C_Mo_address (u6.1, u6.2.1, u6.2.2.1, u6.2.2.2.1, u6.2.2.2.2.1, u6.2.2.2.2.2.1, u6.2.2.2.2.2.2.1, u6.2.2.2.2.2.2.2.1, (-1), u6.2.2.2.2.2.2.2.2.2) (r6 &&& 63) 0).2; let r49 := C_Mo_word u46 r46; let r54 := C_Mo_known r49; let z76 := J_Mo_fetched_76 r49 r54; (r49, z76, u46))) else ((r6, z27, (u6.1, u6.2.1, u6.2.2.1, u6.2.2.2.1, u6.2.2.2.2.1, u6.2.2.2.2.2.1, u6.2.2.2.2.2.2.1, u6.2.2.2.2.2.2.2.1, (-1), u6.2.2.2.2.2.2.2.2.2)))
def C_Mo_fetched (u0 : RSt) : Int32 × RSt := let r6 := (C_Mo_next u0).1; let u6 := (C_Mo_next u0).2; let r16 := C_Mo_known r6; let z27 := J_Mo_fetched_27 r16; let z77_l2 := (J_Mo_fetched_77 r6 u6 z27).1; let z77_l3 := (J_Mo_fetched_77 r6 u6 z27).2.1; let v77 := (J_Mo_fetched_77 r6 u6 z27).2.2; if z77_l3 = 0 then (let r83 := (C_Mo_does v77 z77_l2).1; let u83 := (C_Mo_does v77 z77_l2).2; (r83, u83)) else (if v77.2.2.2.2.2.2.2.2.1 < 0 then ((z77_l3, (v77.1, v77.2.1, v77.2.2.1, v77.2.2.2.1, u0.2.2.2.2.1, v77.2.2.2.2.2.1, v77.2.2.2.2.2.2.1, v77.2.2.2.2.2.2.2.1, v77.2.2.2.2.2.2.2.2.1, v77.2.2.2.2.2.2.2.2.2))) else (let u108 := C_Mo_setWord (v77.1, v77.2.1, v77.2.2.1, v77.2.2.2.1, u0.2.2.2.2.1, v77.2.2.2.2.2.1, v77.2.2.2.2.2.2.1, v77.2.2.2.2.2.2.2.1, v77.2.2.2.2.2.2.2.2.1, v77.2.2.2.2.2.2.2.2.2) v77.2.2.2.2.2.2.2.2.1 v77.2.2.2.2.2.2.2.2.2; (z77_l3, u108)))
def J_Mo_step_47 (u26 : RSt) : Int32 := if u26.2.2.2.2.2.2.1 = 0 then (0) else ((u26.2.2.2.2.2.2.1 - 1))
def C_Mo_step (u0 : RSt) : Int32 × RSt := if (u0.2.2.2.2.2.1 &&& 15) < u0.2.2.2.2.2.2.1 then (if u0.2.2.2.2.2.2.2.1 = 0 then (let r69 := (C_Mo_fetched (u0.1, u0.2.1, 0, u0.2.2.2.1, u0.2.2.2.2.1, u0.2.2.2.2.2.1, u0.2.2.2.2.2.2.1, u0.2.2.2.2.2.2.2.1, u0.2.2.2.2.2.2.2.2.1, u0.2.2.2.2.2.2.2.2.2)).1; let u69 := (C_Mo_fetched (u0.1, u0.2.1, 0, u0.2.2.2.1, u0.2.2.2.2.1, u0.2.2.2.2.2.1, u0.2.2.2.2.2.2.1, u0.2.2.2.2.2.2.2.1, u0.2.2.2.2.2.2.2.2.1, u0.2.2.2.2.2.2.2.2.2)).2; (r69, u69)) else ((1, (u0.1, u0.2.1, 0, u0.2.2.2.1, u0.2.2.2.2.1, u0.2.2.2.2.2.1, u0.2.2.2.2.2.2.1, u0.2.2.2.2.2.2.2.1, u0.2.2.2.2.2.2.2.2.1, u0.2.2.2.2.2.2.2.2.2)))) else (let u26 := C_Mo_change (u0.1, u0.2.1, 0, u0.2.2.2.1, u0.2.2.2.2.1, u0.2.2.2.2.2.1, u0.2.2.2.2.2.2.1, u0.2.2.2.2.2.2.2.1, u0.2.2.2.2.2.2.2.2.1, u0.2.2.2.2.2.2.2.2.2) (4 * u0.2.2.2.2.2.2.1); let z47 := J_Mo_step_47 u26; let u47 := C_Mo_setMask u26 z47; (0, (u47.1, u47.2.1, u47.2.2.1, u47.2.2.2.1, u47.2.2.2.2.1, u47.2.2.2.2.2.1, u47.2.2.2.2.2.2.1, 0, u47.2.2.2.2.2.2.2.2.1, u47.2.2.2.2.2.2.2.2.2)))
def C_Mo_reset (u0 : RSt) : RSt := let u7 := C_Mo_change (u0.1, u0.2.1, 0, u0.2.2.2.1, u0.2.2.2.2.1, u0.2.2.2.2.2.1, u0.2.2.2.2.2.2.1, u0.2.2.2.2.2.2.2.1, u0.2.2.2.2.2.2.2.2.1, u0.2.2.2.2.2.2.2.2.2) 0; let u12 := C_Mo_setMask u7 0; (u12.1, u12.2.1, u12.2.2.1, u12.2.2.2.1, u12.2.2.2.2.1, u12.2.2.2.2.2.1, u12.2.2.2.2.2.2.1, 0, u12.2.2.2.2.2.2.2.2.1, u12.2.2.2.2.2.2.2.2.2)
def C_Mo_isAddress (x0 : Int32) : Int32 := if x0 < 0 then (0) else (if 1022 < x0 then (0) else (if (x0 &&& 1) = 0 then (1) else (0)))
def J_Mo_poke_13 (r2 : Int32) : Int32 := if r2 = 0 then (1) else (0)
def C_Mo_poke (u0 : RSt) (x1 : Int32) (x2 : Int32) : RSt := let r2 := C_Mo_isAddress x1; let z13 := J_Mo_poke_13 r2; let r13 := (C_Mo_fails u0 z13).1; let u13 := (C_Mo_fails u0 z13).2; if r13 = 0 then (let u22 := C_Mo_setWord u13 x1 x2; u22) else (u13)
def J_Mo_peek_13 (r2 : Int32) : Int32 := if r2 = 0 then (1) else (0)
def C_Mo_peek (u0 : RSt) (x1 : Int32) : Int32 × RSt := let r2 := C_Mo_isAddress x1; let z13 := J_Mo_peek_13 r2; let r13 := (C_Mo_fails u0 z13).1; let u13 := (C_Mo_fails u0 z13).2; if r13 = 0 then (let r25 := C_Mo_word u13 x1; (((r25.toUInt32 % 65536).toInt32), u13)) else ((0, u13))
def J_Mo_level_16 (x1 : Int32) : Int32 := if x1 < 0 then (1) else (if x1 ≤ 16 then (0) else (1))
def C_Mo_level (u0 : RSt) (x1 : Int32) : RSt := let z16 := J_Mo_level_16 x1; let r16 := (C_Mo_fails u0 z16).1; let u16 := (C_Mo_fails u0 z16).2; if r16 = 0 then ((u16.1, u16.2.1, u16.2.2.1, u16.2.2.2.1, u16.2.2.2.2.1, u16.2.2.2.2.2.1, x1, u16.2.2.2.2.2.2.2.1, u16.2.2.2.2.2.2.2.2.1, u16.2.2.2.2.2.2.2.2.2)) else (u16)
def J_Mo_wire_16 (x1 : Int32) : Int32 := if x1 < 0 then (1) else (if x1 ≤ 63 then (0) else (1))
def C_Mo_wire (u0 : RSt) (x1 : Int32) (x2 : Int32) : RSt := let z16 := J_Mo_wire_16 x1; let r16 := (C_Mo_fails u0 z16).1; let u16 := (C_Mo_fails u0 z16).2; if r16 = 0 then ((u16.1, (upd u16.2.1 x1.toNatClampNeg (vp_nar .boolean x2)), u16.2.2.1, u16.2.2.2.1, u16.2.2.2.2.1, u16.2.2.2.2.2.1, u16.2.2.2.2.2.2.1, u16.2.2.2.2.2.2.2.1, u16.2.2.2.2.2.2.2.2.1, u16.2.2.2.2.2.2.2.2.2)) else (u16)
def J_Mo_line_16 (x1 : Int32) : Int32 := if x1 < 0 then (1) else (if x1 ≤ 63 then (0) else (1))
def C_Mo_line (u0 : RSt) (x1 : Int32) : Int32 × RSt := let z16 := J_Mo_line_16 x1; let r16 := (C_Mo_fails u0 z16).1; let u16 := (C_Mo_fails u0 z16).2; if r16 = 0 then (if (u16.2.1 x1.toNatClampNeg) = 0 then ((0, u16)) else ((1, u16))) else ((0, u16))
def J_Mo_state_15 (x1 : Int32) : Int32 := if x1 < 0 then (1) else (if x1 ≤ 4 then (0) else (1))
def C_Mo_state (u0 : RSt) (x1 : Int32) : Int32 × RSt := let z15 := J_Mo_state_15 x1; let r15 := (C_Mo_fails u0 z15).1; let u15 := (C_Mo_fails u0 z15).2; if r15 = 0 then (if x1 = 0 then ((u15.2.2.2.1, u15)) else (if x1 = 1 then ((u15.2.2.2.2.1, u15)) else (if x1 = 2 then ((u15.2.2.2.2.2.1, u15)) else (if x1 = 3 then ((u15.2.2.2.2.2.2.1, u15)) else (if u15.2.2.2.2.2.2.2.1 = 0 then ((0, u15)) else ((1, u15))))))) else ((0, u15))
end
section
/-! 07.lem: small facts of the pure functions that the contracts ask. DRAFT of 2026-11-15, not yet compiled. -/
theorem zb_St_has (u : CSt) (x : Int32) : C_St_has u x = 0 ∨ C_St_has u x = 1 := by
  unfold C_St_has; (repeat' split) <;> simp
theorem zb_Mo_has (u : RSt) (x : Int32) : C_Mo_has u x = 0 ∨ C_Mo_has u x = 1 := by
  unfold C_Mo_has; (repeat' split) <;> simp
theorem zb_Li_isOn (u : CSt) (x : Int32) : C_Li_isOn u x = 0 ∨ C_Li_isOn u x = 1 := by
  unfold C_Li_isOn; dsimp only; (repeat' split) <;> simp
theorem nn_c (x : Int32) : 0 ≤ vp_nar .char ((x.toUInt32 % 65536).toInt32) := by
  rw [pk_vc, pk_char]
  exact nI_pos' (by omega)
theorem nn_m (x : Int32) : 0 ≤ x &&& 65535 := by
  rw [pk_and x 16 (by decide)]
  exact nI_pos' (by omega)
theorem iv_upd {f : Nat → Int32} (h : ∀ j, 0 ≤ f j) (k : Nat) {x : Int32} (hx : 0 ≤ x) : ∀ j, 0 ≤ upd f k x j := by
  intro j
  unfold upd
  split
  · exact hx
  · exact h j
theorem ge_M_register {u : CSt} (h : ∀ j, 0 ≤ u.1 j) (x : Int32) : 0 ≤ C_M_register u x := h _
theorem ge_Mo_register {u : RSt} (h : ∀ j, 0 ≤ u.1 j) (x : Int32) : 0 ≤ C_Mo_register u x := h _
theorem iv_M_setRegister {u : CSt} (h : ∀ j, 0 ≤ u.1 j) (x y : Int32) : ∀ j, 0 ≤ (C_M_setRegister u x y).1 j := iv_upd h _ (nn_c y)
theorem iv_Mo_setRegister {u : RSt} (h : ∀ j, 0 ≤ u.1 j) (x y : Int32) : ∀ j, 0 ≤ (C_Mo_setRegister u x y).1 j := iv_upd h _ (nn_m y)
theorem iv_M_fetch {u : CSt} (h : ∀ j, 0 ≤ u.1 j) : ∀ j, 0 ≤ (C_M_fetch u).2.1 j := h
theorem iv_Mo_next {u : RSt} (h : ∀ j, 0 ≤ u.1 j) : ∀ j, 0 ≤ (C_Mo_next u).2.1 j := h
theorem iv_M_operandAddress {u : CSt} (h : ∀ j, 0 ≤ u.1 j) (x y : Int32) : ∀ j, 0 ≤ (C_M_operandAddress u x y).2.1 j := by
  unfold C_M_operandAddress
  dsimp only
  split
  · exact h
  split
  · exact h
  split
  · exact iv_M_fetch h
  · exact iv_M_setRegister h _ _
theorem iv_Mo_address {u : RSt} (h : ∀ j, 0 ≤ u.1 j) (x y : Int32) : ∀ j, 0 ≤ (C_Mo_address u x y).2.1 j := by
  unfold C_Mo_address
  dsimp only
  split
  · exact h
  split
  · exact h
  split
  · split
    · exact iv_Mo_next h
    · exact iv_Mo_next h
  · exact iv_Mo_setRegister (u := (u.1, u.2.1, u.2.2.1, u.2.2.2.1, u.2.2.2.2.1, u.2.2.2.2.2.1, u.2.2.2.2.2.2.1, u.2.2.2.2.2.2.2.1, _, _)) h _ _
theorem iv_J_M_step_76 {u : CSt} (h : ∀ j, 0 ≤ u.1 j) (x y : Int32) : ∀ j, 0 ≤ (J_M_step_76 x u y).2.1 j := by
  unfold J_M_step_76
  dsimp only
  split
  · exact h
  · exact iv_M_operandAddress h _ _
theorem iv_J_Mo_fetched_77 {u : RSt} (h : ∀ j, 0 ≤ u.1 j) (x y : Int32) : ∀ j, 0 ≤ (J_Mo_fetched_77 x u y).2.2.1 j := by
  unfold J_Mo_fetched_77
  dsimp only
  split
  · split
    · exact h
    · exact iv_Mo_address (u := (u.1, u.2.1, u.2.2.1, u.2.2.2.1, u.2.2.2.2.1, u.2.2.2.2.2.1, u.2.2.2.2.2.2.1, u.2.2.2.2.2.2.2.1, (-1), u.2.2.2.2.2.2.2.2.2)) h _ _
  · exact h
theorem l_ne {x y : Int32} (h0 : 0 ≤ x) (h : ¬ y ≤ x) : ¬ y.toInt64 = 0 := by
  intro q
  have h1 : y.toInt64.toInt = 0 := by rw [q]; rfl
  rw [Int32.toInt_toInt64] at h1
  rw [Int32.le_iff_toInt_le] at h0 h
  rw [Int32.toInt_zero] at h0
  omega
theorem dv_R {x y : Int32} (h0 : 0 ≤ x) (h : ¬ y ≤ x) : ¬ y.toInt64 = 0 := l_ne h0 h
theorem dv_C {x2 x3 z : Int32} (h0 : 0 ≤ x2) (j : z = J_M_divide_10 x2 x3) (h : ¬ z = 0) : ¬ x3.toInt64 = 0 := by
  refine l_ne h0 fun q => h ?_
  rw [j, J_M_divide_10, if_pos q]
theorem ix_b {x : Int32} {n : Nat} {N : Int32} (hN : N.toInt + 1 = n) (h1 : ¬ x < 0) (h2 : x ≤ N) : vp_in x n := by
  rw [vp_in_iff]
  rw [Int32.lt_iff_toInt_lt, Int32.toInt_zero] at h1
  rw [Int32.le_iff_toInt_le] at h2
  omega
theorem ix_W {x1 z r : Int32} {u : RSt} (j : z = J_Mo_wire_16 x1) (e : r = (C_Mo_fails u z).1) (h : r = 0) : vp_in x1 64 := by
  have hz : z = 0 := e.symm.trans h
  rw [j] at hz
  unfold J_Mo_wire_16 at hz
  split at hz
  · exact absurd hz (by decide)
  · split at hz
    · next h1 h2 => exact ix_b (N := 63) (by decide) h1 h2
    · exact absurd hz (by decide)
theorem ix_L {x1 z r : Int32} {u : RSt} (j : z = J_Mo_line_16 x1) (e : r = (C_Mo_fails u z).1) (h : r = 0) : vp_in x1 64 := by
  have hz : z = 0 := e.symm.trans h
  rw [j] at hz
  unfold J_Mo_line_16 at hz
  split at hz
  · exact absurd hz (by decide)
  · split at hz
    · next h1 h2 => exact ix_b (N := 63) (by decide) h1 h2
    · exact absurd hz (by decide)
end
section
/-! contracts, laid by gen.py -/
set_option maxHeartbeats 4000000 in
set_option maxRecDepth 100000 in
theorem k_Me_word (l : Launch) (D : va_G) (a : CAd) (hA : ApC a) (u0 : CSt) (x1 : Int32) : MC kl (cw a) (FA a) (tyC a) l D y_Me_word b_Me_word 2 (some .int) rm_Me_word [.ref a.2.1, .int x1] u0 (some (.int (C_Me_word u0 x1))) u0 := by
  refine MC.mk (by decide) (Nat.le_of_ble_eq_true rfl) ?_
  intro p e s m below meth c ls Q args H locs hx hb hr hml hown hts hlk hl hP hK hS hQ
  have hown : s.vm.findClass R_Me = some m.cls := hown
  have hl : lv_has ls 2 [(0, .ref a.2.1), (1, .int x1)] := hl
  refine lv_aload_n hx hb d_Me_word_0 rfl (lv_at hl 0 rfl) ?_
  refine va_get (D := D) (ci := 1) (v := .ref a.2.2.1) (C := R_Me) (T := F_Me) (N := 1) hx hb hts (fun w h => wm (ui_Me w h)) hown hK hP 1 rfl rfl 0 (by decide) (hts _ (wm t_86)) (fun _ h9 => h9) rfl d_Me_word_1 ?_
  refine lv_iload_n hx hb d_Me_word_4 rfl (lv_at hl 1 rfl) ?_
  refine lv_sipush (v := 1023) hx hb d_Me_word_5 (by decide) ?_
  refine lv_iand hx hb d_Me_word_8 ?_
  refine lv_iconst (v := 1) hx hb d_Me_word_9 (by decide) ?_
  refine lv_ishr hx hb d_Me_word_10 ?_
  refine va_cald hx hb hK hP 2 0 rfl rfl (ix_C _) d_Me_word_11 ?_
  subst hQ
  exact rt_i hx hb hr hlk (by simp only [C_Me_word]) rfl hP hS d_Me_word_12
set_option maxHeartbeats 4000000 in
set_option maxRecDepth 100000 in
theorem k_M_setWorkspace (l : Launch) (D : va_G) (a : CAd) (hA : ApC a) (u0 : CSt) (x1 : Int32) : MC kl (cw a) (FA a) (tyC a) l D y_M_setWorkspace b_M_setWorkspace 2 none rm_M_setWorkspace [.ref a.1, .int x1] u0 none (C_M_setWorkspace u0 x1) := by
  refine MC.mk (by decide) (Nat.le_of_ble_eq_true rfl) ?_
  intro p e s m below meth c ls Q args H locs hx hb hr hml hown hts hlk hl hP hK hS hQ
  have hown : s.vm.findClass R_M = some m.cls := hown
  have hl : lv_has ls 2 [(0, .ref a.1), (1, .int x1)] := hl
  refine lv_aload_n hx hb d_M_setWorkspace_0 rfl (lv_at hl 0 rfl) ?_
  refine lv_iload_n hx hb d_M_setWorkspace_1 rfl (lv_at hl 1 rfl) ?_
  refine lv_sipush (v := 1022) hx hb d_M_setWorkspace_2 (by decide) ?_
  refine lv_iand hx hb d_M_setWorkspace_5 ?_
  refine va_put (D := D) (ci := 3) (v := .int (x1 &&& 1022)) (ty := .int) (C := R_M) (T := F_M) (N := 7) hx hb hts (fun w h => wm (ui_M w h)) ft_M ft_M_ok fn_M hown hK hP (dd_C hA _) hS 0 rfl rfl 3 (by decide) (hts _ (wm t_114)) (fun _ h9 => h9) rfl (by decide +kernel) rfl rfl (Nat.le_of_ble_eq_true rfl) d_M_setWorkspace_6 (fun H locs hP _ hS => ?_)
  have hP : va_P D kl (cw a (u0.1, u0.2.1, u0.2.2.1, (x1 &&& 1022), u0.2.2.2.2.1, u0.2.2.2.2.2.1, u0.2.2.2.2.2.2)) H := hP
  subst hQ
  exact rt_v hx hb hr hlk (by simp only [C_M_setWorkspace]) hP hS d_M_setWorkspace_9
set_option maxHeartbeats 4000000 in
set_option maxRecDepth 100000 in
theorem k_M_registerAddress (l : Launch) (D : va_G) (a : CAd) (hA : ApC a) (u0 : CSt) (x1 : Int32) : MC kl (cw a) (FA a) (tyC a) l D y_M_registerAddress b_M_registerAddress 2 (some .int) rm_M_registerAddress [.ref a.1, .int x1] u0 (some (.int (C_M_registerAddress u0 x1))) u0 := by
  refine MC.mk (by decide) (Nat.le_of_ble_eq_true rfl) ?_
  intro p e s m below meth c ls Q args H locs hx hb hr hml hown hts hlk hl hP hK hS hQ
  have hown : s.vm.findClass R_M = some m.cls := hown
  have hl : lv_has ls 2 [(0, .ref a.1), (1, .int x1)] := hl
  refine lv_aload_n hx hb d_M_registerAddress_0 rfl (lv_at hl 0 rfl) ?_
  refine va_get (D := D) (ci := 3) (v := .int u0.2.2.2.1) (C := R_M) (T := F_M) (N := 7) hx hb hts (fun w h => wm (ui_M w h)) hown hK hP 0 rfl rfl 3 (by decide) (hts _ (wm t_114)) (fun _ h9 => h9) rfl d_M_registerAddress_1 ?_
  refine lv_iconst (v := 2) hx hb d_M_registerAddress_4 (by decide) ?_
  refine lv_iload_n hx hb d_M_registerAddress_5 rfl (lv_at hl 1 rfl) ?_
  refine lv_imul hx hb d_M_registerAddress_6 ?_
  refine lv_iadd hx hb d_M_registerAddress_7 ?_
  subst hQ
  exact rt_i hx hb hr hlk (by simp only [C_M_registerAddress]) rfl hP hS d_M_registerAddress_8
set_option maxHeartbeats 4000000 in
set_option maxRecDepth 100000 in
theorem k_Me_setWord (l : Launch) (D : va_G) (a : CAd) (hA : ApC a) (u0 : CSt) (x1 : Int32) (x2 : Int32) : MC kl (cw a) (FA a) (tyC a) l D y_Me_setWord b_Me_setWord 3 none rm_Me_setWord [.ref a.2.1, .int x1, .int x2] u0 none (C_Me_setWord u0 x1 x2) := by
  refine MC.mk (by decide) (Nat.le_of_ble_eq_true rfl) ?_
  intro p e s m below meth c ls Q args H locs hx hb hr hml hown hts hlk hl hP hK hS hQ
  have hown : s.vm.findClass R_Me = some m.cls := hown
  have hl : lv_has ls 3 [(0, .ref a.2.1), (1, .int x1), (2, .int x2)] := hl
  refine lv_aload_n hx hb d_Me_setWord_0 rfl (lv_at hl 0 rfl) ?_
  refine va_get (D := D) (ci := 1) (v := .ref a.2.2.1) (C := R_Me) (T := F_Me) (N := 1) hx hb hts (fun w h => wm (ui_Me w h)) hown hK hP 1 rfl rfl 0 (by decide) (hts _ (wm t_86)) (fun _ h9 => h9) rfl d_Me_setWord_1 ?_
  refine lv_iload_n hx hb d_Me_setWord_4 rfl (lv_at hl 1 rfl) ?_
  refine lv_sipush (v := 1023) hx hb d_Me_setWord_5 (by decide) ?_
  refine lv_iand hx hb d_Me_setWord_8 ?_
  refine lv_iconst (v := 1) hx hb d_Me_setWord_9 (by decide) ?_
  refine lv_ishr hx hb d_Me_setWord_10 ?_
  refine lv_iload_n hx hb d_Me_setWord_11 rfl (lv_at hl 2 rfl) ?_
  refine lv_i2c hx hb d_Me_setWord_12 rfl ?_
  refine va_cast hx hb hK hP (dd_C hA _) hS 2 0 rfl rfl (ix_C _) d_Me_setWord_13 (fun H locs hP _ hS => ?_)
  have hP : va_P D kl (cw a ((upd u0.1 ((x1 &&& 1023) >>> ((1 : Int32) &&& 31)).toNatClampNeg (vp_nar .char ((x2.toUInt32 % 65536).toInt32))), u0.2.1, u0.2.2.1, u0.2.2.2.1, u0.2.2.2.2.1, u0.2.2.2.2.2.1, u0.2.2.2.2.2.2)) H := hP
  subst hQ
  exact rt_v hx hb hr hlk (by simp only [C_Me_setWord]) hP hS d_Me_setWord_14
set_option maxHeartbeats 4000000 in
set_option maxRecDepth 100000 in
theorem k_M_setRegister (l : Launch) (D : va_G) (a : CAd) (hA : ApC a) (u0 : CSt) (x1 : Int32) (x2 : Int32) : MC kl (cw a) (FA a) (tyC a) l D y_M_setRegister b_M_setRegister 3 none rm_M_setRegister [.ref a.1, .int x1, .int x2] u0 none (C_M_setRegister u0 x1 x2) := by
  refine MC.mk (by decide) (Nat.le_of_ble_eq_true rfl) ?_
  intro p e s m below meth c ls Q args H locs hx hb hr hml hown hts hlk hl hP hK hS hQ
  have hown : s.vm.findClass R_M = some m.cls := hown
  have hl : lv_has ls 3 [(0, .ref a.1), (1, .int x1), (2, .int x2)] := hl
  refine lv_aload_n hx hb d_M_setRegister_0 rfl (lv_at hl 0 rfl) ?_
  refine va_get (D := D) (ci := 3) (v := .ref a.2.1) (C := R_M) (T := F_M) (N := 7) hx hb hts (fun w h => wm (ui_M w h)) hown hK hP 0 rfl rfl 0 (by decide) (hts _ (wm t_111)) (fun _ h9 => h9) rfl d_M_setRegister_1 ?_
  refine lv_aload_n hx hb d_M_setRegister_4 rfl (lv_at hl 0 rfl) ?_
  refine lv_iload_n hx hb d_M_setRegister_5 rfl (lv_at hl 1 rfl) ?_
  refine cl_V (C := R_M) (k_M_registerAddress l D a hA u0 x1) ⟨hx, hb, hml, hown, hts⟩ (cwV 1 hts (gi_V t_153 t_155 t_3 t_62 t_156) rfl rfl rfl (by decide +kernel) ⟨Nat.le_of_ble_eq_true rfl, Nat.le_of_ble_eq_true rfl⟩) (va_recv (q0 := 0) (ci := 3) (q := (R_M, F_M, 7)) hK hP rfl rfl) hP hK hS rfl hl.1 rfl (Nat.le_of_ble_eq_true rfl) d_M_setRegister_6 (nm_i (fun r6 e6 H locs hP hS => ?_))
  refine lv_iload_n hx hb d_M_setRegister_9 rfl (lv_at hl 2 rfl) ?_
  refine cl_V (C := R_Me) (k_Me_setWord l D a hA u0 r6 x2) ⟨hx, hb, hml, hown, hts⟩ (cwV 2 hts (gi_V t_157 t_158 t_159 t_63 t_160) rfl rfl rfl (by decide +kernel) ⟨Nat.le_of_ble_eq_true rfl, Nat.le_of_ble_eq_true rfl⟩) (va_recv (q0 := 1) (ci := 1) (q := (R_Me, F_Me, 1)) hK hP rfl rfl) hP hK hS rfl hl.1 rfl (Nat.le_of_ble_eq_true rfl) d_M_setRegister_10 (nm_s (fun u10 e10 H locs hP hS => ?_))
  subst hQ
  exact rt_v hx hb hr hlk (by simp only [C_M_setRegister, ← e6, ← e10]) hP hS d_M_setRegister_13
set_option maxHeartbeats 4000000 in
set_option maxRecDepth 100000 in
theorem k_St_bits (l : Launch) (D : va_G) (a : CAd) (hA : ApC a) (u0 : CSt) : MC kl (cw a) (FA a) (tyC a) l D y_St_bits b_St_bits 1 (some .int) rm_St_bits [.ref a.2.2.2.2.1] u0 (some (.int (C_St_bits u0))) u0 := by
  refine MC.mk (by decide) (Nat.le_of_ble_eq_true rfl) ?_
  intro p e s m below meth c ls Q args H locs hx hb hr hml hown hts hlk hl hP hK hS hQ
  have hown : s.vm.findClass R_St = some m.cls := hown
  have hl : lv_has ls 1 [(0, .ref a.2.2.2.2.1)] := hl
  refine lv_aload_n hx hb d_St_bits_0 rfl (lv_at hl 0 rfl) ?_
  refine va_get (D := D) (ci := 2) (v := .int u0.2.2.1) (C := R_St) (T := F_St) (N := 1) hx hb hts (fun w h => wm (ui_St w h)) hown hK hP 4 rfl rfl 0 (by decide) (hts _ (wm t_107)) (fun _ h9 => h9) rfl d_St_bits_1 ?_
  subst hQ
  exact rt_i hx hb hr hlk (by simp only [C_St_bits]) rfl hP hS d_St_bits_4
set_option maxHeartbeats 4000000 in
set_option maxRecDepth 100000 in
theorem k_M_setCounter (l : Launch) (D : va_G) (a : CAd) (hA : ApC a) (u0 : CSt) (x1 : Int32) : MC kl (cw a) (FA a) (tyC a) l D y_M_setCounter b_M_setCounter 2 none rm_M_setCounter [.ref a.1, .int x1] u0 none (C_M_setCounter u0 x1) := by
  refine MC.mk (by decide) (Nat.le_of_ble_eq_true rfl) ?_
  intro p e s m below meth c ls Q args H locs hx hb hr hml hown hts hlk hl hP hK hS hQ
  have hown : s.vm.findClass R_M = some m.cls := hown
  have hl : lv_has ls 2 [(0, .ref a.1), (1, .int x1)] := hl
  refine lv_aload_n hx hb d_M_setCounter_0 rfl (lv_at hl 0 rfl) ?_
  refine lv_iload_n hx hb d_M_setCounter_1 rfl (lv_at hl 1 rfl) ?_
  refine lv_sipush (v := 1022) hx hb d_M_setCounter_2 (by decide) ?_
  refine lv_iand hx hb d_M_setCounter_5 ?_
  refine va_put (D := D) (ci := 3) (v := .int (x1 &&& 1022)) (ty := .int) (C := R_M) (T := F_M) (N := 7) hx hb hts (fun w h => wm (ui_M w h)) ft_M ft_M_ok fn_M hown hK hP (dd_C hA _) hS 0 rfl rfl 4 (by decide) (hts _ (wm t_115)) (fun _ h9 => h9) rfl (by decide +kernel) rfl rfl (Nat.le_of_ble_eq_true rfl) d_M_setCounter_6 (fun H locs hP _ hS => ?_)
  have hP : va_P D kl (cw a (u0.1, u0.2.1, u0.2.2.1, u0.2.2.2.1, (x1 &&& 1022), u0.2.2.2.2.2.1, u0.2.2.2.2.2.2)) H := hP
  subst hQ
  exact rt_v hx hb hr hlk (by simp only [C_M_setCounter]) hP hS d_M_setCounter_9
set_option maxHeartbeats 4000000 in
set_option maxRecDepth 100000 in
theorem k_M_switchThrough (l : Launch) (D : va_G) (a : CAd) (hA : ApC a) (u0 : CSt) (x1 : Int32) : MC kl (cw a) (FA a) (tyC a) l D y_M_switchThrough b_M_switchThrough 5 none rm_M_switchThrough [.ref a.1, .int x1] u0 none (C_M_switchThrough u0 x1) := by
  refine MC.mk (by decide) (Nat.le_of_ble_eq_true rfl) ?_
  intro p e s m below meth c ls Q args H locs hx hb hr hml hown hts hlk hl hP hK hS hQ
  have hown : s.vm.findClass R_M = some m.cls := hown
  have hl : lv_has ls 5 [(0, .ref a.1), (1, .int x1)] := hl
  refine lv_aload_n hx hb d_M_switchThrough_0 rfl (lv_at hl 0 rfl) ?_
  refine va_get (D := D) (ci := 3) (v := .int u0.2.2.2.1) (C := R_M) (T := F_M) (N := 7) hx hb hts (fun w h => wm (ui_M w h)) hown hK hP 0 rfl rfl 3 (by decide) (hts _ (wm t_114)) (fun _ h9 => h9) rfl d_M_switchThrough_1 ?_
  refine lv_istore_n hx hb d_M_switchThrough_4 rfl hl (by decide) rfl (fun ls hl => ?_)
  have hl : lv_has ls 5 [(2, .int u0.2.2.2.1), (0, .ref a.1), (1, .int x1)] := hl
  refine lv_aload_n hx hb d_M_switchThrough_5 rfl (lv_at hl 1 rfl) ?_
  refine va_get (D := D) (ci := 3) (v := .ref a.2.1) (C := R_M) (T := F_M) (N := 7) hx hb hts (fun w h => wm (ui_M w h)) hown hK hP 0 rfl rfl 0 (by decide) (hts _ (wm t_111)) (fun _ h9 => h9) rfl d_M_switchThrough_6 ?_
  refine lv_iload_n hx hb d_M_switchThrough_9 rfl (lv_at hl 2 rfl) ?_
  refine cl_V (C := R_Me) (k_Me_word l D a hA u0 x1) ⟨hx, hb, hml, hown, hts⟩ (cwV 1 hts (gi_V t_141 t_142 t_143 t_63 t_144) rfl rfl rfl (by decide +kernel) ⟨Nat.le_of_ble_eq_true rfl, Nat.le_of_ble_eq_true rfl⟩) (va_recv (q0 := 1) (ci := 1) (q := (R_Me, F_Me, 1)) hK hP rfl rfl) hP hK hS rfl hl.1 rfl (Nat.le_of_ble_eq_true rfl) d_M_switchThrough_10 (nm_i (fun r10 e10 H locs hP hS => ?_))
  refine lv_istore_n hx hb d_M_switchThrough_13 rfl hl (by decide) rfl (fun ls hl => ?_)
  have hl : lv_has ls 5 [(3, .int r10), (2, .int u0.2.2.2.1), (0, .ref a.1), (1, .int x1)] := hl
  refine lv_aload_n hx hb d_M_switchThrough_14 rfl (lv_at hl 2 rfl) ?_
  refine va_get (D := D) (ci := 3) (v := .ref a.2.1) (C := R_M) (T := F_M) (N := 7) hx hb hts (fun w h => wm (ui_M w h)) hown hK hP 0 rfl rfl 0 (by decide) (hts _ (wm t_111)) (fun _ h9 => h9) rfl d_M_switchThrough_15 ?_
  refine lv_iload_n hx hb d_M_switchThrough_18 rfl (lv_at hl 3 rfl) ?_
  refine lv_iconst (v := 2) hx hb d_M_switchThrough_19 (by decide) ?_
  refine lv_iadd hx hb d_M_switchThrough_20 ?_
  refine cl_V (C := R_Me) (k_Me_word l D a hA u0 (x1 + 2)) ⟨hx, hb, hml, hown, hts⟩ (cwV 1 hts (gi_V t_141 t_142 t_143 t_63 t_144) rfl rfl rfl (by decide +kernel) ⟨Nat.le_of_ble_eq_true rfl, Nat.le_of_ble_eq_true rfl⟩) (va_recv (q0 := 1) (ci := 1) (q := (R_Me, F_Me, 1)) hK hP rfl rfl) hP hK hS rfl hl.1 rfl (Nat.le_of_ble_eq_true rfl) d_M_switchThrough_21 (nm_i (fun r21 e21 H locs hP hS => ?_))
  refine lv_istore hx hb d_M_switchThrough_24 hl (by decide) rfl (fun ls hl => ?_)
  have hl : lv_has ls 5 [(4, .int r21), (3, .int r10), (2, .int u0.2.2.2.1), (0, .ref a.1), (1, .int x1)] := hl
  refine lv_aload_n hx hb d_M_switchThrough_26 rfl (lv_at hl 3 rfl) ?_
  refine lv_iload_n hx hb d_M_switchThrough_27 rfl (lv_at hl 1 rfl) ?_
  refine cl_V (C := R_M) (k_M_setWorkspace l D a hA u0 r10) ⟨hx, hb, hml, hown, hts⟩ (cwV 1 hts (gi_V t_145 t_147 t_1 t_62 t_148) rfl rfl rfl (by decide +kernel) ⟨Nat.le_of_ble_eq_true rfl, Nat.le_of_ble_eq_true rfl⟩) (va_recv (q0 := 0) (ci := 3) (q := (R_M, F_M, 7)) hK hP rfl rfl) hP hK hS rfl hl.1 rfl (Nat.le_of_ble_eq_true rfl) d_M_switchThrough_28 (nm_s (fun u28 e28 H locs hP hS => ?_))
  refine lv_aload_n hx hb d_M_switchThrough_31 rfl (lv_at hl 3 rfl) ?_
  refine lv_bipush (v := 13) hx hb d_M_switchThrough_32 (by decide) ?_
  refine lv_iload_n hx hb d_M_switchThrough_34 rfl (lv_at hl 2 rfl) ?_
  refine cl_V (C := R_M) (k_M_setRegister l D a hA u28 13 u0.2.2.2.1) ⟨hx, hb, hml, hown, hts⟩ (cwV 2 hts (gi_V t_149 t_151 t_2 t_62 t_152) rfl rfl rfl (by decide +kernel) ⟨Nat.le_of_ble_eq_true rfl, Nat.le_of_ble_eq_true rfl⟩) (va_recv (q0 := 0) (ci := 3) (q := (R_M, F_M, 7)) hK hP rfl rfl) hP hK hS rfl hl.1 rfl (Nat.le_of_ble_eq_true rfl) d_M_switchThrough_35 (nm_s (fun u35 e35 H locs hP hS => ?_))
  refine lv_aload_n hx hb d_M_switchThrough_38 rfl (lv_at hl 3 rfl) ?_
  refine lv_bipush (v := 14) hx hb d_M_switchThrough_39 (by decide) ?_
  refine lv_aload_n hx hb d_M_switchThrough_41 rfl (lv_at hl 3 rfl) ?_
  refine va_get (D := D) (ci := 3) (v := .int u35.2.2.2.2.1) (C := R_M) (T := F_M) (N := 7) hx hb hts (fun w h => wm (ui_M w h)) hown hK hP 0 rfl rfl 4 (by decide) (hts _ (wm t_115)) (fun _ h9 => h9) rfl d_M_switchThrough_42 ?_
  refine cl_V (C := R_M) (k_M_setRegister l D a hA u35 14 u35.2.2.2.2.1) ⟨hx, hb, hml, hown, hts⟩ (cwV 2 hts (gi_V t_149 t_151 t_2 t_62 t_152) rfl rfl rfl (by decide +kernel) ⟨Nat.le_of_ble_eq_true rfl, Nat.le_of_ble_eq_true rfl⟩) (va_recv (q0 := 0) (ci := 3) (q := (R_M, F_M, 7)) hK hP rfl rfl) hP hK hS rfl hl.1 rfl (Nat.le_of_ble_eq_true rfl) d_M_switchThrough_45 (nm_s (fun u45 e45 H locs hP hS => ?_))
  refine lv_aload_n hx hb d_M_switchThrough_48 rfl (lv_at hl 3 rfl) ?_
  refine lv_bipush (v := 15) hx hb d_M_switchThrough_49 (by decide) ?_
  refine lv_aload_n hx hb d_M_switchThrough_51 rfl (lv_at hl 3 rfl) ?_
  refine va_get (D := D) (ci := 3) (v := .ref a.2.2.2.2.1) (C := R_M) (T := F_M) (N := 7) hx hb hts (fun w h => wm (ui_M w h)) hown hK hP 0 rfl rfl 2 (by decide) (hts _ (wm t_113)) (fun _ h9 => h9) rfl d_M_switchThrough_52 ?_
  refine cl_V (C := R_St) (k_St_bits l D a hA u45) ⟨hx, hb, hml, hown, hts⟩ (cwV 0 hts (gi_V t_161 t_162 t_163 t_65 t_164) rfl rfl rfl (by decide +kernel) ⟨Nat.le_of_ble_eq_true rfl, Nat.le_of_ble_eq_true rfl⟩) (va_recv (q0 := 4) (ci := 2) (q := (R_St, F_St, 1)) hK hP rfl rfl) hP hK hS rfl hl.1 rfl (Nat.le_of_ble_eq_true rfl) d_M_switchThrough_55 (nm_i (fun r55 e55 H locs hP hS => ?_))
  refine cl_V (C := R_M) (k_M_setRegister l D a hA u45 15 r55) ⟨hx, hb, hml, hown, hts⟩ (cwV 2 hts (gi_V t_149 t_151 t_2 t_62 t_152) rfl rfl rfl (by decide +kernel) ⟨Nat.le_of_ble_eq_true rfl, Nat.le_of_ble_eq_true rfl⟩) (va_recv (q0 := 0) (ci := 3) (q := (R_M, F_M, 7)) hK hP rfl rfl) hP hK hS rfl hl.1 rfl (Nat.le_of_ble_eq_true rfl) d_M_switchThrough_58 (nm_s (fun u58 e58 H locs hP hS => ?_))
  refine lv_aload_n hx hb d_M_switchThrough_61 rfl (lv_at hl 3 rfl) ?_
  refine lv_iload hx hb d_M_switchThrough_62 (lv_at hl 0 rfl) ?_
  refine cl_V (C := R_M) (k_M_setCounter l D a hA u58 r21) ⟨hx, hb, hml, hown, hts⟩ (cwV 1 hts (gi_V t_165 t_167 t_4 t_62 t_168) rfl rfl rfl (by decide +kernel) ⟨Nat.le_of_ble_eq_true rfl, Nat.le_of_ble_eq_true rfl⟩) (va_recv (q0 := 0) (ci := 3) (q := (R_M, F_M, 7)) hK hP rfl rfl) hP hK hS rfl hl.1 rfl (Nat.le_of_ble_eq_true rfl) d_M_switchThrough_64 (nm_s (fun u64 e64 H locs hP hS => ?_))
  subst hQ
  exact rt_v hx hb hr hlk (by simp only [C_M_switchThrough, ← e10, ← e21, ← e28, ← e35, ← e45, ← e55, ← e58, ← e64]) hP hS d_M_switchThrough_67
set_option maxHeartbeats 4000000 in
set_option maxRecDepth 100000 in
theorem k_St_setMask (l : Launch) (D : va_G) (a : CAd) (hA : ApC a) (u0 : CSt) (x1 : Int32) : MC kl (cw a) (FA a) (tyC a) l D y_St_setMask b_St_setMask 2 none rm_St_setMask [.ref a.2.2.2.2.1, .int x1] u0 none (C_St_setMask u0 x1) := by
  refine MC.mk (by decide) (Nat.le_of_ble_eq_true rfl) ?_
  intro p e s m below meth c ls Q args H locs hx hb hr hml hown hts hlk hl hP hK hS hQ
  have hown : s.vm.findClass R_St = some m.cls := hown
  have hl : lv_has ls 2 [(0, .ref a.2.2.2.2.1), (1, .int x1)] := hl
  refine lv_aload_n hx hb d_St_setMask_0 rfl (lv_at hl 0 rfl) ?_
  refine lv_aload_n hx hb d_St_setMask_1 rfl (lv_at hl 0 rfl) ?_
  refine va_get (D := D) (ci := 2) (v := .int u0.2.2.1) (C := R_St) (T := F_St) (N := 1) hx hb hts (fun w h => wm (ui_St w h)) hown hK hP 4 rfl rfl 0 (by decide) (hts _ (wm t_107)) (fun _ h9 => h9) rfl d_St_setMask_2 ?_
  refine lv_bipush (v := (-16)) hx hb d_St_setMask_5 (by decide) ?_
  refine lv_iand hx hb d_St_setMask_7 ?_
  refine lv_iload_n hx hb d_St_setMask_8 rfl (lv_at hl 1 rfl) ?_
  refine lv_bipush (v := 15) hx hb d_St_setMask_9 (by decide) ?_
  refine lv_iand hx hb d_St_setMask_11 ?_
  refine lv_ior hx hb d_St_setMask_12 ?_
  refine va_put (D := D) (ci := 2) (v := .int ((u0.2.2.1 &&& (-16)) ||| (x1 &&& 15))) (ty := .int) (C := R_St) (T := F_St) (N := 1) hx hb hts (fun w h => wm (ui_St w h)) ft_St ft_St_ok fn_St hown hK hP (dd_C hA _) hS 4 rfl rfl 0 (by decide) (hts _ (wm t_107)) (fun _ h9 => h9) rfl (by decide +kernel) rfl rfl (Nat.le_of_ble_eq_true rfl) d_St_setMask_13 (fun H locs hP _ hS => ?_)
  have hP : va_P D kl (cw a (u0.1, u0.2.1, ((u0.2.2.1 &&& (-16)) ||| (x1 &&& 15)), u0.2.2.2.1, u0.2.2.2.2.1, u0.2.2.2.2.2.1, u0.2.2.2.2.2.2)) H := hP
  subst hQ
  exact rt_v hx hb hr hlk (by simp only [C_St_setMask]) hP hS d_St_setMask_16
set_option maxHeartbeats 4000000 in
set_option maxRecDepth 100000 in
theorem k_M_reset (l : Launch) (D : va_G) (a : CAd) (hA : ApC a) (u0 : CSt) : MC kl (cw a) (FA a) (tyC a) l D y_M_reset b_M_reset 1 none rm_M_reset [.ref a.1] u0 none (C_M_reset u0) := by
  refine MC.mk (by decide) (Nat.le_of_ble_eq_true rfl) ?_
  intro p e s m below meth c ls Q args H locs hx hb hr hml hown hts hlk hl hP hK hS hQ
  have hown : s.vm.findClass R_M = some m.cls := hown
  have hl : lv_has ls 1 [(0, .ref a.1)] := hl
  refine lv_aload_n hx hb d_M_reset_0 rfl (lv_at hl 0 rfl) ?_
  refine lv_iconst (v := 0) hx hb d_M_reset_1 (by decide) ?_
  refine cl_V (C := R_M) (k_M_switchThrough l D a hA u0 0) ⟨hx, hb, hml, hown, hts⟩ (cwV 1 hts (gi_V t_137 t_139 t_0 t_62 t_140) rfl rfl rfl (by decide +kernel) ⟨Nat.le_of_ble_eq_true rfl, Nat.le_of_ble_eq_true rfl⟩) (va_recv (q0 := 0) (ci := 3) (q := (R_M, F_M, 7)) hK hP rfl rfl) hP hK hS rfl hl.1 rfl (Nat.le_of_ble_eq_true rfl) d_M_reset_2 (nm_s (fun u2 e2 H locs hP hS => ?_))
  refine lv_aload_n hx hb d_M_reset_5 rfl (lv_at hl 0 rfl) ?_
  refine va_get (D := D) (ci := 3) (v := .ref a.2.2.2.2.1) (C := R_M) (T := F_M) (N := 7) hx hb hts (fun w h => wm (ui_M w h)) hown hK hP 0 rfl rfl 2 (by decide) (hts _ (wm t_113)) (fun _ h9 => h9) rfl d_M_reset_6 ?_
  refine lv_iconst (v := 0) hx hb d_M_reset_9 (by decide) ?_
  refine cl_V (C := R_St) (k_St_setMask l D a hA u2 0) ⟨hx, hb, hml, hown, hts⟩ (cwV 1 hts (gi_V t_169 t_170 t_171 t_65 t_172) rfl rfl rfl (by decide +kernel) ⟨Nat.le_of_ble_eq_true rfl, Nat.le_of_ble_eq_true rfl⟩) (va_recv (q0 := 4) (ci := 2) (q := (R_St, F_St, 1)) hK hP rfl rfl) hP hK hS rfl hl.1 rfl (Nat.le_of_ble_eq_true rfl) d_M_reset_10 (nm_s (fun u10 e10 H locs hP hS => ?_))
  refine lv_aload_n hx hb d_M_reset_13 rfl (lv_at hl 0 rfl) ?_
  refine lv_iconst (v := 0) hx hb d_M_reset_14 (by decide) ?_
  refine va_put (D := D) (ci := 3) (v := .int 0) (ty := .boolean) (C := R_M) (T := F_M) (N := 7) hx hb hts (fun w h => wm (ui_M w h)) ft_M ft_M_ok fn_M hown hK hP (dd_C hA _) hS 0 rfl rfl 6 (by decide) (hts _ (wm t_117)) (fun _ h9 => h9) rfl (by decide +kernel) rfl rfl (Nat.le_of_ble_eq_true rfl) d_M_reset_15 (fun H locs hP _ hS => ?_)
  have hP : va_P D kl (cw a (u10.1, u10.2.1, u10.2.2.1, u10.2.2.2.1, u10.2.2.2.2.1, u10.2.2.2.2.2.1, 0)) H := hP
  subst hQ
  exact rt_v hx hb hr hlk (by simp only [C_M_reset, ← e2, ← e10]) hP hS d_M_reset_18
set_option maxHeartbeats 4000000 in
set_option maxRecDepth 100000 in
theorem k_M_isWordAddress (l : Launch) (D : va_G) (a : CAd) (hA : ApC a) (u0 : CSt) (x0 : Int32) : MC kl (cw a) (FA a) (tyC a) l D y_M_isWordAddress b_M_isWordAddress 1 (some .boolean) rm_M_isWordAddress [.int x0] u0 (some (.int (C_M_isWordAddress x0))) u0 := by
  refine MC.mk (by decide) (Nat.le_of_ble_eq_true rfl) ?_
  intro p e s m below meth c ls Q args H locs hx hb hr hml hown hts hlk hl hP hK hS hQ
  have hown : s.vm.findClass R_M = some m.cls := hown
  have hl : lv_has ls 1 [(0, .int x0)] := hl
  refine lv_iload_n hx hb d_M_isWordAddress_0 rfl (lv_at hl 0 rfl) ?_
  refine lv_sipush (v := 1022) hx hb d_M_isWordAddress_1 (by decide) ?_
  refine lv_iand hx hb d_M_isWordAddress_4 ?_
  refine lv_iload_n hx hb d_M_isWordAddress_5 rfl (lv_at hl 0 rfl) ?_
  refine lv_icmp_ne (tgt := 13) hx hb d_M_isWordAddress_6 (by decide) (fun h6 => ?_) (fun h6 => ?_)
  · refine lv_iconst (v := 0) hx hb d_M_isWordAddress_13 (by decide) ?_
    subst hQ
    exact rt_z hx hb hr hlk rfl (by simp only [C_M_isWordAddress, if_neg h6]) rfl hP hS d_M_isWordAddress_14
  refine lv_iconst (v := 1) hx hb d_M_isWordAddress_9 (by decide) ?_
  refine lv_goto (tgt := 14) hx hb d_M_isWordAddress_10 (by decide) ?_
  subst hQ
  exact rt_z hx hb hr hlk rfl (by simp only [C_M_isWordAddress, if_pos h6]) rfl hP hS d_M_isWordAddress_14
set_option maxHeartbeats 4000000 in
set_option maxRecDepth 100000 in
theorem k_M_poke (l : Launch) (D : va_G) (a : CAd) (hA : ApC a) (u0 : CSt) (x1 : Int32) (x2 : Int32) (hg : ¬ C_M_isWordAddress x1 = 0) : MC kl (cw a) (FA a) (tyC a) l D y_M_poke b_M_poke 3 none rm_M_poke [.ref a.1, .int x1, .int x2] u0 none (C_M_poke u0 x1 x2) := by
  refine MC.mk (by decide) (Nat.le_of_ble_eq_true rfl) ?_
  intro p e s m below meth c ls Q args H locs hx hb hr hml hown hts hlk hl hP hK hS hQ
  have hown : s.vm.findClass R_M = some m.cls := hown
  have hl : lv_has ls 3 [(0, .ref a.1), (1, .int x1), (2, .int x2)] := hl
  refine lv_iload_n hx hb d_M_poke_0 rfl (lv_at hl 1 rfl) ?_
  refine cl_S (k_M_isWordAddress l D a hA u0 x1) ⟨hx, hb, hml, hown, hts⟩ (va_cwS 1 hts (gi_S t_372 t_373 t_62 t_374) rfl rfl rfl (by decide +kernel) ⟨Nat.le_of_ble_eq_true rfl, Nat.le_of_ble_eq_true rfl⟩) hP hK hS rfl hl.1 rfl (Nat.le_of_ble_eq_true rfl) d_M_poke_1 (nm_i (fun r1 e1 H locs hP hS => ?_))
  refine lv_if_ne (tgt := 17) hx hb d_M_poke_4 (by decide) (fun h4 => ?_) (fun h4 => ?_)
  · refine lv_aload_n hx hb d_M_poke_17 rfl (lv_at hl 0 rfl) ?_
    refine va_get (D := D) (ci := 3) (v := .ref a.2.1) (C := R_M) (T := F_M) (N := 7) hx hb hts (fun w h => wm (ui_M w h)) hown hK hP 0 rfl rfl 0 (by decide) (hts _ (wm t_111)) (fun _ h9 => h9) rfl d_M_poke_18 ?_
    refine lv_iload_n hx hb d_M_poke_21 rfl (lv_at hl 1 rfl) ?_
    refine lv_iload_n hx hb d_M_poke_22 rfl (lv_at hl 2 rfl) ?_
    refine cl_V (C := R_Me) (k_Me_setWord l D a hA u0 x1 x2) ⟨hx, hb, hml, hown, hts⟩ (cwV 2 hts (gi_V t_157 t_158 t_159 t_63 t_160) rfl rfl rfl (by decide +kernel) ⟨Nat.le_of_ble_eq_true rfl, Nat.le_of_ble_eq_true rfl⟩) (va_recv (q0 := 1) (ci := 1) (q := (R_Me, F_Me, 1)) hK hP rfl rfl) hP hK hS rfl hl.1 rfl (Nat.le_of_ble_eq_true rfl) d_M_poke_23 (nm_s (fun u23 e23 H locs hP hS => ?_))
    subst hQ
    exact rt_v hx hb hr hlk (by simp only [C_M_poke, ← e1, if_neg h4, ← e23]) hP hS d_M_poke_26
  exact (hg (by rw [← e1]; exact h4)).elim
set_option maxHeartbeats 4000000 in
set_option maxRecDepth 100000 in
theorem k_M_peek (l : Launch) (D : va_G) (a : CAd) (hA : ApC a) (u0 : CSt) (x1 : Int32) (hg : ¬ C_M_isWordAddress x1 = 0) : MC kl (cw a) (FA a) (tyC a) l D y_M_peek b_M_peek 2 (some .char) rm_M_peek [.ref a.1, .int x1] u0 (some (.int (C_M_peek u0 x1))) u0 := by
  refine MC.mk (by decide) (Nat.le_of_ble_eq_true rfl) ?_
  intro p e s m below meth c ls Q args H locs hx hb hr hml hown hts hlk hl hP hK hS hQ
  have hown : s.vm.findClass R_M = some m.cls := hown
  have hl : lv_has ls 2 [(0, .ref a.1), (1, .int x1)] := hl
  refine lv_iload_n hx hb d_M_peek_0 rfl (lv_at hl 1 rfl) ?_
  refine cl_S (k_M_isWordAddress l D a hA u0 x1) ⟨hx, hb, hml, hown, hts⟩ (va_cwS 1 hts (gi_S t_372 t_373 t_62 t_374) rfl rfl rfl (by decide +kernel) ⟨Nat.le_of_ble_eq_true rfl, Nat.le_of_ble_eq_true rfl⟩) hP hK hS rfl hl.1 rfl (Nat.le_of_ble_eq_true rfl) d_M_peek_1 (nm_i (fun r1 e1 H locs hP hS => ?_))
  refine lv_if_ne (tgt := 17) hx hb d_M_peek_4 (by decide) (fun h4 => ?_) (fun h4 => ?_)
  · refine lv_aload_n hx hb d_M_peek_17 rfl (lv_at hl 0 rfl) ?_
    refine va_get (D := D) (ci := 3) (v := .ref a.2.1) (C := R_M) (T := F_M) (N := 7) hx hb hts (fun w h => wm (ui_M w h)) hown hK hP 0 rfl rfl 0 (by decide) (hts _ (wm t_111)) (fun _ h9 => h9) rfl d_M_peek_18 ?_
    refine lv_iload_n hx hb d_M_peek_21 rfl (lv_at hl 1 rfl) ?_
    refine cl_V (C := R_Me) (k_Me_word l D a hA u0 x1) ⟨hx, hb, hml, hown, hts⟩ (cwV 1 hts (gi_V t_141 t_142 t_143 t_63 t_144) rfl rfl rfl (by decide +kernel) ⟨Nat.le_of_ble_eq_true rfl, Nat.le_of_ble_eq_true rfl⟩) (va_recv (q0 := 1) (ci := 1) (q := (R_Me, F_Me, 1)) hK hP rfl rfl) hP hK hS rfl hl.1 rfl (Nat.le_of_ble_eq_true rfl) d_M_peek_22 (nm_i (fun r22 e22 H locs hP hS => ?_))
    refine lv_i2c hx hb d_M_peek_25 rfl ?_
    subst hQ
    exact rt_z hx hb hr hlk (pk_nc _) (by simp only [C_M_peek, ← e1, if_neg h4, ← e22]) rfl hP hS d_M_peek_26
  exact (hg (by rw [← e1]; exact h4)).elim
set_option maxHeartbeats 4000000 in
set_option maxRecDepth 100000 in
theorem k_St_mask (l : Launch) (D : va_G) (a : CAd) (hA : ApC a) (u0 : CSt) : MC kl (cw a) (FA a) (tyC a) l D y_St_mask b_St_mask 1 (some .int) rm_St_mask [.ref a.2.2.2.2.1] u0 (some (.int (C_St_mask u0))) u0 := by
  refine MC.mk (by decide) (Nat.le_of_ble_eq_true rfl) ?_
  intro p e s m below meth c ls Q args H locs hx hb hr hml hown hts hlk hl hP hK hS hQ
  have hown : s.vm.findClass R_St = some m.cls := hown
  have hl : lv_has ls 1 [(0, .ref a.2.2.2.2.1)] := hl
  refine lv_aload_n hx hb d_St_mask_0 rfl (lv_at hl 0 rfl) ?_
  refine va_get (D := D) (ci := 2) (v := .int u0.2.2.1) (C := R_St) (T := F_St) (N := 1) hx hb hts (fun w h => wm (ui_St w h)) hown hK hP 4 rfl rfl 0 (by decide) (hts _ (wm t_107)) (fun _ h9 => h9) rfl d_St_mask_1 ?_
  refine lv_bipush (v := 15) hx hb d_St_mask_4 (by decide) ?_
  refine lv_iand hx hb d_St_mask_6 ?_
  subst hQ
  exact rt_i hx hb hr hlk (by simp only [C_St_mask]) rfl hP hS d_St_mask_7
set_option maxHeartbeats 4000000 in
set_option maxRecDepth 100000 in
theorem k_M_interrupt (l : Launch) (D : va_G) (a : CAd) (hA : ApC a) (u0 : CSt) : MC kl (cw a) (FA a) (tyC a) l D y_M_interrupt b_M_interrupt 1 none rm_M_interrupt [.ref a.1] u0 none (C_M_interrupt u0) := by
  refine MC.mk (by decide) (Nat.le_of_ble_eq_true rfl) ?_
  intro p e s m below meth c ls Q args H locs hx hb hr hml hown hts hlk hl hP hK hS hQ
  have hown : s.vm.findClass R_M = some m.cls := hown
  have hl : lv_has ls 1 [(0, .ref a.1)] := hl
  refine lv_aload_n hx hb d_M_interrupt_0 rfl (lv_at hl 0 rfl) ?_
  refine lv_iconst (v := 4) hx hb d_M_interrupt_1 (by decide) ?_
  refine lv_aload_n hx hb d_M_interrupt_2 rfl (lv_at hl 0 rfl) ?_
  refine va_get (D := D) (ci := 3) (v := .int u0.2.2.2.2.2.1) (C := R_M) (T := F_M) (N := 7) hx hb hts (fun w h => wm (ui_M w h)) hown hK hP 0 rfl rfl 5 (by decide) (hts _ (wm t_116)) (fun _ h9 => h9) rfl d_M_interrupt_3 ?_
  refine lv_imul hx hb d_M_interrupt_6 ?_
  refine cl_V (C := R_M) (k_M_switchThrough l D a hA u0 (4 * u0.2.2.2.2.2.1)) ⟨hx, hb, hml, hown, hts⟩ (cwV 1 hts (gi_V t_137 t_139 t_0 t_62 t_140) rfl rfl rfl (by decide +kernel) ⟨Nat.le_of_ble_eq_true rfl, Nat.le_of_ble_eq_true rfl⟩) (va_recv (q0 := 0) (ci := 3) (q := (R_M, F_M, 7)) hK hP rfl rfl) hP hK hS rfl hl.1 rfl (Nat.le_of_ble_eq_true rfl) d_M_interrupt_7 (nm_s (fun u7 e7 H locs hP hS => ?_))
  refine lv_aload_n hx hb d_M_interrupt_10 rfl (lv_at hl 0 rfl) ?_
  refine va_get (D := D) (ci := 3) (v := .ref a.2.2.2.2.1) (C := R_M) (T := F_M) (N := 7) hx hb hts (fun w h => wm (ui_M w h)) hown hK hP 0 rfl rfl 2 (by decide) (hts _ (wm t_113)) (fun _ h9 => h9) rfl d_M_interrupt_11 ?_
  refine lv_aload_n hx hb d_M_interrupt_14 rfl (lv_at hl 0 rfl) ?_
  refine va_get (D := D) (ci := 3) (v := .int u7.2.2.2.2.2.1) (C := R_M) (T := F_M) (N := 7) hx hb hts (fun w h => wm (ui_M w h)) hown hK hP 0 rfl rfl 5 (by decide) (hts _ (wm t_116)) (fun _ h9 => h9) rfl d_M_interrupt_15 ?_
  have hJ31 : ∀ (z31 : Int32), z31 = J_M_interrupt_31 u7 → W p l e rm_M_interrupt s m args below meth c H locs 0 0 Q (F0 m 31 ls [.int z31, .ref a.2.2.2.2.1]) := by
    intro z31 jz31
    refine cl_V (C := R_St) (k_St_setMask l D a hA u7 z31) ⟨hx, hb, hml, hown, hts⟩ (cwV 1 hts (gi_V t_169 t_170 t_171 t_65 t_172) rfl rfl rfl (by decide +kernel) ⟨Nat.le_of_ble_eq_true rfl, Nat.le_of_ble_eq_true rfl⟩) (va_recv (q0 := 4) (ci := 2) (q := (R_St, F_St, 1)) hK hP rfl rfl) hP hK hS rfl hl.1 rfl (Nat.le_of_ble_eq_true rfl) d_M_interrupt_31 (nm_s (fun u31 e31 H locs hP hS => ?_))
    refine lv_aload_n hx hb d_M_interrupt_34 rfl (lv_at hl 0 rfl) ?_
    refine lv_iconst (v := 0) hx hb d_M_interrupt_35 (by decide) ?_
    refine va_put (D := D) (ci := 3) (v := .int 0) (ty := .boolean) (C := R_M) (T := F_M) (N := 7) hx hb hts (fun w h => wm (ui_M w h)) ft_M ft_M_ok fn_M hown hK hP (dd_C hA _) hS 0 rfl rfl 6 (by decide) (hts _ (wm t_117)) (fun _ h9 => h9) rfl (by decide +kernel) rfl rfl (Nat.le_of_ble_eq_true rfl) d_M_interrupt_36 (fun H locs hP _ hS => ?_)
    have hP : va_P D kl (cw a (u31.1, u31.2.1, u31.2.2.1, u31.2.2.2.1, u31.2.2.2.2.1, u31.2.2.2.2.2.1, 0)) H := hP
    subst hQ
    exact rt_v hx hb hr hlk (by simp only [C_M_interrupt, ← e7, ← jz31, ← e31]) hP hS d_M_interrupt_39
  refine lv_if_ne (tgt := 25) hx hb d_M_interrupt_18 (by decide) (fun h18 => ?_) (fun h18 => ?_)
  · refine lv_aload_n hx hb d_M_interrupt_25 rfl (lv_at hl 0 rfl) ?_
    refine va_get (D := D) (ci := 3) (v := .int u7.2.2.2.2.2.1) (C := R_M) (T := F_M) (N := 7) hx hb hts (fun w h => wm (ui_M w h)) hown hK hP 0 rfl rfl 5 (by decide) (hts _ (wm t_116)) (fun _ h9 => h9) rfl d_M_interrupt_26 ?_
    refine lv_iconst (v := 1) hx hb d_M_interrupt_29 (by decide) ?_
    refine lv_isub hx hb d_M_interrupt_30 ?_
    exact hJ31 (u7.2.2.2.2.2.1 - 1) (by simp only [J_M_interrupt_31, if_neg h18])
  refine lv_iconst (v := 0) hx hb d_M_interrupt_21 (by decide) ?_
  refine lv_goto (tgt := 31) hx hb d_M_interrupt_22 (by decide) ?_
  exact hJ31 0 (by simp only [J_M_interrupt_31, if_pos h18])
set_option maxHeartbeats 4000000 in
set_option maxRecDepth 100000 in
theorem k_M_fetch (l : Launch) (D : va_G) (a : CAd) (hA : ApC a) (u0 : CSt) : MC kl (cw a) (FA a) (tyC a) l D y_M_fetch b_M_fetch 2 (some .int) rm_M_fetch [.ref a.1] u0 (some (.int (C_M_fetch u0).1)) (C_M_fetch u0).2 := by
  refine MC.mk (by decide) (Nat.le_of_ble_eq_true rfl) ?_
  intro p e s m below meth c ls Q args H locs hx hb hr hml hown hts hlk hl hP hK hS hQ
  have hown : s.vm.findClass R_M = some m.cls := hown
  have hl : lv_has ls 2 [(0, .ref a.1)] := hl
  refine lv_aload_n hx hb d_M_fetch_0 rfl (lv_at hl 0 rfl) ?_
  refine va_get (D := D) (ci := 3) (v := .ref a.2.1) (C := R_M) (T := F_M) (N := 7) hx hb hts (fun w h => wm (ui_M w h)) hown hK hP 0 rfl rfl 0 (by decide) (hts _ (wm t_111)) (fun _ h9 => h9) rfl d_M_fetch_1 ?_
  refine lv_aload_n hx hb d_M_fetch_4 rfl (lv_at hl 0 rfl) ?_
  refine va_get (D := D) (ci := 3) (v := .int u0.2.2.2.2.1) (C := R_M) (T := F_M) (N := 7) hx hb hts (fun w h => wm (ui_M w h)) hown hK hP 0 rfl rfl 4 (by decide) (hts _ (wm t_115)) (fun _ h9 => h9) rfl d_M_fetch_5 ?_
  refine cl_V (C := R_Me) (k_Me_word l D a hA u0 u0.2.2.2.2.1) ⟨hx, hb, hml, hown, hts⟩ (cwV 1 hts (gi_V t_141 t_142 t_143 t_63 t_144) rfl rfl rfl (by decide +kernel) ⟨Nat.le_of_ble_eq_true rfl, Nat.le_of_ble_eq_true rfl⟩) (va_recv (q0 := 1) (ci := 1) (q := (R_Me, F_Me, 1)) hK hP rfl rfl) hP hK hS rfl hl.1 rfl (Nat.le_of_ble_eq_true rfl) d_M_fetch_8 (nm_i (fun r8 e8 H locs hP hS => ?_))
  refine lv_istore_n hx hb d_M_fetch_11 rfl hl (by decide) rfl (fun ls hl => ?_)
  have hl : lv_has ls 2 [(1, .int r8), (0, .ref a.1)] := hl
  refine lv_aload_n hx hb d_M_fetch_12 rfl (lv_at hl 1 rfl) ?_
  refine lv_aload_n hx hb d_M_fetch_13 rfl (lv_at hl 1 rfl) ?_
  refine va_get (D := D) (ci := 3) (v := .int u0.2.2.2.2.1) (C := R_M) (T := F_M) (N := 7) hx hb hts (fun w h => wm (ui_M w h)) hown hK hP 0 rfl rfl 4 (by decide) (hts _ (wm t_115)) (fun _ h9 => h9) rfl d_M_fetch_14 ?_
  refine lv_iconst (v := 2) hx hb d_M_fetch_17 (by decide) ?_
  refine lv_iadd hx hb d_M_fetch_18 ?_
  refine cl_V (C := R_M) (k_M_setCounter l D a hA u0 (u0.2.2.2.2.1 + 2)) ⟨hx, hb, hml, hown, hts⟩ (cwV 1 hts (gi_V t_165 t_167 t_4 t_62 t_168) rfl rfl rfl (by decide +kernel) ⟨Nat.le_of_ble_eq_true rfl, Nat.le_of_ble_eq_true rfl⟩) (va_recv (q0 := 0) (ci := 3) (q := (R_M, F_M, 7)) hK hP rfl rfl) hP hK hS rfl hl.1 rfl (Nat.le_of_ble_eq_true rfl) d_M_fetch_19 (nm_s (fun u19 e19 H locs hP hS => ?_))
  refine lv_iload_n hx hb d_M_fetch_22 rfl (lv_at hl 0 rfl) ?_
  have hc : (r8, u19) = C_M_fetch u0 := by simp only [C_M_fetch, ← e8, ← e19]
  subst hQ
  exact rt_i hx hb hr hlk (congrArg Prod.fst hc) (congrArg Prod.snd hc) hP hS d_M_fetch_23
set_option maxHeartbeats 4000000 in
set_option maxRecDepth 100000 in
theorem k_M_register (l : Launch) (D : va_G) (a : CAd) (hA : ApC a) (u0 : CSt) (x1 : Int32) : MC kl (cw a) (FA a) (tyC a) l D y_M_register b_M_register 2 (some .int) rm_M_register [.ref a.1, .int x1] u0 (some (.int (C_M_register u0 x1))) u0 := by
  refine MC.mk (by decide) (Nat.le_of_ble_eq_true rfl) ?_
  intro p e s m below meth c ls Q args H locs hx hb hr hml hown hts hlk hl hP hK hS hQ
  have hown : s.vm.findClass R_M = some m.cls := hown
  have hl : lv_has ls 2 [(0, .ref a.1), (1, .int x1)] := hl
  refine lv_aload_n hx hb d_M_register_0 rfl (lv_at hl 0 rfl) ?_
  refine va_get (D := D) (ci := 3) (v := .ref a.2.1) (C := R_M) (T := F_M) (N := 7) hx hb hts (fun w h => wm (ui_M w h)) hown hK hP 0 rfl rfl 0 (by decide) (hts _ (wm t_111)) (fun _ h9 => h9) rfl d_M_register_1 ?_
  refine lv_aload_n hx hb d_M_register_4 rfl (lv_at hl 0 rfl) ?_
  refine lv_iload_n hx hb d_M_register_5 rfl (lv_at hl 1 rfl) ?_
  refine cl_V (C := R_M) (k_M_registerAddress l D a hA u0 x1) ⟨hx, hb, hml, hown, hts⟩ (cwV 1 hts (gi_V t_153 t_155 t_3 t_62 t_156) rfl rfl rfl (by decide +kernel) ⟨Nat.le_of_ble_eq_true rfl, Nat.le_of_ble_eq_true rfl⟩) (va_recv (q0 := 0) (ci := 3) (q := (R_M, F_M, 7)) hK hP rfl rfl) hP hK hS rfl hl.1 rfl (Nat.le_of_ble_eq_true rfl) d_M_register_6 (nm_i (fun r6 e6 H locs hP hS => ?_))
  refine cl_V (C := R_Me) (k_Me_word l D a hA u0 r6) ⟨hx, hb, hml, hown, hts⟩ (cwV 1 hts (gi_V t_141 t_142 t_143 t_63 t_144) rfl rfl rfl (by decide +kernel) ⟨Nat.le_of_ble_eq_true rfl, Nat.le_of_ble_eq_true rfl⟩) (va_recv (q0 := 1) (ci := 1) (q := (R_Me, F_Me, 1)) hK hP rfl rfl) hP hK hS rfl hl.1 rfl (Nat.le_of_ble_eq_true rfl) d_M_register_9 (nm_i (fun r9 e9 H locs hP hS => ?_))
  subst hQ
  exact rt_i hx hb hr hlk (by simp only [C_M_register, ← e6, ← e9]) rfl hP hS d_M_register_12
set_option maxHeartbeats 4000000 in
set_option maxRecDepth 100000 in
theorem k_M_isExecute (l : Launch) (D : va_G) (a : CAd) (hA : ApC a) (u0 : CSt) (x0 : Int32) : MC kl (cw a) (FA a) (tyC a) l D y_M_isExecute b_M_isExecute 1 (some .boolean) rm_M_isExecute [.int x0] u0 (some (.int (C_M_isExecute x0))) u0 := by
  refine MC.mk (by decide) (Nat.le_of_ble_eq_true rfl) ?_
  intro p e s m below meth c ls Q args H locs hx hb hr hml hown hts hlk hl hP hK hS hQ
  have hown : s.vm.findClass R_M = some m.cls := hown
  have hl : lv_has ls 1 [(0, .int x0)] := hl
  refine lv_iload_n hx hb d_M_isExecute_0 rfl (lv_at hl 0 rfl) ?_
  refine lv_ldc (v := 65472) hx hb hown (hts _ (wm t_196)) d_M_isExecute_1 ?_
  refine lv_iand hx hb d_M_isExecute_3 ?_
  refine lv_sipush (v := 1152) hx hb d_M_isExecute_4 (by decide) ?_
  refine lv_icmp_ne (tgt := 14) hx hb d_M_isExecute_7 (by decide) (fun h7 => ?_) (fun h7 => ?_)
  · refine lv_iconst (v := 0) hx hb d_M_isExecute_14 (by decide) ?_
    subst hQ
    exact rt_z hx hb hr hlk rfl (by simp only [C_M_isExecute, if_neg h7]) rfl hP hS d_M_isExecute_15
  refine lv_iconst (v := 1) hx hb d_M_isExecute_10 (by decide) ?_
  refine lv_goto (tgt := 15) hx hb d_M_isExecute_11 (by decide) ?_
  subst hQ
  exact rt_z hx hb hr hlk rfl (by simp only [C_M_isExecute, if_pos h7]) rfl hP hS d_M_isExecute_15
set_option maxHeartbeats 4000000 in
set_option maxRecDepth 100000 in
theorem k_M_operandAddress (l : Launch) (D : va_G) (a : CAd) (hA : ApC a) (u0 : CSt) (x1 : Int32) (x2 : Int32) : MC kl (cw a) (FA a) (tyC a) l D y_M_operandAddress b_M_operandAddress 5 (some .int) rm_M_operandAddress [.ref a.1, .int x1, .int x2] u0 (some (.int (C_M_operandAddress u0 x1 x2).1)) (C_M_operandAddress u0 x1 x2).2 := by
  refine MC.mk (by decide) (Nat.le_of_ble_eq_true rfl) ?_
  intro p e s m below meth c ls Q args H locs hx hb hr hml hown hts hlk hl hP hK hS hQ
  have hown : s.vm.findClass R_M = some m.cls := hown
  have hl : lv_has ls 5 [(0, .ref a.1), (1, .int x1), (2, .int x2)] := hl
  refine lv_iload_n hx hb d_M_operandAddress_0 rfl (lv_at hl 1 rfl) ?_
  refine lv_bipush (v := 15) hx hb d_M_operandAddress_1 (by decide) ?_
  refine lv_iand hx hb d_M_operandAddress_3 ?_
  refine lv_istore_n hx hb d_M_operandAddress_4 rfl hl (by decide) rfl (fun ls hl => ?_)
  have hl : lv_has ls 5 [(3, .int (x1 &&& 15)), (0, .ref a.1), (1, .int x1), (2, .int x2)] := hl
  refine lv_iload_n hx hb d_M_operandAddress_5 rfl (lv_at hl 2 rfl) ?_
  refine lv_iconst (v := 4) hx hb d_M_operandAddress_6 (by decide) ?_
  refine lv_ishr hx hb d_M_operandAddress_7 ?_
  refine lv_iconst (v := 3) hx hb d_M_operandAddress_8 (by decide) ?_
  refine lv_iand hx hb d_M_operandAddress_9 ?_
  by_cases h10_0 : ((x1 >>> ((4 : Int32) &&& 31)) &&& 3) = 0
  · refine lv_tableIn (off := 26) (tgt := 36) hx hb d_M_operandAddress_10 (by rw [h10_0]; decide) (by rw [h10_0]; decide) (by rw [h10_0]; decide +kernel) (by decide) ?_
    refine lv_aload_n hx hb d_M_operandAddress_36 rfl (lv_at hl 1 rfl) ?_
    refine lv_iload_n hx hb d_M_operandAddress_37 rfl (lv_at hl 0 rfl) ?_
    refine cl_V (C := R_M) (k_M_registerAddress l D a hA u0 (x1 &&& 15)) ⟨hx, hb, hml, hown, hts⟩ (cwV 1 hts (gi_V t_153 t_155 t_3 t_62 t_156) rfl rfl rfl (by decide +kernel) ⟨Nat.le_of_ble_eq_true rfl, Nat.le_of_ble_eq_true rfl⟩) (va_recv (q0 := 0) (ci := 3) (q := (R_M, F_M, 7)) hK hP rfl rfl) hP hK hS rfl hl.1 rfl (Nat.le_of_ble_eq_true rfl) d_M_operandAddress_38 (nm_i (fun r38 e38 H locs hP hS => ?_))
    refine lv_istore hx hb d_M_operandAddress_41 hl (by decide) rfl (fun ls hl => ?_)
    have hl : lv_has ls 5 [(4, .int r38), (3, .int (x1 &&& 15)), (0, .ref a.1), (1, .int x1), (2, .int x2)] := hl
    refine lv_goto (tgt := 95) hx hb d_M_operandAddress_43 (by decide) ?_
    refine lv_iload hx hb d_M_operandAddress_95 (lv_at hl 0 rfl) ?_
    refine lv_sipush (v := 1023) hx hb d_M_operandAddress_97 (by decide) ?_
    refine lv_iand hx hb d_M_operandAddress_100 ?_
    have hc : ((r38 &&& 1023), u0) = C_M_operandAddress u0 x1 x2 := by simp only [C_M_operandAddress, if_pos h10_0, ← e38]
    subst hQ
    exact rt_i hx hb hr hlk (congrArg Prod.fst hc) (congrArg Prod.snd hc) hP hS d_M_operandAddress_101
  by_cases h10_1 : ((x1 >>> ((4 : Int32) &&& 31)) &&& 3) = 1
  · refine lv_tableIn (off := 36) (tgt := 46) hx hb d_M_operandAddress_10 (by rw [h10_1]; decide) (by rw [h10_1]; decide) (by rw [h10_1]; decide +kernel) (by decide) ?_
    refine lv_aload_n hx hb d_M_operandAddress_46 rfl (lv_at hl 1 rfl) ?_
    refine lv_iload_n hx hb d_M_operandAddress_47 rfl (lv_at hl 0 rfl) ?_
    refine cl_V (C := R_M) (k_M_register l D a hA u0 (x1 &&& 15)) ⟨hx, hb, hml, hown, hts⟩ (cwV 1 hts (gi_V t_189 t_191 t_7 t_62 t_192) rfl rfl rfl (by decide +kernel) ⟨Nat.le_of_ble_eq_true rfl, Nat.le_of_ble_eq_true rfl⟩) (va_recv (q0 := 0) (ci := 3) (q := (R_M, F_M, 7)) hK hP rfl rfl) hP hK hS rfl hl.1 rfl (Nat.le_of_ble_eq_true rfl) d_M_operandAddress_48 (nm_i (fun r48 e48 H locs hP hS => ?_))
    refine lv_istore hx hb d_M_operandAddress_51 hl (by decide) rfl (fun ls hl => ?_)
    have hl : lv_has ls 5 [(4, .int r48), (3, .int (x1 &&& 15)), (0, .ref a.1), (1, .int x1), (2, .int x2)] := hl
    refine lv_goto (tgt := 95) hx hb d_M_operandAddress_53 (by decide) ?_
    refine lv_iload hx hb d_M_operandAddress_95 (lv_at hl 0 rfl) ?_
    refine lv_sipush (v := 1023) hx hb d_M_operandAddress_97 (by decide) ?_
    refine lv_iand hx hb d_M_operandAddress_100 ?_
    have hc : ((r48 &&& 1023), u0) = C_M_operandAddress u0 x1 x2 := by simp only [C_M_operandAddress, if_neg h10_0, if_pos h10_1, ← e48]
    subst hQ
    exact rt_i hx hb hr hlk (congrArg Prod.fst hc) (congrArg Prod.snd hc) hP hS d_M_operandAddress_101
  by_cases h10_2 : ((x1 >>> ((4 : Int32) &&& 31)) &&& 3) = 2
  · refine lv_tableIn (off := 46) (tgt := 56) hx hb d_M_operandAddress_10 (by rw [h10_2]; decide) (by rw [h10_2]; decide) (by rw [h10_2]; decide +kernel) (by decide) ?_
    refine lv_aload_n hx hb d_M_operandAddress_56 rfl (lv_at hl 1 rfl) ?_
    refine cl_V (C := R_M) (k_M_fetch l D a hA u0) ⟨hx, hb, hml, hown, hts⟩ (cwV 0 hts (gi_V t_185 t_187 t_6 t_62 t_188) rfl rfl rfl (by decide +kernel) ⟨Nat.le_of_ble_eq_true rfl, Nat.le_of_ble_eq_true rfl⟩) (va_recv (q0 := 0) (ci := 3) (q := (R_M, F_M, 7)) hK hP rfl rfl) hP hK hS rfl hl.1 rfl (Nat.le_of_ble_eq_true rfl) d_M_operandAddress_57 (nm_is (fun r57 u57 e57 f57 H locs hP hS => ?_))
    refine lv_iload_n hx hb d_M_operandAddress_60 rfl (lv_at hl 0 rfl) ?_
    have hJ73 : ∀ (z73 : Int32) (H : Heap) (locs : List Loc), z73 = J_M_operandAddress_73 x1 u57 → va_P D kl (cw a u57) H → va_S (FA a) s.heap H locs → W p l e rm_M_operandAddress s m args below meth c H locs 0 0 Q (F0 m 73 ls [.int z73, .int r57]) := by
      intro z73 H locs jz73 hP hS
      refine lv_iadd hx hb d_M_operandAddress_73 ?_
      refine lv_istore hx hb d_M_operandAddress_74 hl (by decide) rfl (fun ls hl => ?_)
      have hl : lv_has ls 5 [(4, .int (r57 + z73)), (3, .int (x1 &&& 15)), (0, .ref a.1), (1, .int x1), (2, .int x2)] := hl
      refine lv_goto (tgt := 95) hx hb d_M_operandAddress_76 (by decide) ?_
      refine lv_iload hx hb d_M_operandAddress_95 (lv_at hl 0 rfl) ?_
      refine lv_sipush (v := 1023) hx hb d_M_operandAddress_97 (by decide) ?_
      refine lv_iand hx hb d_M_operandAddress_100 ?_
      have hc : (((r57 + z73) &&& 1023), u57) = C_M_operandAddress u0 x1 x2 := by simp only [C_M_operandAddress, if_neg h10_0, if_neg h10_1, if_pos h10_2, ← e57, ← f57, ← jz73]
      subst hQ
      exact rt_i hx hb hr hlk (congrArg Prod.fst hc) (congrArg Prod.snd hc) hP hS d_M_operandAddress_101
    refine lv_if_ne (tgt := 68) hx hb d_M_operandAddress_61 (by decide) (fun h61 => ?_) (fun h61 => ?_)
    · refine lv_aload_n hx hb d_M_operandAddress_68 rfl (lv_at hl 1 rfl) ?_
      refine lv_iload_n hx hb d_M_operandAddress_69 rfl (lv_at hl 0 rfl) ?_
      refine cl_V (C := R_M) (k_M_register l D a hA u57 (x1 &&& 15)) ⟨hx, hb, hml, hown, hts⟩ (cwV 1 hts (gi_V t_189 t_191 t_7 t_62 t_192) rfl rfl rfl (by decide +kernel) ⟨Nat.le_of_ble_eq_true rfl, Nat.le_of_ble_eq_true rfl⟩) (va_recv (q0 := 0) (ci := 3) (q := (R_M, F_M, 7)) hK hP rfl rfl) hP hK hS rfl hl.1 rfl (Nat.le_of_ble_eq_true rfl) d_M_operandAddress_70 (nm_i (fun r70 e70 H locs hP hS => ?_))
      exact hJ73 r70 _ _ (by simp only [J_M_operandAddress_73, if_neg h61, ← e70]) hP hS
    refine lv_iconst (v := 0) hx hb d_M_operandAddress_64 (by decide) ?_
    refine lv_goto (tgt := 73) hx hb d_M_operandAddress_65 (by decide) ?_
    exact hJ73 0 _ _ (by simp only [J_M_operandAddress_73, if_pos h61]) hP hS
  have n10_0 := lv_neT h10_0 (a := 0) (by decide)
  have n10_1 := lv_neT h10_1 (a := 1) (by decide)
  have n10_2 := lv_neT h10_2 (a := 2) (by decide)
  refine lv_tableOut (tgt := 79) hx hb d_M_operandAddress_10 (by omega) (by decide) ?_
  refine lv_aload_n hx hb d_M_operandAddress_79 rfl (lv_at hl 1 rfl) ?_
  refine lv_iload_n hx hb d_M_operandAddress_80 rfl (lv_at hl 0 rfl) ?_
  refine cl_V (C := R_M) (k_M_register l D a hA u0 (x1 &&& 15)) ⟨hx, hb, hml, hown, hts⟩ (cwV 1 hts (gi_V t_189 t_191 t_7 t_62 t_192) rfl rfl rfl (by decide +kernel) ⟨Nat.le_of_ble_eq_true rfl, Nat.le_of_ble_eq_true rfl⟩) (va_recv (q0 := 0) (ci := 3) (q := (R_M, F_M, 7)) hK hP rfl rfl) hP hK hS rfl hl.1 rfl (Nat.le_of_ble_eq_true rfl) d_M_operandAddress_81 (nm_i (fun r81 e81 H locs hP hS => ?_))
  refine lv_istore hx hb d_M_operandAddress_84 hl (by decide) rfl (fun ls hl => ?_)
  have hl : lv_has ls 5 [(4, .int r81), (3, .int (x1 &&& 15)), (0, .ref a.1), (1, .int x1), (2, .int x2)] := hl
  refine lv_aload_n hx hb d_M_operandAddress_86 rfl (lv_at hl 2 rfl) ?_
  refine lv_iload_n hx hb d_M_operandAddress_87 rfl (lv_at hl 1 rfl) ?_
  refine lv_iload hx hb d_M_operandAddress_88 (lv_at hl 0 rfl) ?_
  refine lv_iload_n hx hb d_M_operandAddress_90 rfl (lv_at hl 4 rfl) ?_
  refine lv_iadd hx hb d_M_operandAddress_91 ?_
  refine cl_V (C := R_M) (k_M_setRegister l D a hA u0 (x1 &&& 15) (r81 + x2)) ⟨hx, hb, hml, hown, hts⟩ (cwV 2 hts (gi_V t_149 t_151 t_2 t_62 t_152) rfl rfl rfl (by decide +kernel) ⟨Nat.le_of_ble_eq_true rfl, Nat.le_of_ble_eq_true rfl⟩) (va_recv (q0 := 0) (ci := 3) (q := (R_M, F_M, 7)) hK hP rfl rfl) hP hK hS rfl hl.1 rfl (Nat.le_of_ble_eq_true rfl) d_M_operandAddress_92 (nm_s (fun u92 e92 H locs hP hS => ?_))
  refine lv_iload hx hb d_M_operandAddress_95 (lv_at hl 0 rfl) ?_
  refine lv_sipush (v := 1023) hx hb d_M_operandAddress_97 (by decide) ?_
  refine lv_iand hx hb d_M_operandAddress_100 ?_
  have hc : ((r81 &&& 1023), u92) = C_M_operandAddress u0 x1 x2 := by simp only [C_M_operandAddress, if_neg h10_0, if_neg h10_1, if_neg h10_2, ← e81, ← e92]
  subst hQ
  exact rt_i hx hb hr hlk (congrArg Prod.fst hc) (congrArg Prod.snd hc) hP hS d_M_operandAddress_101
set_option maxHeartbeats 4000000 in
set_option maxRecDepth 100000 in
theorem k_Me_isUpper (l : Launch) (D : va_G) (a : CAd) (hA : ApC a) (u0 : CSt) (x0 : Int32) : MC kl (cw a) (FA a) (tyC a) l D y_Me_isUpper b_Me_isUpper 1 (some .boolean) rm_Me_isUpper [.int x0] u0 (some (.int (C_Me_isUpper x0))) u0 := by
  refine MC.mk (by decide) (Nat.le_of_ble_eq_true rfl) ?_
  intro p e s m below meth c ls Q args H locs hx hb hr hml hown hts hlk hl hP hK hS hQ
  have hown : s.vm.findClass R_Me = some m.cls := hown
  have hl : lv_has ls 1 [(0, .int x0)] := hl
  refine lv_iload_n hx hb d_Me_isUpper_0 rfl (lv_at hl 0 rfl) ?_
  refine lv_iconst (v := 1) hx hb d_Me_isUpper_1 (by decide) ?_
  refine lv_iand hx hb d_Me_isUpper_2 ?_
  refine lv_if_ne (tgt := 10) hx hb d_Me_isUpper_3 (by decide) (fun h3 => ?_) (fun h3 => ?_)
  · refine lv_iconst (v := 0) hx hb d_Me_isUpper_10 (by decide) ?_
    subst hQ
    exact rt_z hx hb hr hlk rfl (by simp only [C_Me_isUpper, if_neg h3]) rfl hP hS d_Me_isUpper_11
  refine lv_iconst (v := 1) hx hb d_Me_isUpper_6 (by decide) ?_
  refine lv_goto (tgt := 11) hx hb d_Me_isUpper_7 (by decide) ?_
  subst hQ
  exact rt_z hx hb hr hlk rfl (by simp only [C_Me_isUpper, if_pos h3]) rfl hP hS d_Me_isUpper_11
set_option maxHeartbeats 4000000 in
set_option maxRecDepth 100000 in
theorem k_Me_load (l : Launch) (D : va_G) (a : CAd) (hA : ApC a) (u0 : CSt) (x1 : Int32) (x2 : Int32) : MC kl (cw a) (FA a) (tyC a) l D y_Me_load b_Me_load 4 (some .int) rm_Me_load [.ref a.2.1, .int x1, .int x2] u0 (some (.int (C_Me_load u0 x1 x2))) u0 := by
  refine MC.mk (by decide) (Nat.le_of_ble_eq_true rfl) ?_
  intro p e s m below meth c ls Q args H locs hx hb hr hml hown hts hlk hl hP hK hS hQ
  have hown : s.vm.findClass R_Me = some m.cls := hown
  have hl : lv_has ls 4 [(0, .ref a.2.1), (1, .int x1), (2, .int x2)] := hl
  refine lv_aload_n hx hb d_Me_load_0 rfl (lv_at hl 0 rfl) ?_
  refine lv_iload_n hx hb d_Me_load_1 rfl (lv_at hl 1 rfl) ?_
  refine cl_V (C := R_Me) (k_Me_word l D a hA u0 x1) ⟨hx, hb, hml, hown, hts⟩ (cwV 1 hts (gi_V t_213 t_142 t_143 t_63 t_144) rfl rfl rfl (by decide +kernel) ⟨Nat.le_of_ble_eq_true rfl, Nat.le_of_ble_eq_true rfl⟩) (va_recv (q0 := 1) (ci := 1) (q := (R_Me, F_Me, 1)) hK hP rfl rfl) hP hK hS rfl hl.1 rfl (Nat.le_of_ble_eq_true rfl) d_Me_load_2 (nm_i (fun r2 e2 H locs hP hS => ?_))
  refine lv_istore_n hx hb d_Me_load_5 rfl hl (by decide) rfl (fun ls hl => ?_)
  have hl : lv_has ls 4 [(3, .int r2), (0, .ref a.2.1), (1, .int x1), (2, .int x2)] := hl
  refine lv_iload_n hx hb d_Me_load_6 rfl (lv_at hl 3 rfl) ?_
  refine lv_iconst (v := 2) hx hb d_Me_load_7 (by decide) ?_
  refine lv_icmp_ne (tgt := 13) hx hb d_Me_load_8 (by decide) (fun h8 => ?_) (fun h8 => ?_)
  · refine lv_iload_n hx hb d_Me_load_13 rfl (lv_at hl 2 rfl) ?_
    refine cl_S (k_Me_isUpper l D a hA u0 x1) ⟨hx, hb, hml, hown, hts⟩ (va_cwS 1 hts (gi_S t_214 t_215 t_63 t_216) rfl rfl rfl (by decide +kernel) ⟨Nat.le_of_ble_eq_true rfl, Nat.le_of_ble_eq_true rfl⟩) hP hK hS rfl hl.1 rfl (Nat.le_of_ble_eq_true rfl) d_Me_load_14 (nm_i (fun r14 e14 H locs hP hS => ?_))
    refine lv_if_eq (tgt := 27) hx hb d_Me_load_17 (by decide) (fun h17 => ?_) (fun h17 => ?_)
    · refine lv_iload_n hx hb d_Me_load_27 rfl (lv_at hl 0 rfl) ?_
      refine lv_sipush (v := 255) hx hb d_Me_load_28 (by decide) ?_
      refine lv_iand hx hb d_Me_load_31 ?_
      refine lv_bipush (v := 8) hx hb d_Me_load_32 (by decide) ?_
      refine lv_ishl hx hb d_Me_load_34 ?_
      subst hQ
      exact rt_i hx hb hr hlk (by simp only [C_Me_load, ← e2, if_neg h8, ← e14, if_pos h17]) rfl hP hS d_Me_load_35
    refine lv_iload_n hx hb d_Me_load_20 rfl (lv_at hl 0 rfl) ?_
    refine lv_ldc (v := 65280) hx hb hown (hts _ (wm t_217)) d_Me_load_21 ?_
    refine lv_iand hx hb d_Me_load_23 ?_
    refine lv_goto (tgt := 35) hx hb d_Me_load_24 (by decide) ?_
    subst hQ
    exact rt_i hx hb hr hlk (by simp only [C_Me_load, ← e2, if_neg h8, ← e14, if_neg h17]) rfl hP hS d_Me_load_35
  refine lv_iload_n hx hb d_Me_load_11 rfl (lv_at hl 0 rfl) ?_
  subst hQ
  exact rt_i hx hb hr hlk (by simp only [C_Me_load, ← e2, if_pos h8]) rfl hP hS d_Me_load_12
set_option maxHeartbeats 4000000 in
set_option maxRecDepth 100000 in
theorem k_St_compare (l : Launch) (D : va_G) (a : CAd) (hA : ApC a) (u0 : CSt) (x1 : Int32) (x2 : Int32) : MC kl (cw a) (FA a) (tyC a) l D y_St_compare b_St_compare 6 none rm_St_compare [.ref a.2.2.2.2.1, .int x1, .int x2] u0 none (C_St_compare u0 x1 x2) := by
  refine MC.mk (by decide) (Nat.le_of_ble_eq_true rfl) ?_
  intro p e s m below meth c ls Q args H locs hx hb hr hml hown hts hlk hl hP hK hS hQ
  have hown : s.vm.findClass R_St = some m.cls := hown
  have hl : lv_has ls 6 [(0, .ref a.2.2.2.2.1), (1, .int x1), (2, .int x2)] := hl
  refine lv_iload_n hx hb d_St_compare_0 rfl (lv_at hl 1 rfl) ?_
  refine lv_iload_n hx hb d_St_compare_1 rfl (lv_at hl 2 rfl) ?_
  have hJ11 : ∀ (z11 : Int32), z11 = J_St_compare_11 x1 x2 → W p l e rm_St_compare s m args below meth c H locs 0 0 Q (F0 m 11 ls [.int z11]) := by
    intro z11 jz11
    refine lv_istore_n hx hb d_St_compare_11 rfl hl (by decide) rfl (fun ls hl => ?_)
    have hl : lv_has ls 6 [(3, .int z11), (0, .ref a.2.2.2.2.1), (1, .int x1), (2, .int x2)] := hl
    refine lv_iload_n hx hb d_St_compare_12 rfl (lv_at hl 2 rfl) ?_
    refine lv_i2s hx hb d_St_compare_13 rfl ?_
    refine lv_iload_n hx hb d_St_compare_14 rfl (lv_at hl 3 rfl) ?_
    refine lv_i2s hx hb d_St_compare_15 rfl ?_
    have hJ26 : ∀ (z26 : Int32), z26 = J_St_compare_26 x1 x2 → W p l e rm_St_compare s m args below meth c H locs 0 0 Q (F0 m 26 ls [.int z26]) := by
      intro z26 jz26
      refine lv_istore hx hb d_St_compare_26 hl (by decide) rfl (fun ls hl => ?_)
      have hl : lv_has ls 6 [(4, .int z26), (3, .int z11), (0, .ref a.2.2.2.2.1), (1, .int x1), (2, .int x2)] := hl
      refine lv_iload_n hx hb d_St_compare_28 rfl (lv_at hl 3 rfl) ?_
      refine lv_iload_n hx hb d_St_compare_29 rfl (lv_at hl 4 rfl) ?_
      have hJ40 : ∀ (z40 : Int32), z40 = J_St_compare_40 x1 x2 → W p l e rm_St_compare s m args below meth c H locs 0 0 Q (F0 m 40 ls [.int z40]) := by
        intro z40 jz40
        refine lv_istore hx hb d_St_compare_40 hl (by decide) rfl (fun ls hl => ?_)
        have hl : lv_has ls 6 [(5, .int z40), (4, .int z26), (3, .int z11), (0, .ref a.2.2.2.2.1), (1, .int x1), (2, .int x2)] := hl
        refine lv_aload_n hx hb d_St_compare_42 rfl (lv_at hl 3 rfl) ?_
        refine lv_aload_n hx hb d_St_compare_43 rfl (lv_at hl 3 rfl) ?_
        refine va_get (D := D) (ci := 2) (v := .int u0.2.2.1) (C := R_St) (T := F_St) (N := 1) hx hb hts (fun w h => wm (ui_St w h)) hown hK hP 4 rfl rfl 0 (by decide) (hts _ (wm t_107)) (fun _ h9 => h9) rfl d_St_compare_44 ?_
        refine lv_ldc (v := (-57345)) hx hb hown (hts _ (wm t_223)) d_St_compare_47 ?_
        refine lv_iand hx hb d_St_compare_49 ?_
        refine lv_iload_n hx hb d_St_compare_50 rfl (lv_at hl 2 rfl) ?_
        refine lv_ior hx hb d_St_compare_51 ?_
        refine lv_iload hx hb d_St_compare_52 (lv_at hl 1 rfl) ?_
        refine lv_ior hx hb d_St_compare_54 ?_
        refine lv_iload hx hb d_St_compare_55 (lv_at hl 0 rfl) ?_
        refine lv_ior hx hb d_St_compare_57 ?_
        refine va_put (D := D) (ci := 2) (v := .int ((((u0.2.2.1 &&& (-57345)) ||| z11) ||| z26) ||| z40)) (ty := .int) (C := R_St) (T := F_St) (N := 1) hx hb hts (fun w h => wm (ui_St w h)) ft_St ft_St_ok fn_St hown hK hP (dd_C hA _) hS 4 rfl rfl 0 (by decide) (hts _ (wm t_107)) (fun _ h9 => h9) rfl (by decide +kernel) rfl rfl (Nat.le_of_ble_eq_true rfl) d_St_compare_58 (fun H locs hP _ hS => ?_)
        have hP : va_P D kl (cw a (u0.1, u0.2.1, ((((u0.2.2.1 &&& (-57345)) ||| z11) ||| z26) ||| z40), u0.2.2.2.1, u0.2.2.2.2.1, u0.2.2.2.2.2.1, u0.2.2.2.2.2.2)) H := hP
        subst hQ
        exact rt_v hx hb hr hlk (by simp only [C_St_compare, ← jz11, ← jz26, ← jz40]) hP hS d_St_compare_61
      refine lv_icmp_ne (tgt := 39) hx hb d_St_compare_30 (by decide) (fun h30 => ?_) (fun h30 => ?_)
      · refine lv_iconst (v := 0) hx hb d_St_compare_39 (by decide) ?_
        exact hJ40 0 (by simp only [J_St_compare_40, if_neg h30])
      refine lv_sipush (v := 8192) hx hb d_St_compare_33 (by decide) ?_
      refine lv_goto (tgt := 40) hx hb d_St_compare_36 (by decide) ?_
      exact hJ40 8192 (by simp only [J_St_compare_40, if_pos h30])
    refine lv_icmp_le (tgt := 25) hx hb d_St_compare_16 (by decide) (fun h16 => ?_) (fun h16 => ?_)
    · refine lv_iconst (v := 0) hx hb d_St_compare_25 (by decide) ?_
      exact hJ26 0 (by simp only [J_St_compare_26, if_pos h16])
    refine lv_sipush (v := 16384) hx hb d_St_compare_19 (by decide) ?_
    refine lv_goto (tgt := 26) hx hb d_St_compare_22 (by decide) ?_
    exact hJ26 16384 (by simp only [J_St_compare_26, if_neg h16])
  refine lv_icmp_le (tgt := 10) hx hb d_St_compare_2 (by decide) (fun h2 => ?_) (fun h2 => ?_)
  · refine lv_iconst (v := 0) hx hb d_St_compare_10 (by decide) ?_
    exact hJ11 0 (by simp only [J_St_compare_11, if_pos h2])
  refine lv_ldc (v := 32768) hx hb hown (hts _ (wm t_222)) d_St_compare_5 ?_
  refine lv_goto (tgt := 11) hx hb d_St_compare_7 (by decide) ?_
  exact hJ11 32768 (by simp only [J_St_compare_11, if_neg h2])
set_option maxHeartbeats 4000000 in
set_option maxRecDepth 100000 in
theorem k_In_bitCount (l : Launch) (D : va_G) (a : CAd) (hA : ApC a) (u0 : CSt) (x0 : Int32) : MC kl (cw a) (FA a) (tyC a) l D y_In_bitCount b_In_bitCount 1 (some .int) rm_In_bitCount [.int x0] u0 (some (.int (C_In_bitCount x0))) u0 := by
  refine MC.mk (by decide) (Nat.le_of_ble_eq_true rfl) ?_
  intro p e s m below meth c ls Q args H locs hx hb hr hml hown hts hlk hl hP hK hS hQ
  have hown : s.vm.findClass R_In = some m.cls := hown
  have hl : lv_has ls 1 [(0, .int x0)] := hl
  refine lv_iload_n hx hb d_In_bitCount_0 rfl (lv_at hl 0 rfl) ?_
  refine lv_iload_n hx hb d_In_bitCount_1 rfl (lv_at hl 0 rfl) ?_
  refine lv_iconst (v := 1) hx hb d_In_bitCount_2 (by decide) ?_
  refine lv_iushr hx hb d_In_bitCount_3 rfl ?_
  refine lv_ldcw (v := 1431655765) hx hb hown (hts _ (wm t_231)) d_In_bitCount_4 ?_
  refine lv_iand hx hb d_In_bitCount_7 ?_
  refine lv_isub hx hb d_In_bitCount_8 ?_
  refine lv_istore_n hx hb d_In_bitCount_9 rfl hl (by decide) rfl (fun ls hl => ?_)
  have hl : lv_has ls 1 [(0, .int (x0 - (((Int32.toUInt32 x0 >>> (Int32.toUInt32 1 &&& Int32.toUInt32 31)).toInt32) &&& 1431655765)))] := hl
  refine lv_iload_n hx hb d_In_bitCount_10 rfl (lv_at hl 0 rfl) ?_
  refine lv_ldcw (v := 858993459) hx hb hown (hts _ (wm t_232)) d_In_bitCount_11 ?_
  refine lv_iand hx hb d_In_bitCount_14 ?_
  refine lv_iload_n hx hb d_In_bitCount_15 rfl (lv_at hl 0 rfl) ?_
  refine lv_iconst (v := 2) hx hb d_In_bitCount_16 (by decide) ?_
  refine lv_iushr hx hb d_In_bitCount_17 rfl ?_
  refine lv_ldcw (v := 858993459) hx hb hown (hts _ (wm t_232)) d_In_bitCount_18 ?_
  refine lv_iand hx hb d_In_bitCount_21 ?_
  refine lv_iadd hx hb d_In_bitCount_22 ?_
  refine lv_istore_n hx hb d_In_bitCount_23 rfl hl (by decide) rfl (fun ls hl => ?_)
  have hl : lv_has ls 1 [(0, .int (((x0 - (((Int32.toUInt32 x0 >>> (Int32.toUInt32 1 &&& Int32.toUInt32 31)).toInt32) &&& 1431655765)) &&& 858993459) + (((Int32.toUInt32 (x0 - (((Int32.toUInt32 x0 >>> (Int32.toUInt32 1 &&& Int32.toUInt32 31)).toInt32) &&& 1431655765)) >>> (Int32.toUInt32 2 &&& Int32.toUInt32 31)).toInt32) &&& 858993459)))] := hl
  refine lv_iload_n hx hb d_In_bitCount_24 rfl (lv_at hl 0 rfl) ?_
  refine lv_iload_n hx hb d_In_bitCount_25 rfl (lv_at hl 0 rfl) ?_
  refine lv_iconst (v := 4) hx hb d_In_bitCount_26 (by decide) ?_
  refine lv_iushr hx hb d_In_bitCount_27 rfl ?_
  refine lv_iadd hx hb d_In_bitCount_28 ?_
  refine lv_ldcw (v := 252645135) hx hb hown (hts _ (wm t_233)) d_In_bitCount_29 ?_
  refine lv_iand hx hb d_In_bitCount_32 ?_
  refine lv_istore_n hx hb d_In_bitCount_33 rfl hl (by decide) rfl (fun ls hl => ?_)
  have hl : lv_has ls 1 [(0, .int (((((x0 - (((Int32.toUInt32 x0 >>> (Int32.toUInt32 1 &&& Int32.toUInt32 31)).toInt32) &&& 1431655765)) &&& 858993459) + (((Int32.toUInt32 (x0 - (((Int32.toUInt32 x0 >>> (Int32.toUInt32 1 &&& Int32.toUInt32 31)).toInt32) &&& 1431655765)) >>> (Int32.toUInt32 2 &&& Int32.toUInt32 31)).toInt32) &&& 858993459)) + ((Int32.toUInt32 (((x0 - (((Int32.toUInt32 x0 >>> (Int32.toUInt32 1 &&& Int32.toUInt32 31)).toInt32) &&& 1431655765)) &&& 858993459) + (((Int32.toUInt32 (x0 - (((Int32.toUInt32 x0 >>> (Int32.toUInt32 1 &&& Int32.toUInt32 31)).toInt32) &&& 1431655765)) >>> (Int32.toUInt32 2 &&& Int32.toUInt32 31)).toInt32) &&& 858993459)) >>> (Int32.toUInt32 4 &&& Int32.toUInt32 31)).toInt32)) &&& 252645135))] := hl
  refine lv_iload_n hx hb d_In_bitCount_34 rfl (lv_at hl 0 rfl) ?_
  refine lv_iload_n hx hb d_In_bitCount_35 rfl (lv_at hl 0 rfl) ?_
  refine lv_bipush (v := 8) hx hb d_In_bitCount_36 (by decide) ?_
  refine lv_iushr hx hb d_In_bitCount_38 rfl ?_
  refine lv_iadd hx hb d_In_bitCount_39 ?_
  refine lv_istore_n hx hb d_In_bitCount_40 rfl hl (by decide) rfl (fun ls hl => ?_)
  have hl : lv_has ls 1 [(0, .int ((((((x0 - (((Int32.toUInt32 x0 >>> (Int32.toUInt32 1 &&& Int32.toUInt32 31)).toInt32) &&& 1431655765)) &&& 858993459) + (((Int32.toUInt32 (x0 - (((Int32.toUInt32 x0 >>> (Int32.toUInt32 1 &&& Int32.toUInt32 31)).toInt32) &&& 1431655765)) >>> (Int32.toUInt32 2 &&& Int32.toUInt32 31)).toInt32) &&& 858993459)) + ((Int32.toUInt32 (((x0 - (((Int32.toUInt32 x0 >>> (Int32.toUInt32 1 &&& Int32.toUInt32 31)).toInt32) &&& 1431655765)) &&& 858993459) + (((Int32.toUInt32 (x0 - (((Int32.toUInt32 x0 >>> (Int32.toUInt32 1 &&& Int32.toUInt32 31)).toInt32) &&& 1431655765)) >>> (Int32.toUInt32 2 &&& Int32.toUInt32 31)).toInt32) &&& 858993459)) >>> (Int32.toUInt32 4 &&& Int32.toUInt32 31)).toInt32)) &&& 252645135) + ((Int32.toUInt32 (((((x0 - (((Int32.toUInt32 x0 >>> (Int32.toUInt32 1 &&& Int32.toUInt32 31)).toInt32) &&& 1431655765)) &&& 858993459) + (((Int32.toUInt32 (x0 - (((Int32.toUInt32 x0 >>> (Int32.toUInt32 1 &&& Int32.toUInt32 31)).toInt32) &&& 1431655765)) >>> (Int32.toUInt32 2 &&& Int32.toUInt32 31)).toInt32) &&& 858993459)) + ((Int32.toUInt32 (((x0 - (((Int32.toUInt32 x0 >>> (Int32.toUInt32 1 &&& Int32.toUInt32 31)).toInt32) &&& 1431655765)) &&& 858993459) + (((Int32.toUInt32 (x0 - (((Int32.toUInt32 x0 >>> (Int32.toUInt32 1 &&& Int32.toUInt32 31)).toInt32) &&& 1431655765)) >>> (Int32.toUInt32 2 &&& Int32.toUInt32 31)).toInt32) &&& 858993459)) >>> (Int32.toUInt32 4 &&& Int32.toUInt32 31)).toInt32)) &&& 252645135) >>> (Int32.toUInt32 8 &&& Int32.toUInt32 31)).toInt32)))] := hl
  refine lv_iload_n hx hb d_In_bitCount_41 rfl (lv_at hl 0 rfl) ?_
  refine lv_iload_n hx hb d_In_bitCount_42 rfl (lv_at hl 0 rfl) ?_
  refine lv_bipush (v := 16) hx hb d_In_bitCount_43 (by decide) ?_
  refine lv_iushr hx hb d_In_bitCount_45 rfl ?_
  refine lv_iadd hx hb d_In_bitCount_46 ?_
  refine lv_istore_n hx hb d_In_bitCount_47 rfl hl (by decide) rfl (fun ls hl => ?_)
  have hl : lv_has ls 1 [(0, .int (((((((x0 - (((Int32.toUInt32 x0 >>> (Int32.toUInt32 1 &&& Int32.toUInt32 31)).toInt32) &&& 1431655765)) &&& 858993459) + (((Int32.toUInt32 (x0 - (((Int32.toUInt32 x0 >>> (Int32.toUInt32 1 &&& Int32.toUInt32 31)).toInt32) &&& 1431655765)) >>> (Int32.toUInt32 2 &&& Int32.toUInt32 31)).toInt32) &&& 858993459)) + ((Int32.toUInt32 (((x0 - (((Int32.toUInt32 x0 >>> (Int32.toUInt32 1 &&& Int32.toUInt32 31)).toInt32) &&& 1431655765)) &&& 858993459) + (((Int32.toUInt32 (x0 - (((Int32.toUInt32 x0 >>> (Int32.toUInt32 1 &&& Int32.toUInt32 31)).toInt32) &&& 1431655765)) >>> (Int32.toUInt32 2 &&& Int32.toUInt32 31)).toInt32) &&& 858993459)) >>> (Int32.toUInt32 4 &&& Int32.toUInt32 31)).toInt32)) &&& 252645135) + ((Int32.toUInt32 (((((x0 - (((Int32.toUInt32 x0 >>> (Int32.toUInt32 1 &&& Int32.toUInt32 31)).toInt32) &&& 1431655765)) &&& 858993459) + (((Int32.toUInt32 (x0 - (((Int32.toUInt32 x0 >>> (Int32.toUInt32 1 &&& Int32.toUInt32 31)).toInt32) &&& 1431655765)) >>> (Int32.toUInt32 2 &&& Int32.toUInt32 31)).toInt32) &&& 858993459)) + ((Int32.toUInt32 (((x0 - (((Int32.toUInt32 x0 >>> (Int32.toUInt32 1 &&& Int32.toUInt32 31)).toInt32) &&& 1431655765)) &&& 858993459) + (((Int32.toUInt32 (x0 - (((Int32.toUInt32 x0 >>> (Int32.toUInt32 1 &&& Int32.toUInt32 31)).toInt32) &&& 1431655765)) >>> (Int32.toUInt32 2 &&& Int32.toUInt32 31)).toInt32) &&& 858993459)) >>> (Int32.toUInt32 4 &&& Int32.toUInt32 31)).toInt32)) &&& 252645135) >>> (Int32.toUInt32 8 &&& Int32.toUInt32 31)).toInt32)) + ((Int32.toUInt32 ((((((x0 - (((Int32.toUInt32 x0 >>> (Int32.toUInt32 1 &&& Int32.toUInt32 31)).toInt32) &&& 1431655765)) &&& 858993459) + (((Int32.toUInt32 (x0 - (((Int32.toUInt32 x0 >>> (Int32.toUInt32 1 &&& Int32.toUInt32 31)).toInt32) &&& 1431655765)) >>> (Int32.toUInt32 2 &&& Int32.toUInt32 31)).toInt32) &&& 858993459)) + ((Int32.toUInt32 (((x0 - (((Int32.toUInt32 x0 >>> (Int32.toUInt32 1 &&& Int32.toUInt32 31)).toInt32) &&& 1431655765)) &&& 858993459) + (((Int32.toUInt32 (x0 - (((Int32.toUInt32 x0 >>> (Int32.toUInt32 1 &&& Int32.toUInt32 31)).toInt32) &&& 1431655765)) >>> (Int32.toUInt32 2 &&& Int32.toUInt32 31)).toInt32) &&& 858993459)) >>> (Int32.toUInt32 4 &&& Int32.toUInt32 31)).toInt32)) &&& 252645135) + ((Int32.toUInt32 (((((x0 - (((Int32.toUInt32 x0 >>> (Int32.toUInt32 1 &&& Int32.toUInt32 31)).toInt32) &&& 1431655765)) &&& 858993459) + (((Int32.toUInt32 (x0 - (((Int32.toUInt32 x0 >>> (Int32.toUInt32 1 &&& Int32.toUInt32 31)).toInt32) &&& 1431655765)) >>> (Int32.toUInt32 2 &&& Int32.toUInt32 31)).toInt32) &&& 858993459)) + ((Int32.toUInt32 (((x0 - (((Int32.toUInt32 x0 >>> (Int32.toUInt32 1 &&& Int32.toUInt32 31)).toInt32) &&& 1431655765)) &&& 858993459) + (((Int32.toUInt32 (x0 - (((Int32.toUInt32 x0 >>> (Int32.toUInt32 1 &&& Int32.toUInt32 31)).toInt32) &&& 1431655765)) >>> (Int32.toUInt32 2 &&& Int32.toUInt32 31)).toInt32) &&& 858993459)) >>> (Int32.toUInt32 4 &&& Int32.toUInt32 31)).toInt32)) &&& 252645135) >>> (Int32.toUInt32 8 &&& Int32.toUInt32 31)).toInt32)) >>> (Int32.toUInt32 16 &&& Int32.toUInt32 31)).toInt32)))] := hl
  refine lv_iload_n hx hb d_In_bitCount_48 rfl (lv_at hl 0 rfl) ?_
  refine lv_bipush (v := 63) hx hb d_In_bitCount_49 (by decide) ?_
  refine lv_iand hx hb d_In_bitCount_51 ?_
  subst hQ
  exact rt_i hx hb hr hlk (by simp only [C_In_bitCount]) rfl hP hS d_In_bitCount_52
set_option maxHeartbeats 4000000 in
set_option maxRecDepth 100000 in
theorem k_St_mark (l : Launch) (D : va_G) (a : CAd) (hA : ApC a) (u0 : CSt) (x1 : Int32) (x2 : Int32) : MC kl (cw a) (FA a) (tyC a) l D y_St_mark b_St_mark 3 none rm_St_mark [.ref a.2.2.2.2.1, .int x1, .int x2] u0 none (C_St_mark u0 x1 x2) := by
  refine MC.mk (by decide) (Nat.le_of_ble_eq_true rfl) ?_
  intro p e s m below meth c ls Q args H locs hx hb hr hml hown hts hlk hl hP hK hS hQ
  have hown : s.vm.findClass R_St = some m.cls := hown
  have hl : lv_has ls 3 [(0, .ref a.2.2.2.2.1), (1, .int x1), (2, .int x2)] := hl
  refine lv_aload_n hx hb d_St_mark_0 rfl (lv_at hl 0 rfl) ?_
  refine lv_iload_n hx hb d_St_mark_1 rfl (lv_at hl 2 rfl) ?_
  have hJ22 : ∀ (z22 : Int32), z22 = J_St_mark_22 u0 x1 x2 → W p l e rm_St_mark s m args below meth c H locs 0 0 Q (F0 m 22 ls [.int z22, .ref a.2.2.2.2.1]) := by
    intro z22 jz22
    refine va_put (D := D) (ci := 2) (v := .int z22) (ty := .int) (C := R_St) (T := F_St) (N := 1) hx hb hts (fun w h => wm (ui_St w h)) ft_St ft_St_ok fn_St hown hK hP (dd_C hA _) hS 4 rfl rfl 0 (by decide) (hts _ (wm t_107)) (fun _ h9 => h9) rfl (by decide +kernel) rfl rfl (Nat.le_of_ble_eq_true rfl) d_St_mark_22 (fun H locs hP _ hS => ?_)
    have hP : va_P D kl (cw a (u0.1, u0.2.1, z22, u0.2.2.2.1, u0.2.2.2.2.1, u0.2.2.2.2.2.1, u0.2.2.2.2.2.2)) H := hP
    subst hQ
    exact rt_v hx hb hr hlk (by simp only [C_St_mark, ← jz22]) hP hS d_St_mark_25
  refine lv_if_eq (tgt := 14) hx hb d_St_mark_2 (by decide) (fun h2 => ?_) (fun h2 => ?_)
  · refine lv_aload_n hx hb d_St_mark_14 rfl (lv_at hl 0 rfl) ?_
    refine va_get (D := D) (ci := 2) (v := .int u0.2.2.1) (C := R_St) (T := F_St) (N := 1) hx hb hts (fun w h => wm (ui_St w h)) hown hK hP 4 rfl rfl 0 (by decide) (hts _ (wm t_107)) (fun _ h9 => h9) rfl d_St_mark_15 ?_
    refine lv_iload_n hx hb d_St_mark_18 rfl (lv_at hl 1 rfl) ?_
    refine lv_iconst (v := (-1)) hx hb d_St_mark_19 (by decide) ?_
    refine lv_ixor hx hb d_St_mark_20 ?_
    refine lv_iand hx hb d_St_mark_21 ?_
    exact hJ22 (u0.2.2.1 &&& (x1 ^^^ (-1))) (by simp only [J_St_mark_22, if_pos h2])
  refine lv_aload_n hx hb d_St_mark_5 rfl (lv_at hl 0 rfl) ?_
  refine va_get (D := D) (ci := 2) (v := .int u0.2.2.1) (C := R_St) (T := F_St) (N := 1) hx hb hts (fun w h => wm (ui_St w h)) hown hK hP 4 rfl rfl 0 (by decide) (hts _ (wm t_107)) (fun _ h9 => h9) rfl d_St_mark_6 ?_
  refine lv_iload_n hx hb d_St_mark_9 rfl (lv_at hl 1 rfl) ?_
  refine lv_ior hx hb d_St_mark_10 ?_
  refine lv_goto (tgt := 22) hx hb d_St_mark_11 (by decide) ?_
  exact hJ22 (u0.2.2.1 ||| x1) (by simp only [J_St_mark_22, if_neg h2])
set_option maxHeartbeats 4000000 in
set_option maxRecDepth 100000 in
theorem k_St_markParity (l : Launch) (D : va_G) (a : CAd) (hA : ApC a) (u0 : CSt) (x1 : Int32) (x2 : Int32) : MC kl (cw a) (FA a) (tyC a) l D y_St_markParity b_St_markParity 3 none rm_St_markParity [.ref a.2.2.2.2.1, .int x1, .int x2] u0 none (C_St_markParity u0 x1 x2) := by
  refine MC.mk (by decide) (Nat.le_of_ble_eq_true rfl) ?_
  intro p e s m below meth c ls Q args H locs hx hb hr hml hown hts hlk hl hP hK hS hQ
  have hown : s.vm.findClass R_St = some m.cls := hown
  have hl : lv_has ls 3 [(0, .ref a.2.2.2.2.1), (1, .int x1), (2, .int x2)] := hl
  refine lv_iload_n hx hb d_St_markParity_0 rfl (lv_at hl 2 rfl) ?_
  refine lv_iconst (v := 1) hx hb d_St_markParity_1 (by decide) ?_
  refine lv_icmp_ne (tgt := 27) hx hb d_St_markParity_2 (by decide) (fun h2 => ?_) (fun h2 => ?_)
  · subst hQ
    exact rt_v hx hb hr hlk (by simp only [C_St_markParity, if_neg h2]) hP hS d_St_markParity_27
  refine lv_aload_n hx hb d_St_markParity_5 rfl (lv_at hl 0 rfl) ?_
  refine lv_sipush (v := 1024) hx hb d_St_markParity_6 (by decide) ?_
  refine lv_iload_n hx hb d_St_markParity_9 rfl (lv_at hl 1 rfl) ?_
  refine cl_S (k_In_bitCount l D a hA u0 x1) ⟨hx, hb, hml, hown, hts⟩ (va_cwS 1 hts (gi_S t_228 t_229 t_71 t_230) rfl rfl rfl (by decide +kernel) ⟨Nat.le_of_ble_eq_true rfl, Nat.le_of_ble_eq_true rfl⟩) hP hK hS rfl hl.1 rfl (Nat.le_of_ble_eq_true rfl) d_St_markParity_10 (nm_i (fun r10 e10 H locs hP hS => ?_))
  refine lv_iconst (v := 1) hx hb d_St_markParity_13 (by decide) ?_
  refine lv_iand hx hb d_St_markParity_14 ?_
  refine lv_iconst (v := 1) hx hb d_St_markParity_15 (by decide) ?_
  have hJ24 : ∀ (z24 : Int32), z24 = J_St_markParity_24 r10 → W p l e rm_St_markParity s m args below meth c H locs 0 0 Q (F0 m 24 ls [.int z24, .int 1024, .ref a.2.2.2.2.1]) := by
    intro z24 jz24
    refine cl_V (C := R_St) (k_St_mark l D a hA u0 1024 z24) ⟨hx, hb, hml, hown, hts⟩ (cwV 2 hts (gi_V t_234 t_235 t_236 t_65 t_237) rfl rfl rfl (by decide +kernel) ⟨Nat.le_of_ble_eq_true rfl, Nat.le_of_ble_eq_true rfl⟩) (va_recv (q0 := 4) (ci := 2) (q := (R_St, F_St, 1)) hK hP rfl rfl) hP hK hS rfl hl.1 rfl (Nat.le_of_ble_eq_true rfl) d_St_markParity_24 (nm_s (fun u24 e24 H locs hP hS => ?_))
    subst hQ
    exact rt_v hx hb hr hlk (by simp only [C_St_markParity, if_pos h2, ← e10, ← jz24, ← e24]) hP hS d_St_markParity_27
  refine lv_icmp_ne (tgt := 23) hx hb d_St_markParity_16 (by decide) (fun h16 => ?_) (fun h16 => ?_)
  · refine lv_iconst (v := 0) hx hb d_St_markParity_23 (by decide) ?_
    exact hJ24 0 (by simp only [J_St_markParity_24, if_neg h16])
  refine lv_iconst (v := 1) hx hb d_St_markParity_19 (by decide) ?_
  refine lv_goto (tgt := 24) hx hb d_St_markParity_20 (by decide) ?_
  exact hJ24 1 (by simp only [J_St_markParity_24, if_pos h16])
set_option maxHeartbeats 4000000 in
set_option maxRecDepth 100000 in
theorem k_St_tested (l : Launch) (D : va_G) (a : CAd) (hA : ApC a) (u0 : CSt) (x1 : Int32) : MC kl (cw a) (FA a) (tyC a) l D y_St_tested b_St_tested 2 (some .int) rm_St_tested [.ref a.2.2.2.2.1, .int x1] u0 (some (.int (C_St_tested u0 x1).1)) (C_St_tested u0 x1).2 := by
  refine MC.mk (by decide) (Nat.le_of_ble_eq_true rfl) ?_
  intro p e s m below meth c ls Q args H locs hx hb hr hml hown hts hlk hl hP hK hS hQ
  have hown : s.vm.findClass R_St = some m.cls := hown
  have hl : lv_has ls 2 [(0, .ref a.2.2.2.2.1), (1, .int x1)] := hl
  refine lv_aload_n hx hb d_St_tested_0 rfl (lv_at hl 0 rfl) ?_
  refine lv_iload_n hx hb d_St_tested_1 rfl (lv_at hl 1 rfl) ?_
  refine lv_iconst (v := 0) hx hb d_St_tested_2 (by decide) ?_
  refine cl_V (C := R_St) (k_St_compare l D a hA u0 x1 0) ⟨hx, hb, hml, hown, hts⟩ (cwV 2 hts (gi_V t_246 t_219 t_220 t_65 t_221) rfl rfl rfl (by decide +kernel) ⟨Nat.le_of_ble_eq_true rfl, Nat.le_of_ble_eq_true rfl⟩) (va_recv (q0 := 4) (ci := 2) (q := (R_St, F_St, 1)) hK hP rfl rfl) hP hK hS rfl hl.1 rfl (Nat.le_of_ble_eq_true rfl) d_St_tested_3 (nm_s (fun u3 e3 H locs hP hS => ?_))
  refine lv_iload_n hx hb d_St_tested_6 rfl (lv_at hl 1 rfl) ?_
  have hc : (x1, u3) = C_St_tested u0 x1 := by simp only [C_St_tested, ← e3]
  subst hQ
  exact rt_i hx hb hr hlk (congrArg Prod.fst hc) (congrArg Prod.snd hc) hP hS d_St_tested_7
set_option maxHeartbeats 4000000 in
set_option maxRecDepth 100000 in
theorem k_St_sum (l : Launch) (D : va_G) (a : CAd) (hA : ApC a) (u0 : CSt) (x1 : Int32) (x2 : Int32) (x3 : Int32) : MC kl (cw a) (FA a) (tyC a) l D y_St_sum b_St_sum 6 (some .int) rm_St_sum [.ref a.2.2.2.2.1, .int x1, .int x2, .int x3] u0 (some (.int (C_St_sum u0 x1 x2 x3).1)) (C_St_sum u0 x1 x2 x3).2 := by
  refine MC.mk (by decide) (Nat.le_of_ble_eq_true rfl) ?_
  intro p e s m below meth c ls Q args H locs hx hb hr hml hown hts hlk hl hP hK hS hQ
  have hown : s.vm.findClass R_St = some m.cls := hown
  have hl : lv_has ls 6 [(0, .ref a.2.2.2.2.1), (1, .int x1), (2, .int x2), (3, .int x3)] := hl
  refine lv_iload_n hx hb d_St_sum_0 rfl (lv_at hl 1 rfl) ?_
  refine lv_iload_n hx hb d_St_sum_1 rfl (lv_at hl 2 rfl) ?_
  refine lv_iadd hx hb d_St_sum_2 ?_
  refine lv_iload_n hx hb d_St_sum_3 rfl (lv_at hl 3 rfl) ?_
  refine lv_iadd hx hb d_St_sum_4 ?_
  refine lv_istore hx hb d_St_sum_5 hl (by decide) rfl (fun ls hl => ?_)
  have hl : lv_has ls 6 [(4, .int ((x1 + x2) + x3)), (0, .ref a.2.2.2.2.1), (1, .int x1), (2, .int x2), (3, .int x3)] := hl
  refine lv_iload hx hb d_St_sum_7 (lv_at hl 0 rfl) ?_
  refine lv_ldc (v := 65535) hx hb hown (hts _ (wm t_252)) d_St_sum_9 ?_
  refine lv_iand hx hb d_St_sum_11 ?_
  refine lv_istore hx hb d_St_sum_12 hl (by decide) rfl (fun ls hl => ?_)
  have hl : lv_has ls 6 [(5, .int (((x1 + x2) + x3) &&& 65535)), (4, .int ((x1 + x2) + x3)), (0, .ref a.2.2.2.2.1), (1, .int x1), (2, .int x2), (3, .int x3)] := hl
  refine lv_aload_n hx hb d_St_sum_14 rfl (lv_at hl 2 rfl) ?_
  refine lv_sipush (v := 4096) hx hb d_St_sum_15 (by decide) ?_
  refine lv_iload hx hb d_St_sum_18 (lv_at hl 1 rfl) ?_
  refine lv_ldc (v := 65535) hx hb hown (hts _ (wm t_252)) d_St_sum_20 ?_
  have hJ30 : ∀ (z30 : Int32), z30 = J_St_sum_30 x1 x2 x3 → W p l e rm_St_sum s m args below meth c H locs 0 0 Q (F0 m 30 ls [.int z30, .int 4096, .ref a.2.2.2.2.1]) := by
    intro z30 jz30
    refine cl_V (C := R_St) (k_St_mark l D a hA u0 4096 z30) ⟨hx, hb, hml, hown, hts⟩ (cwV 2 hts (gi_V t_234 t_235 t_236 t_65 t_237) rfl rfl rfl (by decide +kernel) ⟨Nat.le_of_ble_eq_true rfl, Nat.le_of_ble_eq_true rfl⟩) (va_recv (q0 := 4) (ci := 2) (q := (R_St, F_St, 1)) hK hP rfl rfl) hP hK hS rfl hl.1 rfl (Nat.le_of_ble_eq_true rfl) d_St_sum_30 (nm_s (fun u30 e30 H locs hP hS => ?_))
    refine lv_aload_n hx hb d_St_sum_33 rfl (lv_at hl 2 rfl) ?_
    refine lv_sipush (v := 2048) hx hb d_St_sum_34 (by decide) ?_
    refine lv_iload_n hx hb d_St_sum_37 rfl (lv_at hl 3 rfl) ?_
    refine lv_iload hx hb d_St_sum_38 (lv_at hl 0 rfl) ?_
    refine lv_ixor hx hb d_St_sum_40 ?_
    refine lv_iload_n hx hb d_St_sum_41 rfl (lv_at hl 4 rfl) ?_
    refine lv_iload hx hb d_St_sum_42 (lv_at hl 0 rfl) ?_
    refine lv_ixor hx hb d_St_sum_44 ?_
    refine lv_iand hx hb d_St_sum_45 ?_
    refine lv_ldc (v := 32768) hx hb hown (hts _ (wm t_222)) d_St_sum_46 ?_
    refine lv_iand hx hb d_St_sum_48 ?_
    have hJ57 : ∀ (z57 : Int32), z57 = J_St_sum_57 x1 x2 x3 → W p l e rm_St_sum s m args below meth c H locs 0 0 Q (F0 m 57 ls [.int z57, .int 2048, .ref a.2.2.2.2.1]) := by
      intro z57 jz57
      refine cl_V (C := R_St) (k_St_mark l D a hA u30 2048 z57) ⟨hx, hb, hml, hown, hts⟩ (cwV 2 hts (gi_V t_234 t_235 t_236 t_65 t_237) rfl rfl rfl (by decide +kernel) ⟨Nat.le_of_ble_eq_true rfl, Nat.le_of_ble_eq_true rfl⟩) (va_recv (q0 := 4) (ci := 2) (q := (R_St, F_St, 1)) hK hP rfl rfl) hP hK hS rfl hl.1 rfl (Nat.le_of_ble_eq_true rfl) d_St_sum_57 (nm_s (fun u57 e57 H locs hP hS => ?_))
      refine lv_aload_n hx hb d_St_sum_60 rfl (lv_at hl 2 rfl) ?_
      refine lv_iload hx hb d_St_sum_61 (lv_at hl 0 rfl) ?_
      refine cl_V (C := R_St) (k_St_tested l D a hA u57 (((x1 + x2) + x3) &&& 65535)) ⟨hx, hb, hml, hown, hts⟩ (cwV 1 hts (gi_V t_253 t_243 t_244 t_65 t_245) rfl rfl rfl (by decide +kernel) ⟨Nat.le_of_ble_eq_true rfl, Nat.le_of_ble_eq_true rfl⟩) (va_recv (q0 := 4) (ci := 2) (q := (R_St, F_St, 1)) hK hP rfl rfl) hP hK hS rfl hl.1 rfl (Nat.le_of_ble_eq_true rfl) d_St_sum_63 (nm_is (fun r63 u63 e63 f63 H locs hP hS => ?_))
      have hc : (r63, u63) = C_St_sum u0 x1 x2 x3 := by simp only [C_St_sum, ← jz30, ← e30, ← jz57, ← e57, ← e63, ← f63]
      subst hQ
      exact rt_i hx hb hr hlk (congrArg Prod.fst hc) (congrArg Prod.snd hc) hP hS d_St_sum_66
    refine lv_if_eq (tgt := 56) hx hb d_St_sum_49 (by decide) (fun h49 => ?_) (fun h49 => ?_)
    · refine lv_iconst (v := 0) hx hb d_St_sum_56 (by decide) ?_
      exact hJ57 0 (by simp only [J_St_sum_57, if_pos h49])
    refine lv_iconst (v := 1) hx hb d_St_sum_52 (by decide) ?_
    refine lv_goto (tgt := 57) hx hb d_St_sum_53 (by decide) ?_
    exact hJ57 1 (by simp only [J_St_sum_57, if_neg h49])
  refine lv_icmp_le (tgt := 29) hx hb d_St_sum_22 (by decide) (fun h22 => ?_) (fun h22 => ?_)
  · refine lv_iconst (v := 0) hx hb d_St_sum_29 (by decide) ?_
    exact hJ30 0 (by simp only [J_St_sum_30, if_pos h22])
  refine lv_iconst (v := 1) hx hb d_St_sum_25 (by decide) ?_
  refine lv_goto (tgt := 30) hx hb d_St_sum_26 (by decide) ?_
  exact hJ30 1 (by simp only [J_St_sum_30, if_neg h22])
set_option maxHeartbeats 4000000 in
set_option maxRecDepth 100000 in
theorem k_M_combined (l : Launch) (D : va_G) (a : CAd) (hA : ApC a) (u0 : CSt) (x1 : Int32) (x2 : Int32) (x3 : Int32) : MC kl (cw a) (FA a) (tyC a) l D y_M_combined b_M_combined 4 (some .int) rm_M_combined [.ref a.1, .int x1, .int x2, .int x3] u0 (some (.int (C_M_combined u0 x1 x2 x3).1)) (C_M_combined u0 x1 x2 x3).2 := by
  refine MC.mk (by decide) (Nat.le_of_ble_eq_true rfl) ?_
  intro p e s m below meth c ls Q args H locs hx hb hr hml hown hts hlk hl hP hK hS hQ
  have hown : s.vm.findClass R_M = some m.cls := hown
  have hl : lv_has ls 4 [(0, .ref a.1), (1, .int x1), (2, .int x2), (3, .int x3)] := hl
  refine lv_iload_n hx hb d_M_combined_0 rfl (lv_at hl 1 rfl) ?_
  by_cases h1_0 : x1 = 2
  · refine lv_tableIn (off := 35) (tgt := 36) hx hb d_M_combined_1 (by rw [h1_0]; decide) (by rw [h1_0]; decide) (by rw [h1_0]; decide +kernel) (by decide) ?_
    refine lv_aload_n hx hb d_M_combined_36 rfl (lv_at hl 0 rfl) ?_
    refine va_get (D := D) (ci := 3) (v := .ref a.2.2.2.2.1) (C := R_M) (T := F_M) (N := 7) hx hb hts (fun w h => wm (ui_M w h)) hown hK hP 0 rfl rfl 2 (by decide) (hts _ (wm t_113)) (fun _ h9 => h9) rfl d_M_combined_37 ?_
    refine lv_iload_n hx hb d_M_combined_40 rfl (lv_at hl 3 rfl) ?_
    refine lv_iload_n hx hb d_M_combined_41 rfl (lv_at hl 2 rfl) ?_
    refine lv_iconst (v := (-1)) hx hb d_M_combined_42 (by decide) ?_
    refine lv_ixor hx hb d_M_combined_43 ?_
    refine lv_iand hx hb d_M_combined_44 ?_
    refine cl_V (C := R_St) (k_St_tested l D a hA u0 (x3 &&& (x2 ^^^ (-1)))) ⟨hx, hb, hml, hown, hts⟩ (cwV 1 hts (gi_V t_242 t_243 t_244 t_65 t_245) rfl rfl rfl (by decide +kernel) ⟨Nat.le_of_ble_eq_true rfl, Nat.le_of_ble_eq_true rfl⟩) (va_recv (q0 := 4) (ci := 2) (q := (R_St, F_St, 1)) hK hP rfl rfl) hP hK hS rfl hl.1 rfl (Nat.le_of_ble_eq_true rfl) d_M_combined_45 (nm_is (fun r45 u45 e45 f45 H locs hP hS => ?_))
    have hc : (r45, u45) = C_M_combined u0 x1 x2 x3 := by simp only [C_M_combined, if_pos h1_0, ← e45, ← f45]
    subst hQ
    exact rt_i hx hb hr hlk (congrArg Prod.fst hc) (congrArg Prod.snd hc) hP hS d_M_combined_48
  by_cases h1_1 : x1 = 3
  · refine lv_tableIn (off := 48) (tgt := 49) hx hb d_M_combined_1 (by rw [h1_1]; decide) (by rw [h1_1]; decide) (by rw [h1_1]; decide +kernel) (by decide) ?_
    refine lv_aload_n hx hb d_M_combined_49 rfl (lv_at hl 0 rfl) ?_
    refine va_get (D := D) (ci := 3) (v := .ref a.2.2.2.2.1) (C := R_M) (T := F_M) (N := 7) hx hb hts (fun w h => wm (ui_M w h)) hown hK hP 0 rfl rfl 2 (by decide) (hts _ (wm t_113)) (fun _ h9 => h9) rfl d_M_combined_50 ?_
    refine lv_iload_n hx hb d_M_combined_53 rfl (lv_at hl 3 rfl) ?_
    refine lv_iload_n hx hb d_M_combined_54 rfl (lv_at hl 2 rfl) ?_
    refine lv_iconst (v := (-1)) hx hb d_M_combined_55 (by decide) ?_
    refine lv_ixor hx hb d_M_combined_56 ?_
    refine lv_ldc (v := 65535) hx hb hown (hts _ (wm t_247)) d_M_combined_57 ?_
    refine lv_iand hx hb d_M_combined_59 ?_
    refine lv_iconst (v := 1) hx hb d_M_combined_60 (by decide) ?_
    refine cl_V (C := R_St) (k_St_sum l D a hA u0 x3 ((x2 ^^^ (-1)) &&& 65535) 1) ⟨hx, hb, hml, hown, hts⟩ (cwV 3 hts (gi_V t_248 t_249 t_250 t_65 t_251) rfl rfl rfl (by decide +kernel) ⟨Nat.le_of_ble_eq_true rfl, Nat.le_of_ble_eq_true rfl⟩) (va_recv (q0 := 4) (ci := 2) (q := (R_St, F_St, 1)) hK hP rfl rfl) hP hK hS rfl hl.1 rfl (Nat.le_of_ble_eq_true rfl) d_M_combined_61 (nm_is (fun r61 u61 e61 f61 H locs hP hS => ?_))
    have hc : (r61, u61) = C_M_combined u0 x1 x2 x3 := by simp only [C_M_combined, if_neg h1_0, if_pos h1_1, ← e61, ← f61]
    subst hQ
    exact rt_i hx hb hr hlk (congrArg Prod.fst hc) (congrArg Prod.snd hc) hP hS d_M_combined_64
  by_cases h1_2 : x1 = 4
  · refine lv_tableIn (off := 84) (tgt := 85) hx hb d_M_combined_1 (by rw [h1_2]; decide) (by rw [h1_2]; decide) (by rw [h1_2]; decide +kernel) (by decide) ?_
    refine lv_aload_n hx hb d_M_combined_85 rfl (lv_at hl 0 rfl) ?_
    refine va_get (D := D) (ci := 3) (v := .ref a.2.2.2.2.1) (C := R_M) (T := F_M) (N := 7) hx hb hts (fun w h => wm (ui_M w h)) hown hK hP 0 rfl rfl 2 (by decide) (hts _ (wm t_113)) (fun _ h9 => h9) rfl d_M_combined_86 ?_
    refine lv_iload_n hx hb d_M_combined_89 rfl (lv_at hl 3 rfl) ?_
    refine lv_iload_n hx hb d_M_combined_90 rfl (lv_at hl 2 rfl) ?_
    refine lv_ior hx hb d_M_combined_91 ?_
    refine cl_V (C := R_St) (k_St_tested l D a hA u0 (x3 ||| x2)) ⟨hx, hb, hml, hown, hts⟩ (cwV 1 hts (gi_V t_242 t_243 t_244 t_65 t_245) rfl rfl rfl (by decide +kernel) ⟨Nat.le_of_ble_eq_true rfl, Nat.le_of_ble_eq_true rfl⟩) (va_recv (q0 := 4) (ci := 2) (q := (R_St, F_St, 1)) hK hP rfl rfl) hP hK hS rfl hl.1 rfl (Nat.le_of_ble_eq_true rfl) d_M_combined_92 (nm_is (fun r92 u92 e92 f92 H locs hP hS => ?_))
    have hc : (r92, u92) = C_M_combined u0 x1 x2 x3 := by simp only [C_M_combined, if_neg h1_0, if_neg h1_1, if_pos h1_2, ← e92, ← f92]
    subst hQ
    exact rt_i hx hb hr hlk (congrArg Prod.fst hc) (congrArg Prod.snd hc) hP hS d_M_combined_95
  by_cases h1_3 : x1 = 5
  · refine lv_tableIn (off := 64) (tgt := 65) hx hb d_M_combined_1 (by rw [h1_3]; decide) (by rw [h1_3]; decide) (by rw [h1_3]; decide +kernel) (by decide) ?_
    refine lv_aload_n hx hb d_M_combined_65 rfl (lv_at hl 0 rfl) ?_
    refine va_get (D := D) (ci := 3) (v := .ref a.2.2.2.2.1) (C := R_M) (T := F_M) (N := 7) hx hb hts (fun w h => wm (ui_M w h)) hown hK hP 0 rfl rfl 2 (by decide) (hts _ (wm t_113)) (fun _ h9 => h9) rfl d_M_combined_66 ?_
    refine lv_iload_n hx hb d_M_combined_69 rfl (lv_at hl 3 rfl) ?_
    refine lv_iload_n hx hb d_M_combined_70 rfl (lv_at hl 2 rfl) ?_
    refine lv_iconst (v := 0) hx hb d_M_combined_71 (by decide) ?_
    refine cl_V (C := R_St) (k_St_sum l D a hA u0 x3 x2 0) ⟨hx, hb, hml, hown, hts⟩ (cwV 3 hts (gi_V t_248 t_249 t_250 t_65 t_251) rfl rfl rfl (by decide +kernel) ⟨Nat.le_of_ble_eq_true rfl, Nat.le_of_ble_eq_true rfl⟩) (va_recv (q0 := 4) (ci := 2) (q := (R_St, F_St, 1)) hK hP rfl rfl) hP hK hS rfl hl.1 rfl (Nat.le_of_ble_eq_true rfl) d_M_combined_72 (nm_is (fun r72 u72 e72 f72 H locs hP hS => ?_))
    have hc : (r72, u72) = C_M_combined u0 x1 x2 x3 := by simp only [C_M_combined, if_neg h1_0, if_neg h1_1, if_neg h1_2, if_pos h1_3, ← e72, ← f72]
    subst hQ
    exact rt_i hx hb hr hlk (congrArg Prod.fst hc) (congrArg Prod.snd hc) hP hS d_M_combined_75
  by_cases h1_4 : x1 = 6
  · refine lv_tableIn (off := 75) (tgt := 76) hx hb d_M_combined_1 (by rw [h1_4]; decide) (by rw [h1_4]; decide) (by rw [h1_4]; decide +kernel) (by decide) ?_
    refine lv_aload_n hx hb d_M_combined_76 rfl (lv_at hl 0 rfl) ?_
    refine va_get (D := D) (ci := 3) (v := .ref a.2.2.2.2.1) (C := R_M) (T := F_M) (N := 7) hx hb hts (fun w h => wm (ui_M w h)) hown hK hP 0 rfl rfl 2 (by decide) (hts _ (wm t_113)) (fun _ h9 => h9) rfl d_M_combined_77 ?_
    refine lv_iload_n hx hb d_M_combined_80 rfl (lv_at hl 2 rfl) ?_
    refine cl_V (C := R_St) (k_St_tested l D a hA u0 x2) ⟨hx, hb, hml, hown, hts⟩ (cwV 1 hts (gi_V t_242 t_243 t_244 t_65 t_245) rfl rfl rfl (by decide +kernel) ⟨Nat.le_of_ble_eq_true rfl, Nat.le_of_ble_eq_true rfl⟩) (va_recv (q0 := 4) (ci := 2) (q := (R_St, F_St, 1)) hK hP rfl rfl) hP hK hS rfl hl.1 rfl (Nat.le_of_ble_eq_true rfl) d_M_combined_81 (nm_is (fun r81 u81 e81 f81 H locs hP hS => ?_))
    have hc : (r81, u81) = C_M_combined u0 x1 x2 x3 := by simp only [C_M_combined, if_neg h1_0, if_neg h1_1, if_neg h1_2, if_neg h1_3, if_pos h1_4, ← e81, ← f81]
    subst hQ
    exact rt_i hx hb hr hlk (congrArg Prod.fst hc) (congrArg Prod.snd hc) hP hS d_M_combined_84
  have n1_0 := lv_neT h1_0 (a := 2) (by decide)
  have n1_1 := lv_neT h1_1 (a := 3) (by decide)
  have n1_2 := lv_neT h1_2 (a := 4) (by decide)
  have n1_3 := lv_neT h1_3 (a := 5) (by decide)
  have n1_4 := lv_neT h1_4 (a := 6) (by decide)
  refine lv_tableOut (tgt := 85) hx hb d_M_combined_1 (by omega) (by decide) ?_
  refine lv_aload_n hx hb d_M_combined_85 rfl (lv_at hl 0 rfl) ?_
  refine va_get (D := D) (ci := 3) (v := .ref a.2.2.2.2.1) (C := R_M) (T := F_M) (N := 7) hx hb hts (fun w h => wm (ui_M w h)) hown hK hP 0 rfl rfl 2 (by decide) (hts _ (wm t_113)) (fun _ h9 => h9) rfl d_M_combined_86 ?_
  refine lv_iload_n hx hb d_M_combined_89 rfl (lv_at hl 3 rfl) ?_
  refine lv_iload_n hx hb d_M_combined_90 rfl (lv_at hl 2 rfl) ?_
  refine lv_ior hx hb d_M_combined_91 ?_
  refine cl_V (C := R_St) (k_St_tested l D a hA u0 (x3 ||| x2)) ⟨hx, hb, hml, hown, hts⟩ (cwV 1 hts (gi_V t_242 t_243 t_244 t_65 t_245) rfl rfl rfl (by decide +kernel) ⟨Nat.le_of_ble_eq_true rfl, Nat.le_of_ble_eq_true rfl⟩) (va_recv (q0 := 4) (ci := 2) (q := (R_St, F_St, 1)) hK hP rfl rfl) hP hK hS rfl hl.1 rfl (Nat.le_of_ble_eq_true rfl) d_M_combined_92 (nm_is (fun r92 u92 e92 f92 H locs hP hS => ?_))
  have hc : (r92, u92) = C_M_combined u0 x1 x2 x3 := by simp only [C_M_combined, if_neg h1_0, if_neg h1_1, if_neg h1_2, if_neg h1_3, if_neg h1_4, ← e92, ← f92]
  subst hQ
  exact rt_i hx hb hr hlk (congrArg Prod.fst hc) (congrArg Prod.snd hc) hP hS d_M_combined_95
set_option maxHeartbeats 4000000 in
set_option maxRecDepth 100000 in
theorem k_Me_store (l : Launch) (D : va_G) (a : CAd) (hA : ApC a) (u0 : CSt) (x1 : Int32) (x2 : Int32) (x3 : Int32) : MC kl (cw a) (FA a) (tyC a) l D y_Me_store b_Me_store 4 none rm_Me_store [.ref a.2.1, .int x1, .int x2, .int x3] u0 none (C_Me_store u0 x1 x2 x3) := by
  refine MC.mk (by decide) (Nat.le_of_ble_eq_true rfl) ?_
  intro p e s m below meth c ls Q args H locs hx hb hr hml hown hts hlk hl hP hK hS hQ
  have hown : s.vm.findClass R_Me = some m.cls := hown
  have hl : lv_has ls 4 [(0, .ref a.2.1), (1, .int x1), (2, .int x2), (3, .int x3)] := hl
  refine lv_iload_n hx hb d_Me_store_0 rfl (lv_at hl 3 rfl) ?_
  refine lv_iconst (v := 2) hx hb d_Me_store_1 (by decide) ?_
  refine lv_icmp_ne (tgt := 14) hx hb d_Me_store_2 (by decide) (fun h2 => ?_) (fun h2 => ?_)
  · refine lv_iload_n hx hb d_Me_store_14 rfl (lv_at hl 1 rfl) ?_
    refine cl_S (k_Me_isUpper l D a hA u0 x1) ⟨hx, hb, hml, hown, hts⟩ (va_cwS 1 hts (gi_S t_214 t_215 t_63 t_216) rfl rfl rfl (by decide +kernel) ⟨Nat.le_of_ble_eq_true rfl, Nat.le_of_ble_eq_true rfl⟩) hP hK hS rfl hl.1 rfl (Nat.le_of_ble_eq_true rfl) d_Me_store_15 (nm_i (fun r15 e15 H locs hP hS => ?_))
    refine lv_if_eq (tgt := 43) hx hb d_Me_store_18 (by decide) (fun h18 => ?_) (fun h18 => ?_)
    · refine lv_aload_n hx hb d_Me_store_43 rfl (lv_at hl 0 rfl) ?_
      refine lv_iload_n hx hb d_Me_store_44 rfl (lv_at hl 1 rfl) ?_
      refine lv_aload_n hx hb d_Me_store_45 rfl (lv_at hl 0 rfl) ?_
      refine lv_iload_n hx hb d_Me_store_46 rfl (lv_at hl 1 rfl) ?_
      refine cl_V (C := R_Me) (k_Me_word l D a hA u0 x1) ⟨hx, hb, hml, hown, hts⟩ (cwV 1 hts (gi_V t_213 t_142 t_143 t_63 t_144) rfl rfl rfl (by decide +kernel) ⟨Nat.le_of_ble_eq_true rfl, Nat.le_of_ble_eq_true rfl⟩) (va_recv (q0 := 1) (ci := 1) (q := (R_Me, F_Me, 1)) hK hP rfl rfl) hP hK hS rfl hl.1 rfl (Nat.le_of_ble_eq_true rfl) d_Me_store_47 (nm_i (fun r47 e47 H locs hP hS => ?_))
      refine lv_ldc (v := 65280) hx hb hown (hts _ (wm t_217)) d_Me_store_50 ?_
      refine lv_iand hx hb d_Me_store_52 ?_
      refine lv_iload_n hx hb d_Me_store_53 rfl (lv_at hl 2 rfl) ?_
      refine lv_bipush (v := 8) hx hb d_Me_store_54 (by decide) ?_
      refine lv_ishr hx hb d_Me_store_56 ?_
      refine lv_ior hx hb d_Me_store_57 ?_
      refine cl_V (C := R_Me) (k_Me_setWord l D a hA u0 x1 ((r47 &&& 65280) ||| (x2 >>> ((8 : Int32) &&& 31)))) ⟨hx, hb, hml, hown, hts⟩ (cwV 2 hts (gi_V t_258 t_158 t_159 t_63 t_160) rfl rfl rfl (by decide +kernel) ⟨Nat.le_of_ble_eq_true rfl, Nat.le_of_ble_eq_true rfl⟩) (va_recv (q0 := 1) (ci := 1) (q := (R_Me, F_Me, 1)) hK hP rfl rfl) hP hK hS rfl hl.1 rfl (Nat.le_of_ble_eq_true rfl) d_Me_store_58 (nm_s (fun u58 e58 H locs hP hS => ?_))
      subst hQ
      exact rt_v hx hb hr hlk (by simp only [C_Me_store, if_neg h2, ← e15, if_pos h18, ← e47, ← e58]) hP hS d_Me_store_61
    refine lv_aload_n hx hb d_Me_store_21 rfl (lv_at hl 0 rfl) ?_
    refine lv_iload_n hx hb d_Me_store_22 rfl (lv_at hl 1 rfl) ?_
    refine lv_iload_n hx hb d_Me_store_23 rfl (lv_at hl 2 rfl) ?_
    refine lv_ldc (v := 65280) hx hb hown (hts _ (wm t_217)) d_Me_store_24 ?_
    refine lv_iand hx hb d_Me_store_26 ?_
    refine lv_aload_n hx hb d_Me_store_27 rfl (lv_at hl 0 rfl) ?_
    refine lv_iload_n hx hb d_Me_store_28 rfl (lv_at hl 1 rfl) ?_
    refine cl_V (C := R_Me) (k_Me_word l D a hA u0 x1) ⟨hx, hb, hml, hown, hts⟩ (cwV 1 hts (gi_V t_213 t_142 t_143 t_63 t_144) rfl rfl rfl (by decide +kernel) ⟨Nat.le_of_ble_eq_true rfl, Nat.le_of_ble_eq_true rfl⟩) (va_recv (q0 := 1) (ci := 1) (q := (R_Me, F_Me, 1)) hK hP rfl rfl) hP hK hS rfl hl.1 rfl (Nat.le_of_ble_eq_true rfl) d_Me_store_29 (nm_i (fun r29 e29 H locs hP hS => ?_))
    refine lv_sipush (v := 255) hx hb d_Me_store_32 (by decide) ?_
    refine lv_iand hx hb d_Me_store_35 ?_
    refine lv_ior hx hb d_Me_store_36 ?_
    refine cl_V (C := R_Me) (k_Me_setWord l D a hA u0 x1 ((x2 &&& 65280) ||| (r29 &&& 255))) ⟨hx, hb, hml, hown, hts⟩ (cwV 2 hts (gi_V t_258 t_158 t_159 t_63 t_160) rfl rfl rfl (by decide +kernel) ⟨Nat.le_of_ble_eq_true rfl, Nat.le_of_ble_eq_true rfl⟩) (va_recv (q0 := 1) (ci := 1) (q := (R_Me, F_Me, 1)) hK hP rfl rfl) hP hK hS rfl hl.1 rfl (Nat.le_of_ble_eq_true rfl) d_Me_store_37 (nm_s (fun u37 e37 H locs hP hS => ?_))
    refine lv_goto (tgt := 61) hx hb d_Me_store_40 (by decide) ?_
    subst hQ
    exact rt_v hx hb hr hlk (by simp only [C_Me_store, if_neg h2, ← e15, if_neg h18, ← e29, ← e37]) hP hS d_Me_store_61
  refine lv_aload_n hx hb d_Me_store_5 rfl (lv_at hl 0 rfl) ?_
  refine lv_iload_n hx hb d_Me_store_6 rfl (lv_at hl 1 rfl) ?_
  refine lv_iload_n hx hb d_Me_store_7 rfl (lv_at hl 2 rfl) ?_
  refine cl_V (C := R_Me) (k_Me_setWord l D a hA u0 x1 x2) ⟨hx, hb, hml, hown, hts⟩ (cwV 2 hts (gi_V t_258 t_158 t_159 t_63 t_160) rfl rfl rfl (by decide +kernel) ⟨Nat.le_of_ble_eq_true rfl, Nat.le_of_ble_eq_true rfl⟩) (va_recv (q0 := 1) (ci := 1) (q := (R_Me, F_Me, 1)) hK hP rfl rfl) hP hK hS rfl hl.1 rfl (Nat.le_of_ble_eq_true rfl) d_Me_store_8 (nm_s (fun u8 e8 H locs hP hS => ?_))
  refine lv_goto (tgt := 61) hx hb d_Me_store_11 (by decide) ?_
  subst hQ
  exact rt_v hx hb hr hlk (by simp only [C_Me_store, if_pos h2, ← e8]) hP hS d_Me_store_61
set_option maxHeartbeats 4000000 in
set_option maxRecDepth 100000 in
theorem k_M_runOnTwoOperands (l : Launch) (D : va_G) (a : CAd) (hA : ApC a) (u0 : CSt) (x1 : Int32) : MC kl (cw a) (FA a) (tyC a) l D y_M_runOnTwoOperands b_M_runOnTwoOperands 8 (some .int) rm_M_runOnTwoOperands [.ref a.1, .int x1] u0 (some (.int (C_M_runOnTwoOperands u0 x1).1)) (C_M_runOnTwoOperands u0 x1).2 := by
  refine MC.mk (by decide) (Nat.le_of_ble_eq_true rfl) ?_
  intro p e s m below meth c ls Q args H locs hx hb hr hml hown hts hlk hl hP hK hS hQ
  have hown : s.vm.findClass R_M = some m.cls := hown
  have hl : lv_has ls 8 [(0, .ref a.1), (1, .int x1)] := hl
  refine lv_iload_n hx hb d_M_runOnTwoOperands_0 rfl (lv_at hl 1 rfl) ?_
  refine lv_sipush (v := 4096) hx hb d_M_runOnTwoOperands_1 (by decide) ?_
  refine lv_iand hx hb d_M_runOnTwoOperands_4 ?_
  have hJ13 : ∀ (z13 : Int32), z13 = J_M_runOnTwoOperands_13 x1 → W p l e rm_M_runOnTwoOperands s m args below meth c H locs 0 0 Q (F0 m 13 ls [.int z13]) := by
    intro z13 jz13
    refine lv_istore_n hx hb d_M_runOnTwoOperands_13 rfl hl (by decide) rfl (fun ls hl => ?_)
    have hl : lv_has ls 8 [(2, .int z13), (0, .ref a.1), (1, .int x1)] := hl
    refine lv_aload_n hx hb d_M_runOnTwoOperands_14 rfl (lv_at hl 1 rfl) ?_
    refine va_get (D := D) (ci := 3) (v := .ref a.2.1) (C := R_M) (T := F_M) (N := 7) hx hb hts (fun w h => wm (ui_M w h)) hown hK hP 0 rfl rfl 0 (by decide) (hts _ (wm t_111)) (fun _ h9 => h9) rfl d_M_runOnTwoOperands_15 ?_
    refine lv_aload_n hx hb d_M_runOnTwoOperands_18 rfl (lv_at hl 1 rfl) ?_
    refine lv_iload_n hx hb d_M_runOnTwoOperands_19 rfl (lv_at hl 2 rfl) ?_
    refine lv_iload_n hx hb d_M_runOnTwoOperands_20 rfl (lv_at hl 0 rfl) ?_
    refine cl_V (C := R_M) (k_M_operandAddress l D a hA u0 x1 z13) ⟨hx, hb, hml, hown, hts⟩ (cwV 2 hts (gi_V t_197 t_199 t_8 t_62 t_200) rfl rfl rfl (by decide +kernel) ⟨Nat.le_of_ble_eq_true rfl, Nat.le_of_ble_eq_true rfl⟩) (va_recv (q0 := 0) (ci := 3) (q := (R_M, F_M, 7)) hK hP rfl rfl) hP hK hS rfl hl.1 rfl (Nat.le_of_ble_eq_true rfl) d_M_runOnTwoOperands_21 (nm_is (fun r21 u21 e21 f21 H locs hP hS => ?_))
    refine lv_iload_n hx hb d_M_runOnTwoOperands_24 rfl (lv_at hl 0 rfl) ?_
    refine cl_V (C := R_Me) (k_Me_load l D a hA u21 r21 z13) ⟨hx, hb, hml, hown, hts⟩ (cwV 2 hts (gi_V t_209 t_210 t_211 t_63 t_212) rfl rfl rfl (by decide +kernel) ⟨Nat.le_of_ble_eq_true rfl, Nat.le_of_ble_eq_true rfl⟩) (va_recv (q0 := 1) (ci := 1) (q := (R_Me, F_Me, 1)) hK hP rfl rfl) hP hK hS rfl hl.1 rfl (Nat.le_of_ble_eq_true rfl) d_M_runOnTwoOperands_25 (nm_i (fun r25 e25 H locs hP hS => ?_))
    refine lv_istore_n hx hb d_M_runOnTwoOperands_28 rfl hl (by decide) rfl (fun ls hl => ?_)
    have hl : lv_has ls 8 [(3, .int r25), (2, .int z13), (0, .ref a.1), (1, .int x1)] := hl
    refine lv_aload_n hx hb d_M_runOnTwoOperands_29 rfl (lv_at hl 2 rfl) ?_
    refine lv_iload_n hx hb d_M_runOnTwoOperands_30 rfl (lv_at hl 3 rfl) ?_
    refine lv_bipush (v := 6) hx hb d_M_runOnTwoOperands_31 (by decide) ?_
    refine lv_ishr hx hb d_M_runOnTwoOperands_33 ?_
    refine lv_iload_n hx hb d_M_runOnTwoOperands_34 rfl (lv_at hl 1 rfl) ?_
    refine cl_V (C := R_M) (k_M_operandAddress l D a hA u21 (x1 >>> ((6 : Int32) &&& 31)) z13) ⟨hx, hb, hml, hown, hts⟩ (cwV 2 hts (gi_V t_197 t_199 t_8 t_62 t_200) rfl rfl rfl (by decide +kernel) ⟨Nat.le_of_ble_eq_true rfl, Nat.le_of_ble_eq_true rfl⟩) (va_recv (q0 := 0) (ci := 3) (q := (R_M, F_M, 7)) hK hP rfl rfl) hP hK hS rfl hl.1 rfl (Nat.le_of_ble_eq_true rfl) d_M_runOnTwoOperands_35 (nm_is (fun r35 u35 e35 f35 H locs hP hS => ?_))
    refine lv_istore hx hb d_M_runOnTwoOperands_38 hl (by decide) rfl (fun ls hl => ?_)
    have hl : lv_has ls 8 [(4, .int r35), (3, .int r25), (2, .int z13), (0, .ref a.1), (1, .int x1)] := hl
    refine lv_aload_n hx hb d_M_runOnTwoOperands_40 rfl (lv_at hl 3 rfl) ?_
    refine va_get (D := D) (ci := 3) (v := .ref a.2.1) (C := R_M) (T := F_M) (N := 7) hx hb hts (fun w h => wm (ui_M w h)) hown hK hP 0 rfl rfl 0 (by decide) (hts _ (wm t_111)) (fun _ h9 => h9) rfl d_M_runOnTwoOperands_41 ?_
    refine lv_iload hx hb d_M_runOnTwoOperands_44 (lv_at hl 0 rfl) ?_
    refine lv_iload_n hx hb d_M_runOnTwoOperands_46 rfl (lv_at hl 2 rfl) ?_
    refine cl_V (C := R_Me) (k_Me_load l D a hA u35 r35 z13) ⟨hx, hb, hml, hown, hts⟩ (cwV 2 hts (gi_V t_209 t_210 t_211 t_63 t_212) rfl rfl rfl (by decide +kernel) ⟨Nat.le_of_ble_eq_true rfl, Nat.le_of_ble_eq_true rfl⟩) (va_recv (q0 := 1) (ci := 1) (q := (R_Me, F_Me, 1)) hK hP rfl rfl) hP hK hS rfl hl.1 rfl (Nat.le_of_ble_eq_true rfl) d_M_runOnTwoOperands_47 (nm_i (fun r47 e47 H locs hP hS => ?_))
    refine lv_istore hx hb d_M_runOnTwoOperands_50 hl (by decide) rfl (fun ls hl => ?_)
    have hl : lv_has ls 8 [(5, .int r47), (4, .int r35), (3, .int r25), (2, .int z13), (0, .ref a.1), (1, .int x1)] := hl
    refine lv_iload_n hx hb d_M_runOnTwoOperands_52 rfl (lv_at hl 5 rfl) ?_
    refine lv_bipush (v := 13) hx hb d_M_runOnTwoOperands_53 (by decide) ?_
    refine lv_ishr hx hb d_M_runOnTwoOperands_55 ?_
    refine lv_istore hx hb d_M_runOnTwoOperands_56 hl (by decide) rfl (fun ls hl => ?_)
    have hl : lv_has ls 8 [(6, .int (x1 >>> ((13 : Int32) &&& 31))), (5, .int r47), (4, .int r35), (3, .int r25), (2, .int z13), (0, .ref a.1), (1, .int x1)] := hl
    refine lv_iload hx hb d_M_runOnTwoOperands_58 (lv_at hl 0 rfl) ?_
    refine lv_iconst (v := 4) hx hb d_M_runOnTwoOperands_60 (by decide) ?_
    refine lv_icmp_ne (tgt := 86) hx hb d_M_runOnTwoOperands_61 (by decide) (fun h61 => ?_) (fun h61 => ?_)
    · refine lv_aload_n hx hb d_M_runOnTwoOperands_86 rfl (lv_at hl 5 rfl) ?_
      refine lv_iload hx hb d_M_runOnTwoOperands_87 (lv_at hl 0 rfl) ?_
      refine lv_iload_n hx hb d_M_runOnTwoOperands_89 rfl (lv_at hl 3 rfl) ?_
      refine lv_iload hx hb d_M_runOnTwoOperands_90 (lv_at hl 1 rfl) ?_
      refine cl_V (C := R_M) (k_M_combined l D a hA u35 (x1 >>> ((13 : Int32) &&& 31)) r25 r47) ⟨hx, hb, hml, hown, hts⟩ (cwV 3 hts (gi_V t_238 t_240 t_11 t_62 t_241) rfl rfl rfl (by decide +kernel) ⟨Nat.le_of_ble_eq_true rfl, Nat.le_of_ble_eq_true rfl⟩) (va_recv (q0 := 0) (ci := 3) (q := (R_M, F_M, 7)) hK hP rfl rfl) hP hK hS rfl hl.1 rfl (Nat.le_of_ble_eq_true rfl) d_M_runOnTwoOperands_92 (nm_is (fun r92 u92 e92 f92 H locs hP hS => ?_))
      refine lv_istore hx hb d_M_runOnTwoOperands_95 hl (by decide) rfl (fun ls hl => ?_)
      have hl : lv_has ls 8 [(7, .int r92), (6, .int (x1 >>> ((13 : Int32) &&& 31))), (5, .int r47), (4, .int r35), (3, .int r25), (2, .int z13), (0, .ref a.1), (1, .int x1)] := hl
      refine lv_aload_n hx hb d_M_runOnTwoOperands_97 rfl (lv_at hl 6 rfl) ?_
      refine va_get (D := D) (ci := 3) (v := .ref a.2.1) (C := R_M) (T := F_M) (N := 7) hx hb hts (fun w h => wm (ui_M w h)) hown hK hP 0 rfl rfl 0 (by decide) (hts _ (wm t_111)) (fun _ h9 => h9) rfl d_M_runOnTwoOperands_98 ?_
      refine lv_iload hx hb d_M_runOnTwoOperands_101 (lv_at hl 3 rfl) ?_
      refine lv_iload hx hb d_M_runOnTwoOperands_103 (lv_at hl 0 rfl) ?_
      refine lv_iload_n hx hb d_M_runOnTwoOperands_105 rfl (lv_at hl 5 rfl) ?_
      refine cl_V (C := R_Me) (k_Me_store l D a hA u92 r35 r92 z13) ⟨hx, hb, hml, hown, hts⟩ (cwV 3 hts (gi_V t_254 t_255 t_256 t_63 t_257) rfl rfl rfl (by decide +kernel) ⟨Nat.le_of_ble_eq_true rfl, Nat.le_of_ble_eq_true rfl⟩) (va_recv (q0 := 1) (ci := 1) (q := (R_Me, F_Me, 1)) hK hP rfl rfl) hP hK hS rfl hl.1 rfl (Nat.le_of_ble_eq_true rfl) d_M_runOnTwoOperands_106 (nm_s (fun u106 e106 H locs hP hS => ?_))
      refine lv_aload_n hx hb d_M_runOnTwoOperands_109 rfl (lv_at hl 6 rfl) ?_
      refine va_get (D := D) (ci := 3) (v := .ref a.2.2.2.2.1) (C := R_M) (T := F_M) (N := 7) hx hb hts (fun w h => wm (ui_M w h)) hown hK hP 0 rfl rfl 2 (by decide) (hts _ (wm t_113)) (fun _ h9 => h9) rfl d_M_runOnTwoOperands_110 ?_
      refine lv_iload hx hb d_M_runOnTwoOperands_113 (lv_at hl 0 rfl) ?_
      refine lv_iload_n hx hb d_M_runOnTwoOperands_115 rfl (lv_at hl 5 rfl) ?_
      refine cl_V (C := R_St) (k_St_markParity l D a hA u106 r92 z13) ⟨hx, hb, hml, hown, hts⟩ (cwV 2 hts (gi_V t_224 t_225 t_226 t_65 t_227) rfl rfl rfl (by decide +kernel) ⟨Nat.le_of_ble_eq_true rfl, Nat.le_of_ble_eq_true rfl⟩) (va_recv (q0 := 4) (ci := 2) (q := (R_St, F_St, 1)) hK hP rfl rfl) hP hK hS rfl hl.1 rfl (Nat.le_of_ble_eq_true rfl) d_M_runOnTwoOperands_116 (nm_s (fun u116 e116 H locs hP hS => ?_))
      refine lv_iconst (v := 0) hx hb d_M_runOnTwoOperands_119 (by decide) ?_
      have hc : (0, u116) = C_M_runOnTwoOperands u0 x1 := by simp only [C_M_runOnTwoOperands, ← jz13, ← e21, ← f21, ← e25, ← e35, ← f35, ← e47, if_neg h61, ← e92, ← f92, ← e106, ← e116]
      subst hQ
      exact rt_i hx hb hr hlk (congrArg Prod.fst hc) (congrArg Prod.snd hc) hP hS d_M_runOnTwoOperands_120
    refine lv_aload_n hx hb d_M_runOnTwoOperands_64 rfl (lv_at hl 5 rfl) ?_
    refine va_get (D := D) (ci := 3) (v := .ref a.2.2.2.2.1) (C := R_M) (T := F_M) (N := 7) hx hb hts (fun w h => wm (ui_M w h)) hown hK hP 0 rfl rfl 2 (by decide) (hts _ (wm t_113)) (fun _ h9 => h9) rfl d_M_runOnTwoOperands_65 ?_
    refine lv_iload_n hx hb d_M_runOnTwoOperands_68 rfl (lv_at hl 3 rfl) ?_
    refine lv_iload hx hb d_M_runOnTwoOperands_69 (lv_at hl 1 rfl) ?_
    refine cl_V (C := R_St) (k_St_compare l D a hA u35 r25 r47) ⟨hx, hb, hml, hown, hts⟩ (cwV 2 hts (gi_V t_218 t_219 t_220 t_65 t_221) rfl rfl rfl (by decide +kernel) ⟨Nat.le_of_ble_eq_true rfl, Nat.le_of_ble_eq_true rfl⟩) (va_recv (q0 := 4) (ci := 2) (q := (R_St, F_St, 1)) hK hP rfl rfl) hP hK hS rfl hl.1 rfl (Nat.le_of_ble_eq_true rfl) d_M_runOnTwoOperands_71 (nm_s (fun u71 e71 H locs hP hS => ?_))
    refine lv_aload_n hx hb d_M_runOnTwoOperands_74 rfl (lv_at hl 5 rfl) ?_
    refine va_get (D := D) (ci := 3) (v := .ref a.2.2.2.2.1) (C := R_M) (T := F_M) (N := 7) hx hb hts (fun w h => wm (ui_M w h)) hown hK hP 0 rfl rfl 2 (by decide) (hts _ (wm t_113)) (fun _ h9 => h9) rfl d_M_runOnTwoOperands_75 ?_
    refine lv_iload_n hx hb d_M_runOnTwoOperands_78 rfl (lv_at hl 3 rfl) ?_
    refine lv_iload_n hx hb d_M_runOnTwoOperands_79 rfl (lv_at hl 4 rfl) ?_
    refine cl_V (C := R_St) (k_St_markParity l D a hA u71 r25 z13) ⟨hx, hb, hml, hown, hts⟩ (cwV 2 hts (gi_V t_224 t_225 t_226 t_65 t_227) rfl rfl rfl (by decide +kernel) ⟨Nat.le_of_ble_eq_true rfl, Nat.le_of_ble_eq_true rfl⟩) (va_recv (q0 := 4) (ci := 2) (q := (R_St, F_St, 1)) hK hP rfl rfl) hP hK hS rfl hl.1 rfl (Nat.le_of_ble_eq_true rfl) d_M_runOnTwoOperands_80 (nm_s (fun u80 e80 H locs hP hS => ?_))
    refine lv_goto (tgt := 119) hx hb d_M_runOnTwoOperands_83 (by decide) ?_
    refine lv_iconst (v := 0) hx hb d_M_runOnTwoOperands_119 (by decide) ?_
    have hc : (0, u80) = C_M_runOnTwoOperands u0 x1 := by simp only [C_M_runOnTwoOperands, ← jz13, ← e21, ← f21, ← e25, ← e35, ← f35, ← e47, if_pos h61, ← e71, ← e80]
    subst hQ
    exact rt_i hx hb hr hlk (congrArg Prod.fst hc) (congrArg Prod.snd hc) hP hS d_M_runOnTwoOperands_120
  refine lv_if_ne (tgt := 12) hx hb d_M_runOnTwoOperands_5 (by decide) (fun h5 => ?_) (fun h5 => ?_)
  · refine lv_iconst (v := 1) hx hb d_M_runOnTwoOperands_12 (by decide) ?_
    exact hJ13 1 (by simp only [J_M_runOnTwoOperands_13, if_neg h5])
  refine lv_iconst (v := 2) hx hb d_M_runOnTwoOperands_8 (by decide) ?_
  refine lv_goto (tgt := 13) hx hb d_M_runOnTwoOperands_9 (by decide) ?_
  exact hJ13 2 (by simp only [J_M_runOnTwoOperands_13, if_pos h5])
end
