/-! decode rows, laid by gen.py -/
theorem d_Me_word_0 : decode b_Me_word 0 = .ok (.aload_n 0, 1) := by decide +kernel
theorem d_Me_word_1 : decode b_Me_word 1 = .ok (.getfield 9, 3) := by decide +kernel
theorem d_Me_word_4 : decode b_Me_word 4 = .ok (.iload_n 1, 1) := by decide +kernel
theorem d_Me_word_5 : decode b_Me_word 5 = .ok (.sipush 1023, 3) := by decide +kernel
theorem d_Me_word_8 : decode b_Me_word 8 = .ok (.iand, 1) := by decide +kernel
theorem d_Me_word_9 : decode b_Me_word 9 = .ok (.iconst 1, 1) := by decide +kernel
theorem d_Me_word_10 : decode b_Me_word 10 = .ok (.ishr, 1) := by decide +kernel
theorem d_Me_word_11 : decode b_Me_word 11 = .ok (.caload, 1) := by decide +kernel
theorem d_Me_word_12 : decode b_Me_word 12 = .ok (.ireturn, 1) := by decide +kernel
theorem d_M_setWorkspace_0 : decode b_M_setWorkspace 0 = .ok (.aload_n 0, 1) := by decide +kernel
theorem d_M_setWorkspace_1 : decode b_M_setWorkspace 1 = .ok (.iload_n 1, 1) := by decide +kernel
theorem d_M_setWorkspace_2 : decode b_M_setWorkspace 2 = .ok (.sipush 1022, 3) := by decide +kernel
theorem d_M_setWorkspace_5 : decode b_M_setWorkspace 5 = .ok (.iand, 1) := by decide +kernel
theorem d_M_setWorkspace_6 : decode b_M_setWorkspace 6 = .ok (.putfield 107, 3) := by decide +kernel
theorem d_M_setWorkspace_9 : decode b_M_setWorkspace 9 = .ok (.return_, 1) := by decide +kernel
theorem d_M_registerAddress_0 : decode b_M_registerAddress 0 = .ok (.aload_n 0, 1) := by decide +kernel
theorem d_M_registerAddress_1 : decode b_M_registerAddress 1 = .ok (.getfield 107, 3) := by decide +kernel
theorem d_M_registerAddress_4 : decode b_M_registerAddress 4 = .ok (.iconst 2, 1) := by decide +kernel
theorem d_M_registerAddress_5 : decode b_M_registerAddress 5 = .ok (.iload_n 1, 1) := by decide +kernel
theorem d_M_registerAddress_6 : decode b_M_registerAddress 6 = .ok (.imul, 1) := by decide +kernel
theorem d_M_registerAddress_7 : decode b_M_registerAddress 7 = .ok (.iadd, 1) := by decide +kernel
theorem d_M_registerAddress_8 : decode b_M_registerAddress 8 = .ok (.ireturn, 1) := by decide +kernel
theorem d_Me_setWord_0 : decode b_Me_setWord 0 = .ok (.aload_n 0, 1) := by decide +kernel
theorem d_Me_setWord_1 : decode b_Me_setWord 1 = .ok (.getfield 9, 3) := by decide +kernel
theorem d_Me_setWord_4 : decode b_Me_setWord 4 = .ok (.iload_n 1, 1) := by decide +kernel
theorem d_Me_setWord_5 : decode b_Me_setWord 5 = .ok (.sipush 1023, 3) := by decide +kernel
theorem d_Me_setWord_8 : decode b_Me_setWord 8 = .ok (.iand, 1) := by decide +kernel
theorem d_Me_setWord_9 : decode b_Me_setWord 9 = .ok (.iconst 1, 1) := by decide +kernel
theorem d_Me_setWord_10 : decode b_Me_setWord 10 = .ok (.ishr, 1) := by decide +kernel
theorem d_Me_setWord_11 : decode b_Me_setWord 11 = .ok (.iload_n 2, 1) := by decide +kernel
theorem d_Me_setWord_12 : decode b_Me_setWord 12 = .ok (.i2c, 1) := by decide +kernel
theorem d_Me_setWord_13 : decode b_Me_setWord 13 = .ok (.castore, 1) := by decide +kernel
theorem d_Me_setWord_14 : decode b_Me_setWord 14 = .ok (.return_, 1) := by decide +kernel
theorem d_M_setRegister_0 : decode b_M_setRegister 0 = .ok (.aload_n 0, 1) := by decide +kernel
theorem d_M_setRegister_1 : decode b_M_setRegister 1 = .ok (.getfield 12, 3) := by decide +kernel
theorem d_M_setRegister_4 : decode b_M_setRegister 4 = .ok (.aload_n 0, 1) := by decide +kernel
theorem d_M_setRegister_5 : decode b_M_setRegister 5 = .ok (.iload_n 1, 1) := by decide +kernel
theorem d_M_setRegister_6 : decode b_M_setRegister 6 = .ok (.invokevirtual 119, 3) := by decide +kernel
theorem d_M_setRegister_9 : decode b_M_setRegister 9 = .ok (.iload_n 2, 1) := by decide +kernel
theorem d_M_setRegister_10 : decode b_M_setRegister 10 = .ok (.invokevirtual 56, 3) := by decide +kernel
theorem d_M_setRegister_13 : decode b_M_setRegister 13 = .ok (.return_, 1) := by decide +kernel
theorem d_St_bits_0 : decode b_St_bits 0 = .ok (.aload_n 0, 1) := by decide +kernel
theorem d_St_bits_1 : decode b_St_bits 1 = .ok (.getfield 9, 3) := by decide +kernel
theorem d_St_bits_4 : decode b_St_bits 4 = .ok (.ireturn, 1) := by decide +kernel
theorem d_M_setCounter_0 : decode b_M_setCounter 0 = .ok (.aload_n 0, 1) := by decide +kernel
theorem d_M_setCounter_1 : decode b_M_setCounter 1 = .ok (.iload_n 1, 1) := by decide +kernel
theorem d_M_setCounter_2 : decode b_M_setCounter 2 = .ok (.sipush 1022, 3) := by decide +kernel
theorem d_M_setCounter_5 : decode b_M_setCounter 5 = .ok (.iand, 1) := by decide +kernel
theorem d_M_setCounter_6 : decode b_M_setCounter 6 = .ok (.putfield 71, 3) := by decide +kernel
theorem d_M_setCounter_9 : decode b_M_setCounter 9 = .ok (.return_, 1) := by decide +kernel
theorem d_M_switchThrough_0 : decode b_M_switchThrough 0 = .ok (.aload_n 0, 1) := by decide +kernel
theorem d_M_switchThrough_1 : decode b_M_switchThrough 1 = .ok (.getfield 107, 3) := by decide +kernel
theorem d_M_switchThrough_4 : decode b_M_switchThrough 4 = .ok (.istore_n 2, 1) := by decide +kernel
theorem d_M_switchThrough_5 : decode b_M_switchThrough 5 = .ok (.aload_n 0, 1) := by decide +kernel
theorem d_M_switchThrough_6 : decode b_M_switchThrough 6 = .ok (.getfield 12, 3) := by decide +kernel
theorem d_M_switchThrough_9 : decode b_M_switchThrough 9 = .ok (.iload_n 1, 1) := by decide +kernel
theorem d_M_switchThrough_10 : decode b_M_switchThrough 10 = .ok (.invokevirtual 60, 3) := by decide +kernel
theorem d_M_switchThrough_13 : decode b_M_switchThrough 13 = .ok (.istore_n 3, 1) := by decide +kernel
theorem d_M_switchThrough_14 : decode b_M_switchThrough 14 = .ok (.aload_n 0, 1) := by decide +kernel
theorem d_M_switchThrough_15 : decode b_M_switchThrough 15 = .ok (.getfield 12, 3) := by decide +kernel
theorem d_M_switchThrough_18 : decode b_M_switchThrough 18 = .ok (.iload_n 1, 1) := by decide +kernel
theorem d_M_switchThrough_19 : decode b_M_switchThrough 19 = .ok (.iconst 2, 1) := by decide +kernel
theorem d_M_switchThrough_20 : decode b_M_switchThrough 20 = .ok (.iadd, 1) := by decide +kernel
theorem d_M_switchThrough_21 : decode b_M_switchThrough 21 = .ok (.invokevirtual 60, 3) := by decide +kernel
theorem d_M_switchThrough_24 : decode b_M_switchThrough 24 = .ok (.istore 4, 2) := by decide +kernel
theorem d_M_switchThrough_26 : decode b_M_switchThrough 26 = .ok (.aload_n 0, 1) := by decide +kernel
theorem d_M_switchThrough_27 : decode b_M_switchThrough 27 = .ok (.iload_n 3, 1) := by decide +kernel
theorem d_M_switchThrough_28 : decode b_M_switchThrough 28 = .ok (.invokevirtual 122, 3) := by decide +kernel
theorem d_M_switchThrough_31 : decode b_M_switchThrough 31 = .ok (.aload_n 0, 1) := by decide +kernel
theorem d_M_switchThrough_32 : decode b_M_switchThrough 32 = .ok (.bipush 13, 2) := by decide +kernel
theorem d_M_switchThrough_34 : decode b_M_switchThrough 34 = .ok (.iload_n 2, 1) := by decide +kernel
theorem d_M_switchThrough_35 : decode b_M_switchThrough 35 = .ok (.invokevirtual 90, 3) := by decide +kernel
theorem d_M_switchThrough_38 : decode b_M_switchThrough 38 = .ok (.aload_n 0, 1) := by decide +kernel
theorem d_M_switchThrough_39 : decode b_M_switchThrough 39 = .ok (.bipush 14, 2) := by decide +kernel
theorem d_M_switchThrough_41 : decode b_M_switchThrough 41 = .ok (.aload_n 0, 1) := by decide +kernel
theorem d_M_switchThrough_42 : decode b_M_switchThrough 42 = .ok (.getfield 71, 3) := by decide +kernel
theorem d_M_switchThrough_45 : decode b_M_switchThrough 45 = .ok (.invokevirtual 90, 3) := by decide +kernel
theorem d_M_switchThrough_48 : decode b_M_switchThrough 48 = .ok (.aload_n 0, 1) := by decide +kernel
theorem d_M_switchThrough_49 : decode b_M_switchThrough 49 = .ok (.bipush 15, 2) := by decide +kernel
theorem d_M_switchThrough_51 : decode b_M_switchThrough 51 = .ok (.aload_n 0, 1) := by decide +kernel
theorem d_M_switchThrough_52 : decode b_M_switchThrough 52 = .ok (.getfield 26, 3) := by decide +kernel
theorem d_M_switchThrough_55 : decode b_M_switchThrough 55 = .ok (.invokevirtual 110, 3) := by decide +kernel
theorem d_M_switchThrough_58 : decode b_M_switchThrough 58 = .ok (.invokevirtual 90, 3) := by decide +kernel
theorem d_M_switchThrough_61 : decode b_M_switchThrough 61 = .ok (.aload_n 0, 1) := by decide +kernel
theorem d_M_switchThrough_62 : decode b_M_switchThrough 62 = .ok (.iload 4, 2) := by decide +kernel
theorem d_M_switchThrough_64 : decode b_M_switchThrough 64 = .ok (.invokevirtual 116, 3) := by decide +kernel
theorem d_M_switchThrough_67 : decode b_M_switchThrough 67 = .ok (.return_, 1) := by decide +kernel
theorem d_St_setMask_0 : decode b_St_setMask 0 = .ok (.aload_n 0, 1) := by decide +kernel
theorem d_St_setMask_1 : decode b_St_setMask 1 = .ok (.aload_n 0, 1) := by decide +kernel
theorem d_St_setMask_2 : decode b_St_setMask 2 = .ok (.getfield 9, 3) := by decide +kernel
theorem d_St_setMask_5 : decode b_St_setMask 5 = .ok (.bipush (-16), 2) := by decide +kernel
theorem d_St_setMask_7 : decode b_St_setMask 7 = .ok (.iand, 1) := by decide +kernel
theorem d_St_setMask_8 : decode b_St_setMask 8 = .ok (.iload_n 1, 1) := by decide +kernel
theorem d_St_setMask_9 : decode b_St_setMask 9 = .ok (.bipush 15, 2) := by decide +kernel
theorem d_St_setMask_11 : decode b_St_setMask 11 = .ok (.iand, 1) := by decide +kernel
theorem d_St_setMask_12 : decode b_St_setMask 12 = .ok (.ior, 1) := by decide +kernel
theorem d_St_setMask_13 : decode b_St_setMask 13 = .ok (.putfield 9, 3) := by decide +kernel
theorem d_St_setMask_16 : decode b_St_setMask 16 = .ok (.return_, 1) := by decide +kernel
theorem d_M_reset_0 : decode b_M_reset 0 = .ok (.aload_n 0, 1) := by decide +kernel
theorem d_M_reset_1 : decode b_M_reset 1 = .ok (.iconst 0, 1) := by decide +kernel
theorem d_M_reset_2 : decode b_M_reset 2 = .ok (.invokevirtual 34, 3) := by decide +kernel
theorem d_M_reset_5 : decode b_M_reset 5 = .ok (.aload_n 0, 1) := by decide +kernel
theorem d_M_reset_6 : decode b_M_reset 6 = .ok (.getfield 26, 3) := by decide +kernel
theorem d_M_reset_9 : decode b_M_reset 9 = .ok (.iconst 0, 1) := by decide +kernel
theorem d_M_reset_10 : decode b_M_reset 10 = .ok (.invokevirtual 38, 3) := by decide +kernel
theorem d_M_reset_13 : decode b_M_reset 13 = .ok (.aload_n 0, 1) := by decide +kernel
theorem d_M_reset_14 : decode b_M_reset 14 = .ok (.iconst 0, 1) := by decide +kernel
theorem d_M_reset_15 : decode b_M_reset 15 = .ok (.putfield 41, 3) := by decide +kernel
theorem d_M_reset_18 : decode b_M_reset 18 = .ok (.return_, 1) := by decide +kernel
theorem d_M_isWordAddress_0 : decode b_M_isWordAddress 0 = .ok (.iload_n 0, 1) := by decide +kernel
theorem d_M_isWordAddress_1 : decode b_M_isWordAddress 1 = .ok (.sipush 1022, 3) := by decide +kernel
theorem d_M_isWordAddress_4 : decode b_M_isWordAddress 4 = .ok (.iand, 1) := by decide +kernel
theorem d_M_isWordAddress_5 : decode b_M_isWordAddress 5 = .ok (.iload_n 0, 1) := by decide +kernel
theorem d_M_isWordAddress_6 : decode b_M_isWordAddress 6 = .ok (.if_icmp .ne 7, 3) := by decide +kernel
theorem d_M_isWordAddress_9 : decode b_M_isWordAddress 9 = .ok (.iconst 1, 1) := by decide +kernel
theorem d_M_isWordAddress_10 : decode b_M_isWordAddress 10 = .ok (.goto 4, 3) := by decide +kernel
theorem d_M_isWordAddress_13 : decode b_M_isWordAddress 13 = .ok (.iconst 0, 1) := by decide +kernel
theorem d_M_isWordAddress_14 : decode b_M_isWordAddress 14 = .ok (.ireturn, 1) := by decide +kernel
theorem d_M_poke_0 : decode b_M_poke 0 = .ok (.iload_n 1, 1) := by decide +kernel
theorem d_M_poke_1 : decode b_M_poke 1 = .ok (.invokestatic 45, 3) := by decide +kernel
theorem d_M_poke_4 : decode b_M_poke 4 = .ok (.ifCond .ne 13, 3) := by decide +kernel
theorem d_M_poke_7 : decode b_M_poke 7 = .ok (.new 49, 3) := by decide +kernel
theorem d_M_poke_10 : decode b_M_poke 10 = .ok (.dup, 1) := by decide +kernel
theorem d_M_poke_11 : decode b_M_poke 11 = .ok (.ldc 51, 2) := by decide +kernel
theorem d_M_poke_13 : decode b_M_poke 13 = .ok (.invokespecial 53, 3) := by decide +kernel
theorem d_M_poke_16 : decode b_M_poke 16 = .ok (.athrow, 1) := by decide +kernel
theorem d_M_poke_17 : decode b_M_poke 17 = .ok (.aload_n 0, 1) := by decide +kernel
theorem d_M_poke_18 : decode b_M_poke 18 = .ok (.getfield 12, 3) := by decide +kernel
theorem d_M_poke_21 : decode b_M_poke 21 = .ok (.iload_n 1, 1) := by decide +kernel
theorem d_M_poke_22 : decode b_M_poke 22 = .ok (.iload_n 2, 1) := by decide +kernel
theorem d_M_poke_23 : decode b_M_poke 23 = .ok (.invokevirtual 56, 3) := by decide +kernel
theorem d_M_poke_26 : decode b_M_poke 26 = .ok (.return_, 1) := by decide +kernel
theorem d_M_peek_0 : decode b_M_peek 0 = .ok (.iload_n 1, 1) := by decide +kernel
theorem d_M_peek_1 : decode b_M_peek 1 = .ok (.invokestatic 45, 3) := by decide +kernel
theorem d_M_peek_4 : decode b_M_peek 4 = .ok (.ifCond .ne 13, 3) := by decide +kernel
theorem d_M_peek_7 : decode b_M_peek 7 = .ok (.new 49, 3) := by decide +kernel
theorem d_M_peek_10 : decode b_M_peek 10 = .ok (.dup, 1) := by decide +kernel
theorem d_M_peek_11 : decode b_M_peek 11 = .ok (.ldc 51, 2) := by decide +kernel
theorem d_M_peek_13 : decode b_M_peek 13 = .ok (.invokespecial 53, 3) := by decide +kernel
theorem d_M_peek_16 : decode b_M_peek 16 = .ok (.athrow, 1) := by decide +kernel
theorem d_M_peek_17 : decode b_M_peek 17 = .ok (.aload_n 0, 1) := by decide +kernel
theorem d_M_peek_18 : decode b_M_peek 18 = .ok (.getfield 12, 3) := by decide +kernel
theorem d_M_peek_21 : decode b_M_peek 21 = .ok (.iload_n 1, 1) := by decide +kernel
theorem d_M_peek_22 : decode b_M_peek 22 = .ok (.invokevirtual 60, 3) := by decide +kernel
theorem d_M_peek_25 : decode b_M_peek 25 = .ok (.i2c, 1) := by decide +kernel
theorem d_M_peek_26 : decode b_M_peek 26 = .ok (.ireturn, 1) := by decide +kernel
theorem d_St_mask_0 : decode b_St_mask 0 = .ok (.aload_n 0, 1) := by decide +kernel
theorem d_St_mask_1 : decode b_St_mask 1 = .ok (.getfield 9, 3) := by decide +kernel
theorem d_St_mask_4 : decode b_St_mask 4 = .ok (.bipush 15, 2) := by decide +kernel
theorem d_St_mask_6 : decode b_St_mask 6 = .ok (.iand, 1) := by decide +kernel
theorem d_St_mask_7 : decode b_St_mask 7 = .ok (.ireturn, 1) := by decide +kernel
theorem d_M_interrupt_0 : decode b_M_interrupt 0 = .ok (.aload_n 0, 1) := by decide +kernel
theorem d_M_interrupt_1 : decode b_M_interrupt 1 = .ok (.iconst 4, 1) := by decide +kernel
theorem d_M_interrupt_2 : decode b_M_interrupt 2 = .ok (.aload_n 0, 1) := by decide +kernel
theorem d_M_interrupt_3 : decode b_M_interrupt 3 = .ok (.getfield 30, 3) := by decide +kernel
theorem d_M_interrupt_6 : decode b_M_interrupt 6 = .ok (.imul, 1) := by decide +kernel
theorem d_M_interrupt_7 : decode b_M_interrupt 7 = .ok (.invokevirtual 34, 3) := by decide +kernel
theorem d_M_interrupt_10 : decode b_M_interrupt 10 = .ok (.aload_n 0, 1) := by decide +kernel
theorem d_M_interrupt_11 : decode b_M_interrupt 11 = .ok (.getfield 26, 3) := by decide +kernel
theorem d_M_interrupt_14 : decode b_M_interrupt 14 = .ok (.aload_n 0, 1) := by decide +kernel
theorem d_M_interrupt_15 : decode b_M_interrupt 15 = .ok (.getfield 30, 3) := by decide +kernel
theorem d_M_interrupt_18 : decode b_M_interrupt 18 = .ok (.ifCond .ne 7, 3) := by decide +kernel
theorem d_M_interrupt_21 : decode b_M_interrupt 21 = .ok (.iconst 0, 1) := by decide +kernel
theorem d_M_interrupt_22 : decode b_M_interrupt 22 = .ok (.goto 9, 3) := by decide +kernel
theorem d_M_interrupt_25 : decode b_M_interrupt 25 = .ok (.aload_n 0, 1) := by decide +kernel
theorem d_M_interrupt_26 : decode b_M_interrupt 26 = .ok (.getfield 30, 3) := by decide +kernel
theorem d_M_interrupt_29 : decode b_M_interrupt 29 = .ok (.iconst 1, 1) := by decide +kernel
theorem d_M_interrupt_30 : decode b_M_interrupt 30 = .ok (.isub, 1) := by decide +kernel
theorem d_M_interrupt_31 : decode b_M_interrupt 31 = .ok (.invokevirtual 38, 3) := by decide +kernel
theorem d_M_interrupt_34 : decode b_M_interrupt 34 = .ok (.aload_n 0, 1) := by decide +kernel
theorem d_M_interrupt_35 : decode b_M_interrupt 35 = .ok (.iconst 0, 1) := by decide +kernel
theorem d_M_interrupt_36 : decode b_M_interrupt 36 = .ok (.putfield 41, 3) := by decide +kernel
theorem d_M_interrupt_39 : decode b_M_interrupt 39 = .ok (.return_, 1) := by decide +kernel
theorem d_M_fetch_0 : decode b_M_fetch 0 = .ok (.aload_n 0, 1) := by decide +kernel
theorem d_M_fetch_1 : decode b_M_fetch 1 = .ok (.getfield 12, 3) := by decide +kernel
theorem d_M_fetch_4 : decode b_M_fetch 4 = .ok (.aload_n 0, 1) := by decide +kernel
theorem d_M_fetch_5 : decode b_M_fetch 5 = .ok (.getfield 71, 3) := by decide +kernel
theorem d_M_fetch_8 : decode b_M_fetch 8 = .ok (.invokevirtual 60, 3) := by decide +kernel
theorem d_M_fetch_11 : decode b_M_fetch 11 = .ok (.istore_n 1, 1) := by decide +kernel
theorem d_M_fetch_12 : decode b_M_fetch 12 = .ok (.aload_n 0, 1) := by decide +kernel
theorem d_M_fetch_13 : decode b_M_fetch 13 = .ok (.aload_n 0, 1) := by decide +kernel
theorem d_M_fetch_14 : decode b_M_fetch 14 = .ok (.getfield 71, 3) := by decide +kernel
theorem d_M_fetch_17 : decode b_M_fetch 17 = .ok (.iconst 2, 1) := by decide +kernel
theorem d_M_fetch_18 : decode b_M_fetch 18 = .ok (.iadd, 1) := by decide +kernel
theorem d_M_fetch_19 : decode b_M_fetch 19 = .ok (.invokevirtual 116, 3) := by decide +kernel
theorem d_M_fetch_22 : decode b_M_fetch 22 = .ok (.iload_n 1, 1) := by decide +kernel
theorem d_M_fetch_23 : decode b_M_fetch 23 = .ok (.ireturn, 1) := by decide +kernel
theorem d_M_register_0 : decode b_M_register 0 = .ok (.aload_n 0, 1) := by decide +kernel
theorem d_M_register_1 : decode b_M_register 1 = .ok (.getfield 12, 3) := by decide +kernel
theorem d_M_register_4 : decode b_M_register 4 = .ok (.aload_n 0, 1) := by decide +kernel
theorem d_M_register_5 : decode b_M_register 5 = .ok (.iload_n 1, 1) := by decide +kernel
theorem d_M_register_6 : decode b_M_register 6 = .ok (.invokevirtual 119, 3) := by decide +kernel
theorem d_M_register_9 : decode b_M_register 9 = .ok (.invokevirtual 60, 3) := by decide +kernel
theorem d_M_register_12 : decode b_M_register 12 = .ok (.ireturn, 1) := by decide +kernel
theorem d_M_isExecute_0 : decode b_M_isExecute 0 = .ok (.iload_n 0, 1) := by decide +kernel
theorem d_M_isExecute_1 : decode b_M_isExecute 1 = .ok (.ldc 115, 2) := by decide +kernel
theorem d_M_isExecute_3 : decode b_M_isExecute 3 = .ok (.iand, 1) := by decide +kernel
theorem d_M_isExecute_4 : decode b_M_isExecute 4 = .ok (.sipush 1152, 3) := by decide +kernel
theorem d_M_isExecute_7 : decode b_M_isExecute 7 = .ok (.if_icmp .ne 7, 3) := by decide +kernel
theorem d_M_isExecute_10 : decode b_M_isExecute 10 = .ok (.iconst 1, 1) := by decide +kernel
theorem d_M_isExecute_11 : decode b_M_isExecute 11 = .ok (.goto 4, 3) := by decide +kernel
theorem d_M_isExecute_14 : decode b_M_isExecute 14 = .ok (.iconst 0, 1) := by decide +kernel
theorem d_M_isExecute_15 : decode b_M_isExecute 15 = .ok (.ireturn, 1) := by decide +kernel
theorem d_M_operandAddress_0 : decode b_M_operandAddress 0 = .ok (.iload_n 1, 1) := by decide +kernel
theorem d_M_operandAddress_1 : decode b_M_operandAddress 1 = .ok (.bipush 15, 2) := by decide +kernel
theorem d_M_operandAddress_3 : decode b_M_operandAddress 3 = .ok (.iand, 1) := by decide +kernel
theorem d_M_operandAddress_4 : decode b_M_operandAddress 4 = .ok (.istore_n 3, 1) := by decide +kernel
theorem d_M_operandAddress_5 : decode b_M_operandAddress 5 = .ok (.iload_n 1, 1) := by decide +kernel
theorem d_M_operandAddress_6 : decode b_M_operandAddress 6 = .ok (.iconst 4, 1) := by decide +kernel
theorem d_M_operandAddress_7 : decode b_M_operandAddress 7 = .ok (.ishr, 1) := by decide +kernel
theorem d_M_operandAddress_8 : decode b_M_operandAddress 8 = .ok (.iconst 3, 1) := by decide +kernel
theorem d_M_operandAddress_9 : decode b_M_operandAddress 9 = .ok (.iand, 1) := by decide +kernel
theorem d_M_operandAddress_10 : decode b_M_operandAddress 10 = .ok (.tableswitch 69 0 2 #[26, 36, 46], 26) := by decide +kernel
theorem d_M_operandAddress_36 : decode b_M_operandAddress 36 = .ok (.aload_n 0, 1) := by decide +kernel
theorem d_M_operandAddress_37 : decode b_M_operandAddress 37 = .ok (.iload_n 3, 1) := by decide +kernel
theorem d_M_operandAddress_38 : decode b_M_operandAddress 38 = .ok (.invokevirtual 119, 3) := by decide +kernel
theorem d_M_operandAddress_41 : decode b_M_operandAddress 41 = .ok (.istore 4, 2) := by decide +kernel
theorem d_M_operandAddress_43 : decode b_M_operandAddress 43 = .ok (.goto 52, 3) := by decide +kernel
theorem d_M_operandAddress_46 : decode b_M_operandAddress 46 = .ok (.aload_n 0, 1) := by decide +kernel
theorem d_M_operandAddress_47 : decode b_M_operandAddress 47 = .ok (.iload_n 3, 1) := by decide +kernel
theorem d_M_operandAddress_48 : decode b_M_operandAddress 48 = .ok (.invokevirtual 77, 3) := by decide +kernel
theorem d_M_operandAddress_51 : decode b_M_operandAddress 51 = .ok (.istore 4, 2) := by decide +kernel
theorem d_M_operandAddress_53 : decode b_M_operandAddress 53 = .ok (.goto 42, 3) := by decide +kernel
theorem d_M_operandAddress_56 : decode b_M_operandAddress 56 = .ok (.aload_n 0, 1) := by decide +kernel
theorem d_M_operandAddress_57 : decode b_M_operandAddress 57 = .ok (.invokevirtual 74, 3) := by decide +kernel
theorem d_M_operandAddress_60 : decode b_M_operandAddress 60 = .ok (.iload_n 3, 1) := by decide +kernel
theorem d_M_operandAddress_61 : decode b_M_operandAddress 61 = .ok (.ifCond .ne 7, 3) := by decide +kernel
theorem d_M_operandAddress_64 : decode b_M_operandAddress 64 = .ok (.iconst 0, 1) := by decide +kernel
theorem d_M_operandAddress_65 : decode b_M_operandAddress 65 = .ok (.goto 8, 3) := by decide +kernel
theorem d_M_operandAddress_68 : decode b_M_operandAddress 68 = .ok (.aload_n 0, 1) := by decide +kernel
theorem d_M_operandAddress_69 : decode b_M_operandAddress 69 = .ok (.iload_n 3, 1) := by decide +kernel
theorem d_M_operandAddress_70 : decode b_M_operandAddress 70 = .ok (.invokevirtual 77, 3) := by decide +kernel
theorem d_M_operandAddress_73 : decode b_M_operandAddress 73 = .ok (.iadd, 1) := by decide +kernel
theorem d_M_operandAddress_74 : decode b_M_operandAddress 74 = .ok (.istore 4, 2) := by decide +kernel
theorem d_M_operandAddress_76 : decode b_M_operandAddress 76 = .ok (.goto 19, 3) := by decide +kernel
theorem d_M_operandAddress_79 : decode b_M_operandAddress 79 = .ok (.aload_n 0, 1) := by decide +kernel
theorem d_M_operandAddress_80 : decode b_M_operandAddress 80 = .ok (.iload_n 3, 1) := by decide +kernel
theorem d_M_operandAddress_81 : decode b_M_operandAddress 81 = .ok (.invokevirtual 77, 3) := by decide +kernel
theorem d_M_operandAddress_84 : decode b_M_operandAddress 84 = .ok (.istore 4, 2) := by decide +kernel
theorem d_M_operandAddress_86 : decode b_M_operandAddress 86 = .ok (.aload_n 0, 1) := by decide +kernel
theorem d_M_operandAddress_87 : decode b_M_operandAddress 87 = .ok (.iload_n 3, 1) := by decide +kernel
theorem d_M_operandAddress_88 : decode b_M_operandAddress 88 = .ok (.iload 4, 2) := by decide +kernel
theorem d_M_operandAddress_90 : decode b_M_operandAddress 90 = .ok (.iload_n 2, 1) := by decide +kernel
theorem d_M_operandAddress_91 : decode b_M_operandAddress 91 = .ok (.iadd, 1) := by decide +kernel
theorem d_M_operandAddress_92 : decode b_M_operandAddress 92 = .ok (.invokevirtual 90, 3) := by decide +kernel
theorem d_M_operandAddress_95 : decode b_M_operandAddress 95 = .ok (.iload 4, 2) := by decide +kernel
theorem d_M_operandAddress_97 : decode b_M_operandAddress 97 = .ok (.sipush 1023, 3) := by decide +kernel
theorem d_M_operandAddress_100 : decode b_M_operandAddress 100 = .ok (.iand, 1) := by decide +kernel
theorem d_M_operandAddress_101 : decode b_M_operandAddress 101 = .ok (.ireturn, 1) := by decide +kernel
theorem d_Me_isUpper_0 : decode b_Me_isUpper 0 = .ok (.iload_n 0, 1) := by decide +kernel
theorem d_Me_isUpper_1 : decode b_Me_isUpper 1 = .ok (.iconst 1, 1) := by decide +kernel
theorem d_Me_isUpper_2 : decode b_Me_isUpper 2 = .ok (.iand, 1) := by decide +kernel
theorem d_Me_isUpper_3 : decode b_Me_isUpper 3 = .ok (.ifCond .ne 7, 3) := by decide +kernel
theorem d_Me_isUpper_6 : decode b_Me_isUpper 6 = .ok (.iconst 1, 1) := by decide +kernel
theorem d_Me_isUpper_7 : decode b_Me_isUpper 7 = .ok (.goto 4, 3) := by decide +kernel
theorem d_Me_isUpper_10 : decode b_Me_isUpper 10 = .ok (.iconst 0, 1) := by decide +kernel
theorem d_Me_isUpper_11 : decode b_Me_isUpper 11 = .ok (.ireturn, 1) := by decide +kernel
theorem d_Me_load_0 : decode b_Me_load 0 = .ok (.aload_n 0, 1) := by decide +kernel
theorem d_Me_load_1 : decode b_Me_load 1 = .ok (.iload_n 1, 1) := by decide +kernel
theorem d_Me_load_2 : decode b_Me_load 2 = .ok (.invokevirtual 15, 3) := by decide +kernel
theorem d_Me_load_5 : decode b_Me_load 5 = .ok (.istore_n 3, 1) := by decide +kernel
theorem d_Me_load_6 : decode b_Me_load 6 = .ok (.iload_n 2, 1) := by decide +kernel
theorem d_Me_load_7 : decode b_Me_load 7 = .ok (.iconst 2, 1) := by decide +kernel
theorem d_Me_load_8 : decode b_Me_load 8 = .ok (.if_icmp .ne 5, 3) := by decide +kernel
theorem d_Me_load_11 : decode b_Me_load 11 = .ok (.iload_n 3, 1) := by decide +kernel
theorem d_Me_load_12 : decode b_Me_load 12 = .ok (.ireturn, 1) := by decide +kernel
theorem d_Me_load_13 : decode b_Me_load 13 = .ok (.iload_n 1, 1) := by decide +kernel
theorem d_Me_load_14 : decode b_Me_load 14 = .ok (.invokestatic 19, 3) := by decide +kernel
theorem d_Me_load_17 : decode b_Me_load 17 = .ok (.ifCond .eq 10, 3) := by decide +kernel
theorem d_Me_load_20 : decode b_Me_load 20 = .ok (.iload_n 3, 1) := by decide +kernel
theorem d_Me_load_21 : decode b_Me_load 21 = .ok (.ldc 23, 2) := by decide +kernel
theorem d_Me_load_23 : decode b_Me_load 23 = .ok (.iand, 1) := by decide +kernel
theorem d_Me_load_24 : decode b_Me_load 24 = .ok (.goto 11, 3) := by decide +kernel
theorem d_Me_load_27 : decode b_Me_load 27 = .ok (.iload_n 3, 1) := by decide +kernel
theorem d_Me_load_28 : decode b_Me_load 28 = .ok (.sipush 255, 3) := by decide +kernel
theorem d_Me_load_31 : decode b_Me_load 31 = .ok (.iand, 1) := by decide +kernel
theorem d_Me_load_32 : decode b_Me_load 32 = .ok (.bipush 8, 2) := by decide +kernel
theorem d_Me_load_34 : decode b_Me_load 34 = .ok (.ishl, 1) := by decide +kernel
theorem d_Me_load_35 : decode b_Me_load 35 = .ok (.ireturn, 1) := by decide +kernel
theorem d_St_compare_0 : decode b_St_compare 0 = .ok (.iload_n 1, 1) := by decide +kernel
theorem d_St_compare_1 : decode b_St_compare 1 = .ok (.iload_n 2, 1) := by decide +kernel
theorem d_St_compare_2 : decode b_St_compare 2 = .ok (.if_icmp .le 8, 3) := by decide +kernel
theorem d_St_compare_5 : decode b_St_compare 5 = .ok (.ldc 15, 2) := by decide +kernel
theorem d_St_compare_7 : decode b_St_compare 7 = .ok (.goto 4, 3) := by decide +kernel
theorem d_St_compare_10 : decode b_St_compare 10 = .ok (.iconst 0, 1) := by decide +kernel
theorem d_St_compare_11 : decode b_St_compare 11 = .ok (.istore_n 3, 1) := by decide +kernel
theorem d_St_compare_12 : decode b_St_compare 12 = .ok (.iload_n 1, 1) := by decide +kernel
theorem d_St_compare_13 : decode b_St_compare 13 = .ok (.i2s, 1) := by decide +kernel
theorem d_St_compare_14 : decode b_St_compare 14 = .ok (.iload_n 2, 1) := by decide +kernel
theorem d_St_compare_15 : decode b_St_compare 15 = .ok (.i2s, 1) := by decide +kernel
theorem d_St_compare_16 : decode b_St_compare 16 = .ok (.if_icmp .le 9, 3) := by decide +kernel
theorem d_St_compare_19 : decode b_St_compare 19 = .ok (.sipush 16384, 3) := by decide +kernel
theorem d_St_compare_22 : decode b_St_compare 22 = .ok (.goto 4, 3) := by decide +kernel
theorem d_St_compare_25 : decode b_St_compare 25 = .ok (.iconst 0, 1) := by decide +kernel
theorem d_St_compare_26 : decode b_St_compare 26 = .ok (.istore 4, 2) := by decide +kernel
theorem d_St_compare_28 : decode b_St_compare 28 = .ok (.iload_n 1, 1) := by decide +kernel
theorem d_St_compare_29 : decode b_St_compare 29 = .ok (.iload_n 2, 1) := by decide +kernel
theorem d_St_compare_30 : decode b_St_compare 30 = .ok (.if_icmp .ne 9, 3) := by decide +kernel
theorem d_St_compare_33 : decode b_St_compare 33 = .ok (.sipush 8192, 3) := by decide +kernel
theorem d_St_compare_36 : decode b_St_compare 36 = .ok (.goto 4, 3) := by decide +kernel
theorem d_St_compare_39 : decode b_St_compare 39 = .ok (.iconst 0, 1) := by decide +kernel
theorem d_St_compare_40 : decode b_St_compare 40 = .ok (.istore 5, 2) := by decide +kernel
theorem d_St_compare_42 : decode b_St_compare 42 = .ok (.aload_n 0, 1) := by decide +kernel
theorem d_St_compare_43 : decode b_St_compare 43 = .ok (.aload_n 0, 1) := by decide +kernel
theorem d_St_compare_44 : decode b_St_compare 44 = .ok (.getfield 9, 3) := by decide +kernel
theorem d_St_compare_47 : decode b_St_compare 47 = .ok (.ldc 16, 2) := by decide +kernel
theorem d_St_compare_49 : decode b_St_compare 49 = .ok (.iand, 1) := by decide +kernel
theorem d_St_compare_50 : decode b_St_compare 50 = .ok (.iload_n 3, 1) := by decide +kernel
theorem d_St_compare_51 : decode b_St_compare 51 = .ok (.ior, 1) := by decide +kernel
theorem d_St_compare_52 : decode b_St_compare 52 = .ok (.iload 4, 2) := by decide +kernel
theorem d_St_compare_54 : decode b_St_compare 54 = .ok (.ior, 1) := by decide +kernel
theorem d_St_compare_55 : decode b_St_compare 55 = .ok (.iload 5, 2) := by decide +kernel
theorem d_St_compare_57 : decode b_St_compare 57 = .ok (.ior, 1) := by decide +kernel
theorem d_St_compare_58 : decode b_St_compare 58 = .ok (.putfield 9, 3) := by decide +kernel
theorem d_St_compare_61 : decode b_St_compare 61 = .ok (.return_, 1) := by decide +kernel
theorem d_In_bitCount_0 : decode b_In_bitCount 0 = .ok (.iload_n 0, 1) := by decide +kernel
theorem d_In_bitCount_1 : decode b_In_bitCount 1 = .ok (.iload_n 0, 1) := by decide +kernel
theorem d_In_bitCount_2 : decode b_In_bitCount 2 = .ok (.iconst 1, 1) := by decide +kernel
theorem d_In_bitCount_3 : decode b_In_bitCount 3 = .ok (.iushr, 1) := by decide +kernel
theorem d_In_bitCount_4 : decode b_In_bitCount 4 = .ok (.ldc_w 265, 3) := by decide +kernel
theorem d_In_bitCount_7 : decode b_In_bitCount 7 = .ok (.iand, 1) := by decide +kernel
theorem d_In_bitCount_8 : decode b_In_bitCount 8 = .ok (.isub, 1) := by decide +kernel
theorem d_In_bitCount_9 : decode b_In_bitCount 9 = .ok (.istore_n 0, 1) := by decide +kernel
theorem d_In_bitCount_10 : decode b_In_bitCount 10 = .ok (.iload_n 0, 1) := by decide +kernel
theorem d_In_bitCount_11 : decode b_In_bitCount 11 = .ok (.ldc_w 266, 3) := by decide +kernel
theorem d_In_bitCount_14 : decode b_In_bitCount 14 = .ok (.iand, 1) := by decide +kernel
theorem d_In_bitCount_15 : decode b_In_bitCount 15 = .ok (.iload_n 0, 1) := by decide +kernel
theorem d_In_bitCount_16 : decode b_In_bitCount 16 = .ok (.iconst 2, 1) := by decide +kernel
theorem d_In_bitCount_17 : decode b_In_bitCount 17 = .ok (.iushr, 1) := by decide +kernel
theorem d_In_bitCount_18 : decode b_In_bitCount 18 = .ok (.ldc_w 266, 3) := by decide +kernel
theorem d_In_bitCount_21 : decode b_In_bitCount 21 = .ok (.iand, 1) := by decide +kernel
theorem d_In_bitCount_22 : decode b_In_bitCount 22 = .ok (.iadd, 1) := by decide +kernel
theorem d_In_bitCount_23 : decode b_In_bitCount 23 = .ok (.istore_n 0, 1) := by decide +kernel
theorem d_In_bitCount_24 : decode b_In_bitCount 24 = .ok (.iload_n 0, 1) := by decide +kernel
theorem d_In_bitCount_25 : decode b_In_bitCount 25 = .ok (.iload_n 0, 1) := by decide +kernel
theorem d_In_bitCount_26 : decode b_In_bitCount 26 = .ok (.iconst 4, 1) := by decide +kernel
theorem d_In_bitCount_27 : decode b_In_bitCount 27 = .ok (.iushr, 1) := by decide +kernel
theorem d_In_bitCount_28 : decode b_In_bitCount 28 = .ok (.iadd, 1) := by decide +kernel
theorem d_In_bitCount_29 : decode b_In_bitCount 29 = .ok (.ldc_w 267, 3) := by decide +kernel
theorem d_In_bitCount_32 : decode b_In_bitCount 32 = .ok (.iand, 1) := by decide +kernel
theorem d_In_bitCount_33 : decode b_In_bitCount 33 = .ok (.istore_n 0, 1) := by decide +kernel
theorem d_In_bitCount_34 : decode b_In_bitCount 34 = .ok (.iload_n 0, 1) := by decide +kernel
theorem d_In_bitCount_35 : decode b_In_bitCount 35 = .ok (.iload_n 0, 1) := by decide +kernel
theorem d_In_bitCount_36 : decode b_In_bitCount 36 = .ok (.bipush 8, 2) := by decide +kernel
theorem d_In_bitCount_38 : decode b_In_bitCount 38 = .ok (.iushr, 1) := by decide +kernel
theorem d_In_bitCount_39 : decode b_In_bitCount 39 = .ok (.iadd, 1) := by decide +kernel
theorem d_In_bitCount_40 : decode b_In_bitCount 40 = .ok (.istore_n 0, 1) := by decide +kernel
theorem d_In_bitCount_41 : decode b_In_bitCount 41 = .ok (.iload_n 0, 1) := by decide +kernel
theorem d_In_bitCount_42 : decode b_In_bitCount 42 = .ok (.iload_n 0, 1) := by decide +kernel
theorem d_In_bitCount_43 : decode b_In_bitCount 43 = .ok (.bipush 16, 2) := by decide +kernel
theorem d_In_bitCount_45 : decode b_In_bitCount 45 = .ok (.iushr, 1) := by decide +kernel
theorem d_In_bitCount_46 : decode b_In_bitCount 46 = .ok (.iadd, 1) := by decide +kernel
theorem d_In_bitCount_47 : decode b_In_bitCount 47 = .ok (.istore_n 0, 1) := by decide +kernel
theorem d_In_bitCount_48 : decode b_In_bitCount 48 = .ok (.iload_n 0, 1) := by decide +kernel
theorem d_In_bitCount_49 : decode b_In_bitCount 49 = .ok (.bipush 63, 2) := by decide +kernel
theorem d_In_bitCount_51 : decode b_In_bitCount 51 = .ok (.iand, 1) := by decide +kernel
theorem d_In_bitCount_52 : decode b_In_bitCount 52 = .ok (.ireturn, 1) := by decide +kernel
theorem d_St_mark_0 : decode b_St_mark 0 = .ok (.aload_n 0, 1) := by decide +kernel
theorem d_St_mark_1 : decode b_St_mark 1 = .ok (.iload_n 2, 1) := by decide +kernel
theorem d_St_mark_2 : decode b_St_mark 2 = .ok (.ifCond .eq 12, 3) := by decide +kernel
theorem d_St_mark_5 : decode b_St_mark 5 = .ok (.aload_n 0, 1) := by decide +kernel
theorem d_St_mark_6 : decode b_St_mark 6 = .ok (.getfield 9, 3) := by decide +kernel
theorem d_St_mark_9 : decode b_St_mark 9 = .ok (.iload_n 1, 1) := by decide +kernel
theorem d_St_mark_10 : decode b_St_mark 10 = .ok (.ior, 1) := by decide +kernel
theorem d_St_mark_11 : decode b_St_mark 11 = .ok (.goto 11, 3) := by decide +kernel
theorem d_St_mark_14 : decode b_St_mark 14 = .ok (.aload_n 0, 1) := by decide +kernel
theorem d_St_mark_15 : decode b_St_mark 15 = .ok (.getfield 9, 3) := by decide +kernel
theorem d_St_mark_18 : decode b_St_mark 18 = .ok (.iload_n 1, 1) := by decide +kernel
theorem d_St_mark_19 : decode b_St_mark 19 = .ok (.iconst (-1), 1) := by decide +kernel
theorem d_St_mark_20 : decode b_St_mark 20 = .ok (.ixor, 1) := by decide +kernel
theorem d_St_mark_21 : decode b_St_mark 21 = .ok (.iand, 1) := by decide +kernel
theorem d_St_mark_22 : decode b_St_mark 22 = .ok (.putfield 9, 3) := by decide +kernel
theorem d_St_mark_25 : decode b_St_mark 25 = .ok (.return_, 1) := by decide +kernel
theorem d_St_markParity_0 : decode b_St_markParity 0 = .ok (.iload_n 2, 1) := by decide +kernel
theorem d_St_markParity_1 : decode b_St_markParity 1 = .ok (.iconst 1, 1) := by decide +kernel
theorem d_St_markParity_2 : decode b_St_markParity 2 = .ok (.if_icmp .ne 25, 3) := by decide +kernel
theorem d_St_markParity_5 : decode b_St_markParity 5 = .ok (.aload_n 0, 1) := by decide +kernel
theorem d_St_markParity_6 : decode b_St_markParity 6 = .ok (.sipush 1024, 3) := by decide +kernel
theorem d_St_markParity_9 : decode b_St_markParity 9 = .ok (.iload_n 1, 1) := by decide +kernel
theorem d_St_markParity_10 : decode b_St_markParity 10 = .ok (.invokestatic 30, 3) := by decide +kernel
theorem d_St_markParity_13 : decode b_St_markParity 13 = .ok (.iconst 1, 1) := by decide +kernel
theorem d_St_markParity_14 : decode b_St_markParity 14 = .ok (.iand, 1) := by decide +kernel
theorem d_St_markParity_15 : decode b_St_markParity 15 = .ok (.iconst 1, 1) := by decide +kernel
theorem d_St_markParity_16 : decode b_St_markParity 16 = .ok (.if_icmp .ne 7, 3) := by decide +kernel
theorem d_St_markParity_19 : decode b_St_markParity 19 = .ok (.iconst 1, 1) := by decide +kernel
theorem d_St_markParity_20 : decode b_St_markParity 20 = .ok (.goto 4, 3) := by decide +kernel
theorem d_St_markParity_23 : decode b_St_markParity 23 = .ok (.iconst 0, 1) := by decide +kernel
theorem d_St_markParity_24 : decode b_St_markParity 24 = .ok (.invokevirtual 22, 3) := by decide +kernel
theorem d_St_markParity_27 : decode b_St_markParity 27 = .ok (.return_, 1) := by decide +kernel
theorem d_St_tested_0 : decode b_St_tested 0 = .ok (.aload_n 0, 1) := by decide +kernel
theorem d_St_tested_1 : decode b_St_tested 1 = .ok (.iload_n 1, 1) := by decide +kernel
theorem d_St_tested_2 : decode b_St_tested 2 = .ok (.iconst 0, 1) := by decide +kernel
theorem d_St_tested_3 : decode b_St_tested 3 = .ok (.invokevirtual 17, 3) := by decide +kernel
theorem d_St_tested_6 : decode b_St_tested 6 = .ok (.iload_n 1, 1) := by decide +kernel
theorem d_St_tested_7 : decode b_St_tested 7 = .ok (.ireturn, 1) := by decide +kernel
theorem d_St_sum_0 : decode b_St_sum 0 = .ok (.iload_n 1, 1) := by decide +kernel
theorem d_St_sum_1 : decode b_St_sum 1 = .ok (.iload_n 2, 1) := by decide +kernel
theorem d_St_sum_2 : decode b_St_sum 2 = .ok (.iadd, 1) := by decide +kernel
theorem d_St_sum_3 : decode b_St_sum 3 = .ok (.iload_n 3, 1) := by decide +kernel
theorem d_St_sum_4 : decode b_St_sum 4 = .ok (.iadd, 1) := by decide +kernel
theorem d_St_sum_5 : decode b_St_sum 5 = .ok (.istore 4, 2) := by decide +kernel
theorem d_St_sum_7 : decode b_St_sum 7 = .ok (.iload 4, 2) := by decide +kernel
theorem d_St_sum_9 : decode b_St_sum 9 = .ok (.ldc 21, 2) := by decide +kernel
theorem d_St_sum_11 : decode b_St_sum 11 = .ok (.iand, 1) := by decide +kernel
theorem d_St_sum_12 : decode b_St_sum 12 = .ok (.istore 5, 2) := by decide +kernel
theorem d_St_sum_14 : decode b_St_sum 14 = .ok (.aload_n 0, 1) := by decide +kernel
theorem d_St_sum_15 : decode b_St_sum 15 = .ok (.sipush 4096, 3) := by decide +kernel
theorem d_St_sum_18 : decode b_St_sum 18 = .ok (.iload 4, 2) := by decide +kernel
theorem d_St_sum_20 : decode b_St_sum 20 = .ok (.ldc 21, 2) := by decide +kernel
theorem d_St_sum_22 : decode b_St_sum 22 = .ok (.if_icmp .le 7, 3) := by decide +kernel
theorem d_St_sum_25 : decode b_St_sum 25 = .ok (.iconst 1, 1) := by decide +kernel
theorem d_St_sum_26 : decode b_St_sum 26 = .ok (.goto 4, 3) := by decide +kernel
theorem d_St_sum_29 : decode b_St_sum 29 = .ok (.iconst 0, 1) := by decide +kernel
theorem d_St_sum_30 : decode b_St_sum 30 = .ok (.invokevirtual 22, 3) := by decide +kernel
theorem d_St_sum_33 : decode b_St_sum 33 = .ok (.aload_n 0, 1) := by decide +kernel
theorem d_St_sum_34 : decode b_St_sum 34 = .ok (.sipush 2048, 3) := by decide +kernel
theorem d_St_sum_37 : decode b_St_sum 37 = .ok (.iload_n 1, 1) := by decide +kernel
theorem d_St_sum_38 : decode b_St_sum 38 = .ok (.iload 5, 2) := by decide +kernel
theorem d_St_sum_40 : decode b_St_sum 40 = .ok (.ixor, 1) := by decide +kernel
theorem d_St_sum_41 : decode b_St_sum 41 = .ok (.iload_n 2, 1) := by decide +kernel
theorem d_St_sum_42 : decode b_St_sum 42 = .ok (.iload 5, 2) := by decide +kernel
theorem d_St_sum_44 : decode b_St_sum 44 = .ok (.ixor, 1) := by decide +kernel
theorem d_St_sum_45 : decode b_St_sum 45 = .ok (.iand, 1) := by decide +kernel
theorem d_St_sum_46 : decode b_St_sum 46 = .ok (.ldc 15, 2) := by decide +kernel
theorem d_St_sum_48 : decode b_St_sum 48 = .ok (.iand, 1) := by decide +kernel
theorem d_St_sum_49 : decode b_St_sum 49 = .ok (.ifCond .eq 7, 3) := by decide +kernel
theorem d_St_sum_52 : decode b_St_sum 52 = .ok (.iconst 1, 1) := by decide +kernel
theorem d_St_sum_53 : decode b_St_sum 53 = .ok (.goto 4, 3) := by decide +kernel
theorem d_St_sum_56 : decode b_St_sum 56 = .ok (.iconst 0, 1) := by decide +kernel
theorem d_St_sum_57 : decode b_St_sum 57 = .ok (.invokevirtual 22, 3) := by decide +kernel
theorem d_St_sum_60 : decode b_St_sum 60 = .ok (.aload_n 0, 1) := by decide +kernel
theorem d_St_sum_61 : decode b_St_sum 61 = .ok (.iload 5, 2) := by decide +kernel
theorem d_St_sum_63 : decode b_St_sum 63 = .ok (.invokevirtual 26, 3) := by decide +kernel
theorem d_St_sum_66 : decode b_St_sum 66 = .ok (.ireturn, 1) := by decide +kernel
theorem d_M_combined_0 : decode b_M_combined 0 = .ok (.iload_n 1, 1) := by decide +kernel
theorem d_M_combined_1 : decode b_M_combined 1 = .ok (.tableswitch 84 2 6 #[35, 48, 84, 64, 75], 35) := by decide +kernel
theorem d_M_combined_36 : decode b_M_combined 36 = .ok (.aload_n 0, 1) := by decide +kernel
theorem d_M_combined_37 : decode b_M_combined 37 = .ok (.getfield 26, 3) := by decide +kernel
theorem d_M_combined_40 : decode b_M_combined 40 = .ok (.iload_n 3, 1) := by decide +kernel
theorem d_M_combined_41 : decode b_M_combined 41 = .ok (.iload_n 2, 1) := by decide +kernel
theorem d_M_combined_42 : decode b_M_combined 42 = .ok (.iconst (-1), 1) := by decide +kernel
theorem d_M_combined_43 : decode b_M_combined 43 = .ok (.ixor, 1) := by decide +kernel
theorem d_M_combined_44 : decode b_M_combined 44 = .ok (.iand, 1) := by decide +kernel
theorem d_M_combined_45 : decode b_M_combined 45 = .ok (.invokevirtual 163, 3) := by decide +kernel
theorem d_M_combined_48 : decode b_M_combined 48 = .ok (.ireturn, 1) := by decide +kernel
theorem d_M_combined_49 : decode b_M_combined 49 = .ok (.aload_n 0, 1) := by decide +kernel
theorem d_M_combined_50 : decode b_M_combined 50 = .ok (.getfield 26, 3) := by decide +kernel
theorem d_M_combined_53 : decode b_M_combined 53 = .ok (.iload_n 3, 1) := by decide +kernel
theorem d_M_combined_54 : decode b_M_combined 54 = .ok (.iload_n 2, 1) := by decide +kernel
theorem d_M_combined_55 : decode b_M_combined 55 = .ok (.iconst (-1), 1) := by decide +kernel
theorem d_M_combined_56 : decode b_M_combined 56 = .ok (.ixor, 1) := by decide +kernel
theorem d_M_combined_57 : decode b_M_combined 57 = .ok (.ldc 166, 2) := by decide +kernel
theorem d_M_combined_59 : decode b_M_combined 59 = .ok (.iand, 1) := by decide +kernel
theorem d_M_combined_60 : decode b_M_combined 60 = .ok (.iconst 1, 1) := by decide +kernel
theorem d_M_combined_61 : decode b_M_combined 61 = .ok (.invokevirtual 167, 3) := by decide +kernel
theorem d_M_combined_64 : decode b_M_combined 64 = .ok (.ireturn, 1) := by decide +kernel
theorem d_M_combined_65 : decode b_M_combined 65 = .ok (.aload_n 0, 1) := by decide +kernel
theorem d_M_combined_66 : decode b_M_combined 66 = .ok (.getfield 26, 3) := by decide +kernel
theorem d_M_combined_69 : decode b_M_combined 69 = .ok (.iload_n 3, 1) := by decide +kernel
theorem d_M_combined_70 : decode b_M_combined 70 = .ok (.iload_n 2, 1) := by decide +kernel
theorem d_M_combined_71 : decode b_M_combined 71 = .ok (.iconst 0, 1) := by decide +kernel
theorem d_M_combined_72 : decode b_M_combined 72 = .ok (.invokevirtual 167, 3) := by decide +kernel
theorem d_M_combined_75 : decode b_M_combined 75 = .ok (.ireturn, 1) := by decide +kernel
theorem d_M_combined_76 : decode b_M_combined 76 = .ok (.aload_n 0, 1) := by decide +kernel
theorem d_M_combined_77 : decode b_M_combined 77 = .ok (.getfield 26, 3) := by decide +kernel
theorem d_M_combined_80 : decode b_M_combined 80 = .ok (.iload_n 2, 1) := by decide +kernel
theorem d_M_combined_81 : decode b_M_combined 81 = .ok (.invokevirtual 163, 3) := by decide +kernel
theorem d_M_combined_84 : decode b_M_combined 84 = .ok (.ireturn, 1) := by decide +kernel
theorem d_M_combined_85 : decode b_M_combined 85 = .ok (.aload_n 0, 1) := by decide +kernel
theorem d_M_combined_86 : decode b_M_combined 86 = .ok (.getfield 26, 3) := by decide +kernel
theorem d_M_combined_89 : decode b_M_combined 89 = .ok (.iload_n 3, 1) := by decide +kernel
theorem d_M_combined_90 : decode b_M_combined 90 = .ok (.iload_n 2, 1) := by decide +kernel
theorem d_M_combined_91 : decode b_M_combined 91 = .ok (.ior, 1) := by decide +kernel
theorem d_M_combined_92 : decode b_M_combined 92 = .ok (.invokevirtual 163, 3) := by decide +kernel
theorem d_M_combined_95 : decode b_M_combined 95 = .ok (.ireturn, 1) := by decide +kernel
theorem d_Me_store_0 : decode b_Me_store 0 = .ok (.iload_n 3, 1) := by decide +kernel
theorem d_Me_store_1 : decode b_Me_store 1 = .ok (.iconst 2, 1) := by decide +kernel
theorem d_Me_store_2 : decode b_Me_store 2 = .ok (.if_icmp .ne 12, 3) := by decide +kernel
theorem d_Me_store_5 : decode b_Me_store 5 = .ok (.aload_n 0, 1) := by decide +kernel
theorem d_Me_store_6 : decode b_Me_store 6 = .ok (.iload_n 1, 1) := by decide +kernel
theorem d_Me_store_7 : decode b_Me_store 7 = .ok (.iload_n 2, 1) := by decide +kernel
theorem d_Me_store_8 : decode b_Me_store 8 = .ok (.invokevirtual 24, 3) := by decide +kernel
theorem d_Me_store_11 : decode b_Me_store 11 = .ok (.goto 50, 3) := by decide +kernel
theorem d_Me_store_14 : decode b_Me_store 14 = .ok (.iload_n 1, 1) := by decide +kernel
theorem d_Me_store_15 : decode b_Me_store 15 = .ok (.invokestatic 19, 3) := by decide +kernel
theorem d_Me_store_18 : decode b_Me_store 18 = .ok (.ifCond .eq 25, 3) := by decide +kernel
theorem d_Me_store_21 : decode b_Me_store 21 = .ok (.aload_n 0, 1) := by decide +kernel
theorem d_Me_store_22 : decode b_Me_store 22 = .ok (.iload_n 1, 1) := by decide +kernel
theorem d_Me_store_23 : decode b_Me_store 23 = .ok (.iload_n 2, 1) := by decide +kernel
theorem d_Me_store_24 : decode b_Me_store 24 = .ok (.ldc 23, 2) := by decide +kernel
theorem d_Me_store_26 : decode b_Me_store 26 = .ok (.iand, 1) := by decide +kernel
theorem d_Me_store_27 : decode b_Me_store 27 = .ok (.aload_n 0, 1) := by decide +kernel
theorem d_Me_store_28 : decode b_Me_store 28 = .ok (.iload_n 1, 1) := by decide +kernel
theorem d_Me_store_29 : decode b_Me_store 29 = .ok (.invokevirtual 15, 3) := by decide +kernel
theorem d_Me_store_32 : decode b_Me_store 32 = .ok (.sipush 255, 3) := by decide +kernel
theorem d_Me_store_35 : decode b_Me_store 35 = .ok (.iand, 1) := by decide +kernel
theorem d_Me_store_36 : decode b_Me_store 36 = .ok (.ior, 1) := by decide +kernel
theorem d_Me_store_37 : decode b_Me_store 37 = .ok (.invokevirtual 24, 3) := by decide +kernel
theorem d_Me_store_40 : decode b_Me_store 40 = .ok (.goto 21, 3) := by decide +kernel
theorem d_Me_store_43 : decode b_Me_store 43 = .ok (.aload_n 0, 1) := by decide +kernel
theorem d_Me_store_44 : decode b_Me_store 44 = .ok (.iload_n 1, 1) := by decide +kernel
theorem d_Me_store_45 : decode b_Me_store 45 = .ok (.aload_n 0, 1) := by decide +kernel
theorem d_Me_store_46 : decode b_Me_store 46 = .ok (.iload_n 1, 1) := by decide +kernel
theorem d_Me_store_47 : decode b_Me_store 47 = .ok (.invokevirtual 15, 3) := by decide +kernel
theorem d_Me_store_50 : decode b_Me_store 50 = .ok (.ldc 23, 2) := by decide +kernel
theorem d_Me_store_52 : decode b_Me_store 52 = .ok (.iand, 1) := by decide +kernel
theorem d_Me_store_53 : decode b_Me_store 53 = .ok (.iload_n 2, 1) := by decide +kernel
theorem d_Me_store_54 : decode b_Me_store 54 = .ok (.bipush 8, 2) := by decide +kernel
theorem d_Me_store_56 : decode b_Me_store 56 = .ok (.ishr, 1) := by decide +kernel
theorem d_Me_store_57 : decode b_Me_store 57 = .ok (.ior, 1) := by decide +kernel
theorem d_Me_store_58 : decode b_Me_store 58 = .ok (.invokevirtual 24, 3) := by decide +kernel
theorem d_Me_store_61 : decode b_Me_store 61 = .ok (.return_, 1) := by decide +kernel
theorem d_M_runOnTwoOperands_0 : decode b_M_runOnTwoOperands 0 = .ok (.iload_n 1, 1) := by decide +kernel
theorem d_M_runOnTwoOperands_1 : decode b_M_runOnTwoOperands 1 = .ok (.sipush 4096, 3) := by decide +kernel
theorem d_M_runOnTwoOperands_4 : decode b_M_runOnTwoOperands 4 = .ok (.iand, 1) := by decide +kernel
theorem d_M_runOnTwoOperands_5 : decode b_M_runOnTwoOperands 5 = .ok (.ifCond .ne 7, 3) := by decide +kernel
theorem d_M_runOnTwoOperands_8 : decode b_M_runOnTwoOperands 8 = .ok (.iconst 2, 1) := by decide +kernel
theorem d_M_runOnTwoOperands_9 : decode b_M_runOnTwoOperands 9 = .ok (.goto 4, 3) := by decide +kernel
theorem d_M_runOnTwoOperands_12 : decode b_M_runOnTwoOperands 12 = .ok (.iconst 1, 1) := by decide +kernel
theorem d_M_runOnTwoOperands_13 : decode b_M_runOnTwoOperands 13 = .ok (.istore_n 2, 1) := by decide +kernel
theorem d_M_runOnTwoOperands_14 : decode b_M_runOnTwoOperands 14 = .ok (.aload_n 0, 1) := by decide +kernel
theorem d_M_runOnTwoOperands_15 : decode b_M_runOnTwoOperands 15 = .ok (.getfield 12, 3) := by decide +kernel
theorem d_M_runOnTwoOperands_18 : decode b_M_runOnTwoOperands 18 = .ok (.aload_n 0, 1) := by decide +kernel
theorem d_M_runOnTwoOperands_19 : decode b_M_runOnTwoOperands 19 = .ok (.iload_n 1, 1) := by decide +kernel
theorem d_M_runOnTwoOperands_20 : decode b_M_runOnTwoOperands 20 = .ok (.iload_n 2, 1) := by decide +kernel
theorem d_M_runOnTwoOperands_21 : decode b_M_runOnTwoOperands 21 = .ok (.invokevirtual 83, 3) := by decide +kernel
theorem d_M_runOnTwoOperands_24 : decode b_M_runOnTwoOperands 24 = .ok (.iload_n 2, 1) := by decide +kernel
theorem d_M_runOnTwoOperands_25 : decode b_M_runOnTwoOperands 25 = .ok (.invokevirtual 146, 3) := by decide +kernel
theorem d_M_runOnTwoOperands_28 : decode b_M_runOnTwoOperands 28 = .ok (.istore_n 3, 1) := by decide +kernel
theorem d_M_runOnTwoOperands_29 : decode b_M_runOnTwoOperands 29 = .ok (.aload_n 0, 1) := by decide +kernel
theorem d_M_runOnTwoOperands_30 : decode b_M_runOnTwoOperands 30 = .ok (.iload_n 1, 1) := by decide +kernel
theorem d_M_runOnTwoOperands_31 : decode b_M_runOnTwoOperands 31 = .ok (.bipush 6, 2) := by decide +kernel
theorem d_M_runOnTwoOperands_33 : decode b_M_runOnTwoOperands 33 = .ok (.ishr, 1) := by decide +kernel
theorem d_M_runOnTwoOperands_34 : decode b_M_runOnTwoOperands 34 = .ok (.iload_n 2, 1) := by decide +kernel
theorem d_M_runOnTwoOperands_35 : decode b_M_runOnTwoOperands 35 = .ok (.invokevirtual 83, 3) := by decide +kernel
theorem d_M_runOnTwoOperands_38 : decode b_M_runOnTwoOperands 38 = .ok (.istore 4, 2) := by decide +kernel
theorem d_M_runOnTwoOperands_40 : decode b_M_runOnTwoOperands 40 = .ok (.aload_n 0, 1) := by decide +kernel
theorem d_M_runOnTwoOperands_41 : decode b_M_runOnTwoOperands 41 = .ok (.getfield 12, 3) := by decide +kernel
theorem d_M_runOnTwoOperands_44 : decode b_M_runOnTwoOperands 44 = .ok (.iload 4, 2) := by decide +kernel
theorem d_M_runOnTwoOperands_46 : decode b_M_runOnTwoOperands 46 = .ok (.iload_n 2, 1) := by decide +kernel
theorem d_M_runOnTwoOperands_47 : decode b_M_runOnTwoOperands 47 = .ok (.invokevirtual 146, 3) := by decide +kernel
theorem d_M_runOnTwoOperands_50 : decode b_M_runOnTwoOperands 50 = .ok (.istore 5, 2) := by decide +kernel
theorem d_M_runOnTwoOperands_52 : decode b_M_runOnTwoOperands 52 = .ok (.iload_n 1, 1) := by decide +kernel
theorem d_M_runOnTwoOperands_53 : decode b_M_runOnTwoOperands 53 = .ok (.bipush 13, 2) := by decide +kernel
theorem d_M_runOnTwoOperands_55 : decode b_M_runOnTwoOperands 55 = .ok (.ishr, 1) := by decide +kernel
theorem d_M_runOnTwoOperands_56 : decode b_M_runOnTwoOperands 56 = .ok (.istore 6, 2) := by decide +kernel
theorem d_M_runOnTwoOperands_58 : decode b_M_runOnTwoOperands 58 = .ok (.iload 6, 2) := by decide +kernel
theorem d_M_runOnTwoOperands_60 : decode b_M_runOnTwoOperands 60 = .ok (.iconst 4, 1) := by decide +kernel
theorem d_M_runOnTwoOperands_61 : decode b_M_runOnTwoOperands 61 = .ok (.if_icmp .ne 25, 3) := by decide +kernel
theorem d_M_runOnTwoOperands_64 : decode b_M_runOnTwoOperands 64 = .ok (.aload_n 0, 1) := by decide +kernel
theorem d_M_runOnTwoOperands_65 : decode b_M_runOnTwoOperands 65 = .ok (.getfield 26, 3) := by decide +kernel
theorem d_M_runOnTwoOperands_68 : decode b_M_runOnTwoOperands 68 = .ok (.iload_n 3, 1) := by decide +kernel
theorem d_M_runOnTwoOperands_69 : decode b_M_runOnTwoOperands 69 = .ok (.iload 5, 2) := by decide +kernel
theorem d_M_runOnTwoOperands_71 : decode b_M_runOnTwoOperands 71 = .ok (.invokevirtual 149, 3) := by decide +kernel
theorem d_M_runOnTwoOperands_74 : decode b_M_runOnTwoOperands 74 = .ok (.aload_n 0, 1) := by decide +kernel
theorem d_M_runOnTwoOperands_75 : decode b_M_runOnTwoOperands 75 = .ok (.getfield 26, 3) := by decide +kernel
theorem d_M_runOnTwoOperands_78 : decode b_M_runOnTwoOperands 78 = .ok (.iload_n 3, 1) := by decide +kernel
theorem d_M_runOnTwoOperands_79 : decode b_M_runOnTwoOperands 79 = .ok (.iload_n 2, 1) := by decide +kernel
theorem d_M_runOnTwoOperands_80 : decode b_M_runOnTwoOperands 80 = .ok (.invokevirtual 152, 3) := by decide +kernel
theorem d_M_runOnTwoOperands_83 : decode b_M_runOnTwoOperands 83 = .ok (.goto 36, 3) := by decide +kernel
theorem d_M_runOnTwoOperands_86 : decode b_M_runOnTwoOperands 86 = .ok (.aload_n 0, 1) := by decide +kernel
theorem d_M_runOnTwoOperands_87 : decode b_M_runOnTwoOperands 87 = .ok (.iload 6, 2) := by decide +kernel
theorem d_M_runOnTwoOperands_89 : decode b_M_runOnTwoOperands 89 = .ok (.iload_n 3, 1) := by decide +kernel
theorem d_M_runOnTwoOperands_90 : decode b_M_runOnTwoOperands 90 = .ok (.iload 5, 2) := by decide +kernel
theorem d_M_runOnTwoOperands_92 : decode b_M_runOnTwoOperands 92 = .ok (.invokevirtual 155, 3) := by decide +kernel
theorem d_M_runOnTwoOperands_95 : decode b_M_runOnTwoOperands 95 = .ok (.istore 7, 2) := by decide +kernel
theorem d_M_runOnTwoOperands_97 : decode b_M_runOnTwoOperands 97 = .ok (.aload_n 0, 1) := by decide +kernel
theorem d_M_runOnTwoOperands_98 : decode b_M_runOnTwoOperands 98 = .ok (.getfield 12, 3) := by decide +kernel
theorem d_M_runOnTwoOperands_101 : decode b_M_runOnTwoOperands 101 = .ok (.iload 4, 2) := by decide +kernel
theorem d_M_runOnTwoOperands_103 : decode b_M_runOnTwoOperands 103 = .ok (.iload 7, 2) := by decide +kernel
theorem d_M_runOnTwoOperands_105 : decode b_M_runOnTwoOperands 105 = .ok (.iload_n 2, 1) := by decide +kernel
theorem d_M_runOnTwoOperands_106 : decode b_M_runOnTwoOperands 106 = .ok (.invokevirtual 159, 3) := by decide +kernel
theorem d_M_runOnTwoOperands_109 : decode b_M_runOnTwoOperands 109 = .ok (.aload_n 0, 1) := by decide +kernel
theorem d_M_runOnTwoOperands_110 : decode b_M_runOnTwoOperands 110 = .ok (.getfield 26, 3) := by decide +kernel
theorem d_M_runOnTwoOperands_113 : decode b_M_runOnTwoOperands 113 = .ok (.iload 7, 2) := by decide +kernel
theorem d_M_runOnTwoOperands_115 : decode b_M_runOnTwoOperands 115 = .ok (.iload_n 2, 1) := by decide +kernel
theorem d_M_runOnTwoOperands_116 : decode b_M_runOnTwoOperands 116 = .ok (.invokevirtual 152, 3) := by decide +kernel
theorem d_M_runOnTwoOperands_119 : decode b_M_runOnTwoOperands 119 = .ok (.iconst 0, 1) := by decide +kernel
theorem d_M_runOnTwoOperands_120 : decode b_M_runOnTwoOperands 120 = .ok (.ireturn, 1) := by decide +kernel
theorem d_M_callExtended_0 : decode b_M_callExtended 0 = .ok (.aload_n 0, 1) := by decide +kernel
theorem d_M_callExtended_1 : decode b_M_callExtended 1 = .ok (.bipush 64, 2) := by decide +kernel
theorem d_M_callExtended_3 : decode b_M_callExtended 3 = .ok (.iconst 4, 1) := by decide +kernel
theorem d_M_callExtended_4 : decode b_M_callExtended 4 = .ok (.iload_n 1, 1) := by decide +kernel
theorem d_M_callExtended_5 : decode b_M_callExtended 5 = .ok (.imul, 1) := by decide +kernel
theorem d_M_callExtended_6 : decode b_M_callExtended 6 = .ok (.iadd, 1) := by decide +kernel
theorem d_M_callExtended_7 : decode b_M_callExtended 7 = .ok (.invokevirtual 34, 3) := by decide +kernel
theorem d_M_callExtended_10 : decode b_M_callExtended 10 = .ok (.aload_n 0, 1) := by decide +kernel
theorem d_M_callExtended_11 : decode b_M_callExtended 11 = .ok (.bipush 11, 2) := by decide +kernel
theorem d_M_callExtended_13 : decode b_M_callExtended 13 = .ok (.iload_n 2, 1) := by decide +kernel
theorem d_M_callExtended_14 : decode b_M_callExtended 14 = .ok (.invokevirtual 90, 3) := by decide +kernel
theorem d_M_callExtended_17 : decode b_M_callExtended 17 = .ok (.aload_n 0, 1) := by decide +kernel
theorem d_M_callExtended_18 : decode b_M_callExtended 18 = .ok (.getfield 26, 3) := by decide +kernel
theorem d_M_callExtended_21 : decode b_M_callExtended 21 = .ok (.sipush 512, 3) := by decide +kernel
theorem d_M_callExtended_24 : decode b_M_callExtended 24 = .ok (.iconst 1, 1) := by decide +kernel
theorem d_M_callExtended_25 : decode b_M_callExtended 25 = .ok (.invokevirtual 182, 3) := by decide +kernel
theorem d_M_callExtended_28 : decode b_M_callExtended 28 = .ok (.return_, 1) := by decide +kernel
theorem d_M_sizeForLines_0 : decode b_M_sizeForLines 0 = .ok (.iload_n 0, 1) := by decide +kernel
theorem d_M_sizeForLines_1 : decode b_M_sizeForLines 1 = .ok (.bipush 8, 2) := by decide +kernel
theorem d_M_sizeForLines_3 : decode b_M_sizeForLines 3 = .ok (.if_icmp .gt 7, 3) := by decide +kernel
theorem d_M_sizeForLines_6 : decode b_M_sizeForLines 6 = .ok (.iconst 1, 1) := by decide +kernel
