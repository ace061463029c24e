/-! decode rows, laid by gen.py -/
theorem d_Mo_thrown_0 : decode b_Mo_thrown 0 = .ok (.aload_n 0, 1) := by decide +kernel
theorem d_Mo_thrown_1 : decode b_Mo_thrown 1 = .ok (.getfield 21, 3) := by decide +kernel
theorem d_Mo_thrown_4 : decode b_Mo_thrown 4 = .ok (.ireturn, 1) := by decide +kernel
theorem d_Mo_fails_0 : decode b_Mo_fails 0 = .ok (.aload_n 0, 1) := by decide +kernel
theorem d_Mo_fails_1 : decode b_Mo_fails 1 = .ok (.iload_n 1, 1) := by decide +kernel
theorem d_Mo_fails_2 : decode b_Mo_fails 2 = .ok (.ifCond .eq 7, 3) := by decide +kernel
theorem d_Mo_fails_5 : decode b_Mo_fails 5 = .ok (.iconst 1, 1) := by decide +kernel
theorem d_Mo_fails_6 : decode b_Mo_fails 6 = .ok (.goto 4, 3) := by decide +kernel
theorem d_Mo_fails_9 : decode b_Mo_fails 9 = .ok (.iconst 0, 1) := by decide +kernel
theorem d_Mo_fails_10 : decode b_Mo_fails 10 = .ok (.putfield 21, 3) := by decide +kernel
theorem d_Mo_fails_13 : decode b_Mo_fails 13 = .ok (.iload_n 1, 1) := by decide +kernel
theorem d_Mo_fails_14 : decode b_Mo_fails 14 = .ok (.ireturn, 1) := by decide +kernel
theorem d_Mo_word_0 : decode b_Mo_word 0 = .ok (.aload_n 0, 1) := by decide +kernel
theorem d_Mo_word_1 : decode b_Mo_word 1 = .ok (.getfield 7, 3) := by decide +kernel
theorem d_Mo_word_4 : decode b_Mo_word 4 = .ok (.iload_n 1, 1) := by decide +kernel
theorem d_Mo_word_5 : decode b_Mo_word 5 = .ok (.iconst 1, 1) := by decide +kernel
theorem d_Mo_word_6 : decode b_Mo_word 6 = .ok (.ishr, 1) := by decide +kernel
theorem d_Mo_word_7 : decode b_Mo_word 7 = .ok (.sipush 511, 3) := by decide +kernel
theorem d_Mo_word_10 : decode b_Mo_word 10 = .ok (.iand, 1) := by decide +kernel
theorem d_Mo_word_11 : decode b_Mo_word 11 = .ok (.iaload, 1) := by decide +kernel
theorem d_Mo_word_12 : decode b_Mo_word 12 = .ok (.ireturn, 1) := by decide +kernel
theorem d_Mo_setWord_0 : decode b_Mo_setWord 0 = .ok (.aload_n 0, 1) := by decide +kernel
theorem d_Mo_setWord_1 : decode b_Mo_setWord 1 = .ok (.getfield 7, 3) := by decide +kernel
theorem d_Mo_setWord_4 : decode b_Mo_setWord 4 = .ok (.iload_n 1, 1) := by decide +kernel
theorem d_Mo_setWord_5 : decode b_Mo_setWord 5 = .ok (.iconst 1, 1) := by decide +kernel
theorem d_Mo_setWord_6 : decode b_Mo_setWord 6 = .ok (.ishr, 1) := by decide +kernel
theorem d_Mo_setWord_7 : decode b_Mo_setWord 7 = .ok (.sipush 511, 3) := by decide +kernel
theorem d_Mo_setWord_10 : decode b_Mo_setWord 10 = .ok (.iand, 1) := by decide +kernel
theorem d_Mo_setWord_11 : decode b_Mo_setWord 11 = .ok (.iload_n 2, 1) := by decide +kernel
theorem d_Mo_setWord_12 : decode b_Mo_setWord 12 = .ok (.ldc 24, 2) := by decide +kernel
theorem d_Mo_setWord_14 : decode b_Mo_setWord 14 = .ok (.iand, 1) := by decide +kernel
theorem d_Mo_setWord_15 : decode b_Mo_setWord 15 = .ok (.iastore, 1) := by decide +kernel
theorem d_Mo_setWord_16 : decode b_Mo_setWord 16 = .ok (.return_, 1) := by decide +kernel
theorem d_Mo_register_0 : decode b_Mo_register 0 = .ok (.aload_n 0, 1) := by decide +kernel
theorem d_Mo_register_1 : decode b_Mo_register 1 = .ok (.aload_n 0, 1) := by decide +kernel
theorem d_Mo_register_2 : decode b_Mo_register 2 = .ok (.getfield 25, 3) := by decide +kernel
theorem d_Mo_register_5 : decode b_Mo_register 5 = .ok (.iconst 2, 1) := by decide +kernel
theorem d_Mo_register_6 : decode b_Mo_register 6 = .ok (.iload_n 1, 1) := by decide +kernel
theorem d_Mo_register_7 : decode b_Mo_register 7 = .ok (.imul, 1) := by decide +kernel
theorem d_Mo_register_8 : decode b_Mo_register 8 = .ok (.iadd, 1) := by decide +kernel
theorem d_Mo_register_9 : decode b_Mo_register 9 = .ok (.invokevirtual 28, 3) := by decide +kernel
theorem d_Mo_register_12 : decode b_Mo_register 12 = .ok (.ireturn, 1) := by decide +kernel
theorem d_Mo_setRegister_0 : decode b_Mo_setRegister 0 = .ok (.aload_n 0, 1) := by decide +kernel
theorem d_Mo_setRegister_1 : decode b_Mo_setRegister 1 = .ok (.aload_n 0, 1) := by decide +kernel
theorem d_Mo_setRegister_2 : decode b_Mo_setRegister 2 = .ok (.getfield 25, 3) := by decide +kernel
theorem d_Mo_setRegister_5 : decode b_Mo_setRegister 5 = .ok (.iconst 2, 1) := by decide +kernel
theorem d_Mo_setRegister_6 : decode b_Mo_setRegister 6 = .ok (.iload_n 1, 1) := by decide +kernel
theorem d_Mo_setRegister_7 : decode b_Mo_setRegister 7 = .ok (.imul, 1) := by decide +kernel
theorem d_Mo_setRegister_8 : decode b_Mo_setRegister 8 = .ok (.iadd, 1) := by decide +kernel
theorem d_Mo_setRegister_9 : decode b_Mo_setRegister 9 = .ok (.iload_n 2, 1) := by decide +kernel
theorem d_Mo_setRegister_10 : decode b_Mo_setRegister 10 = .ok (.invokevirtual 32, 3) := by decide +kernel
theorem d_Mo_setRegister_13 : decode b_Mo_setRegister 13 = .ok (.return_, 1) := by decide +kernel
theorem d_Mo_next_0 : decode b_Mo_next 0 = .ok (.aload_n 0, 1) := by decide +kernel
theorem d_Mo_next_1 : decode b_Mo_next 1 = .ok (.aload_n 0, 1) := by decide +kernel
theorem d_Mo_next_2 : decode b_Mo_next 2 = .ok (.getfield 36, 3) := by decide +kernel
theorem d_Mo_next_5 : decode b_Mo_next 5 = .ok (.invokevirtual 28, 3) := by decide +kernel
theorem d_Mo_next_8 : decode b_Mo_next 8 = .ok (.istore_n 1, 1) := by decide +kernel
theorem d_Mo_next_9 : decode b_Mo_next 9 = .ok (.aload_n 0, 1) := by decide +kernel
theorem d_Mo_next_10 : decode b_Mo_next 10 = .ok (.aload_n 0, 1) := by decide +kernel
theorem d_Mo_next_11 : decode b_Mo_next 11 = .ok (.getfield 36, 3) := by decide +kernel
theorem d_Mo_next_14 : decode b_Mo_next 14 = .ok (.iconst 2, 1) := by decide +kernel
theorem d_Mo_next_15 : decode b_Mo_next 15 = .ok (.iadd, 1) := by decide +kernel
theorem d_Mo_next_16 : decode b_Mo_next 16 = .ok (.sipush 1022, 3) := by decide +kernel
theorem d_Mo_next_19 : decode b_Mo_next 19 = .ok (.iand, 1) := by decide +kernel
theorem d_Mo_next_20 : decode b_Mo_next 20 = .ok (.putfield 36, 3) := by decide +kernel
theorem d_Mo_next_23 : decode b_Mo_next 23 = .ok (.iload_n 1, 1) := by decide +kernel
theorem d_Mo_next_24 : decode b_Mo_next 24 = .ok (.ireturn, 1) := by decide +kernel
theorem d_Mo_value_0 : decode b_Mo_value 0 = .ok (.aload_n 0, 1) := by decide +kernel
theorem d_Mo_value_1 : decode b_Mo_value 1 = .ok (.iload_n 1, 1) := by decide +kernel
theorem d_Mo_value_2 : decode b_Mo_value 2 = .ok (.invokevirtual 28, 3) := by decide +kernel
theorem d_Mo_value_5 : decode b_Mo_value 5 = .ok (.istore_n 3, 1) := by decide +kernel
theorem d_Mo_value_6 : decode b_Mo_value 6 = .ok (.iload_n 2, 1) := by decide +kernel
theorem d_Mo_value_7 : decode b_Mo_value 7 = .ok (.ifCond .ne 7, 3) := by decide +kernel
theorem d_Mo_value_10 : decode b_Mo_value 10 = .ok (.iload_n 3, 1) := by decide +kernel
theorem d_Mo_value_11 : decode b_Mo_value 11 = .ok (.goto 23, 3) := by decide +kernel
theorem d_Mo_value_14 : decode b_Mo_value 14 = .ok (.iload_n 1, 1) := by decide +kernel
theorem d_Mo_value_15 : decode b_Mo_value 15 = .ok (.iconst 1, 1) := by decide +kernel
theorem d_Mo_value_16 : decode b_Mo_value 16 = .ok (.iand, 1) := by decide +kernel
theorem d_Mo_value_17 : decode b_Mo_value 17 = .ok (.ifCond .ne 10, 3) := by decide +kernel
theorem d_Mo_value_20 : decode b_Mo_value 20 = .ok (.iload_n 3, 1) := by decide +kernel
theorem d_Mo_value_21 : decode b_Mo_value 21 = .ok (.ldc 39, 2) := by decide +kernel
theorem d_Mo_value_23 : decode b_Mo_value 23 = .ok (.iand, 1) := by decide +kernel
theorem d_Mo_value_24 : decode b_Mo_value 24 = .ok (.goto 10, 3) := by decide +kernel
theorem d_Mo_value_27 : decode b_Mo_value 27 = .ok (.iload_n 3, 1) := by decide +kernel
theorem d_Mo_value_28 : decode b_Mo_value 28 = .ok (.bipush 8, 2) := by decide +kernel
theorem d_Mo_value_30 : decode b_Mo_value 30 = .ok (.ishl, 1) := by decide +kernel
theorem d_Mo_value_31 : decode b_Mo_value 31 = .ok (.ldc 39, 2) := by decide +kernel
theorem d_Mo_value_33 : decode b_Mo_value 33 = .ok (.iand, 1) := by decide +kernel
theorem d_Mo_value_34 : decode b_Mo_value 34 = .ok (.ireturn, 1) := by decide +kernel
theorem d_Mo_store_0 : decode b_Mo_store 0 = .ok (.aload_n 0, 1) := by decide +kernel
theorem d_Mo_store_1 : decode b_Mo_store 1 = .ok (.iload_n 1, 1) := by decide +kernel
theorem d_Mo_store_2 : decode b_Mo_store 2 = .ok (.invokevirtual 28, 3) := by decide +kernel
theorem d_Mo_store_5 : decode b_Mo_store 5 = .ok (.istore 4, 2) := by decide +kernel
theorem d_Mo_store_7 : decode b_Mo_store 7 = .ok (.aload_n 0, 1) := by decide +kernel
theorem d_Mo_store_8 : decode b_Mo_store 8 = .ok (.iload_n 1, 1) := by decide +kernel
theorem d_Mo_store_9 : decode b_Mo_store 9 = .ok (.iload_n 3, 1) := by decide +kernel
theorem d_Mo_store_10 : decode b_Mo_store 10 = .ok (.ifCond .ne 7, 3) := by decide +kernel
theorem d_Mo_store_13 : decode b_Mo_store 13 = .ok (.iload_n 2, 1) := by decide +kernel
theorem d_Mo_store_14 : decode b_Mo_store 14 = .ok (.goto 37, 3) := by decide +kernel
theorem d_Mo_store_17 : decode b_Mo_store 17 = .ok (.iload_n 1, 1) := by decide +kernel
theorem d_Mo_store_18 : decode b_Mo_store 18 = .ok (.iconst 1, 1) := by decide +kernel
theorem d_Mo_store_19 : decode b_Mo_store 19 = .ok (.iand, 1) := by decide +kernel
theorem d_Mo_store_20 : decode b_Mo_store 20 = .ok (.ifCond .ne 17, 3) := by decide +kernel
theorem d_Mo_store_23 : decode b_Mo_store 23 = .ok (.iload 4, 2) := by decide +kernel
theorem d_Mo_store_25 : decode b_Mo_store 25 = .ok (.sipush 255, 3) := by decide +kernel
theorem d_Mo_store_28 : decode b_Mo_store 28 = .ok (.iand, 1) := by decide +kernel
theorem d_Mo_store_29 : decode b_Mo_store 29 = .ok (.iload_n 2, 1) := by decide +kernel
theorem d_Mo_store_30 : decode b_Mo_store 30 = .ok (.ldc 39, 2) := by decide +kernel
theorem d_Mo_store_32 : decode b_Mo_store 32 = .ok (.iand, 1) := by decide +kernel
theorem d_Mo_store_33 : decode b_Mo_store 33 = .ok (.ior, 1) := by decide +kernel
theorem d_Mo_store_34 : decode b_Mo_store 34 = .ok (.goto 17, 3) := by decide +kernel
theorem d_Mo_store_37 : decode b_Mo_store 37 = .ok (.iload 4, 2) := by decide +kernel
theorem d_Mo_store_39 : decode b_Mo_store 39 = .ok (.ldc 39, 2) := by decide +kernel
theorem d_Mo_store_41 : decode b_Mo_store 41 = .ok (.iand, 1) := by decide +kernel
theorem d_Mo_store_42 : decode b_Mo_store 42 = .ok (.iload_n 2, 1) := by decide +kernel
theorem d_Mo_store_43 : decode b_Mo_store 43 = .ok (.bipush 8, 2) := by decide +kernel
theorem d_Mo_store_45 : decode b_Mo_store 45 = .ok (.ishr, 1) := by decide +kernel
theorem d_Mo_store_46 : decode b_Mo_store 46 = .ok (.sipush 255, 3) := by decide +kernel
theorem d_Mo_store_49 : decode b_Mo_store 49 = .ok (.iand, 1) := by decide +kernel
theorem d_Mo_store_50 : decode b_Mo_store 50 = .ok (.ior, 1) := by decide +kernel
theorem d_Mo_store_51 : decode b_Mo_store 51 = .ok (.invokevirtual 32, 3) := by decide +kernel
theorem d_Mo_store_54 : decode b_Mo_store 54 = .ok (.return_, 1) := by decide +kernel
theorem d_Mo_address_0 : decode b_Mo_address 0 = .ok (.iload_n 1, 1) := by decide +kernel
theorem d_Mo_address_1 : decode b_Mo_address 1 = .ok (.iconst 4, 1) := by decide +kernel
theorem d_Mo_address_2 : decode b_Mo_address 2 = .ok (.ishr, 1) := by decide +kernel
theorem d_Mo_address_3 : decode b_Mo_address 3 = .ok (.iconst 3, 1) := by decide +kernel
theorem d_Mo_address_4 : decode b_Mo_address 4 = .ok (.iand, 1) := by decide +kernel
theorem d_Mo_address_5 : decode b_Mo_address 5 = .ok (.istore_n 3, 1) := by decide +kernel
theorem d_Mo_address_6 : decode b_Mo_address 6 = .ok (.iload_n 1, 1) := by decide +kernel
theorem d_Mo_address_7 : decode b_Mo_address 7 = .ok (.bipush 15, 2) := by decide +kernel
theorem d_Mo_address_9 : decode b_Mo_address 9 = .ok (.iand, 1) := by decide +kernel
theorem d_Mo_address_10 : decode b_Mo_address 10 = .ok (.istore 4, 2) := by decide +kernel
theorem d_Mo_address_12 : decode b_Mo_address 12 = .ok (.iload_n 3, 1) := by decide +kernel
theorem d_Mo_address_13 : decode b_Mo_address 13 = .ok (.ifCond .ne 17, 3) := by decide +kernel
theorem d_Mo_address_16 : decode b_Mo_address 16 = .ok (.aload_n 0, 1) := by decide +kernel
theorem d_Mo_address_17 : decode b_Mo_address 17 = .ok (.getfield 25, 3) := by decide +kernel
theorem d_Mo_address_20 : decode b_Mo_address 20 = .ok (.iconst 2, 1) := by decide +kernel
theorem d_Mo_address_21 : decode b_Mo_address 21 = .ok (.iload 4, 2) := by decide +kernel
theorem d_Mo_address_23 : decode b_Mo_address 23 = .ok (.imul, 1) := by decide +kernel
theorem d_Mo_address_24 : decode b_Mo_address 24 = .ok (.iadd, 1) := by decide +kernel
theorem d_Mo_address_25 : decode b_Mo_address 25 = .ok (.sipush 1023, 3) := by decide +kernel
theorem d_Mo_address_28 : decode b_Mo_address 28 = .ok (.iand, 1) := by decide +kernel
theorem d_Mo_address_29 : decode b_Mo_address 29 = .ok (.ireturn, 1) := by decide +kernel
theorem d_Mo_address_30 : decode b_Mo_address 30 = .ok (.iload_n 3, 1) := by decide +kernel
theorem d_Mo_address_31 : decode b_Mo_address 31 = .ok (.iconst 1, 1) := by decide +kernel
theorem d_Mo_address_32 : decode b_Mo_address 32 = .ok (.if_icmp .ne 14, 3) := by decide +kernel
theorem d_Mo_address_35 : decode b_Mo_address 35 = .ok (.aload_n 0, 1) := by decide +kernel
theorem d_Mo_address_36 : decode b_Mo_address 36 = .ok (.iload 4, 2) := by decide +kernel
theorem d_Mo_address_38 : decode b_Mo_address 38 = .ok (.invokevirtual 40, 3) := by decide +kernel
theorem d_Mo_address_41 : decode b_Mo_address 41 = .ok (.sipush 1023, 3) := by decide +kernel
theorem d_Mo_address_44 : decode b_Mo_address 44 = .ok (.iand, 1) := by decide +kernel
theorem d_Mo_address_45 : decode b_Mo_address 45 = .ok (.ireturn, 1) := by decide +kernel
theorem d_Mo_address_46 : decode b_Mo_address 46 = .ok (.iload_n 3, 1) := by decide +kernel
theorem d_Mo_address_47 : decode b_Mo_address 47 = .ok (.iconst 2, 1) := by decide +kernel
theorem d_Mo_address_48 : decode b_Mo_address 48 = .ok (.if_icmp .ne 33, 3) := by decide +kernel
theorem d_Mo_address_51 : decode b_Mo_address 51 = .ok (.aload_n 0, 1) := by decide +kernel
theorem d_Mo_address_52 : decode b_Mo_address 52 = .ok (.invokevirtual 43, 3) := by decide +kernel
theorem d_Mo_address_55 : decode b_Mo_address 55 = .ok (.istore 5, 2) := by decide +kernel
theorem d_Mo_address_57 : decode b_Mo_address 57 = .ok (.iload 4, 2) := by decide +kernel
theorem d_Mo_address_59 : decode b_Mo_address 59 = .ok (.ifCond .ne 8, 3) := by decide +kernel
theorem d_Mo_address_62 : decode b_Mo_address 62 = .ok (.iload 5, 2) := by decide +kernel
theorem d_Mo_address_64 : decode b_Mo_address 64 = .ok (.goto 12, 3) := by decide +kernel
theorem d_Mo_address_67 : decode b_Mo_address 67 = .ok (.iload 5, 2) := by decide +kernel
theorem d_Mo_address_69 : decode b_Mo_address 69 = .ok (.aload_n 0, 1) := by decide +kernel
theorem d_Mo_address_70 : decode b_Mo_address 70 = .ok (.iload 4, 2) := by decide +kernel
theorem d_Mo_address_72 : decode b_Mo_address 72 = .ok (.invokevirtual 40, 3) := by decide +kernel
theorem d_Mo_address_75 : decode b_Mo_address 75 = .ok (.iadd, 1) := by decide +kernel
theorem d_Mo_address_76 : decode b_Mo_address 76 = .ok (.sipush 1023, 3) := by decide +kernel
theorem d_Mo_address_79 : decode b_Mo_address 79 = .ok (.iand, 1) := by decide +kernel
theorem d_Mo_address_80 : decode b_Mo_address 80 = .ok (.ireturn, 1) := by decide +kernel
theorem d_Mo_address_81 : decode b_Mo_address 81 = .ok (.aload_n 0, 1) := by decide +kernel
theorem d_Mo_address_82 : decode b_Mo_address 82 = .ok (.iload 4, 2) := by decide +kernel
theorem d_Mo_address_84 : decode b_Mo_address 84 = .ok (.invokevirtual 40, 3) := by decide +kernel
theorem d_Mo_address_87 : decode b_Mo_address 87 = .ok (.istore 5, 2) := by decide +kernel
theorem d_Mo_address_89 : decode b_Mo_address 89 = .ok (.aload_n 0, 1) := by decide +kernel
theorem d_Mo_address_90 : decode b_Mo_address 90 = .ok (.aload_n 0, 1) := by decide +kernel
theorem d_Mo_address_91 : decode b_Mo_address 91 = .ok (.getfield 25, 3) := by decide +kernel
theorem d_Mo_address_94 : decode b_Mo_address 94 = .ok (.iconst 2, 1) := by decide +kernel
theorem d_Mo_address_95 : decode b_Mo_address 95 = .ok (.iload 4, 2) := by decide +kernel
theorem d_Mo_address_97 : decode b_Mo_address 97 = .ok (.imul, 1) := by decide +kernel
theorem d_Mo_address_98 : decode b_Mo_address 98 = .ok (.iadd, 1) := by decide +kernel
theorem d_Mo_address_99 : decode b_Mo_address 99 = .ok (.putfield 47, 3) := by decide +kernel
theorem d_Mo_address_102 : decode b_Mo_address 102 = .ok (.aload_n 0, 1) := by decide +kernel
theorem d_Mo_address_103 : decode b_Mo_address 103 = .ok (.iload 5, 2) := by decide +kernel
theorem d_Mo_address_105 : decode b_Mo_address 105 = .ok (.putfield 50, 3) := by decide +kernel
theorem d_Mo_address_108 : decode b_Mo_address 108 = .ok (.aload_n 0, 1) := by decide +kernel
theorem d_Mo_address_109 : decode b_Mo_address 109 = .ok (.iload 4, 2) := by decide +kernel
theorem d_Mo_address_111 : decode b_Mo_address 111 = .ok (.iload 5, 2) := by decide +kernel
theorem d_Mo_address_113 : decode b_Mo_address 113 = .ok (.iload_n 2, 1) := by decide +kernel
theorem d_Mo_address_114 : decode b_Mo_address 114 = .ok (.ifCond .eq 7, 3) := by decide +kernel
theorem d_Mo_address_117 : decode b_Mo_address 117 = .ok (.iconst 1, 1) := by decide +kernel
theorem d_Mo_address_118 : decode b_Mo_address 118 = .ok (.goto 4, 3) := by decide +kernel
theorem d_Mo_address_121 : decode b_Mo_address 121 = .ok (.iconst 2, 1) := by decide +kernel
theorem d_Mo_address_122 : decode b_Mo_address 122 = .ok (.iadd, 1) := by decide +kernel
theorem d_Mo_address_123 : decode b_Mo_address 123 = .ok (.invokevirtual 53, 3) := by decide +kernel
theorem d_Mo_address_126 : decode b_Mo_address 126 = .ok (.iload 5, 2) := by decide +kernel
theorem d_Mo_address_128 : decode b_Mo_address 128 = .ok (.sipush 1023, 3) := by decide +kernel
theorem d_Mo_address_131 : decode b_Mo_address 131 = .ok (.iand, 1) := by decide +kernel
theorem d_Mo_address_132 : decode b_Mo_address 132 = .ok (.ireturn, 1) := by decide +kernel
theorem d_Mo_flag_0 : decode b_Mo_flag 0 = .ok (.aload_n 0, 1) := by decide +kernel
theorem d_Mo_flag_1 : decode b_Mo_flag 1 = .ok (.iload_n 2, 1) := by decide +kernel
theorem d_Mo_flag_2 : decode b_Mo_flag 2 = .ok (.ifCond .eq 12, 3) := by decide +kernel
theorem d_Mo_flag_5 : decode b_Mo_flag 5 = .ok (.aload_n 0, 1) := by decide +kernel
theorem d_Mo_flag_6 : decode b_Mo_flag 6 = .ok (.getfield 56, 3) := by decide +kernel
theorem d_Mo_flag_9 : decode b_Mo_flag 9 = .ok (.iload_n 1, 1) := by decide +kernel
theorem d_Mo_flag_10 : decode b_Mo_flag 10 = .ok (.ior, 1) := by decide +kernel
theorem d_Mo_flag_11 : decode b_Mo_flag 11 = .ok (.goto 11, 3) := by decide +kernel
theorem d_Mo_flag_14 : decode b_Mo_flag 14 = .ok (.aload_n 0, 1) := by decide +kernel
theorem d_Mo_flag_15 : decode b_Mo_flag 15 = .ok (.getfield 56, 3) := by decide +kernel
theorem d_Mo_flag_18 : decode b_Mo_flag 18 = .ok (.iload_n 1, 1) := by decide +kernel
theorem d_Mo_flag_19 : decode b_Mo_flag 19 = .ok (.iconst (-1), 1) := by decide +kernel
theorem d_Mo_flag_20 : decode b_Mo_flag 20 = .ok (.ixor, 1) := by decide +kernel
theorem d_Mo_flag_21 : decode b_Mo_flag 21 = .ok (.iand, 1) := by decide +kernel
theorem d_Mo_flag_22 : decode b_Mo_flag 22 = .ok (.putfield 56, 3) := by decide +kernel
theorem d_Mo_flag_25 : decode b_Mo_flag 25 = .ok (.return_, 1) := by decide +kernel
theorem d_Mo_has_0 : decode b_Mo_has 0 = .ok (.aload_n 0, 1) := by decide +kernel
theorem d_Mo_has_1 : decode b_Mo_has 1 = .ok (.getfield 56, 3) := by decide +kernel
theorem d_Mo_has_4 : decode b_Mo_has 4 = .ok (.iload_n 1, 1) := by decide +kernel
theorem d_Mo_has_5 : decode b_Mo_has 5 = .ok (.iand, 1) := by decide +kernel
theorem d_Mo_has_6 : decode b_Mo_has 6 = .ok (.ifCond .eq 7, 3) := by decide +kernel
theorem d_Mo_has_9 : decode b_Mo_has 9 = .ok (.iconst 1, 1) := by decide +kernel
theorem d_Mo_has_10 : decode b_Mo_has 10 = .ok (.goto 4, 3) := by decide +kernel
theorem d_Mo_has_13 : decode b_Mo_has 13 = .ok (.iconst 0, 1) := by decide +kernel
theorem d_Mo_has_14 : decode b_Mo_has 14 = .ok (.ireturn, 1) := by decide +kernel
theorem d_Mo_signed_0 : decode b_Mo_signed 0 = .ok (.iload_n 0, 1) := by decide +kernel
theorem d_Mo_signed_1 : decode b_Mo_signed 1 = .ok (.sipush 32767, 3) := by decide +kernel
theorem d_Mo_signed_4 : decode b_Mo_signed 4 = .ok (.if_icmp .le 10, 3) := by decide +kernel
theorem d_Mo_signed_7 : decode b_Mo_signed 7 = .ok (.iload_n 0, 1) := by decide +kernel
theorem d_Mo_signed_8 : decode b_Mo_signed 8 = .ok (.ldc 59, 2) := by decide +kernel
theorem d_Mo_signed_10 : decode b_Mo_signed 10 = .ok (.isub, 1) := by decide +kernel
theorem d_Mo_signed_11 : decode b_Mo_signed 11 = .ok (.goto 4, 3) := by decide +kernel
theorem d_Mo_signed_14 : decode b_Mo_signed 14 = .ok (.iload_n 0, 1) := by decide +kernel
theorem d_Mo_signed_15 : decode b_Mo_signed 15 = .ok (.ireturn, 1) := by decide +kernel
theorem d_Mo_compare_0 : decode b_Mo_compare 0 = .ok (.aload_n 0, 1) := by decide +kernel
theorem d_Mo_compare_1 : decode b_Mo_compare 1 = .ok (.ldc 60, 2) := by decide +kernel
theorem d_Mo_compare_3 : decode b_Mo_compare 3 = .ok (.iload_n 1, 1) := by decide +kernel
theorem d_Mo_compare_4 : decode b_Mo_compare 4 = .ok (.iload_n 2, 1) := by decide +kernel
theorem d_Mo_compare_5 : decode b_Mo_compare 5 = .ok (.if_icmp .le 7, 3) := by decide +kernel
theorem d_Mo_compare_8 : decode b_Mo_compare 8 = .ok (.iconst 1, 1) := by decide +kernel
theorem d_Mo_compare_9 : decode b_Mo_compare 9 = .ok (.goto 4, 3) := by decide +kernel
theorem d_Mo_compare_12 : decode b_Mo_compare 12 = .ok (.iconst 0, 1) := by decide +kernel
theorem d_Mo_compare_13 : decode b_Mo_compare 13 = .ok (.invokevirtual 61, 3) := by decide +kernel
theorem d_Mo_compare_16 : decode b_Mo_compare 16 = .ok (.aload_n 0, 1) := by decide +kernel
theorem d_Mo_compare_17 : decode b_Mo_compare 17 = .ok (.sipush 16384, 3) := by decide +kernel
theorem d_Mo_compare_20 : decode b_Mo_compare 20 = .ok (.iload_n 1, 1) := by decide +kernel
theorem d_Mo_compare_21 : decode b_Mo_compare 21 = .ok (.invokestatic 65, 3) := by decide +kernel
theorem d_Mo_compare_24 : decode b_Mo_compare 24 = .ok (.iload_n 2, 1) := by decide +kernel
theorem d_Mo_compare_25 : decode b_Mo_compare 25 = .ok (.invokestatic 65, 3) := by decide +kernel
theorem d_Mo_compare_28 : decode b_Mo_compare 28 = .ok (.if_icmp .le 7, 3) := by decide +kernel
theorem d_Mo_compare_31 : decode b_Mo_compare 31 = .ok (.iconst 1, 1) := by decide +kernel
theorem d_Mo_compare_32 : decode b_Mo_compare 32 = .ok (.goto 4, 3) := by decide +kernel
theorem d_Mo_compare_35 : decode b_Mo_compare 35 = .ok (.iconst 0, 1) := by decide +kernel
theorem d_Mo_compare_36 : decode b_Mo_compare 36 = .ok (.invokevirtual 61, 3) := by decide +kernel
theorem d_Mo_compare_39 : decode b_Mo_compare 39 = .ok (.aload_n 0, 1) := by decide +kernel
theorem d_Mo_compare_40 : decode b_Mo_compare 40 = .ok (.sipush 8192, 3) := by decide +kernel
theorem d_Mo_compare_43 : decode b_Mo_compare 43 = .ok (.iload_n 1, 1) := by decide +kernel
theorem d_Mo_compare_44 : decode b_Mo_compare 44 = .ok (.iload_n 2, 1) := by decide +kernel
theorem d_Mo_compare_45 : decode b_Mo_compare 45 = .ok (.if_icmp .ne 7, 3) := by decide +kernel
theorem d_Mo_compare_48 : decode b_Mo_compare 48 = .ok (.iconst 1, 1) := by decide +kernel
theorem d_Mo_compare_49 : decode b_Mo_compare 49 = .ok (.goto 4, 3) := by decide +kernel
theorem d_Mo_compare_52 : decode b_Mo_compare 52 = .ok (.iconst 0, 1) := by decide +kernel
theorem d_Mo_compare_53 : decode b_Mo_compare 53 = .ok (.invokevirtual 61, 3) := by decide +kernel
theorem d_Mo_compare_56 : decode b_Mo_compare 56 = .ok (.return_, 1) := by decide +kernel
theorem d_Mo_test_0 : decode b_Mo_test 0 = .ok (.aload_n 0, 1) := by decide +kernel
theorem d_Mo_test_1 : decode b_Mo_test 1 = .ok (.iload_n 1, 1) := by decide +kernel
theorem d_Mo_test_2 : decode b_Mo_test 2 = .ok (.iconst 0, 1) := by decide +kernel
theorem d_Mo_test_3 : decode b_Mo_test 3 = .ok (.invokevirtual 68, 3) := by decide +kernel
theorem d_Mo_test_6 : decode b_Mo_test 6 = .ok (.return_, 1) := by decide +kernel
theorem d_Mo_parity_0 : decode b_Mo_parity 0 = .ok (.iconst 0, 1) := by decide +kernel
theorem d_Mo_parity_1 : decode b_Mo_parity 1 = .ok (.istore_n 2, 1) := by decide +kernel
theorem d_Mo_parity_2 : decode b_Mo_parity 2 = .ok (.bipush 8, 2) := by decide +kernel
theorem d_Mo_parity_4 : decode b_Mo_parity 4 = .ok (.istore_n 3, 1) := by decide +kernel
theorem d_Mo_parity_5 : decode b_Mo_parity 5 = .ok (.iload_n 3, 1) := by decide +kernel
theorem d_Mo_parity_6 : decode b_Mo_parity 6 = .ok (.bipush 16, 2) := by decide +kernel
theorem d_Mo_parity_8 : decode b_Mo_parity 8 = .ok (.if_icmp .ge 17, 3) := by decide +kernel
theorem d_Mo_parity_11 : decode b_Mo_parity 11 = .ok (.iload_n 2, 1) := by decide +kernel
theorem d_Mo_parity_12 : decode b_Mo_parity 12 = .ok (.iload_n 1, 1) := by decide +kernel
theorem d_Mo_parity_13 : decode b_Mo_parity 13 = .ok (.iload_n 3, 1) := by decide +kernel
theorem d_Mo_parity_14 : decode b_Mo_parity 14 = .ok (.ishr, 1) := by decide +kernel
theorem d_Mo_parity_15 : decode b_Mo_parity 15 = .ok (.iconst 1, 1) := by decide +kernel
theorem d_Mo_parity_16 : decode b_Mo_parity 16 = .ok (.iand, 1) := by decide +kernel
theorem d_Mo_parity_17 : decode b_Mo_parity 17 = .ok (.iadd, 1) := by decide +kernel
theorem d_Mo_parity_18 : decode b_Mo_parity 18 = .ok (.istore_n 2, 1) := by decide +kernel
theorem d_Mo_parity_19 : decode b_Mo_parity 19 = .ok (.iinc 3 1, 3) := by decide +kernel
theorem d_Mo_parity_22 : decode b_Mo_parity 22 = .ok (.goto (-17), 3) := by decide +kernel
theorem d_Mo_parity_25 : decode b_Mo_parity 25 = .ok (.aload_n 0, 1) := by decide +kernel
theorem d_Mo_parity_26 : decode b_Mo_parity 26 = .ok (.sipush 1024, 3) := by decide +kernel
theorem d_Mo_parity_29 : decode b_Mo_parity 29 = .ok (.iload_n 2, 1) := by decide +kernel
theorem d_Mo_parity_30 : decode b_Mo_parity 30 = .ok (.iconst 1, 1) := by decide +kernel
theorem d_Mo_parity_31 : decode b_Mo_parity 31 = .ok (.iand, 1) := by decide +kernel
theorem d_Mo_parity_32 : decode b_Mo_parity 32 = .ok (.iconst 1, 1) := by decide +kernel
theorem d_Mo_parity_33 : decode b_Mo_parity 33 = .ok (.if_icmp .ne 7, 3) := by decide +kernel
theorem d_Mo_parity_36 : decode b_Mo_parity 36 = .ok (.iconst 1, 1) := by decide +kernel
theorem d_Mo_parity_37 : decode b_Mo_parity 37 = .ok (.goto 4, 3) := by decide +kernel
theorem d_Mo_parity_40 : decode b_Mo_parity 40 = .ok (.iconst 0, 1) := by decide +kernel
theorem d_Mo_parity_41 : decode b_Mo_parity 41 = .ok (.invokevirtual 61, 3) := by decide +kernel
theorem d_Mo_parity_44 : decode b_Mo_parity 44 = .ok (.return_, 1) := by decide +kernel
theorem d_Mo_sum_0 : decode b_Mo_sum 0 = .ok (.iload_n 1, 1) := by decide +kernel
theorem d_Mo_sum_1 : decode b_Mo_sum 1 = .ok (.iload_n 2, 1) := by decide +kernel
theorem d_Mo_sum_2 : decode b_Mo_sum 2 = .ok (.iadd, 1) := by decide +kernel
theorem d_Mo_sum_3 : decode b_Mo_sum 3 = .ok (.iload 4, 2) := by decide +kernel
theorem d_Mo_sum_5 : decode b_Mo_sum 5 = .ok (.ifCond .eq 11, 3) := by decide +kernel
theorem d_Mo_sum_8 : decode b_Mo_sum 8 = .ok (.sipush 256, 3) := by decide +kernel
theorem d_Mo_sum_11 : decode b_Mo_sum 11 = .ok (.iload_n 3, 1) := by decide +kernel
theorem d_Mo_sum_12 : decode b_Mo_sum 12 = .ok (.imul, 1) := by decide +kernel
theorem d_Mo_sum_13 : decode b_Mo_sum 13 = .ok (.goto 4, 3) := by decide +kernel
theorem d_Mo_sum_16 : decode b_Mo_sum 16 = .ok (.iload_n 3, 1) := by decide +kernel
theorem d_Mo_sum_17 : decode b_Mo_sum 17 = .ok (.iadd, 1) := by decide +kernel
theorem d_Mo_sum_18 : decode b_Mo_sum 18 = .ok (.istore 5, 2) := by decide +kernel
theorem d_Mo_sum_20 : decode b_Mo_sum 20 = .ok (.iload 5, 2) := by decide +kernel
theorem d_Mo_sum_22 : decode b_Mo_sum 22 = .ok (.ldc 24, 2) := by decide +kernel
theorem d_Mo_sum_24 : decode b_Mo_sum 24 = .ok (.iand, 1) := by decide +kernel
theorem d_Mo_sum_25 : decode b_Mo_sum 25 = .ok (.istore 6, 2) := by decide +kernel
theorem d_Mo_sum_27 : decode b_Mo_sum 27 = .ok (.aload_n 0, 1) := by decide +kernel
theorem d_Mo_sum_28 : decode b_Mo_sum 28 = .ok (.sipush 4096, 3) := by decide +kernel
theorem d_Mo_sum_31 : decode b_Mo_sum 31 = .ok (.iload 5, 2) := by decide +kernel
theorem d_Mo_sum_33 : decode b_Mo_sum 33 = .ok (.ldc 24, 2) := by decide +kernel
theorem d_Mo_sum_35 : decode b_Mo_sum 35 = .ok (.if_icmp .le 7, 3) := by decide +kernel
theorem d_Mo_sum_38 : decode b_Mo_sum 38 = .ok (.iconst 1, 1) := by decide +kernel
theorem d_Mo_sum_39 : decode b_Mo_sum 39 = .ok (.goto 4, 3) := by decide +kernel
theorem d_Mo_sum_42 : decode b_Mo_sum 42 = .ok (.iconst 0, 1) := by decide +kernel
theorem d_Mo_sum_43 : decode b_Mo_sum 43 = .ok (.invokevirtual 61, 3) := by decide +kernel
theorem d_Mo_sum_46 : decode b_Mo_sum 46 = .ok (.aload_n 0, 1) := by decide +kernel
theorem d_Mo_sum_47 : decode b_Mo_sum 47 = .ok (.sipush 2048, 3) := by decide +kernel
theorem d_Mo_sum_50 : decode b_Mo_sum 50 = .ok (.iload_n 1, 1) := by decide +kernel
theorem d_Mo_sum_51 : decode b_Mo_sum 51 = .ok (.iload 6, 2) := by decide +kernel
theorem d_Mo_sum_53 : decode b_Mo_sum 53 = .ok (.ixor, 1) := by decide +kernel
theorem d_Mo_sum_54 : decode b_Mo_sum 54 = .ok (.iload_n 2, 1) := by decide +kernel
theorem d_Mo_sum_55 : decode b_Mo_sum 55 = .ok (.iload 6, 2) := by decide +kernel
theorem d_Mo_sum_57 : decode b_Mo_sum 57 = .ok (.ixor, 1) := by decide +kernel
theorem d_Mo_sum_58 : decode b_Mo_sum 58 = .ok (.iand, 1) := by decide +kernel
theorem d_Mo_sum_59 : decode b_Mo_sum 59 = .ok (.ldc 60, 2) := by decide +kernel
theorem d_Mo_sum_61 : decode b_Mo_sum 61 = .ok (.iand, 1) := by decide +kernel
theorem d_Mo_sum_62 : decode b_Mo_sum 62 = .ok (.ifCond .eq 7, 3) := by decide +kernel
theorem d_Mo_sum_65 : decode b_Mo_sum 65 = .ok (.iconst 1, 1) := by decide +kernel
theorem d_Mo_sum_66 : decode b_Mo_sum 66 = .ok (.goto 4, 3) := by decide +kernel
theorem d_Mo_sum_69 : decode b_Mo_sum 69 = .ok (.iconst 0, 1) := by decide +kernel
theorem d_Mo_sum_70 : decode b_Mo_sum 70 = .ok (.invokevirtual 61, 3) := by decide +kernel
theorem d_Mo_sum_73 : decode b_Mo_sum 73 = .ok (.iload 6, 2) := by decide +kernel
theorem d_Mo_sum_75 : decode b_Mo_sum 75 = .ok (.ireturn, 1) := by decide +kernel
theorem d_Mo_change_0 : decode b_Mo_change 0 = .ok (.aload_n 0, 1) := by decide +kernel
theorem d_Mo_change_1 : decode b_Mo_change 1 = .ok (.iload_n 1, 1) := by decide +kernel
theorem d_Mo_change_2 : decode b_Mo_change 2 = .ok (.invokevirtual 28, 3) := by decide +kernel
theorem d_Mo_change_5 : decode b_Mo_change 5 = .ok (.istore_n 2, 1) := by decide +kernel
theorem d_Mo_change_6 : decode b_Mo_change 6 = .ok (.aload_n 0, 1) := by decide +kernel
theorem d_Mo_change_7 : decode b_Mo_change 7 = .ok (.iload_n 1, 1) := by decide +kernel
theorem d_Mo_change_8 : decode b_Mo_change 8 = .ok (.iconst 2, 1) := by decide +kernel
theorem d_Mo_change_9 : decode b_Mo_change 9 = .ok (.iadd, 1) := by decide +kernel
theorem d_Mo_change_10 : decode b_Mo_change 10 = .ok (.invokevirtual 28, 3) := by decide +kernel
theorem d_Mo_change_13 : decode b_Mo_change 13 = .ok (.istore_n 3, 1) := by decide +kernel
theorem d_Mo_change_14 : decode b_Mo_change 14 = .ok (.aload_n 0, 1) := by decide +kernel
theorem d_Mo_change_15 : decode b_Mo_change 15 = .ok (.getfield 25, 3) := by decide +kernel
theorem d_Mo_change_18 : decode b_Mo_change 18 = .ok (.istore 4, 2) := by decide +kernel
theorem d_Mo_change_20 : decode b_Mo_change 20 = .ok (.aload_n 0, 1) := by decide +kernel
theorem d_Mo_change_21 : decode b_Mo_change 21 = .ok (.iload_n 2, 1) := by decide +kernel
theorem d_Mo_change_22 : decode b_Mo_change 22 = .ok (.sipush 1022, 3) := by decide +kernel
theorem d_Mo_change_25 : decode b_Mo_change 25 = .ok (.iand, 1) := by decide +kernel
theorem d_Mo_change_26 : decode b_Mo_change 26 = .ok (.putfield 25, 3) := by decide +kernel
theorem d_Mo_change_29 : decode b_Mo_change 29 = .ok (.aload_n 0, 1) := by decide +kernel
theorem d_Mo_change_30 : decode b_Mo_change 30 = .ok (.bipush 13, 2) := by decide +kernel
theorem d_Mo_change_32 : decode b_Mo_change 32 = .ok (.iload 4, 2) := by decide +kernel
theorem d_Mo_change_34 : decode b_Mo_change 34 = .ok (.invokevirtual 53, 3) := by decide +kernel
theorem d_Mo_change_37 : decode b_Mo_change 37 = .ok (.aload_n 0, 1) := by decide +kernel
theorem d_Mo_change_38 : decode b_Mo_change 38 = .ok (.bipush 14, 2) := by decide +kernel
theorem d_Mo_change_40 : decode b_Mo_change 40 = .ok (.aload_n 0, 1) := by decide +kernel
theorem d_Mo_change_41 : decode b_Mo_change 41 = .ok (.getfield 36, 3) := by decide +kernel
theorem d_Mo_change_44 : decode b_Mo_change 44 = .ok (.invokevirtual 53, 3) := by decide +kernel
theorem d_Mo_change_47 : decode b_Mo_change 47 = .ok (.aload_n 0, 1) := by decide +kernel
theorem d_Mo_change_48 : decode b_Mo_change 48 = .ok (.bipush 15, 2) := by decide +kernel
theorem d_Mo_change_50 : decode b_Mo_change 50 = .ok (.aload_n 0, 1) := by decide +kernel
theorem d_Mo_change_51 : decode b_Mo_change 51 = .ok (.getfield 56, 3) := by decide +kernel
theorem d_Mo_change_54 : decode b_Mo_change 54 = .ok (.invokevirtual 53, 3) := by decide +kernel
theorem d_Mo_change_57 : decode b_Mo_change 57 = .ok (.aload_n 0, 1) := by decide +kernel
theorem d_Mo_change_58 : decode b_Mo_change 58 = .ok (.iload_n 3, 1) := by decide +kernel
theorem d_Mo_change_59 : decode b_Mo_change 59 = .ok (.sipush 1022, 3) := by decide +kernel
theorem d_Mo_change_62 : decode b_Mo_change 62 = .ok (.iand, 1) := by decide +kernel
theorem d_Mo_change_63 : decode b_Mo_change 63 = .ok (.putfield 36, 3) := by decide +kernel
theorem d_Mo_change_66 : decode b_Mo_change 66 = .ok (.return_, 1) := by decide +kernel
theorem d_Mo_setMask_0 : decode b_Mo_setMask 0 = .ok (.aload_n 0, 1) := by decide +kernel
theorem d_Mo_setMask_1 : decode b_Mo_setMask 1 = .ok (.aload_n 0, 1) := by decide +kernel
theorem d_Mo_setMask_2 : decode b_Mo_setMask 2 = .ok (.getfield 56, 3) := by decide +kernel
theorem d_Mo_setMask_5 : decode b_Mo_setMask 5 = .ok (.bipush (-16), 2) := by decide +kernel
theorem d_Mo_setMask_7 : decode b_Mo_setMask 7 = .ok (.iand, 1) := by decide +kernel
theorem d_Mo_setMask_8 : decode b_Mo_setMask 8 = .ok (.iload_n 1, 1) := by decide +kernel
theorem d_Mo_setMask_9 : decode b_Mo_setMask 9 = .ok (.bipush 15, 2) := by decide +kernel
theorem d_Mo_setMask_11 : decode b_Mo_setMask 11 = .ok (.iand, 1) := by decide +kernel
theorem d_Mo_setMask_12 : decode b_Mo_setMask 12 = .ok (.ior, 1) := by decide +kernel
theorem d_Mo_setMask_13 : decode b_Mo_setMask 13 = .ok (.putfield 56, 3) := by decide +kernel
theorem d_Mo_setMask_16 : decode b_Mo_setMask 16 = .ok (.return_, 1) := by decide +kernel
theorem d_Mo_known_0 : decode b_Mo_known 0 = .ok (.iload_n 0, 1) := by decide +kernel
theorem d_Mo_known_1 : decode b_Mo_known 1 = .ok (.sipush 4096, 3) := by decide +kernel
theorem d_Mo_known_4 : decode b_Mo_known 4 = .ok (.if_icmp .lt 5, 3) := by decide +kernel
theorem d_Mo_known_7 : decode b_Mo_known 7 = .ok (.iconst 1, 1) := by decide +kernel
theorem d_Mo_known_8 : decode b_Mo_known 8 = .ok (.ireturn, 1) := by decide +kernel
theorem d_Mo_known_9 : decode b_Mo_known 9 = .ok (.iload_n 0, 1) := by decide +kernel
theorem d_Mo_known_10 : decode b_Mo_known 10 = .ok (.sipush 2048, 3) := by decide +kernel
theorem d_Mo_known_13 : decode b_Mo_known 13 = .ok (.if_icmp .lt 16, 3) := by decide +kernel
theorem d_Mo_known_16 : decode b_Mo_known 16 = .ok (.iload_n 0, 1) := by decide +kernel
theorem d_Mo_known_17 : decode b_Mo_known 17 = .ok (.sipush 3072, 3) := by decide +kernel
theorem d_Mo_known_20 : decode b_Mo_known 20 = .ok (.if_icmp .ge 7, 3) := by decide +kernel
theorem d_Mo_known_23 : decode b_Mo_known 23 = .ok (.iconst 1, 1) := by decide +kernel
theorem d_Mo_known_24 : decode b_Mo_known 24 = .ok (.goto 4, 3) := by decide +kernel
theorem d_Mo_known_27 : decode b_Mo_known 27 = .ok (.iconst 0, 1) := by decide +kernel
theorem d_Mo_known_28 : decode b_Mo_known 28 = .ok (.ireturn, 1) := by decide +kernel
theorem d_Mo_known_29 : decode b_Mo_known 29 = .ok (.iload_n 0, 1) := by decide +kernel
theorem d_Mo_known_30 : decode b_Mo_known 30 = .ok (.sipush 1024, 3) := by decide +kernel
theorem d_Mo_known_33 : decode b_Mo_known 33 = .ok (.if_icmp .lt 16, 3) := by decide +kernel
theorem d_Mo_known_36 : decode b_Mo_known 36 = .ok (.iload_n 0, 1) := by decide +kernel
theorem d_Mo_known_37 : decode b_Mo_known 37 = .ok (.sipush 1920, 3) := by decide +kernel
theorem d_Mo_known_40 : decode b_Mo_known 40 = .ok (.if_icmp .ge 7, 3) := by decide +kernel
theorem d_Mo_known_43 : decode b_Mo_known 43 = .ok (.iconst 1, 1) := by decide +kernel
theorem d_Mo_known_44 : decode b_Mo_known 44 = .ok (.goto 4, 3) := by decide +kernel
theorem d_Mo_known_47 : decode b_Mo_known 47 = .ok (.iconst 0, 1) := by decide +kernel
theorem d_Mo_known_48 : decode b_Mo_known 48 = .ok (.ireturn, 1) := by decide +kernel
theorem d_Mo_known_49 : decode b_Mo_known 49 = .ok (.iload_n 0, 1) := by decide +kernel
theorem d_Mo_known_50 : decode b_Mo_known 50 = .ok (.sipush 512, 3) := by decide +kernel
theorem d_Mo_known_53 : decode b_Mo_known 53 = .ok (.if_icmp .lt 25, 3) := by decide +kernel
theorem d_Mo_known_56 : decode b_Mo_known 56 = .ok (.iload_n 0, 1) := by decide +kernel
theorem d_Mo_known_57 : decode b_Mo_known 57 = .ok (.bipush 16, 2) := by decide +kernel
theorem d_Mo_known_59 : decode b_Mo_known 59 = .ok (.iand, 1) := by decide +kernel
theorem d_Mo_known_60 : decode b_Mo_known 60 = .ok (.ifCond .ne 18, 3) := by decide +kernel
theorem d_Mo_known_63 : decode b_Mo_known 63 = .ok (.iload_n 0, 1) := by decide +kernel
theorem d_Mo_known_64 : decode b_Mo_known 64 = .ok (.iconst 5, 1) := by decide +kernel
theorem d_Mo_known_65 : decode b_Mo_known 65 = .ok (.ishr, 1) := by decide +kernel
theorem d_Mo_known_66 : decode b_Mo_known 66 = .ok (.bipush 15, 2) := by decide +kernel
theorem d_Mo_known_68 : decode b_Mo_known 68 = .ok (.iand, 1) := by decide +kernel
theorem d_Mo_known_69 : decode b_Mo_known 69 = .ok (.bipush 9, 2) := by decide +kernel
theorem d_Mo_known_71 : decode b_Mo_known 71 = .ok (.if_icmp .eq 7, 3) := by decide +kernel
theorem d_Mo_known_74 : decode b_Mo_known 74 = .ok (.iconst 1, 1) := by decide +kernel
theorem d_Mo_known_75 : decode b_Mo_known 75 = .ok (.goto 4, 3) := by decide +kernel
theorem d_Mo_known_78 : decode b_Mo_known 78 = .ok (.iconst 0, 1) := by decide +kernel
theorem d_Mo_known_79 : decode b_Mo_known 79 = .ok (.ireturn, 1) := by decide +kernel
theorem d_Mo_isX_0 : decode b_Mo_isX 0 = .ok (.iload_n 0, 1) := by decide +kernel
theorem d_Mo_isX_1 : decode b_Mo_isX 1 = .ok (.sipush 1152, 3) := by decide +kernel
theorem d_Mo_isX_4 : decode b_Mo_isX 4 = .ok (.if_icmp .lt 14, 3) := by decide +kernel
theorem d_Mo_isX_7 : decode b_Mo_isX 7 = .ok (.iload_n 0, 1) := by decide +kernel
theorem d_Mo_isX_8 : decode b_Mo_isX 8 = .ok (.sipush 1216, 3) := by decide +kernel
theorem d_Mo_isX_11 : decode b_Mo_isX 11 = .ok (.if_icmp .ge 7, 3) := by decide +kernel
theorem d_Mo_isX_14 : decode b_Mo_isX 14 = .ok (.iconst 1, 1) := by decide +kernel
theorem d_Mo_isX_15 : decode b_Mo_isX 15 = .ok (.goto 4, 3) := by decide +kernel
theorem d_Mo_isX_18 : decode b_Mo_isX 18 = .ok (.iconst 0, 1) := by decide +kernel
theorem d_Mo_isX_19 : decode b_Mo_isX 19 = .ok (.ireturn, 1) := by decide +kernel
theorem d_Mo_twoOperands_0 : decode b_Mo_twoOperands 0 = .ok (.iload_n 1, 1) := by decide +kernel
theorem d_Mo_twoOperands_1 : decode b_Mo_twoOperands 1 = .ok (.bipush 12, 2) := by decide +kernel
theorem d_Mo_twoOperands_3 : decode b_Mo_twoOperands 3 = .ok (.ishr, 1) := by decide +kernel
theorem d_Mo_twoOperands_4 : decode b_Mo_twoOperands 4 = .ok (.istore_n 2, 1) := by decide +kernel
theorem d_Mo_twoOperands_5 : decode b_Mo_twoOperands 5 = .ok (.iload_n 2, 1) := by decide +kernel
theorem d_Mo_twoOperands_6 : decode b_Mo_twoOperands 6 = .ok (.iconst 1, 1) := by decide +kernel
theorem d_Mo_twoOperands_7 : decode b_Mo_twoOperands 7 = .ok (.iand, 1) := by decide +kernel
theorem d_Mo_twoOperands_8 : decode b_Mo_twoOperands 8 = .ok (.iconst 1, 1) := by decide +kernel
theorem d_Mo_twoOperands_9 : decode b_Mo_twoOperands 9 = .ok (.if_icmp .ne 7, 3) := by decide +kernel
theorem d_Mo_twoOperands_12 : decode b_Mo_twoOperands 12 = .ok (.iconst 1, 1) := by decide +kernel
theorem d_Mo_twoOperands_13 : decode b_Mo_twoOperands 13 = .ok (.goto 4, 3) := by decide +kernel
theorem d_Mo_twoOperands_16 : decode b_Mo_twoOperands 16 = .ok (.iconst 0, 1) := by decide +kernel
theorem d_Mo_twoOperands_17 : decode b_Mo_twoOperands 17 = .ok (.istore_n 3, 1) := by decide +kernel
theorem d_Mo_twoOperands_18 : decode b_Mo_twoOperands 18 = .ok (.aload_n 0, 1) := by decide +kernel
theorem d_Mo_twoOperands_19 : decode b_Mo_twoOperands 19 = .ok (.aload_n 0, 1) := by decide +kernel
theorem d_Mo_twoOperands_20 : decode b_Mo_twoOperands 20 = .ok (.iload_n 1, 1) := by decide +kernel
theorem d_Mo_twoOperands_21 : decode b_Mo_twoOperands 21 = .ok (.bipush 63, 2) := by decide +kernel
theorem d_Mo_twoOperands_23 : decode b_Mo_twoOperands 23 = .ok (.iand, 1) := by decide +kernel
theorem d_Mo_twoOperands_24 : decode b_Mo_twoOperands 24 = .ok (.iload_n 3, 1) := by decide +kernel
theorem d_Mo_twoOperands_25 : decode b_Mo_twoOperands 25 = .ok (.invokevirtual 71, 3) := by decide +kernel
theorem d_Mo_twoOperands_28 : decode b_Mo_twoOperands 28 = .ok (.iload_n 3, 1) := by decide +kernel
theorem d_Mo_twoOperands_29 : decode b_Mo_twoOperands 29 = .ok (.invokevirtual 75, 3) := by decide +kernel
theorem d_Mo_twoOperands_32 : decode b_Mo_twoOperands 32 = .ok (.istore 4, 2) := by decide +kernel
theorem d_Mo_twoOperands_34 : decode b_Mo_twoOperands 34 = .ok (.aload_n 0, 1) := by decide +kernel
theorem d_Mo_twoOperands_35 : decode b_Mo_twoOperands 35 = .ok (.iload_n 1, 1) := by decide +kernel
theorem d_Mo_twoOperands_36 : decode b_Mo_twoOperands 36 = .ok (.bipush 6, 2) := by decide +kernel
theorem d_Mo_twoOperands_38 : decode b_Mo_twoOperands 38 = .ok (.ishr, 1) := by decide +kernel
theorem d_Mo_twoOperands_39 : decode b_Mo_twoOperands 39 = .ok (.bipush 63, 2) := by decide +kernel
theorem d_Mo_twoOperands_41 : decode b_Mo_twoOperands 41 = .ok (.iand, 1) := by decide +kernel
theorem d_Mo_twoOperands_42 : decode b_Mo_twoOperands 42 = .ok (.iload_n 3, 1) := by decide +kernel
theorem d_Mo_twoOperands_43 : decode b_Mo_twoOperands 43 = .ok (.invokevirtual 71, 3) := by decide +kernel
theorem d_Mo_twoOperands_46 : decode b_Mo_twoOperands 46 = .ok (.istore 5, 2) := by decide +kernel
theorem d_Mo_twoOperands_48 : decode b_Mo_twoOperands 48 = .ok (.aload_n 0, 1) := by decide +kernel
theorem d_Mo_twoOperands_49 : decode b_Mo_twoOperands 49 = .ok (.iload 5, 2) := by decide +kernel
theorem d_Mo_twoOperands_51 : decode b_Mo_twoOperands 51 = .ok (.iload_n 3, 1) := by decide +kernel
theorem d_Mo_twoOperands_52 : decode b_Mo_twoOperands 52 = .ok (.invokevirtual 75, 3) := by decide +kernel
theorem d_Mo_twoOperands_55 : decode b_Mo_twoOperands 55 = .ok (.istore 6, 2) := by decide +kernel
theorem d_Mo_twoOperands_57 : decode b_Mo_twoOperands 57 = .ok (.iload 4, 2) := by decide +kernel
theorem d_Mo_twoOperands_59 : decode b_Mo_twoOperands 59 = .ok (.iload_n 3, 1) := by decide +kernel
theorem d_Mo_twoOperands_60 : decode b_Mo_twoOperands 60 = .ok (.ifCond .eq 8, 3) := by decide +kernel
theorem d_Mo_twoOperands_63 : decode b_Mo_twoOperands 63 = .ok (.ldc 39, 2) := by decide +kernel
theorem d_Mo_twoOperands_65 : decode b_Mo_twoOperands 65 = .ok (.goto 5, 3) := by decide +kernel
theorem d_Mo_twoOperands_68 : decode b_Mo_twoOperands 68 = .ok (.ldc 24, 2) := by decide +kernel
theorem d_Mo_twoOperands_70 : decode b_Mo_twoOperands 70 = .ok (.ixor, 1) := by decide +kernel
theorem d_Mo_twoOperands_71 : decode b_Mo_twoOperands 71 = .ok (.istore 7, 2) := by decide +kernel
theorem d_Mo_twoOperands_73 : decode b_Mo_twoOperands 73 = .ok (.iload 6, 2) := by decide +kernel
theorem d_Mo_twoOperands_75 : decode b_Mo_twoOperands 75 = .ok (.istore 8, 2) := by decide +kernel
theorem d_Mo_twoOperands_77 : decode b_Mo_twoOperands 77 = .ok (.iload_n 2, 1) := by decide +kernel
theorem d_Mo_twoOperands_78 : decode b_Mo_twoOperands 78 = .ok (.bipush 6, 2) := by decide +kernel
theorem d_Mo_twoOperands_80 : decode b_Mo_twoOperands 80 = .ok (.if_icmp .ge 13, 3) := by decide +kernel
theorem d_Mo_twoOperands_83 : decode b_Mo_twoOperands 83 = .ok (.iload 6, 2) := by decide +kernel
theorem d_Mo_twoOperands_85 : decode b_Mo_twoOperands 85 = .ok (.iload 7, 2) := by decide +kernel
theorem d_Mo_twoOperands_87 : decode b_Mo_twoOperands 87 = .ok (.iand, 1) := by decide +kernel
theorem d_Mo_twoOperands_88 : decode b_Mo_twoOperands 88 = .ok (.istore 8, 2) := by decide +kernel
theorem d_Mo_twoOperands_90 : decode b_Mo_twoOperands 90 = .ok (.goto 82, 3) := by decide +kernel
theorem d_Mo_twoOperands_93 : decode b_Mo_twoOperands 93 = .ok (.iload_n 2, 1) := by decide +kernel
theorem d_Mo_twoOperands_94 : decode b_Mo_twoOperands 94 = .ok (.bipush 8, 2) := by decide +kernel
theorem d_Mo_twoOperands_96 : decode b_Mo_twoOperands 96 = .ok (.if_icmp .ge 18, 3) := by decide +kernel
theorem d_Mo_twoOperands_99 : decode b_Mo_twoOperands 99 = .ok (.aload_n 0, 1) := by decide +kernel
theorem d_Mo_twoOperands_100 : decode b_Mo_twoOperands 100 = .ok (.iload 6, 2) := by decide +kernel
theorem d_Mo_twoOperands_102 : decode b_Mo_twoOperands 102 = .ok (.iload 7, 2) := by decide +kernel
theorem d_Mo_twoOperands_104 : decode b_Mo_twoOperands 104 = .ok (.iconst 1, 1) := by decide +kernel
theorem d_Mo_twoOperands_105 : decode b_Mo_twoOperands 105 = .ok (.iload_n 3, 1) := by decide +kernel
theorem d_Mo_twoOperands_106 : decode b_Mo_twoOperands 106 = .ok (.invokevirtual 78, 3) := by decide +kernel
theorem d_Mo_twoOperands_109 : decode b_Mo_twoOperands 109 = .ok (.istore 8, 2) := by decide +kernel
theorem d_Mo_twoOperands_111 : decode b_Mo_twoOperands 111 = .ok (.goto 61, 3) := by decide +kernel
theorem d_Mo_twoOperands_114 : decode b_Mo_twoOperands 114 = .ok (.iload_n 2, 1) := by decide +kernel
theorem d_Mo_twoOperands_115 : decode b_Mo_twoOperands 115 = .ok (.bipush 10, 2) := by decide +kernel
theorem d_Mo_twoOperands_117 : decode b_Mo_twoOperands 117 = .ok (.if_icmp .ge 14, 3) := by decide +kernel
theorem d_Mo_twoOperands_120 : decode b_Mo_twoOperands 120 = .ok (.aload_n 0, 1) := by decide +kernel
theorem d_Mo_twoOperands_121 : decode b_Mo_twoOperands 121 = .ok (.iload 4, 2) := by decide +kernel
theorem d_Mo_twoOperands_123 : decode b_Mo_twoOperands 123 = .ok (.iload 6, 2) := by decide +kernel
theorem d_Mo_twoOperands_125 : decode b_Mo_twoOperands 125 = .ok (.invokevirtual 68, 3) := by decide +kernel
theorem d_Mo_twoOperands_128 : decode b_Mo_twoOperands 128 = .ok (.goto 44, 3) := by decide +kernel
theorem d_Mo_twoOperands_131 : decode b_Mo_twoOperands 131 = .ok (.iload_n 2, 1) := by decide +kernel
theorem d_Mo_twoOperands_132 : decode b_Mo_twoOperands 132 = .ok (.bipush 12, 2) := by decide +kernel
theorem d_Mo_twoOperands_134 : decode b_Mo_twoOperands 134 = .ok (.if_icmp .ge 18, 3) := by decide +kernel
theorem d_Mo_twoOperands_137 : decode b_Mo_twoOperands 137 = .ok (.aload_n 0, 1) := by decide +kernel
theorem d_Mo_twoOperands_138 : decode b_Mo_twoOperands 138 = .ok (.iload 6, 2) := by decide +kernel
theorem d_Mo_twoOperands_140 : decode b_Mo_twoOperands 140 = .ok (.iload 4, 2) := by decide +kernel
theorem d_Mo_twoOperands_142 : decode b_Mo_twoOperands 142 = .ok (.iconst 0, 1) := by decide +kernel
theorem d_Mo_twoOperands_143 : decode b_Mo_twoOperands 143 = .ok (.iload_n 3, 1) := by decide +kernel
theorem d_Mo_twoOperands_144 : decode b_Mo_twoOperands 144 = .ok (.invokevirtual 78, 3) := by decide +kernel
theorem d_Mo_twoOperands_147 : decode b_Mo_twoOperands 147 = .ok (.istore 8, 2) := by decide +kernel
theorem d_Mo_twoOperands_149 : decode b_Mo_twoOperands 149 = .ok (.goto 23, 3) := by decide +kernel
theorem d_Mo_twoOperands_152 : decode b_Mo_twoOperands 152 = .ok (.iload_n 2, 1) := by decide +kernel
theorem d_Mo_twoOperands_153 : decode b_Mo_twoOperands 153 = .ok (.bipush 14, 2) := by decide +kernel
theorem d_Mo_twoOperands_155 : decode b_Mo_twoOperands 155 = .ok (.if_icmp .ge 10, 3) := by decide +kernel
theorem d_Mo_twoOperands_158 : decode b_Mo_twoOperands 158 = .ok (.iload 4, 2) := by decide +kernel
theorem d_Mo_twoOperands_160 : decode b_Mo_twoOperands 160 = .ok (.istore 8, 2) := by decide +kernel
theorem d_Mo_twoOperands_162 : decode b_Mo_twoOperands 162 = .ok (.goto 10, 3) := by decide +kernel
theorem d_Mo_twoOperands_165 : decode b_Mo_twoOperands 165 = .ok (.iload 6, 2) := by decide +kernel
theorem d_Mo_twoOperands_167 : decode b_Mo_twoOperands 167 = .ok (.iload 4, 2) := by decide +kernel
theorem d_Mo_twoOperands_169 : decode b_Mo_twoOperands 169 = .ok (.ior, 1) := by decide +kernel
theorem d_Mo_twoOperands_170 : decode b_Mo_twoOperands 170 = .ok (.istore 8, 2) := by decide +kernel
theorem d_Mo_twoOperands_172 : decode b_Mo_twoOperands 172 = .ok (.iload_n 2, 1) := by decide +kernel
theorem d_Mo_twoOperands_173 : decode b_Mo_twoOperands 173 = .ok (.bipush 8, 2) := by decide +kernel
theorem d_Mo_twoOperands_175 : decode b_Mo_twoOperands 175 = .ok (.if_icmp .eq 24, 3) := by decide +kernel
theorem d_Mo_twoOperands_178 : decode b_Mo_twoOperands 178 = .ok (.iload_n 2, 1) := by decide +kernel
theorem d_Mo_twoOperands_179 : decode b_Mo_twoOperands 179 = .ok (.bipush 9, 2) := by decide +kernel
theorem d_Mo_twoOperands_181 : decode b_Mo_twoOperands 181 = .ok (.if_icmp .eq 18, 3) := by decide +kernel
theorem d_Mo_twoOperands_184 : decode b_Mo_twoOperands 184 = .ok (.aload_n 0, 1) := by decide +kernel
theorem d_Mo_twoOperands_185 : decode b_Mo_twoOperands 185 = .ok (.iload 8, 2) := by decide +kernel
theorem d_Mo_twoOperands_187 : decode b_Mo_twoOperands 187 = .ok (.invokevirtual 82, 3) := by decide +kernel
theorem d_Mo_twoOperands_190 : decode b_Mo_twoOperands 190 = .ok (.aload_n 0, 1) := by decide +kernel
theorem d_Mo_twoOperands_191 : decode b_Mo_twoOperands 191 = .ok (.iload 5, 2) := by decide +kernel
theorem d_Mo_twoOperands_193 : decode b_Mo_twoOperands 193 = .ok (.iload 8, 2) := by decide +kernel
theorem d_Mo_twoOperands_195 : decode b_Mo_twoOperands 195 = .ok (.iload_n 3, 1) := by decide +kernel
theorem d_Mo_twoOperands_196 : decode b_Mo_twoOperands 196 = .ok (.invokevirtual 86, 3) := by decide +kernel
theorem d_Mo_twoOperands_199 : decode b_Mo_twoOperands 199 = .ok (.iload_n 3, 1) := by decide +kernel
theorem d_Mo_twoOperands_200 : decode b_Mo_twoOperands 200 = .ok (.ifCond .eq 20, 3) := by decide +kernel
theorem d_Mo_twoOperands_203 : decode b_Mo_twoOperands 203 = .ok (.aload_n 0, 1) := by decide +kernel
theorem d_Mo_twoOperands_204 : decode b_Mo_twoOperands 204 = .ok (.iload_n 2, 1) := by decide +kernel
theorem d_Mo_twoOperands_205 : decode b_Mo_twoOperands 205 = .ok (.bipush 9, 2) := by decide +kernel
theorem d_Mo_twoOperands_207 : decode b_Mo_twoOperands 207 = .ok (.if_icmp .ne 8, 3) := by decide +kernel
theorem d_Mo_twoOperands_210 : decode b_Mo_twoOperands 210 = .ok (.iload 4, 2) := by decide +kernel
theorem d_Mo_twoOperands_212 : decode b_Mo_twoOperands 212 = .ok (.goto 5, 3) := by decide +kernel
theorem d_Mo_twoOperands_215 : decode b_Mo_twoOperands 215 = .ok (.iload 8, 2) := by decide +kernel
theorem d_Mo_twoOperands_217 : decode b_Mo_twoOperands 217 = .ok (.invokevirtual 90, 3) := by decide +kernel
theorem d_Mo_twoOperands_220 : decode b_Mo_twoOperands 220 = .ok (.return_, 1) := by decide +kernel
theorem d_Mo_base_0 : decode b_Mo_base 0 = .ok (.aload_n 0, 1) := by decide +kernel
theorem d_Mo_base_1 : decode b_Mo_base 1 = .ok (.bipush 12, 2) := by decide +kernel
theorem d_Mo_base_3 : decode b_Mo_base 3 = .ok (.invokevirtual 40, 3) := by decide +kernel
theorem d_Mo_base_6 : decode b_Mo_base 6 = .ok (.iconst 1, 1) := by decide +kernel
theorem d_Mo_base_7 : decode b_Mo_base 7 = .ok (.ishr, 1) := by decide +kernel
theorem d_Mo_base_8 : decode b_Mo_base 8 = .ok (.ireturn, 1) := by decide +kernel
theorem d_Mo_lineOperand_0 : decode b_Mo_lineOperand 0 = .ok (.iload_n 1, 1) := by decide +kernel
theorem d_Mo_lineOperand_1 : decode b_Mo_lineOperand 1 = .ok (.bipush 6, 2) := by decide +kernel
theorem d_Mo_lineOperand_3 : decode b_Mo_lineOperand 3 = .ok (.ishr, 1) := by decide +kernel
theorem d_Mo_lineOperand_4 : decode b_Mo_lineOperand 4 = .ok (.bipush 15, 2) := by decide +kernel
theorem d_Mo_lineOperand_6 : decode b_Mo_lineOperand 6 = .ok (.iand, 1) := by decide +kernel
theorem d_Mo_lineOperand_7 : decode b_Mo_lineOperand 7 = .ok (.ifCond .ne 8, 3) := by decide +kernel
theorem d_Mo_lineOperand_10 : decode b_Mo_lineOperand 10 = .ok (.bipush 16, 2) := by decide +kernel
theorem d_Mo_lineOperand_12 : decode b_Mo_lineOperand 12 = .ok (.goto 10, 3) := by decide +kernel
theorem d_Mo_lineOperand_15 : decode b_Mo_lineOperand 15 = .ok (.iload_n 1, 1) := by decide +kernel
theorem d_Mo_lineOperand_16 : decode b_Mo_lineOperand 16 = .ok (.bipush 6, 2) := by decide +kernel
theorem d_Mo_lineOperand_18 : decode b_Mo_lineOperand 18 = .ok (.ishr, 1) := by decide +kernel
theorem d_Mo_lineOperand_19 : decode b_Mo_lineOperand 19 = .ok (.bipush 15, 2) := by decide +kernel
theorem d_Mo_lineOperand_21 : decode b_Mo_lineOperand 21 = .ok (.iand, 1) := by decide +kernel
theorem d_Mo_lineOperand_22 : decode b_Mo_lineOperand 22 = .ok (.istore_n 3, 1) := by decide +kernel
theorem d_Mo_lineOperand_23 : decode b_Mo_lineOperand 23 = .ok (.iload_n 3, 1) := by decide +kernel
theorem d_Mo_lineOperand_24 : decode b_Mo_lineOperand 24 = .ok (.bipush 8, 2) := by decide +kernel
theorem d_Mo_lineOperand_26 : decode b_Mo_lineOperand 26 = .ok (.if_icmp .gt 7, 3) := by decide +kernel
theorem d_Mo_lineOperand_29 : decode b_Mo_lineOperand 29 = .ok (.iconst 1, 1) := by decide +kernel
theorem d_Mo_lineOperand_30 : decode b_Mo_lineOperand 30 = .ok (.goto 4, 3) := by decide +kernel
theorem d_Mo_lineOperand_33 : decode b_Mo_lineOperand 33 = .ok (.iconst 0, 1) := by decide +kernel
theorem d_Mo_lineOperand_34 : decode b_Mo_lineOperand 34 = .ok (.istore 4, 2) := by decide +kernel
theorem d_Mo_lineOperand_36 : decode b_Mo_lineOperand 36 = .ok (.aload_n 0, 1) := by decide +kernel
theorem d_Mo_lineOperand_37 : decode b_Mo_lineOperand 37 = .ok (.iload_n 1, 1) := by decide +kernel
theorem d_Mo_lineOperand_38 : decode b_Mo_lineOperand 38 = .ok (.bipush 63, 2) := by decide +kernel
theorem d_Mo_lineOperand_40 : decode b_Mo_lineOperand 40 = .ok (.iand, 1) := by decide +kernel
theorem d_Mo_lineOperand_41 : decode b_Mo_lineOperand 41 = .ok (.iload 4, 2) := by decide +kernel
theorem d_Mo_lineOperand_43 : decode b_Mo_lineOperand 43 = .ok (.invokevirtual 71, 3) := by decide +kernel
theorem d_Mo_lineOperand_46 : decode b_Mo_lineOperand 46 = .ok (.istore 5, 2) := by decide +kernel
theorem d_Mo_lineOperand_48 : decode b_Mo_lineOperand 48 = .ok (.iload 4, 2) := by decide +kernel
theorem d_Mo_lineOperand_50 : decode b_Mo_lineOperand 50 = .ok (.ifCond .eq 8, 3) := by decide +kernel
theorem d_Mo_lineOperand_53 : decode b_Mo_lineOperand 53 = .ok (.bipush 8, 2) := by decide +kernel
theorem d_Mo_lineOperand_55 : decode b_Mo_lineOperand 55 = .ok (.goto 4, 3) := by decide +kernel
