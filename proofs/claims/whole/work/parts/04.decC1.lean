/-! decode rows, laid by gen.py -/
theorem d_M_sizeForLines_7 : decode b_M_sizeForLines 7 = .ok (.goto 4, 3) := by decide +kernel
theorem d_M_sizeForLines_10 : decode b_M_sizeForLines 10 = .ok (.iconst 2, 1) := by decide +kernel
theorem d_M_sizeForLines_11 : decode b_M_sizeForLines 11 = .ok (.ireturn, 1) := by decide +kernel
theorem d_Li_bitOf_0 : decode b_Li_bitOf 0 = .ok (.lconst 1, 1) := by decide +kernel
theorem d_Li_bitOf_1 : decode b_Li_bitOf 1 = .ok (.iload_n 0, 1) := by decide +kernel
theorem d_Li_bitOf_2 : decode b_Li_bitOf 2 = .ok (.bipush 63, 2) := by decide +kernel
theorem d_Li_bitOf_4 : decode b_Li_bitOf 4 = .ok (.iand, 1) := by decide +kernel
theorem d_Li_bitOf_5 : decode b_Li_bitOf 5 = .ok (.lshl, 1) := by decide +kernel
theorem d_Li_bitOf_6 : decode b_Li_bitOf 6 = .ok (.lreturn, 1) := by decide +kernel
theorem d_Li_set_0 : decode b_Li_set 0 = .ok (.aload_n 0, 1) := by decide +kernel
theorem d_Li_set_1 : decode b_Li_set 1 = .ok (.iload_n 2, 1) := by decide +kernel
theorem d_Li_set_2 : decode b_Li_set 2 = .ok (.ifCond .eq 15, 3) := by decide +kernel
theorem d_Li_set_5 : decode b_Li_set 5 = .ok (.aload_n 0, 1) := by decide +kernel
theorem d_Li_set_6 : decode b_Li_set 6 = .ok (.getfield 9, 3) := by decide +kernel
theorem d_Li_set_9 : decode b_Li_set 9 = .ok (.iload_n 1, 1) := by decide +kernel
theorem d_Li_set_10 : decode b_Li_set 10 = .ok (.invokestatic 15, 3) := by decide +kernel
theorem d_Li_set_13 : decode b_Li_set 13 = .ok (.lor, 1) := by decide +kernel
theorem d_Li_set_14 : decode b_Li_set 14 = .ok (.goto 16, 3) := by decide +kernel
theorem d_Li_set_17 : decode b_Li_set 17 = .ok (.aload_n 0, 1) := by decide +kernel
theorem d_Li_set_18 : decode b_Li_set 18 = .ok (.getfield 9, 3) := by decide +kernel
theorem d_Li_set_21 : decode b_Li_set 21 = .ok (.iload_n 1, 1) := by decide +kernel
theorem d_Li_set_22 : decode b_Li_set 22 = .ok (.invokestatic 15, 3) := by decide +kernel
theorem d_Li_set_25 : decode b_Li_set 25 = .ok (.ldc2_w 19, 3) := by decide +kernel
theorem d_Li_set_28 : decode b_Li_set 28 = .ok (.lxor, 1) := by decide +kernel
theorem d_Li_set_29 : decode b_Li_set 29 = .ok (.land, 1) := by decide +kernel
theorem d_Li_set_30 : decode b_Li_set 30 = .ok (.putfield 9, 3) := by decide +kernel
theorem d_Li_set_33 : decode b_Li_set 33 = .ok (.return_, 1) := by decide +kernel
theorem d_M_sendLines_0 : decode b_M_sendLines 0 = .ok (.iload_n 2, 1) := by decide +kernel
theorem d_M_sendLines_1 : decode b_M_sendLines 1 = .ok (.invokestatic 185, 3) := by decide +kernel
theorem d_M_sendLines_4 : decode b_M_sendLines 4 = .ok (.istore_n 3, 1) := by decide +kernel
theorem d_M_sendLines_5 : decode b_M_sendLines 5 = .ok (.aload_n 0, 1) := by decide +kernel
theorem d_M_sendLines_6 : decode b_M_sendLines 6 = .ok (.getfield 12, 3) := by decide +kernel
theorem d_M_sendLines_9 : decode b_M_sendLines 9 = .ok (.aload_n 0, 1) := by decide +kernel
theorem d_M_sendLines_10 : decode b_M_sendLines 10 = .ok (.iload_n 1, 1) := by decide +kernel
theorem d_M_sendLines_11 : decode b_M_sendLines 11 = .ok (.iload_n 3, 1) := by decide +kernel
theorem d_M_sendLines_12 : decode b_M_sendLines 12 = .ok (.invokevirtual 83, 3) := by decide +kernel
theorem d_M_sendLines_15 : decode b_M_sendLines 15 = .ok (.iload_n 3, 1) := by decide +kernel
theorem d_M_sendLines_16 : decode b_M_sendLines 16 = .ok (.invokevirtual 146, 3) := by decide +kernel
theorem d_M_sendLines_19 : decode b_M_sendLines 19 = .ok (.istore 4, 2) := by decide +kernel
theorem d_M_sendLines_21 : decode b_M_sendLines 21 = .ok (.iload_n 3, 1) := by decide +kernel
theorem d_M_sendLines_22 : decode b_M_sendLines 22 = .ok (.iconst 1, 1) := by decide +kernel
theorem d_M_sendLines_23 : decode b_M_sendLines 23 = .ok (.if_icmp .ne 11, 3) := by decide +kernel
theorem d_M_sendLines_26 : decode b_M_sendLines 26 = .ok (.iload 4, 2) := by decide +kernel
theorem d_M_sendLines_28 : decode b_M_sendLines 28 = .ok (.bipush 8, 2) := by decide +kernel
theorem d_M_sendLines_30 : decode b_M_sendLines 30 = .ok (.ishr, 1) := by decide +kernel
theorem d_M_sendLines_31 : decode b_M_sendLines 31 = .ok (.goto 5, 3) := by decide +kernel
theorem d_M_sendLines_34 : decode b_M_sendLines 34 = .ok (.iload 4, 2) := by decide +kernel
theorem d_M_sendLines_36 : decode b_M_sendLines 36 = .ok (.istore 5, 2) := by decide +kernel
theorem d_M_sendLines_38 : decode b_M_sendLines 38 = .ok (.aload_n 0, 1) := by decide +kernel
theorem d_M_sendLines_39 : decode b_M_sendLines 39 = .ok (.bipush 12, 2) := by decide +kernel
theorem d_M_sendLines_41 : decode b_M_sendLines 41 = .ok (.invokevirtual 77, 3) := by decide +kernel
theorem d_M_sendLines_44 : decode b_M_sendLines 44 = .ok (.iconst 2, 1) := by decide +kernel
theorem d_M_sendLines_45 : decode b_M_sendLines 45 = .ok (.idiv, 1) := by decide +kernel
theorem d_M_sendLines_46 : decode b_M_sendLines 46 = .ok (.istore 6, 2) := by decide +kernel
theorem d_M_sendLines_48 : decode b_M_sendLines 48 = .ok (.iconst 0, 1) := by decide +kernel
theorem d_M_sendLines_49 : decode b_M_sendLines 49 = .ok (.istore 7, 2) := by decide +kernel
theorem d_M_sendLines_51 : decode b_M_sendLines 51 = .ok (.iload 7, 2) := by decide +kernel
theorem d_M_sendLines_53 : decode b_M_sendLines 53 = .ok (.iload_n 2, 1) := by decide +kernel
theorem d_M_sendLines_54 : decode b_M_sendLines 54 = .ok (.if_icmp .ge 37, 3) := by decide +kernel
theorem d_M_sendLines_57 : decode b_M_sendLines 57 = .ok (.aload_n 0, 1) := by decide +kernel
theorem d_M_sendLines_58 : decode b_M_sendLines 58 = .ok (.getfield 19, 3) := by decide +kernel
theorem d_M_sendLines_61 : decode b_M_sendLines 61 = .ok (.iload 6, 2) := by decide +kernel
theorem d_M_sendLines_63 : decode b_M_sendLines 63 = .ok (.iload 7, 2) := by decide +kernel
theorem d_M_sendLines_65 : decode b_M_sendLines 65 = .ok (.iadd, 1) := by decide +kernel
theorem d_M_sendLines_66 : decode b_M_sendLines 66 = .ok (.iload 5, 2) := by decide +kernel
theorem d_M_sendLines_68 : decode b_M_sendLines 68 = .ok (.iload 7, 2) := by decide +kernel
theorem d_M_sendLines_70 : decode b_M_sendLines 70 = .ok (.ishr, 1) := by decide +kernel
theorem d_M_sendLines_71 : decode b_M_sendLines 71 = .ok (.iconst 1, 1) := by decide +kernel
theorem d_M_sendLines_72 : decode b_M_sendLines 72 = .ok (.iand, 1) := by decide +kernel
theorem d_M_sendLines_73 : decode b_M_sendLines 73 = .ok (.iconst 1, 1) := by decide +kernel
theorem d_M_sendLines_74 : decode b_M_sendLines 74 = .ok (.if_icmp .ne 7, 3) := by decide +kernel
theorem d_M_sendLines_77 : decode b_M_sendLines 77 = .ok (.iconst 1, 1) := by decide +kernel
theorem d_M_sendLines_78 : decode b_M_sendLines 78 = .ok (.goto 4, 3) := by decide +kernel
theorem d_M_sendLines_81 : decode b_M_sendLines 81 = .ok (.iconst 0, 1) := by decide +kernel
theorem d_M_sendLines_82 : decode b_M_sendLines 82 = .ok (.invokevirtual 100, 3) := by decide +kernel
theorem d_M_sendLines_85 : decode b_M_sendLines 85 = .ok (.iinc 7 1, 3) := by decide +kernel
theorem d_M_sendLines_88 : decode b_M_sendLines 88 = .ok (.goto (-37), 3) := by decide +kernel
theorem d_M_sendLines_91 : decode b_M_sendLines 91 = .ok (.aload_n 0, 1) := by decide +kernel
theorem d_M_sendLines_92 : decode b_M_sendLines 92 = .ok (.getfield 26, 3) := by decide +kernel
theorem d_M_sendLines_95 : decode b_M_sendLines 95 = .ok (.iload 4, 2) := by decide +kernel
theorem d_M_sendLines_97 : decode b_M_sendLines 97 = .ok (.iconst 0, 1) := by decide +kernel
theorem d_M_sendLines_98 : decode b_M_sendLines 98 = .ok (.invokevirtual 149, 3) := by decide +kernel
theorem d_M_sendLines_101 : decode b_M_sendLines 101 = .ok (.aload_n 0, 1) := by decide +kernel
theorem d_M_sendLines_102 : decode b_M_sendLines 102 = .ok (.getfield 26, 3) := by decide +kernel
theorem d_M_sendLines_105 : decode b_M_sendLines 105 = .ok (.iload 4, 2) := by decide +kernel
theorem d_M_sendLines_107 : decode b_M_sendLines 107 = .ok (.iload_n 3, 1) := by decide +kernel
theorem d_M_sendLines_108 : decode b_M_sendLines 108 = .ok (.invokevirtual 152, 3) := by decide +kernel
theorem d_M_sendLines_111 : decode b_M_sendLines 111 = .ok (.return_, 1) := by decide +kernel
theorem d_Li_isOn_0 : decode b_Li_isOn 0 = .ok (.aload_n 0, 1) := by decide +kernel
theorem d_Li_isOn_1 : decode b_Li_isOn 1 = .ok (.getfield 9, 3) := by decide +kernel
theorem d_Li_isOn_4 : decode b_Li_isOn 4 = .ok (.iload_n 1, 1) := by decide +kernel
theorem d_Li_isOn_5 : decode b_Li_isOn 5 = .ok (.invokestatic 15, 3) := by decide +kernel
theorem d_Li_isOn_8 : decode b_Li_isOn 8 = .ok (.land, 1) := by decide +kernel
theorem d_Li_isOn_9 : decode b_Li_isOn 9 = .ok (.lconst 0, 1) := by decide +kernel
theorem d_Li_isOn_10 : decode b_Li_isOn 10 = .ok (.lcmp, 1) := by decide +kernel
theorem d_Li_isOn_11 : decode b_Li_isOn 11 = .ok (.ifCond .eq 7, 3) := by decide +kernel
theorem d_Li_isOn_14 : decode b_Li_isOn 14 = .ok (.iconst 1, 1) := by decide +kernel
theorem d_Li_isOn_15 : decode b_Li_isOn 15 = .ok (.goto 4, 3) := by decide +kernel
theorem d_Li_isOn_18 : decode b_Li_isOn 18 = .ok (.iconst 0, 1) := by decide +kernel
theorem d_Li_isOn_19 : decode b_Li_isOn 19 = .ok (.ireturn, 1) := by decide +kernel
theorem d_M_receiveLines_0 : decode b_M_receiveLines 0 = .ok (.iload_n 2, 1) := by decide +kernel
theorem d_M_receiveLines_1 : decode b_M_receiveLines 1 = .ok (.invokestatic 185, 3) := by decide +kernel
theorem d_M_receiveLines_4 : decode b_M_receiveLines 4 = .ok (.istore_n 3, 1) := by decide +kernel
theorem d_M_receiveLines_5 : decode b_M_receiveLines 5 = .ok (.aload_n 0, 1) := by decide +kernel
theorem d_M_receiveLines_6 : decode b_M_receiveLines 6 = .ok (.iload_n 1, 1) := by decide +kernel
theorem d_M_receiveLines_7 : decode b_M_receiveLines 7 = .ok (.iload_n 3, 1) := by decide +kernel
theorem d_M_receiveLines_8 : decode b_M_receiveLines 8 = .ok (.invokevirtual 83, 3) := by decide +kernel
theorem d_M_receiveLines_11 : decode b_M_receiveLines 11 = .ok (.istore 4, 2) := by decide +kernel
theorem d_M_receiveLines_13 : decode b_M_receiveLines 13 = .ok (.aload_n 0, 1) := by decide +kernel
theorem d_M_receiveLines_14 : decode b_M_receiveLines 14 = .ok (.bipush 12, 2) := by decide +kernel
theorem d_M_receiveLines_16 : decode b_M_receiveLines 16 = .ok (.invokevirtual 77, 3) := by decide +kernel
theorem d_M_receiveLines_19 : decode b_M_receiveLines 19 = .ok (.iconst 2, 1) := by decide +kernel
theorem d_M_receiveLines_20 : decode b_M_receiveLines 20 = .ok (.idiv, 1) := by decide +kernel
theorem d_M_receiveLines_21 : decode b_M_receiveLines 21 = .ok (.istore 5, 2) := by decide +kernel
theorem d_M_receiveLines_23 : decode b_M_receiveLines 23 = .ok (.iconst 0, 1) := by decide +kernel
theorem d_M_receiveLines_24 : decode b_M_receiveLines 24 = .ok (.istore 6, 2) := by decide +kernel
theorem d_M_receiveLines_26 : decode b_M_receiveLines 26 = .ok (.iconst 0, 1) := by decide +kernel
theorem d_M_receiveLines_27 : decode b_M_receiveLines 27 = .ok (.istore 7, 2) := by decide +kernel
theorem d_M_receiveLines_29 : decode b_M_receiveLines 29 = .ok (.iload 7, 2) := by decide +kernel
theorem d_M_receiveLines_31 : decode b_M_receiveLines 31 = .ok (.iload_n 2, 1) := by decide +kernel
theorem d_M_receiveLines_32 : decode b_M_receiveLines 32 = .ok (.if_icmp .ge 37, 3) := by decide +kernel
theorem d_M_receiveLines_35 : decode b_M_receiveLines 35 = .ok (.iload 6, 2) := by decide +kernel
theorem d_M_receiveLines_37 : decode b_M_receiveLines 37 = .ok (.aload_n 0, 1) := by decide +kernel
theorem d_M_receiveLines_38 : decode b_M_receiveLines 38 = .ok (.getfield 19, 3) := by decide +kernel
theorem d_M_receiveLines_41 : decode b_M_receiveLines 41 = .ok (.iload 5, 2) := by decide +kernel
theorem d_M_receiveLines_43 : decode b_M_receiveLines 43 = .ok (.iload 7, 2) := by decide +kernel
theorem d_M_receiveLines_45 : decode b_M_receiveLines 45 = .ok (.iadd, 1) := by decide +kernel
theorem d_M_receiveLines_46 : decode b_M_receiveLines 46 = .ok (.invokevirtual 104, 3) := by decide +kernel
theorem d_M_receiveLines_49 : decode b_M_receiveLines 49 = .ok (.ifCond .eq 10, 3) := by decide +kernel
theorem d_M_receiveLines_52 : decode b_M_receiveLines 52 = .ok (.iconst 1, 1) := by decide +kernel
theorem d_M_receiveLines_53 : decode b_M_receiveLines 53 = .ok (.iload 7, 2) := by decide +kernel
theorem d_M_receiveLines_55 : decode b_M_receiveLines 55 = .ok (.ishl, 1) := by decide +kernel
theorem d_M_receiveLines_56 : decode b_M_receiveLines 56 = .ok (.goto 4, 3) := by decide +kernel
theorem d_M_receiveLines_59 : decode b_M_receiveLines 59 = .ok (.iconst 0, 1) := by decide +kernel
theorem d_M_receiveLines_60 : decode b_M_receiveLines 60 = .ok (.ior, 1) := by decide +kernel
theorem d_M_receiveLines_61 : decode b_M_receiveLines 61 = .ok (.istore 6, 2) := by decide +kernel
theorem d_M_receiveLines_63 : decode b_M_receiveLines 63 = .ok (.iinc 7 1, 3) := by decide +kernel
theorem d_M_receiveLines_66 : decode b_M_receiveLines 66 = .ok (.goto (-37), 3) := by decide +kernel
theorem d_M_receiveLines_69 : decode b_M_receiveLines 69 = .ok (.aload_n 0, 1) := by decide +kernel
theorem d_M_receiveLines_70 : decode b_M_receiveLines 70 = .ok (.getfield 26, 3) := by decide +kernel
theorem d_M_receiveLines_73 : decode b_M_receiveLines 73 = .ok (.iload_n 3, 1) := by decide +kernel
theorem d_M_receiveLines_74 : decode b_M_receiveLines 74 = .ok (.iconst 1, 1) := by decide +kernel
theorem d_M_receiveLines_75 : decode b_M_receiveLines 75 = .ok (.if_icmp .ne 11, 3) := by decide +kernel
theorem d_M_receiveLines_78 : decode b_M_receiveLines 78 = .ok (.iload 6, 2) := by decide +kernel
theorem d_M_receiveLines_80 : decode b_M_receiveLines 80 = .ok (.bipush 8, 2) := by decide +kernel
theorem d_M_receiveLines_82 : decode b_M_receiveLines 82 = .ok (.ishl, 1) := by decide +kernel
theorem d_M_receiveLines_83 : decode b_M_receiveLines 83 = .ok (.goto 5, 3) := by decide +kernel
theorem d_M_receiveLines_86 : decode b_M_receiveLines 86 = .ok (.iload 6, 2) := by decide +kernel
theorem d_M_receiveLines_88 : decode b_M_receiveLines 88 = .ok (.invokevirtual 163, 3) := by decide +kernel
theorem d_M_receiveLines_91 : decode b_M_receiveLines 91 = .ok (.istore 7, 2) := by decide +kernel
theorem d_M_receiveLines_93 : decode b_M_receiveLines 93 = .ok (.aload_n 0, 1) := by decide +kernel
theorem d_M_receiveLines_94 : decode b_M_receiveLines 94 = .ok (.getfield 12, 3) := by decide +kernel
theorem d_M_receiveLines_97 : decode b_M_receiveLines 97 = .ok (.iload 4, 2) := by decide +kernel
theorem d_M_receiveLines_99 : decode b_M_receiveLines 99 = .ok (.iload 7, 2) := by decide +kernel
theorem d_M_receiveLines_101 : decode b_M_receiveLines 101 = .ok (.iload_n 3, 1) := by decide +kernel
theorem d_M_receiveLines_102 : decode b_M_receiveLines 102 = .ok (.invokevirtual 159, 3) := by decide +kernel
theorem d_M_receiveLines_105 : decode b_M_receiveLines 105 = .ok (.aload_n 0, 1) := by decide +kernel
theorem d_M_receiveLines_106 : decode b_M_receiveLines 106 = .ok (.getfield 26, 3) := by decide +kernel
theorem d_M_receiveLines_109 : decode b_M_receiveLines 109 = .ok (.iload 7, 2) := by decide +kernel
theorem d_M_receiveLines_111 : decode b_M_receiveLines 111 = .ok (.iload_n 3, 1) := by decide +kernel
theorem d_M_receiveLines_112 : decode b_M_receiveLines 112 = .ok (.invokevirtual 152, 3) := by decide +kernel
theorem d_M_receiveLines_115 : decode b_M_receiveLines 115 = .ok (.return_, 1) := by decide +kernel
theorem d_M_multiply_0 : decode b_M_multiply 0 = .ok (.iload_n 2, 1) := by decide +kernel
theorem d_M_multiply_1 : decode b_M_multiply 1 = .ok (.i2l, 1) := by decide +kernel
theorem d_M_multiply_2 : decode b_M_multiply 2 = .ok (.iload_n 3, 1) := by decide +kernel
theorem d_M_multiply_3 : decode b_M_multiply 3 = .ok (.i2l, 1) := by decide +kernel
theorem d_M_multiply_4 : decode b_M_multiply 4 = .ok (.lmul, 1) := by decide +kernel
theorem d_M_multiply_5 : decode b_M_multiply 5 = .ok (.lstore 4, 2) := by decide +kernel
theorem d_M_multiply_7 : decode b_M_multiply 7 = .ok (.aload_n 0, 1) := by decide +kernel
theorem d_M_multiply_8 : decode b_M_multiply 8 = .ok (.iload_n 1, 1) := by decide +kernel
theorem d_M_multiply_9 : decode b_M_multiply 9 = .ok (.lload 4, 2) := by decide +kernel
theorem d_M_multiply_11 : decode b_M_multiply 11 = .ok (.bipush 16, 2) := by decide +kernel
theorem d_M_multiply_13 : decode b_M_multiply 13 = .ok (.lshr, 1) := by decide +kernel
theorem d_M_multiply_14 : decode b_M_multiply 14 = .ok (.l2i, 1) := by decide +kernel
theorem d_M_multiply_15 : decode b_M_multiply 15 = .ok (.invokevirtual 90, 3) := by decide +kernel
theorem d_M_multiply_18 : decode b_M_multiply 18 = .ok (.aload_n 0, 1) := by decide +kernel
theorem d_M_multiply_19 : decode b_M_multiply 19 = .ok (.iload_n 1, 1) := by decide +kernel
theorem d_M_multiply_20 : decode b_M_multiply 20 = .ok (.iconst 1, 1) := by decide +kernel
theorem d_M_multiply_21 : decode b_M_multiply 21 = .ok (.iadd, 1) := by decide +kernel
theorem d_M_multiply_22 : decode b_M_multiply 22 = .ok (.lload 4, 2) := by decide +kernel
theorem d_M_multiply_24 : decode b_M_multiply 24 = .ok (.l2i, 1) := by decide +kernel
theorem d_M_multiply_25 : decode b_M_multiply 25 = .ok (.invokevirtual 90, 3) := by decide +kernel
theorem d_M_multiply_28 : decode b_M_multiply 28 = .ok (.return_, 1) := by decide +kernel
theorem d_M_divide_0 : decode b_M_divide 0 = .ok (.iload_n 3, 1) := by decide +kernel
theorem d_M_divide_1 : decode b_M_divide 1 = .ok (.iload_n 2, 1) := by decide +kernel
theorem d_M_divide_2 : decode b_M_divide 2 = .ok (.if_icmp .le 7, 3) := by decide +kernel
theorem d_M_divide_5 : decode b_M_divide 5 = .ok (.iconst 1, 1) := by decide +kernel
theorem d_M_divide_6 : decode b_M_divide 6 = .ok (.goto 4, 3) := by decide +kernel
theorem d_M_divide_9 : decode b_M_divide 9 = .ok (.iconst 0, 1) := by decide +kernel
theorem d_M_divide_10 : decode b_M_divide 10 = .ok (.istore 4, 2) := by decide +kernel
theorem d_M_divide_12 : decode b_M_divide 12 = .ok (.aload_n 0, 1) := by decide +kernel
theorem d_M_divide_13 : decode b_M_divide 13 = .ok (.getfield 26, 3) := by decide +kernel
theorem d_M_divide_16 : decode b_M_divide 16 = .ok (.sipush 2048, 3) := by decide +kernel
theorem d_M_divide_19 : decode b_M_divide 19 = .ok (.iload 4, 2) := by decide +kernel
theorem d_M_divide_21 : decode b_M_divide 21 = .ok (.ifCond .ne 7, 3) := by decide +kernel
theorem d_M_divide_24 : decode b_M_divide 24 = .ok (.iconst 1, 1) := by decide +kernel
theorem d_M_divide_25 : decode b_M_divide 25 = .ok (.goto 4, 3) := by decide +kernel
theorem d_M_divide_28 : decode b_M_divide 28 = .ok (.iconst 0, 1) := by decide +kernel
theorem d_M_divide_29 : decode b_M_divide 29 = .ok (.invokevirtual 182, 3) := by decide +kernel
theorem d_M_divide_32 : decode b_M_divide 32 = .ok (.iload 4, 2) := by decide +kernel
theorem d_M_divide_34 : decode b_M_divide 34 = .ok (.ifCond .eq 43, 3) := by decide +kernel
theorem d_M_divide_37 : decode b_M_divide 37 = .ok (.iload_n 2, 1) := by decide +kernel
theorem d_M_divide_38 : decode b_M_divide 38 = .ok (.i2l, 1) := by decide +kernel
theorem d_M_divide_39 : decode b_M_divide 39 = .ok (.bipush 16, 2) := by decide +kernel
theorem d_M_divide_41 : decode b_M_divide 41 = .ok (.lshl, 1) := by decide +kernel
theorem d_M_divide_42 : decode b_M_divide 42 = .ok (.aload_n 0, 1) := by decide +kernel
theorem d_M_divide_43 : decode b_M_divide 43 = .ok (.iload_n 1, 1) := by decide +kernel
theorem d_M_divide_44 : decode b_M_divide 44 = .ok (.iconst 1, 1) := by decide +kernel
theorem d_M_divide_45 : decode b_M_divide 45 = .ok (.iadd, 1) := by decide +kernel
theorem d_M_divide_46 : decode b_M_divide 46 = .ok (.invokevirtual 77, 3) := by decide +kernel
theorem d_M_divide_49 : decode b_M_divide 49 = .ok (.i2l, 1) := by decide +kernel
theorem d_M_divide_50 : decode b_M_divide 50 = .ok (.lor, 1) := by decide +kernel
theorem d_M_divide_51 : decode b_M_divide 51 = .ok (.lstore 5, 2) := by decide +kernel
theorem d_M_divide_53 : decode b_M_divide 53 = .ok (.aload_n 0, 1) := by decide +kernel
theorem d_M_divide_54 : decode b_M_divide 54 = .ok (.iload_n 1, 1) := by decide +kernel
theorem d_M_divide_55 : decode b_M_divide 55 = .ok (.lload 5, 2) := by decide +kernel
theorem d_M_divide_57 : decode b_M_divide 57 = .ok (.iload_n 3, 1) := by decide +kernel
theorem d_M_divide_58 : decode b_M_divide 58 = .ok (.i2l, 1) := by decide +kernel
theorem d_M_divide_59 : decode b_M_divide 59 = .ok (.ldiv, 1) := by decide +kernel
theorem d_M_divide_60 : decode b_M_divide 60 = .ok (.l2i, 1) := by decide +kernel
theorem d_M_divide_61 : decode b_M_divide 61 = .ok (.invokevirtual 90, 3) := by decide +kernel
theorem d_M_divide_64 : decode b_M_divide 64 = .ok (.aload_n 0, 1) := by decide +kernel
theorem d_M_divide_65 : decode b_M_divide 65 = .ok (.iload_n 1, 1) := by decide +kernel
theorem d_M_divide_66 : decode b_M_divide 66 = .ok (.iconst 1, 1) := by decide +kernel
theorem d_M_divide_67 : decode b_M_divide 67 = .ok (.iadd, 1) := by decide +kernel
theorem d_M_divide_68 : decode b_M_divide 68 = .ok (.lload 5, 2) := by decide +kernel
theorem d_M_divide_70 : decode b_M_divide 70 = .ok (.iload_n 3, 1) := by decide +kernel
theorem d_M_divide_71 : decode b_M_divide 71 = .ok (.i2l, 1) := by decide +kernel
theorem d_M_divide_72 : decode b_M_divide 72 = .ok (.lrem, 1) := by decide +kernel
theorem d_M_divide_73 : decode b_M_divide 73 = .ok (.l2i, 1) := by decide +kernel
theorem d_M_divide_74 : decode b_M_divide 74 = .ok (.invokevirtual 90, 3) := by decide +kernel
theorem d_M_divide_77 : decode b_M_divide 77 = .ok (.return_, 1) := by decide +kernel
theorem d_M_combineIntoRegister_0 : decode b_M_combineIntoRegister 0 = .ok (.aload_n 0, 1) := by decide +kernel
theorem d_M_combineIntoRegister_1 : decode b_M_combineIntoRegister 1 = .ok (.iload_n 2, 1) := by decide +kernel
theorem d_M_combineIntoRegister_2 : decode b_M_combineIntoRegister 2 = .ok (.invokevirtual 77, 3) := by decide +kernel
theorem d_M_combineIntoRegister_5 : decode b_M_combineIntoRegister 5 = .ok (.istore 4, 2) := by decide +kernel
theorem d_M_combineIntoRegister_7 : decode b_M_combineIntoRegister 7 = .ok (.iload_n 1, 1) := by decide +kernel
theorem d_M_combineIntoRegister_8 : decode b_M_combineIntoRegister 8 = .ok (.tableswitch 126 8 14 #[44, 71, 96, 126, 126, 126, 115], 44) := by decide +kernel
theorem d_M_combineIntoRegister_52 : decode b_M_combineIntoRegister 52 = .ok (.aload_n 0, 1) := by decide +kernel
theorem d_M_combineIntoRegister_53 : decode b_M_combineIntoRegister 53 = .ok (.getfield 26, 3) := by decide +kernel
theorem d_M_combineIntoRegister_56 : decode b_M_combineIntoRegister 56 = .ok (.sipush 8192, 3) := by decide +kernel
theorem d_M_combineIntoRegister_59 : decode b_M_combineIntoRegister 59 = .ok (.iload_n 3, 1) := by decide +kernel
theorem d_M_combineIntoRegister_60 : decode b_M_combineIntoRegister 60 = .ok (.iload 4, 2) := by decide +kernel
theorem d_M_combineIntoRegister_62 : decode b_M_combineIntoRegister 62 = .ok (.iconst (-1), 1) := by decide +kernel
theorem d_M_combineIntoRegister_63 : decode b_M_combineIntoRegister 63 = .ok (.ixor, 1) := by decide +kernel
theorem d_M_combineIntoRegister_64 : decode b_M_combineIntoRegister 64 = .ok (.iand, 1) := by decide +kernel
theorem d_M_combineIntoRegister_65 : decode b_M_combineIntoRegister 65 = .ok (.ifCond .ne 7, 3) := by decide +kernel
theorem d_M_combineIntoRegister_68 : decode b_M_combineIntoRegister 68 = .ok (.iconst 1, 1) := by decide +kernel
theorem d_M_combineIntoRegister_69 : decode b_M_combineIntoRegister 69 = .ok (.goto 4, 3) := by decide +kernel
theorem d_M_combineIntoRegister_72 : decode b_M_combineIntoRegister 72 = .ok (.iconst 0, 1) := by decide +kernel
theorem d_M_combineIntoRegister_73 : decode b_M_combineIntoRegister 73 = .ok (.invokevirtual 182, 3) := by decide +kernel
theorem d_M_combineIntoRegister_76 : decode b_M_combineIntoRegister 76 = .ok (.goto 66, 3) := by decide +kernel
theorem d_M_combineIntoRegister_79 : decode b_M_combineIntoRegister 79 = .ok (.aload_n 0, 1) := by decide +kernel
theorem d_M_combineIntoRegister_80 : decode b_M_combineIntoRegister 80 = .ok (.getfield 26, 3) := by decide +kernel
theorem d_M_combineIntoRegister_83 : decode b_M_combineIntoRegister 83 = .ok (.sipush 8192, 3) := by decide +kernel
theorem d_M_combineIntoRegister_86 : decode b_M_combineIntoRegister 86 = .ok (.iload_n 3, 1) := by decide +kernel
theorem d_M_combineIntoRegister_87 : decode b_M_combineIntoRegister 87 = .ok (.iload 4, 2) := by decide +kernel
theorem d_M_combineIntoRegister_89 : decode b_M_combineIntoRegister 89 = .ok (.iand, 1) := by decide +kernel
theorem d_M_combineIntoRegister_90 : decode b_M_combineIntoRegister 90 = .ok (.ifCond .ne 7, 3) := by decide +kernel
theorem d_M_combineIntoRegister_93 : decode b_M_combineIntoRegister 93 = .ok (.iconst 1, 1) := by decide +kernel
theorem d_M_combineIntoRegister_94 : decode b_M_combineIntoRegister 94 = .ok (.goto 4, 3) := by decide +kernel
theorem d_M_combineIntoRegister_97 : decode b_M_combineIntoRegister 97 = .ok (.iconst 0, 1) := by decide +kernel
theorem d_M_combineIntoRegister_98 : decode b_M_combineIntoRegister 98 = .ok (.invokevirtual 182, 3) := by decide +kernel
theorem d_M_combineIntoRegister_101 : decode b_M_combineIntoRegister 101 = .ok (.goto 41, 3) := by decide +kernel
theorem d_M_combineIntoRegister_104 : decode b_M_combineIntoRegister 104 = .ok (.aload_n 0, 1) := by decide +kernel
theorem d_M_combineIntoRegister_105 : decode b_M_combineIntoRegister 105 = .ok (.iload_n 2, 1) := by decide +kernel
theorem d_M_combineIntoRegister_106 : decode b_M_combineIntoRegister 106 = .ok (.aload_n 0, 1) := by decide +kernel
theorem d_M_combineIntoRegister_107 : decode b_M_combineIntoRegister 107 = .ok (.getfield 26, 3) := by decide +kernel
theorem d_M_combineIntoRegister_110 : decode b_M_combineIntoRegister 110 = .ok (.iload 4, 2) := by decide +kernel
theorem d_M_combineIntoRegister_112 : decode b_M_combineIntoRegister 112 = .ok (.iload_n 3, 1) := by decide +kernel
theorem d_M_combineIntoRegister_113 : decode b_M_combineIntoRegister 113 = .ok (.ixor, 1) := by decide +kernel
theorem d_M_combineIntoRegister_114 : decode b_M_combineIntoRegister 114 = .ok (.invokevirtual 163, 3) := by decide +kernel
theorem d_M_combineIntoRegister_117 : decode b_M_combineIntoRegister 117 = .ok (.invokevirtual 90, 3) := by decide +kernel
theorem d_M_combineIntoRegister_120 : decode b_M_combineIntoRegister 120 = .ok (.goto 22, 3) := by decide +kernel
theorem d_M_combineIntoRegister_123 : decode b_M_combineIntoRegister 123 = .ok (.aload_n 0, 1) := by decide +kernel
theorem d_M_combineIntoRegister_124 : decode b_M_combineIntoRegister 124 = .ok (.iload_n 2, 1) := by decide +kernel
theorem d_M_combineIntoRegister_125 : decode b_M_combineIntoRegister 125 = .ok (.iload 4, 2) := by decide +kernel
theorem d_M_combineIntoRegister_127 : decode b_M_combineIntoRegister 127 = .ok (.iload_n 3, 1) := by decide +kernel
theorem d_M_combineIntoRegister_128 : decode b_M_combineIntoRegister 128 = .ok (.invokevirtual 188, 3) := by decide +kernel
theorem d_M_combineIntoRegister_131 : decode b_M_combineIntoRegister 131 = .ok (.goto 11, 3) := by decide +kernel
theorem d_M_combineIntoRegister_134 : decode b_M_combineIntoRegister 134 = .ok (.aload_n 0, 1) := by decide +kernel
theorem d_M_combineIntoRegister_135 : decode b_M_combineIntoRegister 135 = .ok (.iload_n 2, 1) := by decide +kernel
theorem d_M_combineIntoRegister_136 : decode b_M_combineIntoRegister 136 = .ok (.iload 4, 2) := by decide +kernel
theorem d_M_combineIntoRegister_138 : decode b_M_combineIntoRegister 138 = .ok (.iload_n 3, 1) := by decide +kernel
theorem d_M_combineIntoRegister_139 : decode b_M_combineIntoRegister 139 = .ok (.invokevirtual 191, 3) := by decide +kernel
theorem d_M_combineIntoRegister_142 : decode b_M_combineIntoRegister 142 = .ok (.return_, 1) := by decide +kernel
theorem d_M_runOnRegisterAndOperand_0 : decode b_M_runOnRegisterAndOperand 0 = .ok (.iload_n 1, 1) := by decide +kernel
theorem d_M_runOnRegisterAndOperand_1 : decode b_M_runOnRegisterAndOperand 1 = .ok (.bipush 6, 2) := by decide +kernel
theorem d_M_runOnRegisterAndOperand_3 : decode b_M_runOnRegisterAndOperand 3 = .ok (.ishr, 1) := by decide +kernel
theorem d_M_runOnRegisterAndOperand_4 : decode b_M_runOnRegisterAndOperand 4 = .ok (.bipush 15, 2) := by decide +kernel
theorem d_M_runOnRegisterAndOperand_6 : decode b_M_runOnRegisterAndOperand 6 = .ok (.iand, 1) := by decide +kernel
theorem d_M_runOnRegisterAndOperand_7 : decode b_M_runOnRegisterAndOperand 7 = .ok (.istore_n 2, 1) := by decide +kernel
theorem d_M_runOnRegisterAndOperand_8 : decode b_M_runOnRegisterAndOperand 8 = .ok (.iload_n 1, 1) := by decide +kernel
theorem d_M_runOnRegisterAndOperand_9 : decode b_M_runOnRegisterAndOperand 9 = .ok (.bipush 10, 2) := by decide +kernel
theorem d_M_runOnRegisterAndOperand_11 : decode b_M_runOnRegisterAndOperand 11 = .ok (.ishr, 1) := by decide +kernel
theorem d_M_runOnRegisterAndOperand_12 : decode b_M_runOnRegisterAndOperand 12 = .ok (.istore_n 3, 1) := by decide +kernel
theorem d_M_runOnRegisterAndOperand_13 : decode b_M_runOnRegisterAndOperand 13 = .ok (.iload_n 3, 1) := by decide +kernel
theorem d_M_runOnRegisterAndOperand_14 : decode b_M_runOnRegisterAndOperand 14 = .ok (.tableswitch 76 11 13 #[26, 40, 58], 26) := by decide +kernel
theorem d_M_runOnRegisterAndOperand_40 : decode b_M_runOnRegisterAndOperand 40 = .ok (.aload_n 0, 1) := by decide +kernel
theorem d_M_runOnRegisterAndOperand_41 : decode b_M_runOnRegisterAndOperand 41 = .ok (.iload_n 2, 1) := by decide +kernel
theorem d_M_runOnRegisterAndOperand_42 : decode b_M_runOnRegisterAndOperand 42 = .ok (.aload_n 0, 1) := by decide +kernel
theorem d_M_runOnRegisterAndOperand_43 : decode b_M_runOnRegisterAndOperand 43 = .ok (.iload_n 1, 1) := by decide +kernel
theorem d_M_runOnRegisterAndOperand_44 : decode b_M_runOnRegisterAndOperand 44 = .ok (.iconst 2, 1) := by decide +kernel
theorem d_M_runOnRegisterAndOperand_45 : decode b_M_runOnRegisterAndOperand 45 = .ok (.invokevirtual 83, 3) := by decide +kernel
theorem d_M_runOnRegisterAndOperand_48 : decode b_M_runOnRegisterAndOperand 48 = .ok (.invokevirtual 170, 3) := by decide +kernel
theorem d_M_runOnRegisterAndOperand_51 : decode b_M_runOnRegisterAndOperand 51 = .ok (.goto 58, 3) := by decide +kernel
theorem d_M_runOnRegisterAndOperand_54 : decode b_M_runOnRegisterAndOperand 54 = .ok (.aload_n 0, 1) := by decide +kernel
theorem d_M_runOnRegisterAndOperand_55 : decode b_M_runOnRegisterAndOperand 55 = .ok (.iload_n 1, 1) := by decide +kernel
theorem d_M_runOnRegisterAndOperand_56 : decode b_M_runOnRegisterAndOperand 56 = .ok (.iload_n 2, 1) := by decide +kernel
theorem d_M_runOnRegisterAndOperand_57 : decode b_M_runOnRegisterAndOperand 57 = .ok (.ifCond .ne 8, 3) := by decide +kernel
theorem d_M_runOnRegisterAndOperand_60 : decode b_M_runOnRegisterAndOperand 60 = .ok (.bipush 16, 2) := by decide +kernel
theorem d_M_runOnRegisterAndOperand_62 : decode b_M_runOnRegisterAndOperand 62 = .ok (.goto 4, 3) := by decide +kernel
theorem d_M_runOnRegisterAndOperand_65 : decode b_M_runOnRegisterAndOperand 65 = .ok (.iload_n 2, 1) := by decide +kernel
theorem d_M_runOnRegisterAndOperand_66 : decode b_M_runOnRegisterAndOperand 66 = .ok (.invokevirtual 173, 3) := by decide +kernel
theorem d_M_runOnRegisterAndOperand_69 : decode b_M_runOnRegisterAndOperand 69 = .ok (.goto 40, 3) := by decide +kernel
theorem d_M_runOnRegisterAndOperand_72 : decode b_M_runOnRegisterAndOperand 72 = .ok (.aload_n 0, 1) := by decide +kernel
theorem d_M_runOnRegisterAndOperand_73 : decode b_M_runOnRegisterAndOperand 73 = .ok (.iload_n 1, 1) := by decide +kernel
theorem d_M_runOnRegisterAndOperand_74 : decode b_M_runOnRegisterAndOperand 74 = .ok (.iload_n 2, 1) := by decide +kernel
theorem d_M_runOnRegisterAndOperand_75 : decode b_M_runOnRegisterAndOperand 75 = .ok (.ifCond .ne 8, 3) := by decide +kernel
theorem d_M_runOnRegisterAndOperand_78 : decode b_M_runOnRegisterAndOperand 78 = .ok (.bipush 16, 2) := by decide +kernel
theorem d_M_runOnRegisterAndOperand_80 : decode b_M_runOnRegisterAndOperand 80 = .ok (.goto 4, 3) := by decide +kernel
theorem d_M_runOnRegisterAndOperand_83 : decode b_M_runOnRegisterAndOperand 83 = .ok (.iload_n 2, 1) := by decide +kernel
theorem d_M_runOnRegisterAndOperand_84 : decode b_M_runOnRegisterAndOperand 84 = .ok (.invokevirtual 176, 3) := by decide +kernel
theorem d_M_runOnRegisterAndOperand_87 : decode b_M_runOnRegisterAndOperand 87 = .ok (.goto 22, 3) := by decide +kernel
theorem d_M_runOnRegisterAndOperand_90 : decode b_M_runOnRegisterAndOperand 90 = .ok (.aload_n 0, 1) := by decide +kernel
theorem d_M_runOnRegisterAndOperand_91 : decode b_M_runOnRegisterAndOperand 91 = .ok (.iload_n 3, 1) := by decide +kernel
theorem d_M_runOnRegisterAndOperand_92 : decode b_M_runOnRegisterAndOperand 92 = .ok (.iload_n 2, 1) := by decide +kernel
theorem d_M_runOnRegisterAndOperand_93 : decode b_M_runOnRegisterAndOperand 93 = .ok (.aload_n 0, 1) := by decide +kernel
theorem d_M_runOnRegisterAndOperand_94 : decode b_M_runOnRegisterAndOperand 94 = .ok (.getfield 12, 3) := by decide +kernel
theorem d_M_runOnRegisterAndOperand_97 : decode b_M_runOnRegisterAndOperand 97 = .ok (.aload_n 0, 1) := by decide +kernel
theorem d_M_runOnRegisterAndOperand_98 : decode b_M_runOnRegisterAndOperand 98 = .ok (.iload_n 1, 1) := by decide +kernel
theorem d_M_runOnRegisterAndOperand_99 : decode b_M_runOnRegisterAndOperand 99 = .ok (.iconst 2, 1) := by decide +kernel
theorem d_M_runOnRegisterAndOperand_100 : decode b_M_runOnRegisterAndOperand 100 = .ok (.invokevirtual 83, 3) := by decide +kernel
theorem d_M_runOnRegisterAndOperand_103 : decode b_M_runOnRegisterAndOperand 103 = .ok (.invokevirtual 60, 3) := by decide +kernel
theorem d_M_runOnRegisterAndOperand_106 : decode b_M_runOnRegisterAndOperand 106 = .ok (.invokevirtual 179, 3) := by decide +kernel
theorem d_M_runOnRegisterAndOperand_109 : decode b_M_runOnRegisterAndOperand 109 = .ok (.iconst 0, 1) := by decide +kernel
theorem d_M_runOnRegisterAndOperand_110 : decode b_M_runOnRegisterAndOperand 110 = .ok (.ireturn, 1) := by decide +kernel
theorem d_St_has_0 : decode b_St_has 0 = .ok (.aload_n 0, 1) := by decide +kernel
theorem d_St_has_1 : decode b_St_has 1 = .ok (.getfield 9, 3) := by decide +kernel
theorem d_St_has_4 : decode b_St_has 4 = .ok (.iload_n 1, 1) := by decide +kernel
theorem d_St_has_5 : decode b_St_has 5 = .ok (.iand, 1) := by decide +kernel
theorem d_St_has_6 : decode b_St_has 6 = .ok (.ifCond .eq 7, 3) := by decide +kernel
theorem d_St_has_9 : decode b_St_has 9 = .ok (.iconst 1, 1) := by decide +kernel
theorem d_St_has_10 : decode b_St_has 10 = .ok (.goto 4, 3) := by decide +kernel
theorem d_St_has_13 : decode b_St_has 13 = .ok (.iconst 0, 1) := by decide +kernel
theorem d_St_has_14 : decode b_St_has 14 = .ok (.ireturn, 1) := by decide +kernel
theorem d_M_isJumpTaken_0 : decode b_M_isJumpTaken 0 = .ok (.aload_n 0, 1) := by decide +kernel
theorem d_M_isJumpTaken_1 : decode b_M_isJumpTaken 1 = .ok (.getfield 26, 3) := by decide +kernel
theorem d_M_isJumpTaken_4 : decode b_M_isJumpTaken 4 = .ok (.ldc 197, 2) := by decide +kernel
theorem d_M_isJumpTaken_6 : decode b_M_isJumpTaken 6 = .ok (.invokevirtual 198, 3) := by decide +kernel
theorem d_M_isJumpTaken_9 : decode b_M_isJumpTaken 9 = .ok (.istore_n 2, 1) := by decide +kernel
theorem d_M_isJumpTaken_10 : decode b_M_isJumpTaken 10 = .ok (.aload_n 0, 1) := by decide +kernel
theorem d_M_isJumpTaken_11 : decode b_M_isJumpTaken 11 = .ok (.getfield 26, 3) := by decide +kernel
theorem d_M_isJumpTaken_14 : decode b_M_isJumpTaken 14 = .ok (.sipush 16384, 3) := by decide +kernel
theorem d_M_isJumpTaken_17 : decode b_M_isJumpTaken 17 = .ok (.invokevirtual 198, 3) := by decide +kernel
theorem d_M_isJumpTaken_20 : decode b_M_isJumpTaken 20 = .ok (.istore_n 3, 1) := by decide +kernel
theorem d_M_isJumpTaken_21 : decode b_M_isJumpTaken 21 = .ok (.aload_n 0, 1) := by decide +kernel
theorem d_M_isJumpTaken_22 : decode b_M_isJumpTaken 22 = .ok (.getfield 26, 3) := by decide +kernel
theorem d_M_isJumpTaken_25 : decode b_M_isJumpTaken 25 = .ok (.sipush 8192, 3) := by decide +kernel
theorem d_M_isJumpTaken_28 : decode b_M_isJumpTaken 28 = .ok (.invokevirtual 198, 3) := by decide +kernel
theorem d_M_isJumpTaken_31 : decode b_M_isJumpTaken 31 = .ok (.istore 4, 2) := by decide +kernel
theorem d_M_isJumpTaken_33 : decode b_M_isJumpTaken 33 = .ok (.iload_n 1, 1) := by decide +kernel
theorem d_M_isJumpTaken_34 : decode b_M_isJumpTaken 34 = .ok (.tableswitch 204 16 27 #[62, 64, 79, 94, 97, 112, 114, 125, 144, 155, 174, 189], 62) := by decide +kernel
theorem d_M_isJumpTaken_96 : decode b_M_isJumpTaken 96 = .ok (.iconst 1, 1) := by decide +kernel
theorem d_M_isJumpTaken_97 : decode b_M_isJumpTaken 97 = .ok (.ireturn, 1) := by decide +kernel
theorem d_M_isJumpTaken_98 : decode b_M_isJumpTaken 98 = .ok (.iload_n 3, 1) := by decide +kernel
theorem d_M_isJumpTaken_99 : decode b_M_isJumpTaken 99 = .ok (.ifCond .ne 12, 3) := by decide +kernel
theorem d_M_isJumpTaken_102 : decode b_M_isJumpTaken 102 = .ok (.iload 4, 2) := by decide +kernel
theorem d_M_isJumpTaken_104 : decode b_M_isJumpTaken 104 = .ok (.ifCond .ne 7, 3) := by decide +kernel
theorem d_M_isJumpTaken_107 : decode b_M_isJumpTaken 107 = .ok (.iconst 1, 1) := by decide +kernel
theorem d_M_isJumpTaken_108 : decode b_M_isJumpTaken 108 = .ok (.goto 4, 3) := by decide +kernel
theorem d_M_isJumpTaken_111 : decode b_M_isJumpTaken 111 = .ok (.iconst 0, 1) := by decide +kernel
theorem d_M_isJumpTaken_112 : decode b_M_isJumpTaken 112 = .ok (.ireturn, 1) := by decide +kernel
theorem d_M_isJumpTaken_113 : decode b_M_isJumpTaken 113 = .ok (.iload_n 2, 1) := by decide +kernel
theorem d_M_isJumpTaken_114 : decode b_M_isJumpTaken 114 = .ok (.ifCond .eq 8, 3) := by decide +kernel
theorem d_M_isJumpTaken_117 : decode b_M_isJumpTaken 117 = .ok (.iload 4, 2) := by decide +kernel
theorem d_M_isJumpTaken_119 : decode b_M_isJumpTaken 119 = .ok (.ifCond .eq 7, 3) := by decide +kernel
theorem d_M_isJumpTaken_122 : decode b_M_isJumpTaken 122 = .ok (.iconst 1, 1) := by decide +kernel
theorem d_M_isJumpTaken_123 : decode b_M_isJumpTaken 123 = .ok (.goto 4, 3) := by decide +kernel
theorem d_M_isJumpTaken_126 : decode b_M_isJumpTaken 126 = .ok (.iconst 0, 1) := by decide +kernel
theorem d_M_isJumpTaken_127 : decode b_M_isJumpTaken 127 = .ok (.ireturn, 1) := by decide +kernel
theorem d_M_isJumpTaken_128 : decode b_M_isJumpTaken 128 = .ok (.iload 4, 2) := by decide +kernel
theorem d_M_isJumpTaken_130 : decode b_M_isJumpTaken 130 = .ok (.ireturn, 1) := by decide +kernel
theorem d_M_isJumpTaken_131 : decode b_M_isJumpTaken 131 = .ok (.iload_n 2, 1) := by decide +kernel
theorem d_M_isJumpTaken_132 : decode b_M_isJumpTaken 132 = .ok (.ifCond .ne 8, 3) := by decide +kernel
theorem d_M_isJumpTaken_135 : decode b_M_isJumpTaken 135 = .ok (.iload 4, 2) := by decide +kernel
theorem d_M_isJumpTaken_137 : decode b_M_isJumpTaken 137 = .ok (.ifCond .eq 7, 3) := by decide +kernel
theorem d_M_isJumpTaken_140 : decode b_M_isJumpTaken 140 = .ok (.iconst 1, 1) := by decide +kernel
theorem d_M_isJumpTaken_141 : decode b_M_isJumpTaken 141 = .ok (.goto 4, 3) := by decide +kernel
theorem d_M_isJumpTaken_144 : decode b_M_isJumpTaken 144 = .ok (.iconst 0, 1) := by decide +kernel
theorem d_M_isJumpTaken_145 : decode b_M_isJumpTaken 145 = .ok (.ireturn, 1) := by decide +kernel
theorem d_M_isJumpTaken_146 : decode b_M_isJumpTaken 146 = .ok (.iload_n 3, 1) := by decide +kernel
theorem d_M_isJumpTaken_147 : decode b_M_isJumpTaken 147 = .ok (.ireturn, 1) := by decide +kernel
theorem d_M_isJumpTaken_148 : decode b_M_isJumpTaken 148 = .ok (.iload 4, 2) := by decide +kernel
theorem d_M_isJumpTaken_150 : decode b_M_isJumpTaken 150 = .ok (.ifCond .ne 7, 3) := by decide +kernel
theorem d_M_isJumpTaken_153 : decode b_M_isJumpTaken 153 = .ok (.iconst 1, 1) := by decide +kernel
theorem d_M_isJumpTaken_154 : decode b_M_isJumpTaken 154 = .ok (.goto 4, 3) := by decide +kernel
theorem d_M_isJumpTaken_157 : decode b_M_isJumpTaken 157 = .ok (.iconst 0, 1) := by decide +kernel
theorem d_M_isJumpTaken_158 : decode b_M_isJumpTaken 158 = .ok (.ireturn, 1) := by decide +kernel
theorem d_M_isJumpTaken_159 : decode b_M_isJumpTaken 159 = .ok (.aload_n 0, 1) := by decide +kernel
theorem d_M_isJumpTaken_160 : decode b_M_isJumpTaken 160 = .ok (.getfield 26, 3) := by decide +kernel
theorem d_M_isJumpTaken_163 : decode b_M_isJumpTaken 163 = .ok (.sipush 4096, 3) := by decide +kernel
theorem d_M_isJumpTaken_166 : decode b_M_isJumpTaken 166 = .ok (.invokevirtual 198, 3) := by decide +kernel
theorem d_M_isJumpTaken_169 : decode b_M_isJumpTaken 169 = .ok (.ifCond .ne 7, 3) := by decide +kernel
theorem d_M_isJumpTaken_172 : decode b_M_isJumpTaken 172 = .ok (.iconst 1, 1) := by decide +kernel
theorem d_M_isJumpTaken_173 : decode b_M_isJumpTaken 173 = .ok (.goto 4, 3) := by decide +kernel
theorem d_M_isJumpTaken_176 : decode b_M_isJumpTaken 176 = .ok (.iconst 0, 1) := by decide +kernel
theorem d_M_isJumpTaken_177 : decode b_M_isJumpTaken 177 = .ok (.ireturn, 1) := by decide +kernel
theorem d_M_isJumpTaken_178 : decode b_M_isJumpTaken 178 = .ok (.aload_n 0, 1) := by decide +kernel
theorem d_M_isJumpTaken_179 : decode b_M_isJumpTaken 179 = .ok (.getfield 26, 3) := by decide +kernel
theorem d_M_isJumpTaken_182 : decode b_M_isJumpTaken 182 = .ok (.sipush 4096, 3) := by decide +kernel
theorem d_M_isJumpTaken_185 : decode b_M_isJumpTaken 185 = .ok (.invokevirtual 198, 3) := by decide +kernel
theorem d_M_isJumpTaken_188 : decode b_M_isJumpTaken 188 = .ok (.ireturn, 1) := by decide +kernel
theorem d_M_isJumpTaken_189 : decode b_M_isJumpTaken 189 = .ok (.aload_n 0, 1) := by decide +kernel
theorem d_M_isJumpTaken_190 : decode b_M_isJumpTaken 190 = .ok (.getfield 26, 3) := by decide +kernel
theorem d_M_isJumpTaken_193 : decode b_M_isJumpTaken 193 = .ok (.sipush 2048, 3) := by decide +kernel
theorem d_M_isJumpTaken_196 : decode b_M_isJumpTaken 196 = .ok (.invokevirtual 198, 3) := by decide +kernel
theorem d_M_isJumpTaken_199 : decode b_M_isJumpTaken 199 = .ok (.ifCond .ne 7, 3) := by decide +kernel
theorem d_M_isJumpTaken_202 : decode b_M_isJumpTaken 202 = .ok (.iconst 1, 1) := by decide +kernel
theorem d_M_isJumpTaken_203 : decode b_M_isJumpTaken 203 = .ok (.goto 4, 3) := by decide +kernel
theorem d_M_isJumpTaken_206 : decode b_M_isJumpTaken 206 = .ok (.iconst 0, 1) := by decide +kernel
theorem d_M_isJumpTaken_207 : decode b_M_isJumpTaken 207 = .ok (.ireturn, 1) := by decide +kernel
theorem d_M_isJumpTaken_208 : decode b_M_isJumpTaken 208 = .ok (.iload_n 2, 1) := by decide +kernel
theorem d_M_isJumpTaken_209 : decode b_M_isJumpTaken 209 = .ok (.ifCond .ne 12, 3) := by decide +kernel
theorem d_M_isJumpTaken_212 : decode b_M_isJumpTaken 212 = .ok (.iload 4, 2) := by decide +kernel
theorem d_M_isJumpTaken_214 : decode b_M_isJumpTaken 214 = .ok (.ifCond .ne 7, 3) := by decide +kernel
theorem d_M_isJumpTaken_217 : decode b_M_isJumpTaken 217 = .ok (.iconst 1, 1) := by decide +kernel
theorem d_M_isJumpTaken_218 : decode b_M_isJumpTaken 218 = .ok (.goto 4, 3) := by decide +kernel
theorem d_M_isJumpTaken_221 : decode b_M_isJumpTaken 221 = .ok (.iconst 0, 1) := by decide +kernel
theorem d_M_isJumpTaken_222 : decode b_M_isJumpTaken 222 = .ok (.ireturn, 1) := by decide +kernel
theorem d_M_isJumpTaken_223 : decode b_M_isJumpTaken 223 = .ok (.iload_n 2, 1) := by decide +kernel
theorem d_M_isJumpTaken_224 : decode b_M_isJumpTaken 224 = .ok (.ifCond .eq 12, 3) := by decide +kernel
theorem d_M_isJumpTaken_227 : decode b_M_isJumpTaken 227 = .ok (.iload 4, 2) := by decide +kernel
theorem d_M_isJumpTaken_229 : decode b_M_isJumpTaken 229 = .ok (.ifCond .ne 7, 3) := by decide +kernel
theorem d_M_isJumpTaken_232 : decode b_M_isJumpTaken 232 = .ok (.iconst 1, 1) := by decide +kernel
theorem d_M_isJumpTaken_233 : decode b_M_isJumpTaken 233 = .ok (.goto 4, 3) := by decide +kernel
theorem d_M_isJumpTaken_236 : decode b_M_isJumpTaken 236 = .ok (.iconst 0, 1) := by decide +kernel
theorem d_M_isJumpTaken_237 : decode b_M_isJumpTaken 237 = .ok (.ireturn, 1) := by decide +kernel
theorem d_M_isJumpTaken_238 : decode b_M_isJumpTaken 238 = .ok (.aload_n 0, 1) := by decide +kernel
theorem d_M_isJumpTaken_239 : decode b_M_isJumpTaken 239 = .ok (.getfield 26, 3) := by decide +kernel
theorem d_M_isJumpTaken_242 : decode b_M_isJumpTaken 242 = .ok (.sipush 1024, 3) := by decide +kernel
theorem d_M_isJumpTaken_245 : decode b_M_isJumpTaken 245 = .ok (.invokevirtual 198, 3) := by decide +kernel
theorem d_M_isJumpTaken_248 : decode b_M_isJumpTaken 248 = .ok (.ireturn, 1) := by decide +kernel
theorem d_M_runJump_0 : decode b_M_runJump 0 = .ok (.aload_n 0, 1) := by decide +kernel
theorem d_M_runJump_1 : decode b_M_runJump 1 = .ok (.iload_n 1, 1) := by decide +kernel
theorem d_M_runJump_2 : decode b_M_runJump 2 = .ok (.bipush 8, 2) := by decide +kernel
theorem d_M_runJump_4 : decode b_M_runJump 4 = .ok (.ishr, 1) := by decide +kernel
theorem d_M_runJump_5 : decode b_M_runJump 5 = .ok (.invokevirtual 194, 3) := by decide +kernel
theorem d_M_runJump_8 : decode b_M_runJump 8 = .ok (.ifCond .eq 16, 3) := by decide +kernel
theorem d_M_runJump_11 : decode b_M_runJump 11 = .ok (.aload_n 0, 1) := by decide +kernel
theorem d_M_runJump_12 : decode b_M_runJump 12 = .ok (.aload_n 0, 1) := by decide +kernel
theorem d_M_runJump_13 : decode b_M_runJump 13 = .ok (.getfield 71, 3) := by decide +kernel
theorem d_M_runJump_16 : decode b_M_runJump 16 = .ok (.iconst 2, 1) := by decide +kernel
theorem d_M_runJump_17 : decode b_M_runJump 17 = .ok (.iload_n 1, 1) := by decide +kernel
theorem d_M_runJump_18 : decode b_M_runJump 18 = .ok (.i2b, 1) := by decide +kernel
theorem d_M_runJump_19 : decode b_M_runJump 19 = .ok (.imul, 1) := by decide +kernel
theorem d_M_runJump_20 : decode b_M_runJump 20 = .ok (.iadd, 1) := by decide +kernel
theorem d_M_runJump_21 : decode b_M_runJump 21 = .ok (.invokevirtual 116, 3) := by decide +kernel
theorem d_M_runJump_24 : decode b_M_runJump 24 = .ok (.iconst 0, 1) := by decide +kernel
theorem d_M_runJump_25 : decode b_M_runJump 25 = .ok (.ireturn, 1) := by decide +kernel
theorem d_M_runOnLine_0 : decode b_M_runOnLine 0 = .ok (.aload_n 0, 1) := by decide +kernel
theorem d_M_runOnLine_1 : decode b_M_runOnLine 1 = .ok (.bipush 12, 2) := by decide +kernel
theorem d_M_runOnLine_3 : decode b_M_runOnLine 3 = .ok (.invokevirtual 77, 3) := by decide +kernel
theorem d_M_runOnLine_6 : decode b_M_runOnLine 6 = .ok (.iconst 2, 1) := by decide +kernel
theorem d_M_runOnLine_7 : decode b_M_runOnLine 7 = .ok (.idiv, 1) := by decide +kernel
theorem d_M_runOnLine_8 : decode b_M_runOnLine 8 = .ok (.iload_n 1, 1) := by decide +kernel
theorem d_M_runOnLine_9 : decode b_M_runOnLine 9 = .ok (.i2b, 1) := by decide +kernel
theorem d_M_runOnLine_10 : decode b_M_runOnLine 10 = .ok (.iadd, 1) := by decide +kernel
theorem d_M_runOnLine_11 : decode b_M_runOnLine 11 = .ok (.istore_n 2, 1) := by decide +kernel
theorem d_M_runOnLine_12 : decode b_M_runOnLine 12 = .ok (.iload_n 1, 1) := by decide +kernel
theorem d_M_runOnLine_13 : decode b_M_runOnLine 13 = .ok (.bipush 8, 2) := by decide +kernel
theorem d_M_runOnLine_15 : decode b_M_runOnLine 15 = .ok (.ishr, 1) := by decide +kernel
theorem d_M_runOnLine_16 : decode b_M_runOnLine 16 = .ok (.lookupswitch 52 #[(29, 28), (30, 40)], 28) := by decide +kernel
theorem d_M_runOnLine_44 : decode b_M_runOnLine 44 = .ok (.aload_n 0, 1) := by decide +kernel
theorem d_M_runOnLine_45 : decode b_M_runOnLine 45 = .ok (.getfield 19, 3) := by decide +kernel
theorem d_M_runOnLine_48 : decode b_M_runOnLine 48 = .ok (.iload_n 2, 1) := by decide +kernel
theorem d_M_runOnLine_49 : decode b_M_runOnLine 49 = .ok (.iconst 1, 1) := by decide +kernel
theorem d_M_runOnLine_50 : decode b_M_runOnLine 50 = .ok (.invokevirtual 100, 3) := by decide +kernel
theorem d_M_runOnLine_53 : decode b_M_runOnLine 53 = .ok (.goto 33, 3) := by decide +kernel
theorem d_M_runOnLine_56 : decode b_M_runOnLine 56 = .ok (.aload_n 0, 1) := by decide +kernel
theorem d_M_runOnLine_57 : decode b_M_runOnLine 57 = .ok (.getfield 19, 3) := by decide +kernel
theorem d_M_runOnLine_60 : decode b_M_runOnLine 60 = .ok (.iload_n 2, 1) := by decide +kernel
theorem d_M_runOnLine_61 : decode b_M_runOnLine 61 = .ok (.iconst 0, 1) := by decide +kernel
theorem d_M_runOnLine_62 : decode b_M_runOnLine 62 = .ok (.invokevirtual 100, 3) := by decide +kernel
theorem d_M_runOnLine_65 : decode b_M_runOnLine 65 = .ok (.goto 21, 3) := by decide +kernel
theorem d_M_runOnLine_68 : decode b_M_runOnLine 68 = .ok (.aload_n 0, 1) := by decide +kernel
theorem d_M_runOnLine_69 : decode b_M_runOnLine 69 = .ok (.getfield 26, 3) := by decide +kernel
theorem d_M_runOnLine_72 : decode b_M_runOnLine 72 = .ok (.sipush 8192, 3) := by decide +kernel
theorem d_M_runOnLine_75 : decode b_M_runOnLine 75 = .ok (.aload_n 0, 1) := by decide +kernel
theorem d_M_runOnLine_76 : decode b_M_runOnLine 76 = .ok (.getfield 19, 3) := by decide +kernel
theorem d_M_runOnLine_79 : decode b_M_runOnLine 79 = .ok (.iload_n 2, 1) := by decide +kernel
theorem d_M_runOnLine_80 : decode b_M_runOnLine 80 = .ok (.invokevirtual 104, 3) := by decide +kernel
theorem d_M_runOnLine_83 : decode b_M_runOnLine 83 = .ok (.invokevirtual 182, 3) := by decide +kernel
theorem d_M_runOnLine_86 : decode b_M_runOnLine 86 = .ok (.iconst 0, 1) := by decide +kernel
theorem d_M_runOnLine_87 : decode b_M_runOnLine 87 = .ok (.ireturn, 1) := by decide +kernel
theorem d_M_shiftCount_0 : decode b_M_shiftCount 0 = .ok (.iload_n 1, 1) := by decide +kernel
theorem d_M_shiftCount_1 : decode b_M_shiftCount 1 = .ok (.ifCond .eq 5, 3) := by decide +kernel
theorem d_M_shiftCount_4 : decode b_M_shiftCount 4 = .ok (.iload_n 1, 1) := by decide +kernel
theorem d_M_shiftCount_5 : decode b_M_shiftCount 5 = .ok (.ireturn, 1) := by decide +kernel
theorem d_M_shiftCount_6 : decode b_M_shiftCount 6 = .ok (.aload_n 0, 1) := by decide +kernel
theorem d_M_shiftCount_7 : decode b_M_shiftCount 7 = .ok (.iconst 0, 1) := by decide +kernel
theorem d_M_shiftCount_8 : decode b_M_shiftCount 8 = .ok (.invokevirtual 77, 3) := by decide +kernel
theorem d_M_shiftCount_11 : decode b_M_shiftCount 11 = .ok (.bipush 15, 2) := by decide +kernel
theorem d_M_shiftCount_13 : decode b_M_shiftCount 13 = .ok (.iand, 1) := by decide +kernel
theorem d_M_shiftCount_14 : decode b_M_shiftCount 14 = .ok (.istore_n 2, 1) := by decide +kernel
theorem d_M_shiftCount_15 : decode b_M_shiftCount 15 = .ok (.iload_n 2, 1) := by decide +kernel
theorem d_M_shiftCount_16 : decode b_M_shiftCount 16 = .ok (.ifCond .eq 7, 3) := by decide +kernel
theorem d_M_shiftCount_19 : decode b_M_shiftCount 19 = .ok (.iload_n 2, 1) := by decide +kernel
theorem d_M_shiftCount_20 : decode b_M_shiftCount 20 = .ok (.goto 5, 3) := by decide +kernel
theorem d_M_shiftCount_23 : decode b_M_shiftCount 23 = .ok (.bipush 16, 2) := by decide +kernel
theorem d_M_shiftCount_25 : decode b_M_shiftCount 25 = .ok (.ireturn, 1) := by decide +kernel
theorem d_M_shiftedOnce_0 : decode b_M_shiftedOnce 0 = .ok (.iload_n 0, 1) := by decide +kernel
theorem d_M_shiftedOnce_1 : decode b_M_shiftedOnce 1 = .ok (.tableswitch 47 8 10 #[27, 36, 40], 27) := by decide +kernel
theorem d_M_shiftedOnce_28 : decode b_M_shiftedOnce 28 = .ok (.iload_n 1, 1) := by decide +kernel
theorem d_M_shiftedOnce_29 : decode b_M_shiftedOnce 29 = .ok (.ldc 197, 2) := by decide +kernel
theorem d_M_shiftedOnce_31 : decode b_M_shiftedOnce 31 = .ok (.iand, 1) := by decide +kernel
theorem d_M_shiftedOnce_32 : decode b_M_shiftedOnce 32 = .ok (.iload_n 1, 1) := by decide +kernel
theorem d_M_shiftedOnce_33 : decode b_M_shiftedOnce 33 = .ok (.iconst 1, 1) := by decide +kernel
theorem d_M_shiftedOnce_34 : decode b_M_shiftedOnce 34 = .ok (.ishr, 1) := by decide +kernel
theorem d_M_shiftedOnce_35 : decode b_M_shiftedOnce 35 = .ok (.ior, 1) := by decide +kernel
theorem d_M_shiftedOnce_36 : decode b_M_shiftedOnce 36 = .ok (.ireturn, 1) := by decide +kernel
theorem d_M_shiftedOnce_37 : decode b_M_shiftedOnce 37 = .ok (.iload_n 1, 1) := by decide +kernel
theorem d_M_shiftedOnce_38 : decode b_M_shiftedOnce 38 = .ok (.iconst 1, 1) := by decide +kernel
theorem d_M_shiftedOnce_39 : decode b_M_shiftedOnce 39 = .ok (.ishr, 1) := by decide +kernel
theorem d_M_shiftedOnce_40 : decode b_M_shiftedOnce 40 = .ok (.ireturn, 1) := by decide +kernel
theorem d_M_shiftedOnce_41 : decode b_M_shiftedOnce 41 = .ok (.iload_n 1, 1) := by decide +kernel
theorem d_M_shiftedOnce_42 : decode b_M_shiftedOnce 42 = .ok (.iconst 1, 1) := by decide +kernel
theorem d_M_shiftedOnce_43 : decode b_M_shiftedOnce 43 = .ok (.ishl, 1) := by decide +kernel
theorem d_M_shiftedOnce_44 : decode b_M_shiftedOnce 44 = .ok (.ldc 166, 2) := by decide +kernel
theorem d_M_shiftedOnce_46 : decode b_M_shiftedOnce 46 = .ok (.iand, 1) := by decide +kernel
theorem d_M_shiftedOnce_47 : decode b_M_shiftedOnce 47 = .ok (.ireturn, 1) := by decide +kernel
theorem d_M_shiftedOnce_48 : decode b_M_shiftedOnce 48 = .ok (.iload_n 1, 1) := by decide +kernel
theorem d_M_shiftedOnce_49 : decode b_M_shiftedOnce 49 = .ok (.iconst 1, 1) := by decide +kernel
theorem d_M_shiftedOnce_50 : decode b_M_shiftedOnce 50 = .ok (.ishr, 1) := by decide +kernel
theorem d_M_shiftedOnce_51 : decode b_M_shiftedOnce 51 = .ok (.iload_n 1, 1) := by decide +kernel
theorem d_M_shiftedOnce_52 : decode b_M_shiftedOnce 52 = .ok (.iconst 1, 1) := by decide +kernel
theorem d_M_shiftedOnce_53 : decode b_M_shiftedOnce 53 = .ok (.iand, 1) := by decide +kernel
theorem d_M_shiftedOnce_54 : decode b_M_shiftedOnce 54 = .ok (.bipush 15, 2) := by decide +kernel
theorem d_M_shiftedOnce_56 : decode b_M_shiftedOnce 56 = .ok (.ishl, 1) := by decide +kernel
theorem d_M_shiftedOnce_57 : decode b_M_shiftedOnce 57 = .ok (.ior, 1) := by decide +kernel
theorem d_M_shiftedOnce_58 : decode b_M_shiftedOnce 58 = .ok (.ireturn, 1) := by decide +kernel
theorem d_M_runShift_0 : decode b_M_runShift 0 = .ok (.iload_n 1, 1) := by decide +kernel
theorem d_M_runShift_1 : decode b_M_runShift 1 = .ok (.bipush 8, 2) := by decide +kernel
theorem d_M_runShift_3 : decode b_M_runShift 3 = .ok (.ishr, 1) := by decide +kernel
theorem d_M_runShift_4 : decode b_M_runShift 4 = .ok (.istore_n 2, 1) := by decide +kernel
theorem d_M_runShift_5 : decode b_M_runShift 5 = .ok (.iload_n 1, 1) := by decide +kernel
theorem d_M_runShift_6 : decode b_M_runShift 6 = .ok (.bipush 15, 2) := by decide +kernel
theorem d_M_runShift_8 : decode b_M_runShift 8 = .ok (.iand, 1) := by decide +kernel
theorem d_M_runShift_9 : decode b_M_runShift 9 = .ok (.istore_n 3, 1) := by decide +kernel
theorem d_M_runShift_10 : decode b_M_runShift 10 = .ok (.aload_n 0, 1) := by decide +kernel
theorem d_M_runShift_11 : decode b_M_runShift 11 = .ok (.iload_n 1, 1) := by decide +kernel
theorem d_M_runShift_12 : decode b_M_runShift 12 = .ok (.iconst 4, 1) := by decide +kernel
theorem d_M_runShift_13 : decode b_M_runShift 13 = .ok (.ishr, 1) := by decide +kernel
theorem d_M_runShift_14 : decode b_M_runShift 14 = .ok (.bipush 15, 2) := by decide +kernel
theorem d_M_runShift_16 : decode b_M_runShift 16 = .ok (.iand, 1) := by decide +kernel
theorem d_M_runShift_17 : decode b_M_runShift 17 = .ok (.invokevirtual 201, 3) := by decide +kernel
theorem d_M_runShift_20 : decode b_M_runShift 20 = .ok (.istore 4, 2) := by decide +kernel
theorem d_M_runShift_22 : decode b_M_runShift 22 = .ok (.aload_n 0, 1) := by decide +kernel
theorem d_M_runShift_23 : decode b_M_runShift 23 = .ok (.iload_n 3, 1) := by decide +kernel
theorem d_M_runShift_24 : decode b_M_runShift 24 = .ok (.invokevirtual 77, 3) := by decide +kernel
theorem d_M_runShift_27 : decode b_M_runShift 27 = .ok (.istore 5, 2) := by decide +kernel
theorem d_M_runShift_29 : decode b_M_runShift 29 = .ok (.iconst 0, 1) := by decide +kernel
theorem d_M_runShift_30 : decode b_M_runShift 30 = .ok (.istore 6, 2) := by decide +kernel
theorem d_M_runShift_32 : decode b_M_runShift 32 = .ok (.iconst 0, 1) := by decide +kernel
theorem d_M_runShift_33 : decode b_M_runShift 33 = .ok (.istore 7, 2) := by decide +kernel
theorem d_M_runShift_35 : decode b_M_runShift 35 = .ok (.iconst 0, 1) := by decide +kernel
theorem d_M_runShift_36 : decode b_M_runShift 36 = .ok (.istore 8, 2) := by decide +kernel
theorem d_M_runShift_38 : decode b_M_runShift 38 = .ok (.iload 8, 2) := by decide +kernel
theorem d_M_runShift_40 : decode b_M_runShift 40 = .ok (.iload 4, 2) := by decide +kernel
theorem d_M_runShift_42 : decode b_M_runShift 42 = .ok (.if_icmp .ge 64, 3) := by decide +kernel
theorem d_M_runShift_45 : decode b_M_runShift 45 = .ok (.iload_n 2, 1) := by decide +kernel
theorem d_M_runShift_46 : decode b_M_runShift 46 = .ok (.bipush 10, 2) := by decide +kernel
theorem d_M_runShift_48 : decode b_M_runShift 48 = .ok (.if_icmp .ne 11, 3) := by decide +kernel
theorem d_M_runShift_51 : decode b_M_runShift 51 = .ok (.iload 5, 2) := by decide +kernel
theorem d_M_runShift_53 : decode b_M_runShift 53 = .ok (.bipush 15, 2) := by decide +kernel
theorem d_M_runShift_55 : decode b_M_runShift 55 = .ok (.ishr, 1) := by decide +kernel
theorem d_M_runShift_56 : decode b_M_runShift 56 = .ok (.goto 7, 3) := by decide +kernel
theorem d_M_runShift_59 : decode b_M_runShift 59 = .ok (.iload 5, 2) := by decide +kernel
theorem d_M_runShift_61 : decode b_M_runShift 61 = .ok (.iconst 1, 1) := by decide +kernel
theorem d_M_runShift_62 : decode b_M_runShift 62 = .ok (.iand, 1) := by decide +kernel
theorem d_M_runShift_63 : decode b_M_runShift 63 = .ok (.istore 6, 2) := by decide +kernel
theorem d_M_runShift_65 : decode b_M_runShift 65 = .ok (.iload_n 2, 1) := by decide +kernel
theorem d_M_runShift_66 : decode b_M_runShift 66 = .ok (.iload 5, 2) := by decide +kernel
theorem d_M_runShift_68 : decode b_M_runShift 68 = .ok (.invokestatic 204, 3) := by decide +kernel
theorem d_M_runShift_71 : decode b_M_runShift 71 = .ok (.istore 9, 2) := by decide +kernel
theorem d_M_runShift_73 : decode b_M_runShift 73 = .ok (.iload 7, 2) := by decide +kernel
theorem d_M_runShift_75 : decode b_M_runShift 75 = .ok (.ifCond .ne 14, 3) := by decide +kernel
theorem d_M_runShift_78 : decode b_M_runShift 78 = .ok (.iload 5, 2) := by decide +kernel
theorem d_M_runShift_80 : decode b_M_runShift 80 = .ok (.iload 9, 2) := by decide +kernel
theorem d_M_runShift_82 : decode b_M_runShift 82 = .ok (.ixor, 1) := by decide +kernel
theorem d_M_runShift_83 : decode b_M_runShift 83 = .ok (.ldc 197, 2) := by decide +kernel
theorem d_M_runShift_85 : decode b_M_runShift 85 = .ok (.iand, 1) := by decide +kernel
theorem d_M_runShift_86 : decode b_M_runShift 86 = .ok (.ifCond .eq 7, 3) := by decide +kernel
theorem d_M_runShift_89 : decode b_M_runShift 89 = .ok (.iconst 1, 1) := by decide +kernel
theorem d_M_runShift_90 : decode b_M_runShift 90 = .ok (.goto 4, 3) := by decide +kernel
theorem d_M_runShift_93 : decode b_M_runShift 93 = .ok (.iconst 0, 1) := by decide +kernel
theorem d_M_runShift_94 : decode b_M_runShift 94 = .ok (.istore 7, 2) := by decide +kernel
theorem d_M_runShift_96 : decode b_M_runShift 96 = .ok (.iload 9, 2) := by decide +kernel
theorem d_M_runShift_98 : decode b_M_runShift 98 = .ok (.istore 5, 2) := by decide +kernel
theorem d_M_runShift_100 : decode b_M_runShift 100 = .ok (.iinc 8 1, 3) := by decide +kernel
