/-! decode rows, laid by gen.py -/
theorem d_M_runShift_103 : decode b_M_runShift 103 = .ok (.goto (-65), 3) := by decide +kernel
theorem d_M_runShift_106 : decode b_M_runShift 106 = .ok (.aload_n 0, 1) := by decide +kernel
theorem d_M_runShift_107 : decode b_M_runShift 107 = .ok (.iload_n 3, 1) := by decide +kernel
theorem d_M_runShift_108 : decode b_M_runShift 108 = .ok (.aload_n 0, 1) := by decide +kernel
theorem d_M_runShift_109 : decode b_M_runShift 109 = .ok (.getfield 26, 3) := by decide +kernel
theorem d_M_runShift_112 : decode b_M_runShift 112 = .ok (.iload 5, 2) := by decide +kernel
theorem d_M_runShift_114 : decode b_M_runShift 114 = .ok (.invokevirtual 163, 3) := by decide +kernel
theorem d_M_runShift_117 : decode b_M_runShift 117 = .ok (.invokevirtual 90, 3) := by decide +kernel
theorem d_M_runShift_120 : decode b_M_runShift 120 = .ok (.aload_n 0, 1) := by decide +kernel
theorem d_M_runShift_121 : decode b_M_runShift 121 = .ok (.getfield 26, 3) := by decide +kernel
theorem d_M_runShift_124 : decode b_M_runShift 124 = .ok (.sipush 4096, 3) := by decide +kernel
theorem d_M_runShift_127 : decode b_M_runShift 127 = .ok (.iload 6, 2) := by decide +kernel
theorem d_M_runShift_129 : decode b_M_runShift 129 = .ok (.iconst 1, 1) := by decide +kernel
theorem d_M_runShift_130 : decode b_M_runShift 130 = .ok (.if_icmp .ne 7, 3) := by decide +kernel
theorem d_M_runShift_133 : decode b_M_runShift 133 = .ok (.iconst 1, 1) := by decide +kernel
theorem d_M_runShift_134 : decode b_M_runShift 134 = .ok (.goto 4, 3) := by decide +kernel
theorem d_M_runShift_137 : decode b_M_runShift 137 = .ok (.iconst 0, 1) := by decide +kernel
theorem d_M_runShift_138 : decode b_M_runShift 138 = .ok (.invokevirtual 182, 3) := by decide +kernel
theorem d_M_runShift_141 : decode b_M_runShift 141 = .ok (.iload_n 2, 1) := by decide +kernel
theorem d_M_runShift_142 : decode b_M_runShift 142 = .ok (.bipush 10, 2) := by decide +kernel
theorem d_M_runShift_144 : decode b_M_runShift 144 = .ok (.if_icmp .ne 15, 3) := by decide +kernel
theorem d_M_runShift_147 : decode b_M_runShift 147 = .ok (.aload_n 0, 1) := by decide +kernel
theorem d_M_runShift_148 : decode b_M_runShift 148 = .ok (.getfield 26, 3) := by decide +kernel
theorem d_M_runShift_151 : decode b_M_runShift 151 = .ok (.sipush 2048, 3) := by decide +kernel
theorem d_M_runShift_154 : decode b_M_runShift 154 = .ok (.iload 7, 2) := by decide +kernel
theorem d_M_runShift_156 : decode b_M_runShift 156 = .ok (.invokevirtual 182, 3) := by decide +kernel
theorem d_M_runShift_159 : decode b_M_runShift 159 = .ok (.iconst 0, 1) := by decide +kernel
theorem d_M_runShift_160 : decode b_M_runShift 160 = .ok (.ireturn, 1) := by decide +kernel
theorem d_M_negated_0 : decode b_M_negated 0 = .ok (.aload_n 0, 1) := by decide +kernel
theorem d_M_negated_1 : decode b_M_negated 1 = .ok (.getfield 26, 3) := by decide +kernel
theorem d_M_negated_4 : decode b_M_negated 4 = .ok (.sipush 4096, 3) := by decide +kernel
theorem d_M_negated_7 : decode b_M_negated 7 = .ok (.iload_n 1, 1) := by decide +kernel
theorem d_M_negated_8 : decode b_M_negated 8 = .ok (.ifCond .ne 7, 3) := by decide +kernel
theorem d_M_negated_11 : decode b_M_negated 11 = .ok (.iconst 1, 1) := by decide +kernel
theorem d_M_negated_12 : decode b_M_negated 12 = .ok (.goto 4, 3) := by decide +kernel
theorem d_M_negated_15 : decode b_M_negated 15 = .ok (.iconst 0, 1) := by decide +kernel
theorem d_M_negated_16 : decode b_M_negated 16 = .ok (.invokevirtual 182, 3) := by decide +kernel
theorem d_M_negated_19 : decode b_M_negated 19 = .ok (.aload_n 0, 1) := by decide +kernel
theorem d_M_negated_20 : decode b_M_negated 20 = .ok (.getfield 26, 3) := by decide +kernel
theorem d_M_negated_23 : decode b_M_negated 23 = .ok (.sipush 2048, 3) := by decide +kernel
theorem d_M_negated_26 : decode b_M_negated 26 = .ok (.iload_n 1, 1) := by decide +kernel
theorem d_M_negated_27 : decode b_M_negated 27 = .ok (.ldc 197, 2) := by decide +kernel
theorem d_M_negated_29 : decode b_M_negated 29 = .ok (.if_icmp .ne 7, 3) := by decide +kernel
theorem d_M_negated_32 : decode b_M_negated 32 = .ok (.iconst 1, 1) := by decide +kernel
theorem d_M_negated_33 : decode b_M_negated 33 = .ok (.goto 4, 3) := by decide +kernel
theorem d_M_negated_36 : decode b_M_negated 36 = .ok (.iconst 0, 1) := by decide +kernel
theorem d_M_negated_37 : decode b_M_negated 37 = .ok (.invokevirtual 182, 3) := by decide +kernel
theorem d_M_negated_40 : decode b_M_negated 40 = .ok (.aload_n 0, 1) := by decide +kernel
theorem d_M_negated_41 : decode b_M_negated 41 = .ok (.getfield 26, 3) := by decide +kernel
theorem d_M_negated_44 : decode b_M_negated 44 = .ok (.iload_n 1, 1) := by decide +kernel
theorem d_M_negated_45 : decode b_M_negated 45 = .ok (.ineg, 1) := by decide +kernel
theorem d_M_negated_46 : decode b_M_negated 46 = .ok (.ldc 166, 2) := by decide +kernel
theorem d_M_negated_48 : decode b_M_negated 48 = .ok (.iand, 1) := by decide +kernel
theorem d_M_negated_49 : decode b_M_negated 49 = .ok (.invokevirtual 163, 3) := by decide +kernel
theorem d_M_negated_52 : decode b_M_negated 52 = .ok (.ireturn, 1) := by decide +kernel
theorem d_M_withoutSign_0 : decode b_M_withoutSign 0 = .ok (.aload_n 0, 1) := by decide +kernel
theorem d_M_withoutSign_1 : decode b_M_withoutSign 1 = .ok (.getfield 26, 3) := by decide +kernel
theorem d_M_withoutSign_4 : decode b_M_withoutSign 4 = .ok (.iload_n 1, 1) := by decide +kernel
theorem d_M_withoutSign_5 : decode b_M_withoutSign 5 = .ok (.iconst 0, 1) := by decide +kernel
theorem d_M_withoutSign_6 : decode b_M_withoutSign 6 = .ok (.invokevirtual 149, 3) := by decide +kernel
theorem d_M_withoutSign_9 : decode b_M_withoutSign 9 = .ok (.aload_n 0, 1) := by decide +kernel
theorem d_M_withoutSign_10 : decode b_M_withoutSign 10 = .ok (.getfield 26, 3) := by decide +kernel
theorem d_M_withoutSign_13 : decode b_M_withoutSign 13 = .ok (.sipush 4096, 3) := by decide +kernel
theorem d_M_withoutSign_16 : decode b_M_withoutSign 16 = .ok (.iconst 0, 1) := by decide +kernel
theorem d_M_withoutSign_17 : decode b_M_withoutSign 17 = .ok (.invokevirtual 182, 3) := by decide +kernel
theorem d_M_withoutSign_20 : decode b_M_withoutSign 20 = .ok (.aload_n 0, 1) := by decide +kernel
theorem d_M_withoutSign_21 : decode b_M_withoutSign 21 = .ok (.getfield 26, 3) := by decide +kernel
theorem d_M_withoutSign_24 : decode b_M_withoutSign 24 = .ok (.sipush 2048, 3) := by decide +kernel
theorem d_M_withoutSign_27 : decode b_M_withoutSign 27 = .ok (.iload_n 1, 1) := by decide +kernel
theorem d_M_withoutSign_28 : decode b_M_withoutSign 28 = .ok (.ldc 197, 2) := by decide +kernel
theorem d_M_withoutSign_30 : decode b_M_withoutSign 30 = .ok (.if_icmp .ne 7, 3) := by decide +kernel
theorem d_M_withoutSign_33 : decode b_M_withoutSign 33 = .ok (.iconst 1, 1) := by decide +kernel
theorem d_M_withoutSign_34 : decode b_M_withoutSign 34 = .ok (.goto 4, 3) := by decide +kernel
theorem d_M_withoutSign_37 : decode b_M_withoutSign 37 = .ok (.iconst 0, 1) := by decide +kernel
theorem d_M_withoutSign_38 : decode b_M_withoutSign 38 = .ok (.invokevirtual 182, 3) := by decide +kernel
theorem d_M_withoutSign_41 : decode b_M_withoutSign 41 = .ok (.iload_n 1, 1) := by decide +kernel
theorem d_M_withoutSign_42 : decode b_M_withoutSign 42 = .ok (.ldc 197, 2) := by decide +kernel
theorem d_M_withoutSign_44 : decode b_M_withoutSign 44 = .ok (.iand, 1) := by decide +kernel
theorem d_M_withoutSign_45 : decode b_M_withoutSign 45 = .ok (.ifCond .ne 7, 3) := by decide +kernel
theorem d_M_withoutSign_48 : decode b_M_withoutSign 48 = .ok (.iload_n 1, 1) := by decide +kernel
theorem d_M_withoutSign_49 : decode b_M_withoutSign 49 = .ok (.goto 8, 3) := by decide +kernel
theorem d_M_withoutSign_52 : decode b_M_withoutSign 52 = .ok (.iload_n 1, 1) := by decide +kernel
theorem d_M_withoutSign_53 : decode b_M_withoutSign 53 = .ok (.ineg, 1) := by decide +kernel
theorem d_M_withoutSign_54 : decode b_M_withoutSign 54 = .ok (.ldc 166, 2) := by decide +kernel
theorem d_M_withoutSign_56 : decode b_M_withoutSign 56 = .ok (.iand, 1) := by decide +kernel
theorem d_M_withoutSign_57 : decode b_M_withoutSign 57 = .ok (.ireturn, 1) := by decide +kernel
theorem d_M_changed_0 : decode b_M_changed 0 = .ok (.iload_n 1, 1) := by decide +kernel
theorem d_M_changed_1 : decode b_M_changed 1 = .ok (.tableswitch 140 3 12 #[55, 57, 63, 77, 88, 99, 111, 140, 123, 137], 55) := by decide +kernel
theorem d_M_changed_56 : decode b_M_changed 56 = .ok (.iconst 0, 1) := by decide +kernel
theorem d_M_changed_57 : decode b_M_changed 57 = .ok (.ireturn, 1) := by decide +kernel
theorem d_M_changed_58 : decode b_M_changed 58 = .ok (.aload_n 0, 1) := by decide +kernel
theorem d_M_changed_59 : decode b_M_changed 59 = .ok (.iload_n 2, 1) := by decide +kernel
theorem d_M_changed_60 : decode b_M_changed 60 = .ok (.invokevirtual 210, 3) := by decide +kernel
theorem d_M_changed_63 : decode b_M_changed 63 = .ok (.ireturn, 1) := by decide +kernel
theorem d_M_changed_64 : decode b_M_changed 64 = .ok (.aload_n 0, 1) := by decide +kernel
theorem d_M_changed_65 : decode b_M_changed 65 = .ok (.getfield 26, 3) := by decide +kernel
theorem d_M_changed_68 : decode b_M_changed 68 = .ok (.iload_n 2, 1) := by decide +kernel
theorem d_M_changed_69 : decode b_M_changed 69 = .ok (.iconst (-1), 1) := by decide +kernel
theorem d_M_changed_70 : decode b_M_changed 70 = .ok (.ixor, 1) := by decide +kernel
theorem d_M_changed_71 : decode b_M_changed 71 = .ok (.ldc 166, 2) := by decide +kernel
theorem d_M_changed_73 : decode b_M_changed 73 = .ok (.iand, 1) := by decide +kernel
theorem d_M_changed_74 : decode b_M_changed 74 = .ok (.invokevirtual 163, 3) := by decide +kernel
theorem d_M_changed_77 : decode b_M_changed 77 = .ok (.ireturn, 1) := by decide +kernel
theorem d_M_changed_78 : decode b_M_changed 78 = .ok (.aload_n 0, 1) := by decide +kernel
theorem d_M_changed_79 : decode b_M_changed 79 = .ok (.getfield 26, 3) := by decide +kernel
theorem d_M_changed_82 : decode b_M_changed 82 = .ok (.iload_n 2, 1) := by decide +kernel
theorem d_M_changed_83 : decode b_M_changed 83 = .ok (.iconst 1, 1) := by decide +kernel
theorem d_M_changed_84 : decode b_M_changed 84 = .ok (.iconst 0, 1) := by decide +kernel
theorem d_M_changed_85 : decode b_M_changed 85 = .ok (.invokevirtual 167, 3) := by decide +kernel
theorem d_M_changed_88 : decode b_M_changed 88 = .ok (.ireturn, 1) := by decide +kernel
theorem d_M_changed_89 : decode b_M_changed 89 = .ok (.aload_n 0, 1) := by decide +kernel
theorem d_M_changed_90 : decode b_M_changed 90 = .ok (.getfield 26, 3) := by decide +kernel
theorem d_M_changed_93 : decode b_M_changed 93 = .ok (.iload_n 2, 1) := by decide +kernel
theorem d_M_changed_94 : decode b_M_changed 94 = .ok (.iconst 2, 1) := by decide +kernel
theorem d_M_changed_95 : decode b_M_changed 95 = .ok (.iconst 0, 1) := by decide +kernel
theorem d_M_changed_96 : decode b_M_changed 96 = .ok (.invokevirtual 167, 3) := by decide +kernel
theorem d_M_changed_99 : decode b_M_changed 99 = .ok (.ireturn, 1) := by decide +kernel
theorem d_M_changed_100 : decode b_M_changed 100 = .ok (.aload_n 0, 1) := by decide +kernel
theorem d_M_changed_101 : decode b_M_changed 101 = .ok (.getfield 26, 3) := by decide +kernel
theorem d_M_changed_104 : decode b_M_changed 104 = .ok (.iload_n 2, 1) := by decide +kernel
theorem d_M_changed_105 : decode b_M_changed 105 = .ok (.ldc 166, 2) := by decide +kernel
theorem d_M_changed_107 : decode b_M_changed 107 = .ok (.iconst 0, 1) := by decide +kernel
theorem d_M_changed_108 : decode b_M_changed 108 = .ok (.invokevirtual 167, 3) := by decide +kernel
theorem d_M_changed_111 : decode b_M_changed 111 = .ok (.ireturn, 1) := by decide +kernel
theorem d_M_changed_112 : decode b_M_changed 112 = .ok (.aload_n 0, 1) := by decide +kernel
theorem d_M_changed_113 : decode b_M_changed 113 = .ok (.getfield 26, 3) := by decide +kernel
theorem d_M_changed_116 : decode b_M_changed 116 = .ok (.iload_n 2, 1) := by decide +kernel
theorem d_M_changed_117 : decode b_M_changed 117 = .ok (.ldc 213, 2) := by decide +kernel
theorem d_M_changed_119 : decode b_M_changed 119 = .ok (.iconst 0, 1) := by decide +kernel
theorem d_M_changed_120 : decode b_M_changed 120 = .ok (.invokevirtual 167, 3) := by decide +kernel
theorem d_M_changed_123 : decode b_M_changed 123 = .ok (.ireturn, 1) := by decide +kernel
theorem d_M_changed_124 : decode b_M_changed 124 = .ok (.iload_n 2, 1) := by decide +kernel
theorem d_M_changed_125 : decode b_M_changed 125 = .ok (.bipush 8, 2) := by decide +kernel
theorem d_M_changed_127 : decode b_M_changed 127 = .ok (.ishr, 1) := by decide +kernel
theorem d_M_changed_128 : decode b_M_changed 128 = .ok (.iload_n 2, 1) := by decide +kernel
theorem d_M_changed_129 : decode b_M_changed 129 = .ok (.sipush 255, 3) := by decide +kernel
theorem d_M_changed_132 : decode b_M_changed 132 = .ok (.iand, 1) := by decide +kernel
theorem d_M_changed_133 : decode b_M_changed 133 = .ok (.bipush 8, 2) := by decide +kernel
theorem d_M_changed_135 : decode b_M_changed 135 = .ok (.ishl, 1) := by decide +kernel
theorem d_M_changed_136 : decode b_M_changed 136 = .ok (.ior, 1) := by decide +kernel
theorem d_M_changed_137 : decode b_M_changed 137 = .ok (.ireturn, 1) := by decide +kernel
theorem d_M_changed_138 : decode b_M_changed 138 = .ok (.ldc 166, 2) := by decide +kernel
theorem d_M_changed_140 : decode b_M_changed 140 = .ok (.ireturn, 1) := by decide +kernel
theorem d_M_changed_141 : decode b_M_changed 141 = .ok (.aload_n 0, 1) := by decide +kernel
theorem d_M_changed_142 : decode b_M_changed 142 = .ok (.iload_n 2, 1) := by decide +kernel
theorem d_M_changed_143 : decode b_M_changed 143 = .ok (.invokevirtual 214, 3) := by decide +kernel
theorem d_M_changed_146 : decode b_M_changed 146 = .ok (.ireturn, 1) := by decide +kernel
theorem d_M_runOnOneOperand_0 : decode b_M_runOnOneOperand 0 = .ok (.iload_n 1, 1) := by decide +kernel
theorem d_M_runOnOneOperand_1 : decode b_M_runOnOneOperand 1 = .ok (.bipush 6, 2) := by decide +kernel
theorem d_M_runOnOneOperand_3 : decode b_M_runOnOneOperand 3 = .ok (.ishr, 1) := by decide +kernel
theorem d_M_runOnOneOperand_4 : decode b_M_runOnOneOperand 4 = .ok (.bipush 15, 2) := by decide +kernel
theorem d_M_runOnOneOperand_6 : decode b_M_runOnOneOperand 6 = .ok (.iand, 1) := by decide +kernel
theorem d_M_runOnOneOperand_7 : decode b_M_runOnOneOperand 7 = .ok (.istore_n 2, 1) := by decide +kernel
theorem d_M_runOnOneOperand_8 : decode b_M_runOnOneOperand 8 = .ok (.aload_n 0, 1) := by decide +kernel
theorem d_M_runOnOneOperand_9 : decode b_M_runOnOneOperand 9 = .ok (.iload_n 1, 1) := by decide +kernel
theorem d_M_runOnOneOperand_10 : decode b_M_runOnOneOperand 10 = .ok (.iconst 2, 1) := by decide +kernel
theorem d_M_runOnOneOperand_11 : decode b_M_runOnOneOperand 11 = .ok (.invokevirtual 83, 3) := by decide +kernel
theorem d_M_runOnOneOperand_14 : decode b_M_runOnOneOperand 14 = .ok (.istore_n 3, 1) := by decide +kernel
theorem d_M_runOnOneOperand_15 : decode b_M_runOnOneOperand 15 = .ok (.iload_n 2, 1) := by decide +kernel
theorem d_M_runOnOneOperand_16 : decode b_M_runOnOneOperand 16 = .ok (.lookupswitch 70 #[(0, 36), (1, 44), (10, 52)], 36) := by decide +kernel
theorem d_M_runOnOneOperand_52 : decode b_M_runOnOneOperand 52 = .ok (.aload_n 0, 1) := by decide +kernel
theorem d_M_runOnOneOperand_53 : decode b_M_runOnOneOperand 53 = .ok (.iload_n 3, 1) := by decide +kernel
theorem d_M_runOnOneOperand_54 : decode b_M_runOnOneOperand 54 = .ok (.invokevirtual 34, 3) := by decide +kernel
theorem d_M_runOnOneOperand_57 : decode b_M_runOnOneOperand 57 = .ok (.goto 50, 3) := by decide +kernel
theorem d_M_runOnOneOperand_60 : decode b_M_runOnOneOperand 60 = .ok (.aload_n 0, 1) := by decide +kernel
theorem d_M_runOnOneOperand_61 : decode b_M_runOnOneOperand 61 = .ok (.iload_n 3, 1) := by decide +kernel
theorem d_M_runOnOneOperand_62 : decode b_M_runOnOneOperand 62 = .ok (.invokevirtual 116, 3) := by decide +kernel
theorem d_M_runOnOneOperand_65 : decode b_M_runOnOneOperand 65 = .ok (.goto 42, 3) := by decide +kernel
theorem d_M_runOnOneOperand_68 : decode b_M_runOnOneOperand 68 = .ok (.aload_n 0, 1) := by decide +kernel
theorem d_M_runOnOneOperand_69 : decode b_M_runOnOneOperand 69 = .ok (.bipush 11, 2) := by decide +kernel
theorem d_M_runOnOneOperand_71 : decode b_M_runOnOneOperand 71 = .ok (.aload_n 0, 1) := by decide +kernel
theorem d_M_runOnOneOperand_72 : decode b_M_runOnOneOperand 72 = .ok (.getfield 71, 3) := by decide +kernel
theorem d_M_runOnOneOperand_75 : decode b_M_runOnOneOperand 75 = .ok (.invokevirtual 90, 3) := by decide +kernel
theorem d_M_runOnOneOperand_78 : decode b_M_runOnOneOperand 78 = .ok (.aload_n 0, 1) := by decide +kernel
theorem d_M_runOnOneOperand_79 : decode b_M_runOnOneOperand 79 = .ok (.iload_n 3, 1) := by decide +kernel
theorem d_M_runOnOneOperand_80 : decode b_M_runOnOneOperand 80 = .ok (.invokevirtual 116, 3) := by decide +kernel
theorem d_M_runOnOneOperand_83 : decode b_M_runOnOneOperand 83 = .ok (.goto 24, 3) := by decide +kernel
theorem d_M_runOnOneOperand_86 : decode b_M_runOnOneOperand 86 = .ok (.aload_n 0, 1) := by decide +kernel
theorem d_M_runOnOneOperand_87 : decode b_M_runOnOneOperand 87 = .ok (.getfield 12, 3) := by decide +kernel
theorem d_M_runOnOneOperand_90 : decode b_M_runOnOneOperand 90 = .ok (.iload_n 3, 1) := by decide +kernel
theorem d_M_runOnOneOperand_91 : decode b_M_runOnOneOperand 91 = .ok (.aload_n 0, 1) := by decide +kernel
theorem d_M_runOnOneOperand_92 : decode b_M_runOnOneOperand 92 = .ok (.iload_n 2, 1) := by decide +kernel
theorem d_M_runOnOneOperand_93 : decode b_M_runOnOneOperand 93 = .ok (.aload_n 0, 1) := by decide +kernel
theorem d_M_runOnOneOperand_94 : decode b_M_runOnOneOperand 94 = .ok (.getfield 12, 3) := by decide +kernel
theorem d_M_runOnOneOperand_97 : decode b_M_runOnOneOperand 97 = .ok (.iload_n 3, 1) := by decide +kernel
theorem d_M_runOnOneOperand_98 : decode b_M_runOnOneOperand 98 = .ok (.invokevirtual 60, 3) := by decide +kernel
theorem d_M_runOnOneOperand_101 : decode b_M_runOnOneOperand 101 = .ok (.invokevirtual 207, 3) := by decide +kernel
theorem d_M_runOnOneOperand_104 : decode b_M_runOnOneOperand 104 = .ok (.invokevirtual 56, 3) := by decide +kernel
theorem d_M_runOnOneOperand_107 : decode b_M_runOnOneOperand 107 = .ok (.iconst 0, 1) := by decide +kernel
theorem d_M_runOnOneOperand_108 : decode b_M_runOnOneOperand 108 = .ok (.ireturn, 1) := by decide +kernel
theorem d_M_runImmediate_0 : decode b_M_runImmediate 0 = .ok (.iload_n 1, 1) := by decide +kernel
theorem d_M_runImmediate_1 : decode b_M_runImmediate 1 = .ok (.tableswitch 113 0 3 #[31, 47, 69, 91], 31) := by decide +kernel
theorem d_M_runImmediate_32 : decode b_M_runImmediate 32 = .ok (.aload_n 0, 1) := by decide +kernel
theorem d_M_runImmediate_33 : decode b_M_runImmediate 33 = .ok (.iload_n 2, 1) := by decide +kernel
theorem d_M_runImmediate_34 : decode b_M_runImmediate 34 = .ok (.aload_n 0, 1) := by decide +kernel
theorem d_M_runImmediate_35 : decode b_M_runImmediate 35 = .ok (.getfield 26, 3) := by decide +kernel
theorem d_M_runImmediate_38 : decode b_M_runImmediate 38 = .ok (.iload_n 3, 1) := by decide +kernel
theorem d_M_runImmediate_39 : decode b_M_runImmediate 39 = .ok (.invokevirtual 163, 3) := by decide +kernel
theorem d_M_runImmediate_42 : decode b_M_runImmediate 42 = .ok (.invokevirtual 90, 3) := by decide +kernel
theorem d_M_runImmediate_45 : decode b_M_runImmediate 45 = .ok (.goto 82, 3) := by decide +kernel
theorem d_M_runImmediate_48 : decode b_M_runImmediate 48 = .ok (.aload_n 0, 1) := by decide +kernel
theorem d_M_runImmediate_49 : decode b_M_runImmediate 49 = .ok (.iload_n 2, 1) := by decide +kernel
theorem d_M_runImmediate_50 : decode b_M_runImmediate 50 = .ok (.aload_n 0, 1) := by decide +kernel
theorem d_M_runImmediate_51 : decode b_M_runImmediate 51 = .ok (.getfield 26, 3) := by decide +kernel
theorem d_M_runImmediate_54 : decode b_M_runImmediate 54 = .ok (.aload_n 0, 1) := by decide +kernel
theorem d_M_runImmediate_55 : decode b_M_runImmediate 55 = .ok (.iload_n 2, 1) := by decide +kernel
theorem d_M_runImmediate_56 : decode b_M_runImmediate 56 = .ok (.invokevirtual 77, 3) := by decide +kernel
theorem d_M_runImmediate_59 : decode b_M_runImmediate 59 = .ok (.iload_n 3, 1) := by decide +kernel
theorem d_M_runImmediate_60 : decode b_M_runImmediate 60 = .ok (.iconst 0, 1) := by decide +kernel
theorem d_M_runImmediate_61 : decode b_M_runImmediate 61 = .ok (.invokevirtual 167, 3) := by decide +kernel
theorem d_M_runImmediate_64 : decode b_M_runImmediate 64 = .ok (.invokevirtual 90, 3) := by decide +kernel
theorem d_M_runImmediate_67 : decode b_M_runImmediate 67 = .ok (.goto 60, 3) := by decide +kernel
theorem d_M_runImmediate_70 : decode b_M_runImmediate 70 = .ok (.aload_n 0, 1) := by decide +kernel
theorem d_M_runImmediate_71 : decode b_M_runImmediate 71 = .ok (.iload_n 2, 1) := by decide +kernel
theorem d_M_runImmediate_72 : decode b_M_runImmediate 72 = .ok (.aload_n 0, 1) := by decide +kernel
theorem d_M_runImmediate_73 : decode b_M_runImmediate 73 = .ok (.getfield 26, 3) := by decide +kernel
theorem d_M_runImmediate_76 : decode b_M_runImmediate 76 = .ok (.aload_n 0, 1) := by decide +kernel
theorem d_M_runImmediate_77 : decode b_M_runImmediate 77 = .ok (.iload_n 2, 1) := by decide +kernel
theorem d_M_runImmediate_78 : decode b_M_runImmediate 78 = .ok (.invokevirtual 77, 3) := by decide +kernel
theorem d_M_runImmediate_81 : decode b_M_runImmediate 81 = .ok (.iload_n 3, 1) := by decide +kernel
theorem d_M_runImmediate_82 : decode b_M_runImmediate 82 = .ok (.iand, 1) := by decide +kernel
theorem d_M_runImmediate_83 : decode b_M_runImmediate 83 = .ok (.invokevirtual 163, 3) := by decide +kernel
theorem d_M_runImmediate_86 : decode b_M_runImmediate 86 = .ok (.invokevirtual 90, 3) := by decide +kernel
theorem d_M_runImmediate_89 : decode b_M_runImmediate 89 = .ok (.goto 38, 3) := by decide +kernel
theorem d_M_runImmediate_92 : decode b_M_runImmediate 92 = .ok (.aload_n 0, 1) := by decide +kernel
theorem d_M_runImmediate_93 : decode b_M_runImmediate 93 = .ok (.iload_n 2, 1) := by decide +kernel
theorem d_M_runImmediate_94 : decode b_M_runImmediate 94 = .ok (.aload_n 0, 1) := by decide +kernel
theorem d_M_runImmediate_95 : decode b_M_runImmediate 95 = .ok (.getfield 26, 3) := by decide +kernel
theorem d_M_runImmediate_98 : decode b_M_runImmediate 98 = .ok (.aload_n 0, 1) := by decide +kernel
theorem d_M_runImmediate_99 : decode b_M_runImmediate 99 = .ok (.iload_n 2, 1) := by decide +kernel
theorem d_M_runImmediate_100 : decode b_M_runImmediate 100 = .ok (.invokevirtual 77, 3) := by decide +kernel
theorem d_M_runImmediate_103 : decode b_M_runImmediate 103 = .ok (.iload_n 3, 1) := by decide +kernel
theorem d_M_runImmediate_104 : decode b_M_runImmediate 104 = .ok (.ior, 1) := by decide +kernel
theorem d_M_runImmediate_105 : decode b_M_runImmediate 105 = .ok (.invokevirtual 163, 3) := by decide +kernel
theorem d_M_runImmediate_108 : decode b_M_runImmediate 108 = .ok (.invokevirtual 90, 3) := by decide +kernel
theorem d_M_runImmediate_111 : decode b_M_runImmediate 111 = .ok (.goto 16, 3) := by decide +kernel
theorem d_M_runImmediate_114 : decode b_M_runImmediate 114 = .ok (.aload_n 0, 1) := by decide +kernel
theorem d_M_runImmediate_115 : decode b_M_runImmediate 115 = .ok (.getfield 26, 3) := by decide +kernel
theorem d_M_runImmediate_118 : decode b_M_runImmediate 118 = .ok (.aload_n 0, 1) := by decide +kernel
theorem d_M_runImmediate_119 : decode b_M_runImmediate 119 = .ok (.iload_n 2, 1) := by decide +kernel
theorem d_M_runImmediate_120 : decode b_M_runImmediate 120 = .ok (.invokevirtual 77, 3) := by decide +kernel
theorem d_M_runImmediate_123 : decode b_M_runImmediate 123 = .ok (.iload_n 3, 1) := by decide +kernel
theorem d_M_runImmediate_124 : decode b_M_runImmediate 124 = .ok (.invokevirtual 149, 3) := by decide +kernel
theorem d_M_runImmediate_127 : decode b_M_runImmediate 127 = .ok (.return_, 1) := by decide +kernel
theorem d_St_setBits_0 : decode b_St_setBits 0 = .ok (.aload_n 0, 1) := by decide +kernel
theorem d_St_setBits_1 : decode b_St_setBits 1 = .ok (.iload_n 1, 1) := by decide +kernel
theorem d_St_setBits_2 : decode b_St_setBits 2 = .ok (.putfield 9, 3) := by decide +kernel
theorem d_St_setBits_5 : decode b_St_setBits 5 = .ok (.return_, 1) := by decide +kernel
theorem d_M_switchBack_0 : decode b_M_switchBack 0 = .ok (.aload_n 0, 1) := by decide +kernel
theorem d_M_switchBack_1 : decode b_M_switchBack 1 = .ok (.getfield 26, 3) := by decide +kernel
theorem d_M_switchBack_4 : decode b_M_switchBack 4 = .ok (.aload_n 0, 1) := by decide +kernel
theorem d_M_switchBack_5 : decode b_M_switchBack 5 = .ok (.bipush 15, 2) := by decide +kernel
theorem d_M_switchBack_7 : decode b_M_switchBack 7 = .ok (.invokevirtual 77, 3) := by decide +kernel
theorem d_M_switchBack_10 : decode b_M_switchBack 10 = .ok (.invokevirtual 223, 3) := by decide +kernel
theorem d_M_switchBack_13 : decode b_M_switchBack 13 = .ok (.aload_n 0, 1) := by decide +kernel
theorem d_M_switchBack_14 : decode b_M_switchBack 14 = .ok (.aload_n 0, 1) := by decide +kernel
theorem d_M_switchBack_15 : decode b_M_switchBack 15 = .ok (.bipush 14, 2) := by decide +kernel
theorem d_M_switchBack_17 : decode b_M_switchBack 17 = .ok (.invokevirtual 77, 3) := by decide +kernel
theorem d_M_switchBack_20 : decode b_M_switchBack 20 = .ok (.invokevirtual 116, 3) := by decide +kernel
theorem d_M_switchBack_23 : decode b_M_switchBack 23 = .ok (.aload_n 0, 1) := by decide +kernel
theorem d_M_switchBack_24 : decode b_M_switchBack 24 = .ok (.aload_n 0, 1) := by decide +kernel
theorem d_M_switchBack_25 : decode b_M_switchBack 25 = .ok (.bipush 13, 2) := by decide +kernel
theorem d_M_switchBack_27 : decode b_M_switchBack 27 = .ok (.invokevirtual 77, 3) := by decide +kernel
theorem d_M_switchBack_30 : decode b_M_switchBack 30 = .ok (.invokevirtual 122, 3) := by decide +kernel
theorem d_M_switchBack_33 : decode b_M_switchBack 33 = .ok (.return_, 1) := by decide +kernel
theorem d_M_runImmediateOrControl_0 : decode b_M_runImmediateOrControl 0 = .ok (.iload_n 1, 1) := by decide +kernel
theorem d_M_runImmediateOrControl_1 : decode b_M_runImmediateOrControl 1 = .ok (.iconst 5, 1) := by decide +kernel
theorem d_M_runImmediateOrControl_2 : decode b_M_runImmediateOrControl 2 = .ok (.ishr, 1) := by decide +kernel
theorem d_M_runImmediateOrControl_3 : decode b_M_runImmediateOrControl 3 = .ok (.bipush 15, 2) := by decide +kernel
theorem d_M_runImmediateOrControl_5 : decode b_M_runImmediateOrControl 5 = .ok (.iand, 1) := by decide +kernel
theorem d_M_runImmediateOrControl_6 : decode b_M_runImmediateOrControl 6 = .ok (.istore_n 2, 1) := by decide +kernel
theorem d_M_runImmediateOrControl_7 : decode b_M_runImmediateOrControl 7 = .ok (.iload_n 1, 1) := by decide +kernel
theorem d_M_runImmediateOrControl_8 : decode b_M_runImmediateOrControl 8 = .ok (.bipush 15, 2) := by decide +kernel
theorem d_M_runImmediateOrControl_10 : decode b_M_runImmediateOrControl 10 = .ok (.iand, 1) := by decide +kernel
theorem d_M_runImmediateOrControl_11 : decode b_M_runImmediateOrControl 11 = .ok (.istore_n 3, 1) := by decide +kernel
theorem d_M_runImmediateOrControl_12 : decode b_M_runImmediateOrControl 12 = .ok (.iload_n 2, 1) := by decide +kernel
theorem d_M_runImmediateOrControl_13 : decode b_M_runImmediateOrControl 13 = .ok (.iconst 4, 1) := by decide +kernel
theorem d_M_runImmediateOrControl_14 : decode b_M_runImmediateOrControl 14 = .ok (.if_icmp .gt 15, 3) := by decide +kernel
theorem d_M_runImmediateOrControl_17 : decode b_M_runImmediateOrControl 17 = .ok (.aload_n 0, 1) := by decide +kernel
theorem d_M_runImmediateOrControl_18 : decode b_M_runImmediateOrControl 18 = .ok (.iload_n 2, 1) := by decide +kernel
theorem d_M_runImmediateOrControl_19 : decode b_M_runImmediateOrControl 19 = .ok (.iload_n 3, 1) := by decide +kernel
theorem d_M_runImmediateOrControl_20 : decode b_M_runImmediateOrControl 20 = .ok (.aload_n 0, 1) := by decide +kernel
theorem d_M_runImmediateOrControl_21 : decode b_M_runImmediateOrControl 21 = .ok (.invokevirtual 74, 3) := by decide +kernel
theorem d_M_runImmediateOrControl_24 : decode b_M_runImmediateOrControl 24 = .ok (.invokevirtual 217, 3) := by decide +kernel
theorem d_M_runImmediateOrControl_27 : decode b_M_runImmediateOrControl 27 = .ok (.iconst 0, 1) := by decide +kernel
theorem d_M_runImmediateOrControl_28 : decode b_M_runImmediateOrControl 28 = .ok (.ireturn, 1) := by decide +kernel
theorem d_M_runImmediateOrControl_29 : decode b_M_runImmediateOrControl 29 = .ok (.iload_n 2, 1) := by decide +kernel
theorem d_M_runImmediateOrControl_30 : decode b_M_runImmediateOrControl 30 = .ok (.tableswitch 119 5 12 #[46, 57, 71, 81, 94, 96, 103, 113], 46) := by decide +kernel
theorem d_M_runImmediateOrControl_76 : decode b_M_runImmediateOrControl 76 = .ok (.aload_n 0, 1) := by decide +kernel
theorem d_M_runImmediateOrControl_77 : decode b_M_runImmediateOrControl 77 = .ok (.iload_n 3, 1) := by decide +kernel
theorem d_M_runImmediateOrControl_78 : decode b_M_runImmediateOrControl 78 = .ok (.aload_n 0, 1) := by decide +kernel
theorem d_M_runImmediateOrControl_79 : decode b_M_runImmediateOrControl 79 = .ok (.getfield 107, 3) := by decide +kernel
theorem d_M_runImmediateOrControl_82 : decode b_M_runImmediateOrControl 82 = .ok (.invokevirtual 90, 3) := by decide +kernel
theorem d_M_runImmediateOrControl_85 : decode b_M_runImmediateOrControl 85 = .ok (.iconst 0, 1) := by decide +kernel
theorem d_M_runImmediateOrControl_86 : decode b_M_runImmediateOrControl 86 = .ok (.ireturn, 1) := by decide +kernel
theorem d_M_runImmediateOrControl_87 : decode b_M_runImmediateOrControl 87 = .ok (.aload_n 0, 1) := by decide +kernel
theorem d_M_runImmediateOrControl_88 : decode b_M_runImmediateOrControl 88 = .ok (.iload_n 3, 1) := by decide +kernel
theorem d_M_runImmediateOrControl_89 : decode b_M_runImmediateOrControl 89 = .ok (.aload_n 0, 1) := by decide +kernel
theorem d_M_runImmediateOrControl_90 : decode b_M_runImmediateOrControl 90 = .ok (.getfield 26, 3) := by decide +kernel
theorem d_M_runImmediateOrControl_93 : decode b_M_runImmediateOrControl 93 = .ok (.invokevirtual 110, 3) := by decide +kernel
theorem d_M_runImmediateOrControl_96 : decode b_M_runImmediateOrControl 96 = .ok (.invokevirtual 90, 3) := by decide +kernel
theorem d_M_runImmediateOrControl_99 : decode b_M_runImmediateOrControl 99 = .ok (.iconst 0, 1) := by decide +kernel
theorem d_M_runImmediateOrControl_100 : decode b_M_runImmediateOrControl 100 = .ok (.ireturn, 1) := by decide +kernel
theorem d_M_runImmediateOrControl_101 : decode b_M_runImmediateOrControl 101 = .ok (.aload_n 0, 1) := by decide +kernel
theorem d_M_runImmediateOrControl_102 : decode b_M_runImmediateOrControl 102 = .ok (.aload_n 0, 1) := by decide +kernel
theorem d_M_runImmediateOrControl_103 : decode b_M_runImmediateOrControl 103 = .ok (.invokevirtual 74, 3) := by decide +kernel
theorem d_M_runImmediateOrControl_106 : decode b_M_runImmediateOrControl 106 = .ok (.invokevirtual 122, 3) := by decide +kernel
theorem d_M_runImmediateOrControl_109 : decode b_M_runImmediateOrControl 109 = .ok (.iconst 0, 1) := by decide +kernel
theorem d_M_runImmediateOrControl_110 : decode b_M_runImmediateOrControl 110 = .ok (.ireturn, 1) := by decide +kernel
theorem d_M_runImmediateOrControl_111 : decode b_M_runImmediateOrControl 111 = .ok (.aload_n 0, 1) := by decide +kernel
theorem d_M_runImmediateOrControl_112 : decode b_M_runImmediateOrControl 112 = .ok (.getfield 26, 3) := by decide +kernel
theorem d_M_runImmediateOrControl_115 : decode b_M_runImmediateOrControl 115 = .ok (.aload_n 0, 1) := by decide +kernel
theorem d_M_runImmediateOrControl_116 : decode b_M_runImmediateOrControl 116 = .ok (.invokevirtual 74, 3) := by decide +kernel
theorem d_M_runImmediateOrControl_119 : decode b_M_runImmediateOrControl 119 = .ok (.invokevirtual 38, 3) := by decide +kernel
theorem d_M_runImmediateOrControl_122 : decode b_M_runImmediateOrControl 122 = .ok (.iconst 0, 1) := by decide +kernel
theorem d_M_runImmediateOrControl_123 : decode b_M_runImmediateOrControl 123 = .ok (.ireturn, 1) := by decide +kernel
theorem d_M_runImmediateOrControl_124 : decode b_M_runImmediateOrControl 124 = .ok (.iconst 2, 1) := by decide +kernel
theorem d_M_runImmediateOrControl_125 : decode b_M_runImmediateOrControl 125 = .ok (.ireturn, 1) := by decide +kernel
theorem d_M_runImmediateOrControl_126 : decode b_M_runImmediateOrControl 126 = .ok (.aload_n 0, 1) := by decide +kernel
theorem d_M_runImmediateOrControl_127 : decode b_M_runImmediateOrControl 127 = .ok (.iconst 1, 1) := by decide +kernel
theorem d_M_runImmediateOrControl_128 : decode b_M_runImmediateOrControl 128 = .ok (.putfield 41, 3) := by decide +kernel
theorem d_M_runImmediateOrControl_131 : decode b_M_runImmediateOrControl 131 = .ok (.iconst 1, 1) := by decide +kernel
theorem d_M_runImmediateOrControl_132 : decode b_M_runImmediateOrControl 132 = .ok (.ireturn, 1) := by decide +kernel
theorem d_M_runImmediateOrControl_133 : decode b_M_runImmediateOrControl 133 = .ok (.aload_n 0, 1) := by decide +kernel
theorem d_M_runImmediateOrControl_134 : decode b_M_runImmediateOrControl 134 = .ok (.getfield 26, 3) := by decide +kernel
theorem d_M_runImmediateOrControl_137 : decode b_M_runImmediateOrControl 137 = .ok (.iconst 0, 1) := by decide +kernel
theorem d_M_runImmediateOrControl_138 : decode b_M_runImmediateOrControl 138 = .ok (.invokevirtual 38, 3) := by decide +kernel
theorem d_M_runImmediateOrControl_141 : decode b_M_runImmediateOrControl 141 = .ok (.iconst 0, 1) := by decide +kernel
theorem d_M_runImmediateOrControl_142 : decode b_M_runImmediateOrControl 142 = .ok (.ireturn, 1) := by decide +kernel
theorem d_M_runImmediateOrControl_143 : decode b_M_runImmediateOrControl 143 = .ok (.aload_n 0, 1) := by decide +kernel
theorem d_M_runImmediateOrControl_144 : decode b_M_runImmediateOrControl 144 = .ok (.invokevirtual 220, 3) := by decide +kernel
theorem d_M_runImmediateOrControl_147 : decode b_M_runImmediateOrControl 147 = .ok (.iconst 0, 1) := by decide +kernel
theorem d_M_runImmediateOrControl_148 : decode b_M_runImmediateOrControl 148 = .ok (.ireturn, 1) := by decide +kernel
theorem d_M_runImmediateOrControl_149 : decode b_M_runImmediateOrControl 149 = .ok (.iconst 0, 1) := by decide +kernel
theorem d_M_runImmediateOrControl_150 : decode b_M_runImmediateOrControl 150 = .ok (.ireturn, 1) := by decide +kernel
theorem d_M_run_0 : decode b_M_run 0 = .ok (.iload_n 1, 1) := by decide +kernel
theorem d_M_run_1 : decode b_M_run 1 = .ok (.sipush 16384, 3) := by decide +kernel
theorem d_M_run_4 : decode b_M_run 4 = .ok (.if_icmp .lt 9, 3) := by decide +kernel
theorem d_M_run_7 : decode b_M_run 7 = .ok (.aload_n 0, 1) := by decide +kernel
theorem d_M_run_8 : decode b_M_run 8 = .ok (.iload_n 1, 1) := by decide +kernel
theorem d_M_run_9 : decode b_M_run 9 = .ok (.invokevirtual 125, 3) := by decide +kernel
theorem d_M_run_12 : decode b_M_run 12 = .ok (.ireturn, 1) := by decide +kernel
theorem d_M_run_13 : decode b_M_run 13 = .ok (.iload_n 1, 1) := by decide +kernel
theorem d_M_run_14 : decode b_M_run 14 = .ok (.sipush 8192, 3) := by decide +kernel
theorem d_M_run_17 : decode b_M_run 17 = .ok (.if_icmp .lt 9, 3) := by decide +kernel
theorem d_M_run_20 : decode b_M_run 20 = .ok (.aload_n 0, 1) := by decide +kernel
theorem d_M_run_21 : decode b_M_run 21 = .ok (.iload_n 1, 1) := by decide +kernel
theorem d_M_run_22 : decode b_M_run 22 = .ok (.invokevirtual 128, 3) := by decide +kernel
theorem d_M_run_25 : decode b_M_run 25 = .ok (.ireturn, 1) := by decide +kernel
theorem d_M_run_26 : decode b_M_run 26 = .ok (.iload_n 1, 1) := by decide +kernel
theorem d_M_run_27 : decode b_M_run 27 = .ok (.sipush 4096, 3) := by decide +kernel
theorem d_M_run_30 : decode b_M_run 30 = .ok (.if_icmp .lt 24, 3) := by decide +kernel
theorem d_M_run_33 : decode b_M_run 33 = .ok (.iload_n 1, 1) := by decide +kernel
theorem d_M_run_34 : decode b_M_run 34 = .ok (.sipush 7424, 3) := by decide +kernel
theorem d_M_run_37 : decode b_M_run 37 = .ok (.if_icmp .ge 11, 3) := by decide +kernel
theorem d_M_run_40 : decode b_M_run 40 = .ok (.aload_n 0, 1) := by decide +kernel
theorem d_M_run_41 : decode b_M_run 41 = .ok (.iload_n 1, 1) := by decide +kernel
theorem d_M_run_42 : decode b_M_run 42 = .ok (.invokevirtual 131, 3) := by decide +kernel
theorem d_M_run_45 : decode b_M_run 45 = .ok (.goto 8, 3) := by decide +kernel
theorem d_M_run_48 : decode b_M_run 48 = .ok (.aload_n 0, 1) := by decide +kernel
theorem d_M_run_49 : decode b_M_run 49 = .ok (.iload_n 1, 1) := by decide +kernel
theorem d_M_run_50 : decode b_M_run 50 = .ok (.invokevirtual 134, 3) := by decide +kernel
theorem d_M_run_53 : decode b_M_run 53 = .ok (.ireturn, 1) := by decide +kernel
theorem d_M_run_54 : decode b_M_run 54 = .ok (.iload_n 1, 1) := by decide +kernel
theorem d_M_run_55 : decode b_M_run 55 = .ok (.sipush 2048, 3) := by decide +kernel
theorem d_M_run_58 : decode b_M_run 58 = .ok (.if_icmp .lt 20, 3) := by decide +kernel
theorem d_M_run_61 : decode b_M_run 61 = .ok (.iload_n 1, 1) := by decide +kernel
theorem d_M_run_62 : decode b_M_run 62 = .ok (.sipush 3072, 3) := by decide +kernel
theorem d_M_run_65 : decode b_M_run 65 = .ok (.if_icmp .ge 11, 3) := by decide +kernel
theorem d_M_run_68 : decode b_M_run 68 = .ok (.aload_n 0, 1) := by decide +kernel
theorem d_M_run_69 : decode b_M_run 69 = .ok (.iload_n 1, 1) := by decide +kernel
theorem d_M_run_70 : decode b_M_run 70 = .ok (.invokevirtual 137, 3) := by decide +kernel
theorem d_M_run_73 : decode b_M_run 73 = .ok (.goto 4, 3) := by decide +kernel
theorem d_M_run_76 : decode b_M_run 76 = .ok (.iconst 2, 1) := by decide +kernel
theorem d_M_run_77 : decode b_M_run 77 = .ok (.ireturn, 1) := by decide +kernel
theorem d_M_run_78 : decode b_M_run 78 = .ok (.iload_n 1, 1) := by decide +kernel
theorem d_M_run_79 : decode b_M_run 79 = .ok (.invokestatic 80, 3) := by decide +kernel
theorem d_M_run_82 : decode b_M_run 82 = .ok (.ifCond .eq 5, 3) := by decide +kernel
theorem d_M_run_85 : decode b_M_run 85 = .ok (.iconst 3, 1) := by decide +kernel
theorem d_M_run_86 : decode b_M_run 86 = .ok (.ireturn, 1) := by decide +kernel
theorem d_M_run_87 : decode b_M_run 87 = .ok (.iload_n 1, 1) := by decide +kernel
theorem d_M_run_88 : decode b_M_run 88 = .ok (.sipush 1024, 3) := by decide +kernel
theorem d_M_run_91 : decode b_M_run 91 = .ok (.if_icmp .lt 20, 3) := by decide +kernel
theorem d_M_run_94 : decode b_M_run 94 = .ok (.iload_n 1, 1) := by decide +kernel
theorem d_M_run_95 : decode b_M_run 95 = .ok (.sipush 1920, 3) := by decide +kernel
theorem d_M_run_98 : decode b_M_run 98 = .ok (.if_icmp .ge 11, 3) := by decide +kernel
theorem d_M_run_101 : decode b_M_run 101 = .ok (.aload_n 0, 1) := by decide +kernel
theorem d_M_run_102 : decode b_M_run 102 = .ok (.iload_n 1, 1) := by decide +kernel
theorem d_M_run_103 : decode b_M_run 103 = .ok (.invokevirtual 140, 3) := by decide +kernel
theorem d_M_run_106 : decode b_M_run 106 = .ok (.goto 4, 3) := by decide +kernel
theorem d_M_run_109 : decode b_M_run 109 = .ok (.iconst 2, 1) := by decide +kernel
theorem d_M_run_110 : decode b_M_run 110 = .ok (.ireturn, 1) := by decide +kernel
theorem d_M_run_111 : decode b_M_run 111 = .ok (.iload_n 1, 1) := by decide +kernel
theorem d_M_run_112 : decode b_M_run 112 = .ok (.sipush 512, 3) := by decide +kernel
theorem d_M_run_115 : decode b_M_run 115 = .ok (.if_icmp .lt 18, 3) := by decide +kernel
theorem d_M_run_118 : decode b_M_run 118 = .ok (.iload_n 1, 1) := by decide +kernel
theorem d_M_run_119 : decode b_M_run 119 = .ok (.bipush 16, 2) := by decide +kernel
theorem d_M_run_121 : decode b_M_run 121 = .ok (.iand, 1) := by decide +kernel
theorem d_M_run_122 : decode b_M_run 122 = .ok (.ifCond .ne 11, 3) := by decide +kernel
theorem d_M_run_125 : decode b_M_run 125 = .ok (.aload_n 0, 1) := by decide +kernel
theorem d_M_run_126 : decode b_M_run 126 = .ok (.iload_n 1, 1) := by decide +kernel
theorem d_M_run_127 : decode b_M_run 127 = .ok (.invokevirtual 143, 3) := by decide +kernel
theorem d_M_run_130 : decode b_M_run 130 = .ok (.goto 4, 3) := by decide +kernel
theorem d_M_run_133 : decode b_M_run 133 = .ok (.iconst 2, 1) := by decide +kernel
theorem d_M_run_134 : decode b_M_run 134 = .ok (.ireturn, 1) := by decide +kernel
theorem d_M_step_0 : decode b_M_step 0 = .ok (.aload_n 0, 1) := by decide +kernel
theorem d_M_step_1 : decode b_M_step 1 = .ok (.getfield 30, 3) := by decide +kernel
theorem d_M_step_4 : decode b_M_step 4 = .ok (.aload_n 0, 1) := by decide +kernel
theorem d_M_step_5 : decode b_M_step 5 = .ok (.getfield 26, 3) := by decide +kernel
theorem d_M_step_8 : decode b_M_step 8 = .ok (.invokevirtual 64, 3) := by decide +kernel
theorem d_M_step_11 : decode b_M_step 11 = .ok (.if_icmp .gt 9, 3) := by decide +kernel
theorem d_M_step_14 : decode b_M_step 14 = .ok (.aload_n 0, 1) := by decide +kernel
theorem d_M_step_15 : decode b_M_step 15 = .ok (.invokevirtual 68, 3) := by decide +kernel
theorem d_M_step_18 : decode b_M_step 18 = .ok (.iconst 0, 1) := by decide +kernel
theorem d_M_step_19 : decode b_M_step 19 = .ok (.ireturn, 1) := by decide +kernel
theorem d_M_step_20 : decode b_M_step 20 = .ok (.aload_n 0, 1) := by decide +kernel
theorem d_M_step_21 : decode b_M_step 21 = .ok (.getfield 41, 3) := by decide +kernel
theorem d_M_step_24 : decode b_M_step 24 = .ok (.ifCond .eq 5, 3) := by decide +kernel
theorem d_M_step_27 : decode b_M_step 27 = .ok (.iconst 1, 1) := by decide +kernel
theorem d_M_step_28 : decode b_M_step 28 = .ok (.ireturn, 1) := by decide +kernel
theorem d_M_step_29 : decode b_M_step 29 = .ok (.aload_n 0, 1) := by decide +kernel
theorem d_M_step_30 : decode b_M_step 30 = .ok (.getfield 71, 3) := by decide +kernel
theorem d_M_step_33 : decode b_M_step 33 = .ok (.istore_n 1, 1) := by decide +kernel
theorem d_M_step_34 : decode b_M_step 34 = .ok (.aload_n 0, 1) := by decide +kernel
theorem d_M_step_35 : decode b_M_step 35 = .ok (.invokevirtual 74, 3) := by decide +kernel
theorem d_M_step_38 : decode b_M_step 38 = .ok (.istore_n 2, 1) := by decide +kernel
theorem d_M_step_39 : decode b_M_step 39 = .ok (.iload_n 2, 1) := by decide +kernel
theorem d_M_step_40 : decode b_M_step 40 = .ok (.bipush 15, 2) := by decide +kernel
theorem d_M_step_42 : decode b_M_step 42 = .ok (.iand, 1) := by decide +kernel
theorem d_M_step_43 : decode b_M_step 43 = .ok (.istore_n 3, 1) := by decide +kernel
theorem d_M_step_44 : decode b_M_step 44 = .ok (.aload_n 0, 1) := by decide +kernel
theorem d_M_step_45 : decode b_M_step 45 = .ok (.iload_n 3, 1) := by decide +kernel
theorem d_M_step_46 : decode b_M_step 46 = .ok (.invokevirtual 77, 3) := by decide +kernel
theorem d_M_step_49 : decode b_M_step 49 = .ok (.istore 4, 2) := by decide +kernel
theorem d_M_step_51 : decode b_M_step 51 = .ok (.aload_n 0, 1) := by decide +kernel
theorem d_M_step_52 : decode b_M_step 52 = .ok (.iload_n 2, 1) := by decide +kernel
theorem d_M_step_53 : decode b_M_step 53 = .ok (.invokestatic 80, 3) := by decide +kernel
theorem d_M_step_56 : decode b_M_step 56 = .ok (.ifCond .eq 19, 3) := by decide +kernel
theorem d_M_step_59 : decode b_M_step 59 = .ok (.aload_n 0, 1) := by decide +kernel
theorem d_M_step_60 : decode b_M_step 60 = .ok (.getfield 12, 3) := by decide +kernel
theorem d_M_step_63 : decode b_M_step 63 = .ok (.aload_n 0, 1) := by decide +kernel
theorem d_M_step_64 : decode b_M_step 64 = .ok (.iload_n 2, 1) := by decide +kernel
theorem d_M_step_65 : decode b_M_step 65 = .ok (.iconst 2, 1) := by decide +kernel
theorem d_M_step_66 : decode b_M_step 66 = .ok (.invokevirtual 83, 3) := by decide +kernel
theorem d_M_step_69 : decode b_M_step 69 = .ok (.invokevirtual 60, 3) := by decide +kernel
theorem d_M_step_72 : decode b_M_step 72 = .ok (.goto 4, 3) := by decide +kernel
theorem d_M_step_75 : decode b_M_step 75 = .ok (.iload_n 2, 1) := by decide +kernel
theorem d_M_step_76 : decode b_M_step 76 = .ok (.invokevirtual 87, 3) := by decide +kernel
theorem d_M_step_79 : decode b_M_step 79 = .ok (.istore 5, 2) := by decide +kernel
theorem d_M_step_81 : decode b_M_step 81 = .ok (.iload 5, 2) := by decide +kernel
theorem d_M_step_83 : decode b_M_step 83 = .ok (.iconst 2, 1) := by decide +kernel
theorem d_M_step_84 : decode b_M_step 84 = .ok (.if_icmp .eq 9, 3) := by decide +kernel
theorem d_M_step_87 : decode b_M_step 87 = .ok (.iload 5, 2) := by decide +kernel
theorem d_M_step_89 : decode b_M_step 89 = .ok (.iconst 3, 1) := by decide +kernel
theorem d_M_step_90 : decode b_M_step 90 = .ok (.if_icmp .ne 15, 3) := by decide +kernel
theorem d_M_step_93 : decode b_M_step 93 = .ok (.aload_n 0, 1) := by decide +kernel
theorem d_M_step_94 : decode b_M_step 94 = .ok (.iload_n 1, 1) := by decide +kernel
theorem d_M_step_95 : decode b_M_step 95 = .ok (.putfield 71, 3) := by decide +kernel
theorem d_M_step_98 : decode b_M_step 98 = .ok (.aload_n 0, 1) := by decide +kernel
theorem d_M_step_99 : decode b_M_step 99 = .ok (.iload_n 3, 1) := by decide +kernel
theorem d_M_step_100 : decode b_M_step 100 = .ok (.iload 4, 2) := by decide +kernel
theorem d_M_step_102 : decode b_M_step 102 = .ok (.invokevirtual 90, 3) := by decide +kernel
theorem d_M_step_105 : decode b_M_step 105 = .ok (.iload 5, 2) := by decide +kernel
theorem d_M_step_107 : decode b_M_step 107 = .ok (.ireturn, 1) := by decide +kernel
theorem d_M_level_0 : decode b_M_level 0 = .ok (.iload_n 1, 1) := by decide +kernel
theorem d_M_level_1 : decode b_M_level 1 = .ok (.ifCond .lt 9, 3) := by decide +kernel
theorem d_M_level_4 : decode b_M_level 4 = .ok (.iload_n 1, 1) := by decide +kernel
theorem d_M_level_5 : decode b_M_level 5 = .ok (.bipush 16, 2) := by decide +kernel
theorem d_M_level_7 : decode b_M_level 7 = .ok (.if_icmp .le 13, 3) := by decide +kernel
theorem d_M_level_10 : decode b_M_level 10 = .ok (.new 49, 3) := by decide +kernel
theorem d_M_level_13 : decode b_M_level 13 = .ok (.dup, 1) := by decide +kernel
theorem d_M_level_14 : decode b_M_level 14 = .ok (.ldc 93, 2) := by decide +kernel
theorem d_M_level_16 : decode b_M_level 16 = .ok (.invokespecial 53, 3) := by decide +kernel
theorem d_M_level_19 : decode b_M_level 19 = .ok (.athrow, 1) := by decide +kernel
theorem d_M_level_20 : decode b_M_level 20 = .ok (.aload_n 0, 1) := by decide +kernel
theorem d_M_level_21 : decode b_M_level 21 = .ok (.iload_n 1, 1) := by decide +kernel
theorem d_M_level_22 : decode b_M_level 22 = .ok (.putfield 30, 3) := by decide +kernel
theorem d_M_level_25 : decode b_M_level 25 = .ok (.return_, 1) := by decide +kernel
theorem d_M_isLine_0 : decode b_M_isLine 0 = .ok (.iload_n 0, 1) := by decide +kernel
theorem d_M_isLine_1 : decode b_M_isLine 1 = .ok (.ifCond .lt 13, 3) := by decide +kernel
theorem d_M_isLine_4 : decode b_M_isLine 4 = .ok (.iload_n 0, 1) := by decide +kernel
theorem d_M_isLine_5 : decode b_M_isLine 5 = .ok (.bipush 64, 2) := by decide +kernel
theorem d_M_isLine_7 : decode b_M_isLine 7 = .ok (.if_icmp .ge 7, 3) := by decide +kernel
theorem d_M_isLine_10 : decode b_M_isLine 10 = .ok (.iconst 1, 1) := by decide +kernel
theorem d_M_isLine_11 : decode b_M_isLine 11 = .ok (.goto 4, 3) := by decide +kernel
theorem d_M_isLine_14 : decode b_M_isLine 14 = .ok (.iconst 0, 1) := by decide +kernel
theorem d_M_isLine_15 : decode b_M_isLine 15 = .ok (.ireturn, 1) := by decide +kernel
theorem d_M_wire_0 : decode b_M_wire 0 = .ok (.iload_n 1, 1) := by decide +kernel
theorem d_M_wire_1 : decode b_M_wire 1 = .ok (.invokestatic 95, 3) := by decide +kernel
theorem d_M_wire_4 : decode b_M_wire 4 = .ok (.ifCond .ne 13, 3) := by decide +kernel
theorem d_M_wire_7 : decode b_M_wire 7 = .ok (.new 49, 3) := by decide +kernel
theorem d_M_wire_10 : decode b_M_wire 10 = .ok (.dup, 1) := by decide +kernel
theorem d_M_wire_11 : decode b_M_wire 11 = .ok (.ldc 98, 2) := by decide +kernel
theorem d_M_wire_13 : decode b_M_wire 13 = .ok (.invokespecial 53, 3) := by decide +kernel
theorem d_M_wire_16 : decode b_M_wire 16 = .ok (.athrow, 1) := by decide +kernel
theorem d_M_wire_17 : decode b_M_wire 17 = .ok (.aload_n 0, 1) := by decide +kernel
theorem d_M_wire_18 : decode b_M_wire 18 = .ok (.getfield 19, 3) := by decide +kernel
theorem d_M_wire_21 : decode b_M_wire 21 = .ok (.iload_n 1, 1) := by decide +kernel
theorem d_M_wire_22 : decode b_M_wire 22 = .ok (.iload_n 2, 1) := by decide +kernel
theorem d_M_wire_23 : decode b_M_wire 23 = .ok (.invokevirtual 100, 3) := by decide +kernel
theorem d_M_wire_26 : decode b_M_wire 26 = .ok (.return_, 1) := by decide +kernel
theorem d_M_line_0 : decode b_M_line 0 = .ok (.iload_n 1, 1) := by decide +kernel
theorem d_M_line_1 : decode b_M_line 1 = .ok (.invokestatic 95, 3) := by decide +kernel
theorem d_M_line_4 : decode b_M_line 4 = .ok (.ifCond .ne 13, 3) := by decide +kernel
theorem d_M_line_7 : decode b_M_line 7 = .ok (.new 49, 3) := by decide +kernel
theorem d_M_line_10 : decode b_M_line 10 = .ok (.dup, 1) := by decide +kernel
theorem d_M_line_11 : decode b_M_line 11 = .ok (.ldc 98, 2) := by decide +kernel
theorem d_M_line_13 : decode b_M_line 13 = .ok (.invokespecial 53, 3) := by decide +kernel
theorem d_M_line_16 : decode b_M_line 16 = .ok (.athrow, 1) := by decide +kernel
theorem d_M_line_17 : decode b_M_line 17 = .ok (.aload_n 0, 1) := by decide +kernel
theorem d_M_line_18 : decode b_M_line 18 = .ok (.getfield 19, 3) := by decide +kernel
theorem d_M_line_21 : decode b_M_line 21 = .ok (.iload_n 1, 1) := by decide +kernel
theorem d_M_line_22 : decode b_M_line 22 = .ok (.invokevirtual 104, 3) := by decide +kernel
theorem d_M_line_25 : decode b_M_line 25 = .ok (.ireturn, 1) := by decide +kernel
theorem d_M_state_0 : decode b_M_state 0 = .ok (.iload_n 1, 1) := by decide +kernel
theorem d_M_state_1 : decode b_M_state 1 = .ok (.tableswitch 71 0 4 #[35, 40, 45, 53, 58], 35) := by decide +kernel
theorem d_M_state_36 : decode b_M_state 36 = .ok (.aload_n 0, 1) := by decide +kernel
theorem d_M_state_37 : decode b_M_state 37 = .ok (.getfield 107, 3) := by decide +kernel
theorem d_M_state_40 : decode b_M_state 40 = .ok (.ireturn, 1) := by decide +kernel
theorem d_M_state_41 : decode b_M_state 41 = .ok (.aload_n 0, 1) := by decide +kernel
theorem d_M_state_42 : decode b_M_state 42 = .ok (.getfield 71, 3) := by decide +kernel
theorem d_M_state_45 : decode b_M_state 45 = .ok (.ireturn, 1) := by decide +kernel
theorem d_M_state_46 : decode b_M_state 46 = .ok (.aload_n 0, 1) := by decide +kernel
theorem d_M_state_47 : decode b_M_state 47 = .ok (.getfield 26, 3) := by decide +kernel
theorem d_M_state_50 : decode b_M_state 50 = .ok (.invokevirtual 110, 3) := by decide +kernel
theorem d_M_state_53 : decode b_M_state 53 = .ok (.ireturn, 1) := by decide +kernel
theorem d_M_state_54 : decode b_M_state 54 = .ok (.aload_n 0, 1) := by decide +kernel
theorem d_M_state_55 : decode b_M_state 55 = .ok (.getfield 30, 3) := by decide +kernel
theorem d_M_state_58 : decode b_M_state 58 = .ok (.ireturn, 1) := by decide +kernel
theorem d_M_state_59 : decode b_M_state 59 = .ok (.aload_n 0, 1) := by decide +kernel
theorem d_M_state_60 : decode b_M_state 60 = .ok (.getfield 41, 3) := by decide +kernel
theorem d_M_state_63 : decode b_M_state 63 = .ok (.ifCond .eq 7, 3) := by decide +kernel
theorem d_M_state_66 : decode b_M_state 66 = .ok (.iconst 1, 1) := by decide +kernel
theorem d_M_state_67 : decode b_M_state 67 = .ok (.goto 4, 3) := by decide +kernel
theorem d_M_state_70 : decode b_M_state 70 = .ok (.iconst 0, 1) := by decide +kernel
theorem d_M_state_71 : decode b_M_state 71 = .ok (.ireturn, 1) := by decide +kernel
theorem d_M_state_72 : decode b_M_state 72 = .ok (.new 49, 3) := by decide +kernel
theorem d_M_state_75 : decode b_M_state 75 = .ok (.dup, 1) := by decide +kernel
theorem d_M_state_76 : decode b_M_state 76 = .ok (.ldc 113, 2) := by decide +kernel
theorem d_M_state_78 : decode b_M_state 78 = .ok (.invokespecial 53, 3) := by decide +kernel
theorem d_M_state_81 : decode b_M_state 81 = .ok (.athrow, 1) := by decide +kernel
