/-! decode rows, laid by gen.py -/
theorem d_Mo_lineOperand_58 : decode b_Mo_lineOperand 58 = .ok (.iconst 0, 1) := by decide +kernel
theorem d_Mo_lineOperand_59 : decode b_Mo_lineOperand 59 = .ok (.istore 6, 2) := by decide +kernel
theorem d_Mo_lineOperand_61 : decode b_Mo_lineOperand 61 = .ok (.iload_n 2, 1) := by decide +kernel
theorem d_Mo_lineOperand_62 : decode b_Mo_lineOperand 62 = .ok (.ifCond .eq 14, 3) := by decide +kernel
theorem d_Mo_lineOperand_65 : decode b_Mo_lineOperand 65 = .ok (.aload_n 0, 1) := by decide +kernel
theorem d_Mo_lineOperand_66 : decode b_Mo_lineOperand 66 = .ok (.iload 5, 2) := by decide +kernel
theorem d_Mo_lineOperand_68 : decode b_Mo_lineOperand 68 = .ok (.iload 4, 2) := by decide +kernel
theorem d_Mo_lineOperand_70 : decode b_Mo_lineOperand 70 = .ok (.invokevirtual 75, 3) := by decide +kernel
theorem d_Mo_lineOperand_73 : decode b_Mo_lineOperand 73 = .ok (.goto 4, 3) := by decide +kernel
theorem d_Mo_lineOperand_76 : decode b_Mo_lineOperand 76 = .ok (.iconst 0, 1) := by decide +kernel
theorem d_Mo_lineOperand_77 : decode b_Mo_lineOperand 77 = .ok (.istore 7, 2) := by decide +kernel
theorem d_Mo_lineOperand_79 : decode b_Mo_lineOperand 79 = .ok (.iconst 0, 1) := by decide +kernel
theorem d_Mo_lineOperand_80 : decode b_Mo_lineOperand 80 = .ok (.istore 8, 2) := by decide +kernel
theorem d_Mo_lineOperand_82 : decode b_Mo_lineOperand 82 = .ok (.iload 8, 2) := by decide +kernel
theorem d_Mo_lineOperand_84 : decode b_Mo_lineOperand 84 = .ok (.iload_n 3, 1) := by decide +kernel
theorem d_Mo_lineOperand_85 : decode b_Mo_lineOperand 85 = .ok (.if_icmp .ge 81, 3) := by decide +kernel
theorem d_Mo_lineOperand_88 : decode b_Mo_lineOperand 88 = .ok (.aload_n 0, 1) := by decide +kernel
theorem d_Mo_lineOperand_89 : decode b_Mo_lineOperand 89 = .ok (.invokevirtual 93, 3) := by decide +kernel
theorem d_Mo_lineOperand_92 : decode b_Mo_lineOperand 92 = .ok (.iload 8, 2) := by decide +kernel
theorem d_Mo_lineOperand_94 : decode b_Mo_lineOperand 94 = .ok (.iadd, 1) := by decide +kernel
theorem d_Mo_lineOperand_95 : decode b_Mo_lineOperand 95 = .ok (.bipush 63, 2) := by decide +kernel
theorem d_Mo_lineOperand_97 : decode b_Mo_lineOperand 97 = .ok (.iand, 1) := by decide +kernel
theorem d_Mo_lineOperand_98 : decode b_Mo_lineOperand 98 = .ok (.istore 9, 2) := by decide +kernel
theorem d_Mo_lineOperand_100 : decode b_Mo_lineOperand 100 = .ok (.iload_n 2, 1) := by decide +kernel
theorem d_Mo_lineOperand_101 : decode b_Mo_lineOperand 101 = .ok (.ifCond .eq 32, 3) := by decide +kernel
theorem d_Mo_lineOperand_104 : decode b_Mo_lineOperand 104 = .ok (.aload_n 0, 1) := by decide +kernel
theorem d_Mo_lineOperand_105 : decode b_Mo_lineOperand 105 = .ok (.getfield 13, 3) := by decide +kernel
theorem d_Mo_lineOperand_108 : decode b_Mo_lineOperand 108 = .ok (.iload 9, 2) := by decide +kernel
theorem d_Mo_lineOperand_110 : decode b_Mo_lineOperand 110 = .ok (.iload 7, 2) := by decide +kernel
theorem d_Mo_lineOperand_112 : decode b_Mo_lineOperand 112 = .ok (.iload 8, 2) := by decide +kernel
theorem d_Mo_lineOperand_114 : decode b_Mo_lineOperand 114 = .ok (.iload 6, 2) := by decide +kernel
theorem d_Mo_lineOperand_116 : decode b_Mo_lineOperand 116 = .ok (.iadd, 1) := by decide +kernel
theorem d_Mo_lineOperand_117 : decode b_Mo_lineOperand 117 = .ok (.ishr, 1) := by decide +kernel
theorem d_Mo_lineOperand_118 : decode b_Mo_lineOperand 118 = .ok (.iconst 1, 1) := by decide +kernel
theorem d_Mo_lineOperand_119 : decode b_Mo_lineOperand 119 = .ok (.iand, 1) := by decide +kernel
theorem d_Mo_lineOperand_120 : decode b_Mo_lineOperand 120 = .ok (.iconst 1, 1) := by decide +kernel
theorem d_Mo_lineOperand_121 : decode b_Mo_lineOperand 121 = .ok (.if_icmp .ne 7, 3) := by decide +kernel
theorem d_Mo_lineOperand_124 : decode b_Mo_lineOperand 124 = .ok (.iconst 1, 1) := by decide +kernel
theorem d_Mo_lineOperand_125 : decode b_Mo_lineOperand 125 = .ok (.goto 4, 3) := by decide +kernel
theorem d_Mo_lineOperand_128 : decode b_Mo_lineOperand 128 = .ok (.iconst 0, 1) := by decide +kernel
theorem d_Mo_lineOperand_129 : decode b_Mo_lineOperand 129 = .ok (.bastore, 1) := by decide +kernel
theorem d_Mo_lineOperand_130 : decode b_Mo_lineOperand 130 = .ok (.goto 30, 3) := by decide +kernel
theorem d_Mo_lineOperand_133 : decode b_Mo_lineOperand 133 = .ok (.aload_n 0, 1) := by decide +kernel
theorem d_Mo_lineOperand_134 : decode b_Mo_lineOperand 134 = .ok (.getfield 13, 3) := by decide +kernel
theorem d_Mo_lineOperand_137 : decode b_Mo_lineOperand 137 = .ok (.iload 9, 2) := by decide +kernel
theorem d_Mo_lineOperand_139 : decode b_Mo_lineOperand 139 = .ok (.baload, 1) := by decide +kernel
theorem d_Mo_lineOperand_140 : decode b_Mo_lineOperand 140 = .ok (.ifCond .eq 16, 3) := by decide +kernel
theorem d_Mo_lineOperand_143 : decode b_Mo_lineOperand 143 = .ok (.iload 7, 2) := by decide +kernel
theorem d_Mo_lineOperand_145 : decode b_Mo_lineOperand 145 = .ok (.iconst 1, 1) := by decide +kernel
theorem d_Mo_lineOperand_146 : decode b_Mo_lineOperand 146 = .ok (.iload 8, 2) := by decide +kernel
theorem d_Mo_lineOperand_148 : decode b_Mo_lineOperand 148 = .ok (.iload 6, 2) := by decide +kernel
theorem d_Mo_lineOperand_150 : decode b_Mo_lineOperand 150 = .ok (.iadd, 1) := by decide +kernel
theorem d_Mo_lineOperand_151 : decode b_Mo_lineOperand 151 = .ok (.ishl, 1) := by decide +kernel
theorem d_Mo_lineOperand_152 : decode b_Mo_lineOperand 152 = .ok (.ior, 1) := by decide +kernel
theorem d_Mo_lineOperand_153 : decode b_Mo_lineOperand 153 = .ok (.goto 5, 3) := by decide +kernel
theorem d_Mo_lineOperand_156 : decode b_Mo_lineOperand 156 = .ok (.iload 7, 2) := by decide +kernel
theorem d_Mo_lineOperand_158 : decode b_Mo_lineOperand 158 = .ok (.istore 7, 2) := by decide +kernel
theorem d_Mo_lineOperand_160 : decode b_Mo_lineOperand 160 = .ok (.iinc 8 1, 3) := by decide +kernel
theorem d_Mo_lineOperand_163 : decode b_Mo_lineOperand 163 = .ok (.goto (-81), 3) := by decide +kernel
theorem d_Mo_lineOperand_166 : decode b_Mo_lineOperand 166 = .ok (.aload_n 0, 1) := by decide +kernel
theorem d_Mo_lineOperand_167 : decode b_Mo_lineOperand 167 = .ok (.iload 7, 2) := by decide +kernel
theorem d_Mo_lineOperand_169 : decode b_Mo_lineOperand 169 = .ok (.invokevirtual 82, 3) := by decide +kernel
theorem d_Mo_lineOperand_172 : decode b_Mo_lineOperand 172 = .ok (.iload 4, 2) := by decide +kernel
theorem d_Mo_lineOperand_174 : decode b_Mo_lineOperand 174 = .ok (.ifCond .eq 9, 3) := by decide +kernel
theorem d_Mo_lineOperand_177 : decode b_Mo_lineOperand 177 = .ok (.aload_n 0, 1) := by decide +kernel
theorem d_Mo_lineOperand_178 : decode b_Mo_lineOperand 178 = .ok (.iload 7, 2) := by decide +kernel
theorem d_Mo_lineOperand_180 : decode b_Mo_lineOperand 180 = .ok (.invokevirtual 90, 3) := by decide +kernel
theorem d_Mo_lineOperand_183 : decode b_Mo_lineOperand 183 = .ok (.iload_n 2, 1) := by decide +kernel
theorem d_Mo_lineOperand_184 : decode b_Mo_lineOperand 184 = .ok (.ifCond .ne 13, 3) := by decide +kernel
theorem d_Mo_lineOperand_187 : decode b_Mo_lineOperand 187 = .ok (.aload_n 0, 1) := by decide +kernel
theorem d_Mo_lineOperand_188 : decode b_Mo_lineOperand 188 = .ok (.iload 5, 2) := by decide +kernel
theorem d_Mo_lineOperand_190 : decode b_Mo_lineOperand 190 = .ok (.iload 7, 2) := by decide +kernel
theorem d_Mo_lineOperand_192 : decode b_Mo_lineOperand 192 = .ok (.iload 4, 2) := by decide +kernel
theorem d_Mo_lineOperand_194 : decode b_Mo_lineOperand 194 = .ok (.invokevirtual 86, 3) := by decide +kernel
theorem d_Mo_lineOperand_197 : decode b_Mo_lineOperand 197 = .ok (.return_, 1) := by decide +kernel
theorem d_Mo_withRegister_0 : decode b_Mo_withRegister 0 = .ok (.iload_n 1, 1) := by decide +kernel
theorem d_Mo_withRegister_1 : decode b_Mo_withRegister 1 = .ok (.bipush 10, 2) := by decide +kernel
theorem d_Mo_withRegister_3 : decode b_Mo_withRegister 3 = .ok (.ishr, 1) := by decide +kernel
theorem d_Mo_withRegister_4 : decode b_Mo_withRegister 4 = .ok (.istore_n 2, 1) := by decide +kernel
theorem d_Mo_withRegister_5 : decode b_Mo_withRegister 5 = .ok (.iload_n 1, 1) := by decide +kernel
theorem d_Mo_withRegister_6 : decode b_Mo_withRegister 6 = .ok (.bipush 6, 2) := by decide +kernel
theorem d_Mo_withRegister_8 : decode b_Mo_withRegister 8 = .ok (.ishr, 1) := by decide +kernel
theorem d_Mo_withRegister_9 : decode b_Mo_withRegister 9 = .ok (.bipush 15, 2) := by decide +kernel
theorem d_Mo_withRegister_11 : decode b_Mo_withRegister 11 = .ok (.iand, 1) := by decide +kernel
theorem d_Mo_withRegister_12 : decode b_Mo_withRegister 12 = .ok (.istore_n 3, 1) := by decide +kernel
theorem d_Mo_withRegister_13 : decode b_Mo_withRegister 13 = .ok (.iload_n 2, 1) := by decide +kernel
theorem d_Mo_withRegister_14 : decode b_Mo_withRegister 14 = .ok (.bipush 12, 2) := by decide +kernel
theorem d_Mo_withRegister_16 : decode b_Mo_withRegister 16 = .ok (.if_icmp .eq 9, 3) := by decide +kernel
theorem d_Mo_withRegister_19 : decode b_Mo_withRegister 19 = .ok (.iload_n 2, 1) := by decide +kernel
theorem d_Mo_withRegister_20 : decode b_Mo_withRegister 20 = .ok (.bipush 13, 2) := by decide +kernel
theorem d_Mo_withRegister_22 : decode b_Mo_withRegister 22 = .ok (.if_icmp .ne 20, 3) := by decide +kernel
theorem d_Mo_withRegister_25 : decode b_Mo_withRegister 25 = .ok (.aload_n 0, 1) := by decide +kernel
theorem d_Mo_withRegister_26 : decode b_Mo_withRegister 26 = .ok (.iload_n 1, 1) := by decide +kernel
theorem d_Mo_withRegister_27 : decode b_Mo_withRegister 27 = .ok (.iload_n 2, 1) := by decide +kernel
theorem d_Mo_withRegister_28 : decode b_Mo_withRegister 28 = .ok (.bipush 12, 2) := by decide +kernel
theorem d_Mo_withRegister_30 : decode b_Mo_withRegister 30 = .ok (.if_icmp .ne 7, 3) := by decide +kernel
theorem d_Mo_withRegister_33 : decode b_Mo_withRegister 33 = .ok (.iconst 1, 1) := by decide +kernel
theorem d_Mo_withRegister_34 : decode b_Mo_withRegister 34 = .ok (.goto 4, 3) := by decide +kernel
theorem d_Mo_withRegister_37 : decode b_Mo_withRegister 37 = .ok (.iconst 0, 1) := by decide +kernel
theorem d_Mo_withRegister_38 : decode b_Mo_withRegister 38 = .ok (.invokevirtual 96, 3) := by decide +kernel
theorem d_Mo_withRegister_41 : decode b_Mo_withRegister 41 = .ok (.return_, 1) := by decide +kernel
theorem d_Mo_withRegister_42 : decode b_Mo_withRegister 42 = .ok (.aload_n 0, 1) := by decide +kernel
theorem d_Mo_withRegister_43 : decode b_Mo_withRegister 43 = .ok (.iload_n 1, 1) := by decide +kernel
theorem d_Mo_withRegister_44 : decode b_Mo_withRegister 44 = .ok (.bipush 63, 2) := by decide +kernel
theorem d_Mo_withRegister_46 : decode b_Mo_withRegister 46 = .ok (.iand, 1) := by decide +kernel
theorem d_Mo_withRegister_47 : decode b_Mo_withRegister 47 = .ok (.iconst 0, 1) := by decide +kernel
theorem d_Mo_withRegister_48 : decode b_Mo_withRegister 48 = .ok (.invokevirtual 71, 3) := by decide +kernel
theorem d_Mo_withRegister_51 : decode b_Mo_withRegister 51 = .ok (.istore 4, 2) := by decide +kernel
theorem d_Mo_withRegister_53 : decode b_Mo_withRegister 53 = .ok (.aload_n 0, 1) := by decide +kernel
theorem d_Mo_withRegister_54 : decode b_Mo_withRegister 54 = .ok (.iload 4, 2) := by decide +kernel
theorem d_Mo_withRegister_56 : decode b_Mo_withRegister 56 = .ok (.invokevirtual 28, 3) := by decide +kernel
theorem d_Mo_withRegister_59 : decode b_Mo_withRegister 59 = .ok (.istore 5, 2) := by decide +kernel
theorem d_Mo_withRegister_61 : decode b_Mo_withRegister 61 = .ok (.iload_n 2, 1) := by decide +kernel
theorem d_Mo_withRegister_62 : decode b_Mo_withRegister 62 = .ok (.bipush 11, 2) := by decide +kernel
theorem d_Mo_withRegister_64 : decode b_Mo_withRegister 64 = .ok (.if_icmp .ne 30, 3) := by decide +kernel
theorem d_Mo_withRegister_67 : decode b_Mo_withRegister 67 = .ok (.aload_n 0, 1) := by decide +kernel
theorem d_Mo_withRegister_68 : decode b_Mo_withRegister 68 = .ok (.bipush 64, 2) := by decide +kernel
theorem d_Mo_withRegister_70 : decode b_Mo_withRegister 70 = .ok (.iconst 4, 1) := by decide +kernel
theorem d_Mo_withRegister_71 : decode b_Mo_withRegister 71 = .ok (.iload_n 3, 1) := by decide +kernel
theorem d_Mo_withRegister_72 : decode b_Mo_withRegister 72 = .ok (.imul, 1) := by decide +kernel
theorem d_Mo_withRegister_73 : decode b_Mo_withRegister 73 = .ok (.iadd, 1) := by decide +kernel
theorem d_Mo_withRegister_74 : decode b_Mo_withRegister 74 = .ok (.invokevirtual 99, 3) := by decide +kernel
theorem d_Mo_withRegister_77 : decode b_Mo_withRegister 77 = .ok (.aload_n 0, 1) := by decide +kernel
theorem d_Mo_withRegister_78 : decode b_Mo_withRegister 78 = .ok (.bipush 11, 2) := by decide +kernel
theorem d_Mo_withRegister_80 : decode b_Mo_withRegister 80 = .ok (.iload 4, 2) := by decide +kernel
theorem d_Mo_withRegister_82 : decode b_Mo_withRegister 82 = .ok (.invokevirtual 53, 3) := by decide +kernel
theorem d_Mo_withRegister_85 : decode b_Mo_withRegister 85 = .ok (.aload_n 0, 1) := by decide +kernel
theorem d_Mo_withRegister_86 : decode b_Mo_withRegister 86 = .ok (.sipush 512, 3) := by decide +kernel
theorem d_Mo_withRegister_89 : decode b_Mo_withRegister 89 = .ok (.iconst 1, 1) := by decide +kernel
theorem d_Mo_withRegister_90 : decode b_Mo_withRegister 90 = .ok (.invokevirtual 61, 3) := by decide +kernel
theorem d_Mo_withRegister_93 : decode b_Mo_withRegister 93 = .ok (.return_, 1) := by decide +kernel
theorem d_Mo_withRegister_94 : decode b_Mo_withRegister 94 = .ok (.aload_n 0, 1) := by decide +kernel
theorem d_Mo_withRegister_95 : decode b_Mo_withRegister 95 = .ok (.iload_n 3, 1) := by decide +kernel
theorem d_Mo_withRegister_96 : decode b_Mo_withRegister 96 = .ok (.invokevirtual 40, 3) := by decide +kernel
theorem d_Mo_withRegister_99 : decode b_Mo_withRegister 99 = .ok (.istore 6, 2) := by decide +kernel
theorem d_Mo_withRegister_101 : decode b_Mo_withRegister 101 = .ok (.iload_n 2, 1) := by decide +kernel
theorem d_Mo_withRegister_102 : decode b_Mo_withRegister 102 = .ok (.bipush 8, 2) := by decide +kernel
theorem d_Mo_withRegister_104 : decode b_Mo_withRegister 104 = .ok (.if_icmp .ne 25, 3) := by decide +kernel
theorem d_Mo_withRegister_107 : decode b_Mo_withRegister 107 = .ok (.aload_n 0, 1) := by decide +kernel
theorem d_Mo_withRegister_108 : decode b_Mo_withRegister 108 = .ok (.sipush 8192, 3) := by decide +kernel
theorem d_Mo_withRegister_111 : decode b_Mo_withRegister 111 = .ok (.iload 5, 2) := by decide +kernel
theorem d_Mo_withRegister_113 : decode b_Mo_withRegister 113 = .ok (.iload 6, 2) := by decide +kernel
theorem d_Mo_withRegister_115 : decode b_Mo_withRegister 115 = .ok (.iconst (-1), 1) := by decide +kernel
theorem d_Mo_withRegister_116 : decode b_Mo_withRegister 116 = .ok (.ixor, 1) := by decide +kernel
theorem d_Mo_withRegister_117 : decode b_Mo_withRegister 117 = .ok (.iand, 1) := by decide +kernel
theorem d_Mo_withRegister_118 : decode b_Mo_withRegister 118 = .ok (.ifCond .ne 7, 3) := by decide +kernel
theorem d_Mo_withRegister_121 : decode b_Mo_withRegister 121 = .ok (.iconst 1, 1) := by decide +kernel
theorem d_Mo_withRegister_122 : decode b_Mo_withRegister 122 = .ok (.goto 4, 3) := by decide +kernel
theorem d_Mo_withRegister_125 : decode b_Mo_withRegister 125 = .ok (.iconst 0, 1) := by decide +kernel
theorem d_Mo_withRegister_126 : decode b_Mo_withRegister 126 = .ok (.invokevirtual 61, 3) := by decide +kernel
theorem d_Mo_withRegister_129 : decode b_Mo_withRegister 129 = .ok (.iload_n 2, 1) := by decide +kernel
theorem d_Mo_withRegister_130 : decode b_Mo_withRegister 130 = .ok (.bipush 9, 2) := by decide +kernel
theorem d_Mo_withRegister_132 : decode b_Mo_withRegister 132 = .ok (.if_icmp .ne 23, 3) := by decide +kernel
theorem d_Mo_withRegister_135 : decode b_Mo_withRegister 135 = .ok (.aload_n 0, 1) := by decide +kernel
theorem d_Mo_withRegister_136 : decode b_Mo_withRegister 136 = .ok (.sipush 8192, 3) := by decide +kernel
theorem d_Mo_withRegister_139 : decode b_Mo_withRegister 139 = .ok (.iload 5, 2) := by decide +kernel
theorem d_Mo_withRegister_141 : decode b_Mo_withRegister 141 = .ok (.iload 6, 2) := by decide +kernel
theorem d_Mo_withRegister_143 : decode b_Mo_withRegister 143 = .ok (.iand, 1) := by decide +kernel
theorem d_Mo_withRegister_144 : decode b_Mo_withRegister 144 = .ok (.ifCond .ne 7, 3) := by decide +kernel
theorem d_Mo_withRegister_147 : decode b_Mo_withRegister 147 = .ok (.iconst 1, 1) := by decide +kernel
theorem d_Mo_withRegister_148 : decode b_Mo_withRegister 148 = .ok (.goto 4, 3) := by decide +kernel
theorem d_Mo_withRegister_151 : decode b_Mo_withRegister 151 = .ok (.iconst 0, 1) := by decide +kernel
theorem d_Mo_withRegister_152 : decode b_Mo_withRegister 152 = .ok (.invokevirtual 61, 3) := by decide +kernel
theorem d_Mo_withRegister_155 : decode b_Mo_withRegister 155 = .ok (.iload_n 2, 1) := by decide +kernel
theorem d_Mo_withRegister_156 : decode b_Mo_withRegister 156 = .ok (.bipush 10, 2) := by decide +kernel
theorem d_Mo_withRegister_158 : decode b_Mo_withRegister 158 = .ok (.if_icmp .ne 22, 3) := by decide +kernel
theorem d_Mo_withRegister_161 : decode b_Mo_withRegister 161 = .ok (.aload_n 0, 1) := by decide +kernel
theorem d_Mo_withRegister_162 : decode b_Mo_withRegister 162 = .ok (.iload 6, 2) := by decide +kernel
theorem d_Mo_withRegister_164 : decode b_Mo_withRegister 164 = .ok (.iload 5, 2) := by decide +kernel
theorem d_Mo_withRegister_166 : decode b_Mo_withRegister 166 = .ok (.ixor, 1) := by decide +kernel
theorem d_Mo_withRegister_167 : decode b_Mo_withRegister 167 = .ok (.invokevirtual 82, 3) := by decide +kernel
theorem d_Mo_withRegister_170 : decode b_Mo_withRegister 170 = .ok (.aload_n 0, 1) := by decide +kernel
theorem d_Mo_withRegister_171 : decode b_Mo_withRegister 171 = .ok (.iload_n 3, 1) := by decide +kernel
theorem d_Mo_withRegister_172 : decode b_Mo_withRegister 172 = .ok (.iload 6, 2) := by decide +kernel
theorem d_Mo_withRegister_174 : decode b_Mo_withRegister 174 = .ok (.iload 5, 2) := by decide +kernel
theorem d_Mo_withRegister_176 : decode b_Mo_withRegister 176 = .ok (.ixor, 1) := by decide +kernel
theorem d_Mo_withRegister_177 : decode b_Mo_withRegister 177 = .ok (.invokevirtual 53, 3) := by decide +kernel
theorem d_Mo_withRegister_180 : decode b_Mo_withRegister 180 = .ok (.iload_n 2, 1) := by decide +kernel
theorem d_Mo_withRegister_181 : decode b_Mo_withRegister 181 = .ok (.bipush 14, 2) := by decide +kernel
theorem d_Mo_withRegister_183 : decode b_Mo_withRegister 183 = .ok (.if_icmp .ne 37, 3) := by decide +kernel
theorem d_Mo_withRegister_186 : decode b_Mo_withRegister 186 = .ok (.iload 6, 2) := by decide +kernel
theorem d_Mo_withRegister_188 : decode b_Mo_withRegister 188 = .ok (.i2l, 1) := by decide +kernel
theorem d_Mo_withRegister_189 : decode b_Mo_withRegister 189 = .ok (.iload 5, 2) := by decide +kernel
theorem d_Mo_withRegister_191 : decode b_Mo_withRegister 191 = .ok (.i2l, 1) := by decide +kernel
theorem d_Mo_withRegister_192 : decode b_Mo_withRegister 192 = .ok (.lmul, 1) := by decide +kernel
theorem d_Mo_withRegister_193 : decode b_Mo_withRegister 193 = .ok (.lstore 7, 2) := by decide +kernel
theorem d_Mo_withRegister_195 : decode b_Mo_withRegister 195 = .ok (.aload_n 0, 1) := by decide +kernel
theorem d_Mo_withRegister_196 : decode b_Mo_withRegister 196 = .ok (.iload_n 3, 1) := by decide +kernel
theorem d_Mo_withRegister_197 : decode b_Mo_withRegister 197 = .ok (.lload 7, 2) := by decide +kernel
theorem d_Mo_withRegister_199 : decode b_Mo_withRegister 199 = .ok (.bipush 16, 2) := by decide +kernel
theorem d_Mo_withRegister_201 : decode b_Mo_withRegister 201 = .ok (.lshr, 1) := by decide +kernel
theorem d_Mo_withRegister_202 : decode b_Mo_withRegister 202 = .ok (.l2i, 1) := by decide +kernel
theorem d_Mo_withRegister_203 : decode b_Mo_withRegister 203 = .ok (.invokevirtual 53, 3) := by decide +kernel
theorem d_Mo_withRegister_206 : decode b_Mo_withRegister 206 = .ok (.aload_n 0, 1) := by decide +kernel
theorem d_Mo_withRegister_207 : decode b_Mo_withRegister 207 = .ok (.iload_n 3, 1) := by decide +kernel
theorem d_Mo_withRegister_208 : decode b_Mo_withRegister 208 = .ok (.iconst 1, 1) := by decide +kernel
theorem d_Mo_withRegister_209 : decode b_Mo_withRegister 209 = .ok (.iadd, 1) := by decide +kernel
theorem d_Mo_withRegister_210 : decode b_Mo_withRegister 210 = .ok (.lload 7, 2) := by decide +kernel
theorem d_Mo_withRegister_212 : decode b_Mo_withRegister 212 = .ok (.ldc2_w 102, 3) := by decide +kernel
theorem d_Mo_withRegister_215 : decode b_Mo_withRegister 215 = .ok (.land, 1) := by decide +kernel
theorem d_Mo_withRegister_216 : decode b_Mo_withRegister 216 = .ok (.l2i, 1) := by decide +kernel
theorem d_Mo_withRegister_217 : decode b_Mo_withRegister 217 = .ok (.invokevirtual 53, 3) := by decide +kernel
theorem d_Mo_withRegister_220 : decode b_Mo_withRegister 220 = .ok (.iload_n 2, 1) := by decide +kernel
theorem d_Mo_withRegister_221 : decode b_Mo_withRegister 221 = .ok (.bipush 15, 2) := by decide +kernel
theorem d_Mo_withRegister_223 : decode b_Mo_withRegister 223 = .ok (.if_icmp .ne 73, 3) := by decide +kernel
theorem d_Mo_withRegister_226 : decode b_Mo_withRegister 226 = .ok (.aload_n 0, 1) := by decide +kernel
theorem d_Mo_withRegister_227 : decode b_Mo_withRegister 227 = .ok (.sipush 2048, 3) := by decide +kernel
theorem d_Mo_withRegister_230 : decode b_Mo_withRegister 230 = .ok (.iload 5, 2) := by decide +kernel
theorem d_Mo_withRegister_232 : decode b_Mo_withRegister 232 = .ok (.iload 6, 2) := by decide +kernel
theorem d_Mo_withRegister_234 : decode b_Mo_withRegister 234 = .ok (.if_icmp .gt 7, 3) := by decide +kernel
theorem d_Mo_withRegister_237 : decode b_Mo_withRegister 237 = .ok (.iconst 1, 1) := by decide +kernel
theorem d_Mo_withRegister_238 : decode b_Mo_withRegister 238 = .ok (.goto 4, 3) := by decide +kernel
theorem d_Mo_withRegister_241 : decode b_Mo_withRegister 241 = .ok (.iconst 0, 1) := by decide +kernel
theorem d_Mo_withRegister_242 : decode b_Mo_withRegister 242 = .ok (.invokevirtual 61, 3) := by decide +kernel
theorem d_Mo_withRegister_245 : decode b_Mo_withRegister 245 = .ok (.iload 5, 2) := by decide +kernel
theorem d_Mo_withRegister_247 : decode b_Mo_withRegister 247 = .ok (.iload 6, 2) := by decide +kernel
theorem d_Mo_withRegister_249 : decode b_Mo_withRegister 249 = .ok (.if_icmp .le 47, 3) := by decide +kernel
theorem d_Mo_withRegister_252 : decode b_Mo_withRegister 252 = .ok (.iload 6, 2) := by decide +kernel
theorem d_Mo_withRegister_254 : decode b_Mo_withRegister 254 = .ok (.i2l, 1) := by decide +kernel
theorem d_Mo_withRegister_255 : decode b_Mo_withRegister 255 = .ok (.ldc2_w 104, 3) := by decide +kernel
theorem d_Mo_withRegister_258 : decode b_Mo_withRegister 258 = .ok (.lmul, 1) := by decide +kernel
theorem d_Mo_withRegister_259 : decode b_Mo_withRegister 259 = .ok (.aload_n 0, 1) := by decide +kernel
theorem d_Mo_withRegister_260 : decode b_Mo_withRegister 260 = .ok (.iload_n 3, 1) := by decide +kernel
theorem d_Mo_withRegister_261 : decode b_Mo_withRegister 261 = .ok (.iconst 1, 1) := by decide +kernel
theorem d_Mo_withRegister_262 : decode b_Mo_withRegister 262 = .ok (.iadd, 1) := by decide +kernel
theorem d_Mo_withRegister_263 : decode b_Mo_withRegister 263 = .ok (.invokevirtual 40, 3) := by decide +kernel
theorem d_Mo_withRegister_266 : decode b_Mo_withRegister 266 = .ok (.i2l, 1) := by decide +kernel
theorem d_Mo_withRegister_267 : decode b_Mo_withRegister 267 = .ok (.ladd, 1) := by decide +kernel
theorem d_Mo_withRegister_268 : decode b_Mo_withRegister 268 = .ok (.lstore 7, 2) := by decide +kernel
theorem d_Mo_withRegister_270 : decode b_Mo_withRegister 270 = .ok (.aload_n 0, 1) := by decide +kernel
theorem d_Mo_withRegister_271 : decode b_Mo_withRegister 271 = .ok (.iload_n 3, 1) := by decide +kernel
theorem d_Mo_withRegister_272 : decode b_Mo_withRegister 272 = .ok (.lload 7, 2) := by decide +kernel
theorem d_Mo_withRegister_274 : decode b_Mo_withRegister 274 = .ok (.iload 5, 2) := by decide +kernel
theorem d_Mo_withRegister_276 : decode b_Mo_withRegister 276 = .ok (.i2l, 1) := by decide +kernel
theorem d_Mo_withRegister_277 : decode b_Mo_withRegister 277 = .ok (.ldiv, 1) := by decide +kernel
theorem d_Mo_withRegister_278 : decode b_Mo_withRegister 278 = .ok (.l2i, 1) := by decide +kernel
theorem d_Mo_withRegister_279 : decode b_Mo_withRegister 279 = .ok (.invokevirtual 53, 3) := by decide +kernel
theorem d_Mo_withRegister_282 : decode b_Mo_withRegister 282 = .ok (.aload_n 0, 1) := by decide +kernel
theorem d_Mo_withRegister_283 : decode b_Mo_withRegister 283 = .ok (.iload_n 3, 1) := by decide +kernel
theorem d_Mo_withRegister_284 : decode b_Mo_withRegister 284 = .ok (.iconst 1, 1) := by decide +kernel
theorem d_Mo_withRegister_285 : decode b_Mo_withRegister 285 = .ok (.iadd, 1) := by decide +kernel
theorem d_Mo_withRegister_286 : decode b_Mo_withRegister 286 = .ok (.lload 7, 2) := by decide +kernel
theorem d_Mo_withRegister_288 : decode b_Mo_withRegister 288 = .ok (.iload 5, 2) := by decide +kernel
theorem d_Mo_withRegister_290 : decode b_Mo_withRegister 290 = .ok (.i2l, 1) := by decide +kernel
theorem d_Mo_withRegister_291 : decode b_Mo_withRegister 291 = .ok (.lrem, 1) := by decide +kernel
theorem d_Mo_withRegister_292 : decode b_Mo_withRegister 292 = .ok (.l2i, 1) := by decide +kernel
theorem d_Mo_withRegister_293 : decode b_Mo_withRegister 293 = .ok (.invokevirtual 53, 3) := by decide +kernel
theorem d_Mo_withRegister_296 : decode b_Mo_withRegister 296 = .ok (.return_, 1) := by decide +kernel
theorem d_Mo_holds_0 : decode b_Mo_holds 0 = .ok (.aload_n 0, 1) := by decide +kernel
theorem d_Mo_holds_1 : decode b_Mo_holds 1 = .ok (.ldc 60, 2) := by decide +kernel
theorem d_Mo_holds_3 : decode b_Mo_holds 3 = .ok (.invokevirtual 106, 3) := by decide +kernel
theorem d_Mo_holds_6 : decode b_Mo_holds 6 = .ok (.istore_n 2, 1) := by decide +kernel
theorem d_Mo_holds_7 : decode b_Mo_holds 7 = .ok (.aload_n 0, 1) := by decide +kernel
theorem d_Mo_holds_8 : decode b_Mo_holds 8 = .ok (.sipush 8192, 3) := by decide +kernel
theorem d_Mo_holds_11 : decode b_Mo_holds 11 = .ok (.invokevirtual 106, 3) := by decide +kernel
theorem d_Mo_holds_14 : decode b_Mo_holds 14 = .ok (.istore_n 3, 1) := by decide +kernel
theorem d_Mo_holds_15 : decode b_Mo_holds 15 = .ok (.iload_n 1, 1) := by decide +kernel
theorem d_Mo_holds_16 : decode b_Mo_holds 16 = .ok (.tableswitch 202 0 11 #[64, 66, 86, 100, 102, 116, 124, 134, 150, 158, 174, 188], 64) := by decide +kernel
theorem d_Mo_holds_80 : decode b_Mo_holds 80 = .ok (.iconst 1, 1) := by decide +kernel
theorem d_Mo_holds_81 : decode b_Mo_holds 81 = .ok (.ireturn, 1) := by decide +kernel
theorem d_Mo_holds_82 : decode b_Mo_holds 82 = .ok (.aload_n 0, 1) := by decide +kernel
theorem d_Mo_holds_83 : decode b_Mo_holds 83 = .ok (.sipush 16384, 3) := by decide +kernel
theorem d_Mo_holds_86 : decode b_Mo_holds 86 = .ok (.invokevirtual 106, 3) := by decide +kernel
theorem d_Mo_holds_89 : decode b_Mo_holds 89 = .ok (.ifCond .ne 11, 3) := by decide +kernel
theorem d_Mo_holds_92 : decode b_Mo_holds 92 = .ok (.iload_n 3, 1) := by decide +kernel
theorem d_Mo_holds_93 : decode b_Mo_holds 93 = .ok (.ifCond .ne 7, 3) := by decide +kernel
theorem d_Mo_holds_96 : decode b_Mo_holds 96 = .ok (.iconst 1, 1) := by decide +kernel
theorem d_Mo_holds_97 : decode b_Mo_holds 97 = .ok (.goto 4, 3) := by decide +kernel
theorem d_Mo_holds_100 : decode b_Mo_holds 100 = .ok (.iconst 0, 1) := by decide +kernel
theorem d_Mo_holds_101 : decode b_Mo_holds 101 = .ok (.ireturn, 1) := by decide +kernel
theorem d_Mo_holds_102 : decode b_Mo_holds 102 = .ok (.iload_n 2, 1) := by decide +kernel
theorem d_Mo_holds_103 : decode b_Mo_holds 103 = .ok (.ifCond .eq 7, 3) := by decide +kernel
theorem d_Mo_holds_106 : decode b_Mo_holds 106 = .ok (.iload_n 3, 1) := by decide +kernel
theorem d_Mo_holds_107 : decode b_Mo_holds 107 = .ok (.ifCond .eq 7, 3) := by decide +kernel
theorem d_Mo_holds_110 : decode b_Mo_holds 110 = .ok (.iconst 1, 1) := by decide +kernel
theorem d_Mo_holds_111 : decode b_Mo_holds 111 = .ok (.goto 4, 3) := by decide +kernel
theorem d_Mo_holds_114 : decode b_Mo_holds 114 = .ok (.iconst 0, 1) := by decide +kernel
theorem d_Mo_holds_115 : decode b_Mo_holds 115 = .ok (.ireturn, 1) := by decide +kernel
theorem d_Mo_holds_116 : decode b_Mo_holds 116 = .ok (.iload_n 3, 1) := by decide +kernel
theorem d_Mo_holds_117 : decode b_Mo_holds 117 = .ok (.ireturn, 1) := by decide +kernel
theorem d_Mo_holds_118 : decode b_Mo_holds 118 = .ok (.iload_n 2, 1) := by decide +kernel
theorem d_Mo_holds_119 : decode b_Mo_holds 119 = .ok (.ifCond .ne 7, 3) := by decide +kernel
theorem d_Mo_holds_122 : decode b_Mo_holds 122 = .ok (.iload_n 3, 1) := by decide +kernel
theorem d_Mo_holds_123 : decode b_Mo_holds 123 = .ok (.ifCond .eq 7, 3) := by decide +kernel
theorem d_Mo_holds_126 : decode b_Mo_holds 126 = .ok (.iconst 1, 1) := by decide +kernel
theorem d_Mo_holds_127 : decode b_Mo_holds 127 = .ok (.goto 4, 3) := by decide +kernel
theorem d_Mo_holds_130 : decode b_Mo_holds 130 = .ok (.iconst 0, 1) := by decide +kernel
theorem d_Mo_holds_131 : decode b_Mo_holds 131 = .ok (.ireturn, 1) := by decide +kernel
theorem d_Mo_holds_132 : decode b_Mo_holds 132 = .ok (.aload_n 0, 1) := by decide +kernel
theorem d_Mo_holds_133 : decode b_Mo_holds 133 = .ok (.sipush 16384, 3) := by decide +kernel
theorem d_Mo_holds_136 : decode b_Mo_holds 136 = .ok (.invokevirtual 106, 3) := by decide +kernel
theorem d_Mo_holds_139 : decode b_Mo_holds 139 = .ok (.ireturn, 1) := by decide +kernel
theorem d_Mo_holds_140 : decode b_Mo_holds 140 = .ok (.iload_n 3, 1) := by decide +kernel
theorem d_Mo_holds_141 : decode b_Mo_holds 141 = .ok (.ifCond .ne 7, 3) := by decide +kernel
theorem d_Mo_holds_144 : decode b_Mo_holds 144 = .ok (.iconst 1, 1) := by decide +kernel
theorem d_Mo_holds_145 : decode b_Mo_holds 145 = .ok (.goto 4, 3) := by decide +kernel
theorem d_Mo_holds_148 : decode b_Mo_holds 148 = .ok (.iconst 0, 1) := by decide +kernel
theorem d_Mo_holds_149 : decode b_Mo_holds 149 = .ok (.ireturn, 1) := by decide +kernel
theorem d_Mo_holds_150 : decode b_Mo_holds 150 = .ok (.aload_n 0, 1) := by decide +kernel
theorem d_Mo_holds_151 : decode b_Mo_holds 151 = .ok (.sipush 4096, 3) := by decide +kernel
theorem d_Mo_holds_154 : decode b_Mo_holds 154 = .ok (.invokevirtual 106, 3) := by decide +kernel
theorem d_Mo_holds_157 : decode b_Mo_holds 157 = .ok (.ifCond .ne 7, 3) := by decide +kernel
theorem d_Mo_holds_160 : decode b_Mo_holds 160 = .ok (.iconst 1, 1) := by decide +kernel
theorem d_Mo_holds_161 : decode b_Mo_holds 161 = .ok (.goto 4, 3) := by decide +kernel
theorem d_Mo_holds_164 : decode b_Mo_holds 164 = .ok (.iconst 0, 1) := by decide +kernel
theorem d_Mo_holds_165 : decode b_Mo_holds 165 = .ok (.ireturn, 1) := by decide +kernel
theorem d_Mo_holds_166 : decode b_Mo_holds 166 = .ok (.aload_n 0, 1) := by decide +kernel
theorem d_Mo_holds_167 : decode b_Mo_holds 167 = .ok (.sipush 4096, 3) := by decide +kernel
theorem d_Mo_holds_170 : decode b_Mo_holds 170 = .ok (.invokevirtual 106, 3) := by decide +kernel
theorem d_Mo_holds_173 : decode b_Mo_holds 173 = .ok (.ireturn, 1) := by decide +kernel
theorem d_Mo_holds_174 : decode b_Mo_holds 174 = .ok (.aload_n 0, 1) := by decide +kernel
theorem d_Mo_holds_175 : decode b_Mo_holds 175 = .ok (.sipush 2048, 3) := by decide +kernel
theorem d_Mo_holds_178 : decode b_Mo_holds 178 = .ok (.invokevirtual 106, 3) := by decide +kernel
theorem d_Mo_holds_181 : decode b_Mo_holds 181 = .ok (.ifCond .ne 7, 3) := by decide +kernel
theorem d_Mo_holds_184 : decode b_Mo_holds 184 = .ok (.iconst 1, 1) := by decide +kernel
theorem d_Mo_holds_185 : decode b_Mo_holds 185 = .ok (.goto 4, 3) := by decide +kernel
theorem d_Mo_holds_188 : decode b_Mo_holds 188 = .ok (.iconst 0, 1) := by decide +kernel
theorem d_Mo_holds_189 : decode b_Mo_holds 189 = .ok (.ireturn, 1) := by decide +kernel
theorem d_Mo_holds_190 : decode b_Mo_holds 190 = .ok (.iload_n 2, 1) := by decide +kernel
theorem d_Mo_holds_191 : decode b_Mo_holds 191 = .ok (.ifCond .ne 11, 3) := by decide +kernel
theorem d_Mo_holds_194 : decode b_Mo_holds 194 = .ok (.iload_n 3, 1) := by decide +kernel
theorem d_Mo_holds_195 : decode b_Mo_holds 195 = .ok (.ifCond .ne 7, 3) := by decide +kernel
theorem d_Mo_holds_198 : decode b_Mo_holds 198 = .ok (.iconst 1, 1) := by decide +kernel
theorem d_Mo_holds_199 : decode b_Mo_holds 199 = .ok (.goto 4, 3) := by decide +kernel
theorem d_Mo_holds_202 : decode b_Mo_holds 202 = .ok (.iconst 0, 1) := by decide +kernel
theorem d_Mo_holds_203 : decode b_Mo_holds 203 = .ok (.ireturn, 1) := by decide +kernel
theorem d_Mo_holds_204 : decode b_Mo_holds 204 = .ok (.iload_n 2, 1) := by decide +kernel
theorem d_Mo_holds_205 : decode b_Mo_holds 205 = .ok (.ifCond .eq 11, 3) := by decide +kernel
theorem d_Mo_holds_208 : decode b_Mo_holds 208 = .ok (.iload_n 3, 1) := by decide +kernel
theorem d_Mo_holds_209 : decode b_Mo_holds 209 = .ok (.ifCond .ne 7, 3) := by decide +kernel
theorem d_Mo_holds_212 : decode b_Mo_holds 212 = .ok (.iconst 1, 1) := by decide +kernel
theorem d_Mo_holds_213 : decode b_Mo_holds 213 = .ok (.goto 4, 3) := by decide +kernel
theorem d_Mo_holds_216 : decode b_Mo_holds 216 = .ok (.iconst 0, 1) := by decide +kernel
theorem d_Mo_holds_217 : decode b_Mo_holds 217 = .ok (.ireturn, 1) := by decide +kernel
theorem d_Mo_holds_218 : decode b_Mo_holds 218 = .ok (.aload_n 0, 1) := by decide +kernel
theorem d_Mo_holds_219 : decode b_Mo_holds 219 = .ok (.sipush 1024, 3) := by decide +kernel
theorem d_Mo_holds_222 : decode b_Mo_holds 222 = .ok (.invokevirtual 106, 3) := by decide +kernel
theorem d_Mo_holds_225 : decode b_Mo_holds 225 = .ok (.ireturn, 1) := by decide +kernel
theorem d_Mo_jumpOrLine_0 : decode b_Mo_jumpOrLine 0 = .ok (.iload_n 1, 1) := by decide +kernel
theorem d_Mo_jumpOrLine_1 : decode b_Mo_jumpOrLine 1 = .ok (.bipush 8, 2) := by decide +kernel
theorem d_Mo_jumpOrLine_3 : decode b_Mo_jumpOrLine 3 = .ok (.ishr, 1) := by decide +kernel
theorem d_Mo_jumpOrLine_4 : decode b_Mo_jumpOrLine 4 = .ok (.bipush 15, 2) := by decide +kernel
theorem d_Mo_jumpOrLine_6 : decode b_Mo_jumpOrLine 6 = .ok (.iand, 1) := by decide +kernel
theorem d_Mo_jumpOrLine_7 : decode b_Mo_jumpOrLine 7 = .ok (.istore_n 2, 1) := by decide +kernel
theorem d_Mo_jumpOrLine_8 : decode b_Mo_jumpOrLine 8 = .ok (.iload_n 1, 1) := by decide +kernel
theorem d_Mo_jumpOrLine_9 : decode b_Mo_jumpOrLine 9 = .ok (.sipush 255, 3) := by decide +kernel
theorem d_Mo_jumpOrLine_12 : decode b_Mo_jumpOrLine 12 = .ok (.iand, 1) := by decide +kernel
theorem d_Mo_jumpOrLine_13 : decode b_Mo_jumpOrLine 13 = .ok (.bipush 127, 2) := by decide +kernel
theorem d_Mo_jumpOrLine_15 : decode b_Mo_jumpOrLine 15 = .ok (.if_icmp .le 15, 3) := by decide +kernel
theorem d_Mo_jumpOrLine_18 : decode b_Mo_jumpOrLine 18 = .ok (.iload_n 1, 1) := by decide +kernel
theorem d_Mo_jumpOrLine_19 : decode b_Mo_jumpOrLine 19 = .ok (.sipush 255, 3) := by decide +kernel
theorem d_Mo_jumpOrLine_22 : decode b_Mo_jumpOrLine 22 = .ok (.iand, 1) := by decide +kernel
theorem d_Mo_jumpOrLine_23 : decode b_Mo_jumpOrLine 23 = .ok (.sipush 256, 3) := by decide +kernel
theorem d_Mo_jumpOrLine_26 : decode b_Mo_jumpOrLine 26 = .ok (.isub, 1) := by decide +kernel
theorem d_Mo_jumpOrLine_27 : decode b_Mo_jumpOrLine 27 = .ok (.goto 8, 3) := by decide +kernel
theorem d_Mo_jumpOrLine_30 : decode b_Mo_jumpOrLine 30 = .ok (.iload_n 1, 1) := by decide +kernel
theorem d_Mo_jumpOrLine_31 : decode b_Mo_jumpOrLine 31 = .ok (.sipush 255, 3) := by decide +kernel
theorem d_Mo_jumpOrLine_34 : decode b_Mo_jumpOrLine 34 = .ok (.iand, 1) := by decide +kernel
theorem d_Mo_jumpOrLine_35 : decode b_Mo_jumpOrLine 35 = .ok (.istore_n 3, 1) := by decide +kernel
theorem d_Mo_jumpOrLine_36 : decode b_Mo_jumpOrLine 36 = .ok (.aload_n 0, 1) := by decide +kernel
theorem d_Mo_jumpOrLine_37 : decode b_Mo_jumpOrLine 37 = .ok (.invokevirtual 93, 3) := by decide +kernel
theorem d_Mo_jumpOrLine_40 : decode b_Mo_jumpOrLine 40 = .ok (.iload_n 3, 1) := by decide +kernel
theorem d_Mo_jumpOrLine_41 : decode b_Mo_jumpOrLine 41 = .ok (.iadd, 1) := by decide +kernel
theorem d_Mo_jumpOrLine_42 : decode b_Mo_jumpOrLine 42 = .ok (.bipush 63, 2) := by decide +kernel
theorem d_Mo_jumpOrLine_44 : decode b_Mo_jumpOrLine 44 = .ok (.iand, 1) := by decide +kernel
theorem d_Mo_jumpOrLine_45 : decode b_Mo_jumpOrLine 45 = .ok (.istore 4, 2) := by decide +kernel
theorem d_Mo_jumpOrLine_47 : decode b_Mo_jumpOrLine 47 = .ok (.iload_n 2, 1) := by decide +kernel
theorem d_Mo_jumpOrLine_48 : decode b_Mo_jumpOrLine 48 = .ok (.bipush 13, 2) := by decide +kernel
theorem d_Mo_jumpOrLine_50 : decode b_Mo_jumpOrLine 50 = .ok (.if_icmp .ge 37, 3) := by decide +kernel
theorem d_Mo_jumpOrLine_53 : decode b_Mo_jumpOrLine 53 = .ok (.aload_n 0, 1) := by decide +kernel
theorem d_Mo_jumpOrLine_54 : decode b_Mo_jumpOrLine 54 = .ok (.aload_n 0, 1) := by decide +kernel
theorem d_Mo_jumpOrLine_55 : decode b_Mo_jumpOrLine 55 = .ok (.iload_n 2, 1) := by decide +kernel
theorem d_Mo_jumpOrLine_56 : decode b_Mo_jumpOrLine 56 = .ok (.invokevirtual 110, 3) := by decide +kernel
theorem d_Mo_jumpOrLine_59 : decode b_Mo_jumpOrLine 59 = .ok (.ifCond .eq 18, 3) := by decide +kernel
theorem d_Mo_jumpOrLine_62 : decode b_Mo_jumpOrLine 62 = .ok (.aload_n 0, 1) := by decide +kernel
theorem d_Mo_jumpOrLine_63 : decode b_Mo_jumpOrLine 63 = .ok (.getfield 36, 3) := by decide +kernel
theorem d_Mo_jumpOrLine_66 : decode b_Mo_jumpOrLine 66 = .ok (.iconst 2, 1) := by decide +kernel
theorem d_Mo_jumpOrLine_67 : decode b_Mo_jumpOrLine 67 = .ok (.iload_n 3, 1) := by decide +kernel
theorem d_Mo_jumpOrLine_68 : decode b_Mo_jumpOrLine 68 = .ok (.imul, 1) := by decide +kernel
theorem d_Mo_jumpOrLine_69 : decode b_Mo_jumpOrLine 69 = .ok (.iadd, 1) := by decide +kernel
theorem d_Mo_jumpOrLine_70 : decode b_Mo_jumpOrLine 70 = .ok (.sipush 1022, 3) := by decide +kernel
theorem d_Mo_jumpOrLine_73 : decode b_Mo_jumpOrLine 73 = .ok (.iand, 1) := by decide +kernel
theorem d_Mo_jumpOrLine_74 : decode b_Mo_jumpOrLine 74 = .ok (.goto 7, 3) := by decide +kernel
theorem d_Mo_jumpOrLine_77 : decode b_Mo_jumpOrLine 77 = .ok (.aload_n 0, 1) := by decide +kernel
theorem d_Mo_jumpOrLine_78 : decode b_Mo_jumpOrLine 78 = .ok (.getfield 36, 3) := by decide +kernel
theorem d_Mo_jumpOrLine_81 : decode b_Mo_jumpOrLine 81 = .ok (.putfield 36, 3) := by decide +kernel
theorem d_Mo_jumpOrLine_84 : decode b_Mo_jumpOrLine 84 = .ok (.goto 44, 3) := by decide +kernel
theorem d_Mo_jumpOrLine_87 : decode b_Mo_jumpOrLine 87 = .ok (.iload_n 2, 1) := by decide +kernel
theorem d_Mo_jumpOrLine_88 : decode b_Mo_jumpOrLine 88 = .ok (.bipush 15, 2) := by decide +kernel
theorem d_Mo_jumpOrLine_90 : decode b_Mo_jumpOrLine 90 = .ok (.if_icmp .ge 24, 3) := by decide +kernel
theorem d_Mo_jumpOrLine_93 : decode b_Mo_jumpOrLine 93 = .ok (.aload_n 0, 1) := by decide +kernel
theorem d_Mo_jumpOrLine_94 : decode b_Mo_jumpOrLine 94 = .ok (.getfield 13, 3) := by decide +kernel
theorem d_Mo_jumpOrLine_97 : decode b_Mo_jumpOrLine 97 = .ok (.iload 4, 2) := by decide +kernel
theorem d_Mo_jumpOrLine_99 : decode b_Mo_jumpOrLine 99 = .ok (.iload_n 2, 1) := by decide +kernel
theorem d_Mo_jumpOrLine_100 : decode b_Mo_jumpOrLine 100 = .ok (.bipush 13, 2) := by decide +kernel
theorem d_Mo_jumpOrLine_102 : decode b_Mo_jumpOrLine 102 = .ok (.if_icmp .ne 7, 3) := by decide +kernel
theorem d_Mo_jumpOrLine_105 : decode b_Mo_jumpOrLine 105 = .ok (.iconst 1, 1) := by decide +kernel
theorem d_Mo_jumpOrLine_106 : decode b_Mo_jumpOrLine 106 = .ok (.goto 4, 3) := by decide +kernel
theorem d_Mo_jumpOrLine_109 : decode b_Mo_jumpOrLine 109 = .ok (.iconst 0, 1) := by decide +kernel
theorem d_Mo_jumpOrLine_110 : decode b_Mo_jumpOrLine 110 = .ok (.bastore, 1) := by decide +kernel
theorem d_Mo_jumpOrLine_111 : decode b_Mo_jumpOrLine 111 = .ok (.goto 17, 3) := by decide +kernel
theorem d_Mo_jumpOrLine_114 : decode b_Mo_jumpOrLine 114 = .ok (.aload_n 0, 1) := by decide +kernel
theorem d_Mo_jumpOrLine_115 : decode b_Mo_jumpOrLine 115 = .ok (.sipush 8192, 3) := by decide +kernel
theorem d_Mo_jumpOrLine_118 : decode b_Mo_jumpOrLine 118 = .ok (.aload_n 0, 1) := by decide +kernel
theorem d_Mo_jumpOrLine_119 : decode b_Mo_jumpOrLine 119 = .ok (.getfield 13, 3) := by decide +kernel
theorem d_Mo_jumpOrLine_122 : decode b_Mo_jumpOrLine 122 = .ok (.iload 4, 2) := by decide +kernel
theorem d_Mo_jumpOrLine_124 : decode b_Mo_jumpOrLine 124 = .ok (.baload, 1) := by decide +kernel
theorem d_Mo_jumpOrLine_125 : decode b_Mo_jumpOrLine 125 = .ok (.invokevirtual 61, 3) := by decide +kernel
theorem d_Mo_jumpOrLine_128 : decode b_Mo_jumpOrLine 128 = .ok (.return_, 1) := by decide +kernel
theorem d_Mo_shift_0 : decode b_Mo_shift 0 = .ok (.iload_n 1, 1) := by decide +kernel
theorem d_Mo_shift_1 : decode b_Mo_shift 1 = .ok (.bipush 15, 2) := by decide +kernel
theorem d_Mo_shift_3 : decode b_Mo_shift 3 = .ok (.iand, 1) := by decide +kernel
theorem d_Mo_shift_4 : decode b_Mo_shift 4 = .ok (.istore_n 2, 1) := by decide +kernel
theorem d_Mo_shift_5 : decode b_Mo_shift 5 = .ok (.iload_n 1, 1) := by decide +kernel
theorem d_Mo_shift_6 : decode b_Mo_shift 6 = .ok (.iconst 4, 1) := by decide +kernel
theorem d_Mo_shift_7 : decode b_Mo_shift 7 = .ok (.ishr, 1) := by decide +kernel
theorem d_Mo_shift_8 : decode b_Mo_shift 8 = .ok (.bipush 15, 2) := by decide +kernel
theorem d_Mo_shift_10 : decode b_Mo_shift 10 = .ok (.iand, 1) := by decide +kernel
theorem d_Mo_shift_11 : decode b_Mo_shift 11 = .ok (.istore_n 3, 1) := by decide +kernel
theorem d_Mo_shift_12 : decode b_Mo_shift 12 = .ok (.iload_n 3, 1) := by decide +kernel
theorem d_Mo_shift_13 : decode b_Mo_shift 13 = .ok (.ifCond .ne 14, 3) := by decide +kernel
theorem d_Mo_shift_16 : decode b_Mo_shift 16 = .ok (.aload_n 0, 1) := by decide +kernel
theorem d_Mo_shift_17 : decode b_Mo_shift 17 = .ok (.iconst 0, 1) := by decide +kernel
theorem d_Mo_shift_18 : decode b_Mo_shift 18 = .ok (.invokevirtual 40, 3) := by decide +kernel
theorem d_Mo_shift_21 : decode b_Mo_shift 21 = .ok (.bipush 15, 2) := by decide +kernel
theorem d_Mo_shift_23 : decode b_Mo_shift 23 = .ok (.iand, 1) := by decide +kernel
theorem d_Mo_shift_24 : decode b_Mo_shift 24 = .ok (.goto 4, 3) := by decide +kernel
theorem d_Mo_shift_27 : decode b_Mo_shift 27 = .ok (.iload_n 3, 1) := by decide +kernel
theorem d_Mo_shift_28 : decode b_Mo_shift 28 = .ok (.istore_n 3, 1) := by decide +kernel
theorem d_Mo_shift_29 : decode b_Mo_shift 29 = .ok (.iload_n 3, 1) := by decide +kernel
theorem d_Mo_shift_30 : decode b_Mo_shift 30 = .ok (.ifCond .ne 8, 3) := by decide +kernel
theorem d_Mo_shift_33 : decode b_Mo_shift 33 = .ok (.bipush 16, 2) := by decide +kernel
theorem d_Mo_shift_35 : decode b_Mo_shift 35 = .ok (.goto 4, 3) := by decide +kernel
theorem d_Mo_shift_38 : decode b_Mo_shift 38 = .ok (.iload_n 3, 1) := by decide +kernel
theorem d_Mo_shift_39 : decode b_Mo_shift 39 = .ok (.istore_n 3, 1) := by decide +kernel
theorem d_Mo_shift_40 : decode b_Mo_shift 40 = .ok (.iload_n 1, 1) := by decide +kernel
theorem d_Mo_shift_41 : decode b_Mo_shift 41 = .ok (.bipush 8, 2) := by decide +kernel
theorem d_Mo_shift_43 : decode b_Mo_shift 43 = .ok (.ishr, 1) := by decide +kernel
theorem d_Mo_shift_44 : decode b_Mo_shift 44 = .ok (.iconst 3, 1) := by decide +kernel
theorem d_Mo_shift_45 : decode b_Mo_shift 45 = .ok (.iand, 1) := by decide +kernel
theorem d_Mo_shift_46 : decode b_Mo_shift 46 = .ok (.istore 4, 2) := by decide +kernel
theorem d_Mo_shift_48 : decode b_Mo_shift 48 = .ok (.aload_n 0, 1) := by decide +kernel
theorem d_Mo_shift_49 : decode b_Mo_shift 49 = .ok (.iload_n 2, 1) := by decide +kernel
theorem d_Mo_shift_50 : decode b_Mo_shift 50 = .ok (.invokevirtual 40, 3) := by decide +kernel
theorem d_Mo_shift_53 : decode b_Mo_shift 53 = .ok (.istore 5, 2) := by decide +kernel
theorem d_Mo_shift_55 : decode b_Mo_shift 55 = .ok (.iconst 0, 1) := by decide +kernel
theorem d_Mo_shift_56 : decode b_Mo_shift 56 = .ok (.istore 6, 2) := by decide +kernel
theorem d_Mo_shift_58 : decode b_Mo_shift 58 = .ok (.iconst 0, 1) := by decide +kernel
theorem d_Mo_shift_59 : decode b_Mo_shift 59 = .ok (.istore 7, 2) := by decide +kernel
theorem d_Mo_shift_61 : decode b_Mo_shift 61 = .ok (.iconst 0, 1) := by decide +kernel
theorem d_Mo_shift_62 : decode b_Mo_shift 62 = .ok (.istore 8, 2) := by decide +kernel
theorem d_Mo_shift_64 : decode b_Mo_shift 64 = .ok (.iload 8, 2) := by decide +kernel
theorem d_Mo_shift_66 : decode b_Mo_shift 66 = .ok (.iload_n 3, 1) := by decide +kernel
theorem d_Mo_shift_67 : decode b_Mo_shift 67 = .ok (.if_icmp .ge 111, 3) := by decide +kernel
theorem d_Mo_shift_70 : decode b_Mo_shift 70 = .ok (.iload 5, 2) := by decide +kernel
theorem d_Mo_shift_72 : decode b_Mo_shift 72 = .ok (.istore 9, 2) := by decide +kernel
theorem d_Mo_shift_74 : decode b_Mo_shift 74 = .ok (.iload 4, 2) := by decide +kernel
theorem d_Mo_shift_76 : decode b_Mo_shift 76 = .ok (.iconst 2, 1) := by decide +kernel
theorem d_Mo_shift_77 : decode b_Mo_shift 77 = .ok (.if_icmp .ne 11, 3) := by decide +kernel
theorem d_Mo_shift_80 : decode b_Mo_shift 80 = .ok (.iload 5, 2) := by decide +kernel
theorem d_Mo_shift_82 : decode b_Mo_shift 82 = .ok (.bipush 15, 2) := by decide +kernel
theorem d_Mo_shift_84 : decode b_Mo_shift 84 = .ok (.ishr, 1) := by decide +kernel
theorem d_Mo_shift_85 : decode b_Mo_shift 85 = .ok (.goto 7, 3) := by decide +kernel
theorem d_Mo_shift_88 : decode b_Mo_shift 88 = .ok (.iload 5, 2) := by decide +kernel
theorem d_Mo_shift_90 : decode b_Mo_shift 90 = .ok (.iconst 1, 1) := by decide +kernel
theorem d_Mo_shift_91 : decode b_Mo_shift 91 = .ok (.iand, 1) := by decide +kernel
theorem d_Mo_shift_92 : decode b_Mo_shift 92 = .ok (.istore 7, 2) := by decide +kernel
theorem d_Mo_shift_94 : decode b_Mo_shift 94 = .ok (.iload 4, 2) := by decide +kernel
theorem d_Mo_shift_96 : decode b_Mo_shift 96 = .ok (.ifCond .ne 11, 3) := by decide +kernel
theorem d_Mo_shift_99 : decode b_Mo_shift 99 = .ok (.iload 5, 2) := by decide +kernel
theorem d_Mo_shift_101 : decode b_Mo_shift 101 = .ok (.ldc 60, 2) := by decide +kernel
theorem d_Mo_shift_103 : decode b_Mo_shift 103 = .ok (.iand, 1) := by decide +kernel
theorem d_Mo_shift_104 : decode b_Mo_shift 104 = .ok (.goto 18, 3) := by decide +kernel
theorem d_Mo_shift_107 : decode b_Mo_shift 107 = .ok (.iload 4, 2) := by decide +kernel
theorem d_Mo_shift_109 : decode b_Mo_shift 109 = .ok (.iconst 3, 1) := by decide +kernel
theorem d_Mo_shift_110 : decode b_Mo_shift 110 = .ok (.if_icmp .ne 11, 3) := by decide +kernel
theorem d_Mo_shift_113 : decode b_Mo_shift 113 = .ok (.iload 7, 2) := by decide +kernel
theorem d_Mo_shift_115 : decode b_Mo_shift 115 = .ok (.bipush 15, 2) := by decide +kernel
theorem d_Mo_shift_117 : decode b_Mo_shift 117 = .ok (.ishl, 1) := by decide +kernel
theorem d_Mo_shift_118 : decode b_Mo_shift 118 = .ok (.goto 4, 3) := by decide +kernel
theorem d_Mo_shift_121 : decode b_Mo_shift 121 = .ok (.iconst 0, 1) := by decide +kernel
theorem d_Mo_shift_122 : decode b_Mo_shift 122 = .ok (.istore 10, 2) := by decide +kernel
theorem d_Mo_shift_124 : decode b_Mo_shift 124 = .ok (.iload 4, 2) := by decide +kernel
theorem d_Mo_shift_126 : decode b_Mo_shift 126 = .ok (.iconst 2, 1) := by decide +kernel
theorem d_Mo_shift_127 : decode b_Mo_shift 127 = .ok (.if_icmp .ne 13, 3) := by decide +kernel
theorem d_Mo_shift_130 : decode b_Mo_shift 130 = .ok (.iload 5, 2) := by decide +kernel
theorem d_Mo_shift_132 : decode b_Mo_shift 132 = .ok (.iconst 1, 1) := by decide +kernel
theorem d_Mo_shift_133 : decode b_Mo_shift 133 = .ok (.ishl, 1) := by decide +kernel
theorem d_Mo_shift_134 : decode b_Mo_shift 134 = .ok (.ldc 24, 2) := by decide +kernel
theorem d_Mo_shift_136 : decode b_Mo_shift 136 = .ok (.iand, 1) := by decide +kernel
theorem d_Mo_shift_137 : decode b_Mo_shift 137 = .ok (.goto 10, 3) := by decide +kernel
theorem d_Mo_shift_140 : decode b_Mo_shift 140 = .ok (.iload 5, 2) := by decide +kernel
theorem d_Mo_shift_142 : decode b_Mo_shift 142 = .ok (.iconst 1, 1) := by decide +kernel
theorem d_Mo_shift_143 : decode b_Mo_shift 143 = .ok (.ishr, 1) := by decide +kernel
theorem d_Mo_shift_144 : decode b_Mo_shift 144 = .ok (.iload 10, 2) := by decide +kernel
theorem d_Mo_shift_146 : decode b_Mo_shift 146 = .ok (.ior, 1) := by decide +kernel
theorem d_Mo_shift_147 : decode b_Mo_shift 147 = .ok (.istore 5, 2) := by decide +kernel
theorem d_Mo_shift_149 : decode b_Mo_shift 149 = .ok (.iload 6, 2) := by decide +kernel
theorem d_Mo_shift_151 : decode b_Mo_shift 151 = .ok (.ifCond .ne 14, 3) := by decide +kernel
theorem d_Mo_shift_154 : decode b_Mo_shift 154 = .ok (.iload 9, 2) := by decide +kernel
theorem d_Mo_shift_156 : decode b_Mo_shift 156 = .ok (.iload 5, 2) := by decide +kernel
theorem d_Mo_shift_158 : decode b_Mo_shift 158 = .ok (.ixor, 1) := by decide +kernel
theorem d_Mo_shift_159 : decode b_Mo_shift 159 = .ok (.ldc 60, 2) := by decide +kernel
theorem d_Mo_shift_161 : decode b_Mo_shift 161 = .ok (.iand, 1) := by decide +kernel
theorem d_Mo_shift_162 : decode b_Mo_shift 162 = .ok (.ifCond .eq 7, 3) := by decide +kernel
theorem d_Mo_shift_165 : decode b_Mo_shift 165 = .ok (.iconst 1, 1) := by decide +kernel
theorem d_Mo_shift_166 : decode b_Mo_shift 166 = .ok (.goto 4, 3) := by decide +kernel
theorem d_Mo_shift_169 : decode b_Mo_shift 169 = .ok (.iconst 0, 1) := by decide +kernel
theorem d_Mo_shift_170 : decode b_Mo_shift 170 = .ok (.istore 6, 2) := by decide +kernel
theorem d_Mo_shift_172 : decode b_Mo_shift 172 = .ok (.iinc 8 1, 3) := by decide +kernel
theorem d_Mo_shift_175 : decode b_Mo_shift 175 = .ok (.goto (-111), 3) := by decide +kernel
theorem d_Mo_shift_178 : decode b_Mo_shift 178 = .ok (.aload_n 0, 1) := by decide +kernel
theorem d_Mo_shift_179 : decode b_Mo_shift 179 = .ok (.iload 5, 2) := by decide +kernel
theorem d_Mo_shift_181 : decode b_Mo_shift 181 = .ok (.invokevirtual 82, 3) := by decide +kernel
theorem d_Mo_shift_184 : decode b_Mo_shift 184 = .ok (.aload_n 0, 1) := by decide +kernel
theorem d_Mo_shift_185 : decode b_Mo_shift 185 = .ok (.sipush 4096, 3) := by decide +kernel
theorem d_Mo_shift_188 : decode b_Mo_shift 188 = .ok (.iload 7, 2) := by decide +kernel
theorem d_Mo_shift_190 : decode b_Mo_shift 190 = .ok (.iconst 1, 1) := by decide +kernel
theorem d_Mo_shift_191 : decode b_Mo_shift 191 = .ok (.if_icmp .ne 7, 3) := by decide +kernel
theorem d_Mo_shift_194 : decode b_Mo_shift 194 = .ok (.iconst 1, 1) := by decide +kernel
theorem d_Mo_shift_195 : decode b_Mo_shift 195 = .ok (.goto 4, 3) := by decide +kernel
theorem d_Mo_shift_198 : decode b_Mo_shift 198 = .ok (.iconst 0, 1) := by decide +kernel
theorem d_Mo_shift_199 : decode b_Mo_shift 199 = .ok (.invokevirtual 61, 3) := by decide +kernel
theorem d_Mo_shift_202 : decode b_Mo_shift 202 = .ok (.iload 4, 2) := by decide +kernel
theorem d_Mo_shift_204 : decode b_Mo_shift 204 = .ok (.iconst 2, 1) := by decide +kernel
theorem d_Mo_shift_205 : decode b_Mo_shift 205 = .ok (.if_icmp .ne 12, 3) := by decide +kernel
theorem d_Mo_shift_208 : decode b_Mo_shift 208 = .ok (.aload_n 0, 1) := by decide +kernel
theorem d_Mo_shift_209 : decode b_Mo_shift 209 = .ok (.sipush 2048, 3) := by decide +kernel
theorem d_Mo_shift_212 : decode b_Mo_shift 212 = .ok (.iload 6, 2) := by decide +kernel
theorem d_Mo_shift_214 : decode b_Mo_shift 214 = .ok (.invokevirtual 61, 3) := by decide +kernel
theorem d_Mo_shift_217 : decode b_Mo_shift 217 = .ok (.aload_n 0, 1) := by decide +kernel
theorem d_Mo_shift_218 : decode b_Mo_shift 218 = .ok (.iload_n 2, 1) := by decide +kernel
theorem d_Mo_shift_219 : decode b_Mo_shift 219 = .ok (.iload 5, 2) := by decide +kernel
theorem d_Mo_shift_221 : decode b_Mo_shift 221 = .ok (.invokevirtual 53, 3) := by decide +kernel
theorem d_Mo_shift_224 : decode b_Mo_shift 224 = .ok (.return_, 1) := by decide +kernel
theorem d_Mo_oneOperand_0 : decode b_Mo_oneOperand 0 = .ok (.iload_n 1, 1) := by decide +kernel
theorem d_Mo_oneOperand_1 : decode b_Mo_oneOperand 1 = .ok (.bipush 6, 2) := by decide +kernel
theorem d_Mo_oneOperand_3 : decode b_Mo_oneOperand 3 = .ok (.ishr, 1) := by decide +kernel
theorem d_Mo_oneOperand_4 : decode b_Mo_oneOperand 4 = .ok (.bipush 15, 2) := by decide +kernel
theorem d_Mo_oneOperand_6 : decode b_Mo_oneOperand 6 = .ok (.iand, 1) := by decide +kernel
theorem d_Mo_oneOperand_7 : decode b_Mo_oneOperand 7 = .ok (.istore_n 2, 1) := by decide +kernel
theorem d_Mo_oneOperand_8 : decode b_Mo_oneOperand 8 = .ok (.aload_n 0, 1) := by decide +kernel
theorem d_Mo_oneOperand_9 : decode b_Mo_oneOperand 9 = .ok (.iload_n 1, 1) := by decide +kernel
theorem d_Mo_oneOperand_10 : decode b_Mo_oneOperand 10 = .ok (.bipush 63, 2) := by decide +kernel
theorem d_Mo_oneOperand_12 : decode b_Mo_oneOperand 12 = .ok (.iand, 1) := by decide +kernel
theorem d_Mo_oneOperand_13 : decode b_Mo_oneOperand 13 = .ok (.iconst 0, 1) := by decide +kernel
theorem d_Mo_oneOperand_14 : decode b_Mo_oneOperand 14 = .ok (.invokevirtual 71, 3) := by decide +kernel
theorem d_Mo_oneOperand_17 : decode b_Mo_oneOperand 17 = .ok (.istore_n 3, 1) := by decide +kernel
theorem d_Mo_oneOperand_18 : decode b_Mo_oneOperand 18 = .ok (.aload_n 0, 1) := by decide +kernel
theorem d_Mo_oneOperand_19 : decode b_Mo_oneOperand 19 = .ok (.iload_n 3, 1) := by decide +kernel
theorem d_Mo_oneOperand_20 : decode b_Mo_oneOperand 20 = .ok (.invokevirtual 28, 3) := by decide +kernel
theorem d_Mo_oneOperand_23 : decode b_Mo_oneOperand 23 = .ok (.istore 4, 2) := by decide +kernel
theorem d_Mo_oneOperand_25 : decode b_Mo_oneOperand 25 = .ok (.iload_n 2, 1) := by decide +kernel
theorem d_Mo_oneOperand_26 : decode b_Mo_oneOperand 26 = .ok (.ifCond .ne 11, 3) := by decide +kernel
theorem d_Mo_oneOperand_29 : decode b_Mo_oneOperand 29 = .ok (.aload_n 0, 1) := by decide +kernel
theorem d_Mo_oneOperand_30 : decode b_Mo_oneOperand 30 = .ok (.iload_n 3, 1) := by decide +kernel
theorem d_Mo_oneOperand_31 : decode b_Mo_oneOperand 31 = .ok (.invokevirtual 99, 3) := by decide +kernel
theorem d_Mo_oneOperand_34 : decode b_Mo_oneOperand 34 = .ok (.goto 304, 3) := by decide +kernel
theorem d_Mo_oneOperand_37 : decode b_Mo_oneOperand 37 = .ok (.iload_n 2, 1) := by decide +kernel
theorem d_Mo_oneOperand_38 : decode b_Mo_oneOperand 38 = .ok (.iconst 1, 1) := by decide +kernel
theorem d_Mo_oneOperand_39 : decode b_Mo_oneOperand 39 = .ok (.if_icmp .ne 15, 3) := by decide +kernel
theorem d_Mo_oneOperand_42 : decode b_Mo_oneOperand 42 = .ok (.aload_n 0, 1) := by decide +kernel
theorem d_Mo_oneOperand_43 : decode b_Mo_oneOperand 43 = .ok (.iload_n 3, 1) := by decide +kernel
theorem d_Mo_oneOperand_44 : decode b_Mo_oneOperand 44 = .ok (.sipush 1022, 3) := by decide +kernel
theorem d_Mo_oneOperand_47 : decode b_Mo_oneOperand 47 = .ok (.iand, 1) := by decide +kernel
theorem d_Mo_oneOperand_48 : decode b_Mo_oneOperand 48 = .ok (.putfield 36, 3) := by decide +kernel
theorem d_Mo_oneOperand_51 : decode b_Mo_oneOperand 51 = .ok (.goto 287, 3) := by decide +kernel
theorem d_Mo_oneOperand_54 : decode b_Mo_oneOperand 54 = .ok (.iload_n 2, 1) := by decide +kernel
theorem d_Mo_oneOperand_55 : decode b_Mo_oneOperand 55 = .ok (.bipush 10, 2) := by decide +kernel
theorem d_Mo_oneOperand_57 : decode b_Mo_oneOperand 57 = .ok (.if_icmp .ne 25, 3) := by decide +kernel
theorem d_Mo_oneOperand_60 : decode b_Mo_oneOperand 60 = .ok (.aload_n 0, 1) := by decide +kernel
theorem d_Mo_oneOperand_61 : decode b_Mo_oneOperand 61 = .ok (.bipush 11, 2) := by decide +kernel
theorem d_Mo_oneOperand_63 : decode b_Mo_oneOperand 63 = .ok (.aload_n 0, 1) := by decide +kernel
theorem d_Mo_oneOperand_64 : decode b_Mo_oneOperand 64 = .ok (.getfield 36, 3) := by decide +kernel
theorem d_Mo_oneOperand_67 : decode b_Mo_oneOperand 67 = .ok (.invokevirtual 53, 3) := by decide +kernel
theorem d_Mo_oneOperand_70 : decode b_Mo_oneOperand 70 = .ok (.aload_n 0, 1) := by decide +kernel
theorem d_Mo_oneOperand_71 : decode b_Mo_oneOperand 71 = .ok (.iload_n 3, 1) := by decide +kernel
theorem d_Mo_oneOperand_72 : decode b_Mo_oneOperand 72 = .ok (.sipush 1022, 3) := by decide +kernel
theorem d_Mo_oneOperand_75 : decode b_Mo_oneOperand 75 = .ok (.iand, 1) := by decide +kernel
theorem d_Mo_oneOperand_76 : decode b_Mo_oneOperand 76 = .ok (.putfield 36, 3) := by decide +kernel
theorem d_Mo_oneOperand_79 : decode b_Mo_oneOperand 79 = .ok (.goto 259, 3) := by decide +kernel
theorem d_Mo_oneOperand_82 : decode b_Mo_oneOperand 82 = .ok (.iload_n 2, 1) := by decide +kernel
theorem d_Mo_oneOperand_83 : decode b_Mo_oneOperand 83 = .ok (.iconst 5, 1) := by decide +kernel
theorem d_Mo_oneOperand_84 : decode b_Mo_oneOperand 84 = .ok (.if_icmp .le 68, 3) := by decide +kernel
theorem d_Mo_oneOperand_87 : decode b_Mo_oneOperand 87 = .ok (.iload_n 2, 1) := by decide +kernel
theorem d_Mo_oneOperand_88 : decode b_Mo_oneOperand 88 = .ok (.bipush 10, 2) := by decide +kernel
theorem d_Mo_oneOperand_90 : decode b_Mo_oneOperand 90 = .ok (.if_icmp .ge 62, 3) := by decide +kernel
theorem d_Mo_oneOperand_93 : decode b_Mo_oneOperand 93 = .ok (.aload_n 0, 1) := by decide +kernel
theorem d_Mo_oneOperand_94 : decode b_Mo_oneOperand 94 = .ok (.iload 4, 2) := by decide +kernel
theorem d_Mo_oneOperand_96 : decode b_Mo_oneOperand 96 = .ok (.iload_n 2, 1) := by decide +kernel
theorem d_Mo_oneOperand_97 : decode b_Mo_oneOperand 97 = .ok (.bipush 6, 2) := by decide +kernel
theorem d_Mo_oneOperand_99 : decode b_Mo_oneOperand 99 = .ok (.if_icmp .ne 7, 3) := by decide +kernel
theorem d_Mo_oneOperand_102 : decode b_Mo_oneOperand 102 = .ok (.iconst 1, 1) := by decide +kernel
theorem d_Mo_oneOperand_103 : decode b_Mo_oneOperand 103 = .ok (.goto 26, 3) := by decide +kernel
theorem d_Mo_oneOperand_106 : decode b_Mo_oneOperand 106 = .ok (.iload_n 2, 1) := by decide +kernel
theorem d_Mo_oneOperand_107 : decode b_Mo_oneOperand 107 = .ok (.bipush 7, 2) := by decide +kernel
theorem d_Mo_oneOperand_109 : decode b_Mo_oneOperand 109 = .ok (.if_icmp .ne 7, 3) := by decide +kernel
theorem d_Mo_oneOperand_112 : decode b_Mo_oneOperand 112 = .ok (.iconst 2, 1) := by decide +kernel
theorem d_Mo_oneOperand_113 : decode b_Mo_oneOperand 113 = .ok (.goto 16, 3) := by decide +kernel
theorem d_Mo_oneOperand_116 : decode b_Mo_oneOperand 116 = .ok (.iload_n 2, 1) := by decide +kernel
