/-! DECODE ROWS, printed by wip/whole/gen/tables.py -/
theorem d_Mo_worth_36 : decode prog_14_method_37_code 36 = .ok (.iload_n 3, 1) := by decide +kernel
theorem d_Mo_worth_37 : decode prog_14_method_37_code 37 = .ok (.aload_n 0, 1) := by decide +kernel
theorem d_Mo_worth_38 : decode prog_14_method_37_code 38 = .ok (.getfield 28, 3) := by decide +kernel
theorem d_Mo_worth_41 : decode prog_14_method_37_code 41 = .ok (.bipush 40, 2) := by decide +kernel
theorem d_Mo_worth_43 : decode prog_14_method_37_code 43 = .ok (.iload_n 1, 1) := by decide +kernel
theorem d_Mo_worth_44 : decode prog_14_method_37_code 44 = .ok (.imul, 1) := by decide +kernel
theorem d_Mo_worth_45 : decode prog_14_method_37_code 45 = .ok (.iload 4, 2) := by decide +kernel
theorem d_Mo_worth_47 : decode prog_14_method_37_code 47 = .ok (.iadd, 1) := by decide +kernel
theorem d_Mo_worth_48 : decode prog_14_method_37_code 48 = .ok (.iaload, 1) := by decide +kernel
theorem d_Mo_worth_49 : decode prog_14_method_37_code 49 = .ok (.ifCond .le 7, 3) := by decide +kernel
theorem d_Mo_worth_52 : decode prog_14_method_37_code 52 = .ok (.iconst 1, 1) := by decide +kernel
theorem d_Mo_worth_53 : decode prog_14_method_37_code 53 = .ok (.goto 4, 3) := by decide +kernel
theorem d_Mo_worth_56 : decode prog_14_method_37_code 56 = .ok (.iconst 0, 1) := by decide +kernel
theorem d_Mo_worth_57 : decode prog_14_method_37_code 57 = .ok (.iadd, 1) := by decide +kernel
theorem d_Mo_worth_58 : decode prog_14_method_37_code 58 = .ok (.istore_n 3, 1) := by decide +kernel
theorem d_Mo_worth_59 : decode prog_14_method_37_code 59 = .ok (.iinc 4 1, 3) := by decide +kernel
theorem d_Mo_worth_62 : decode prog_14_method_37_code 62 = .ok (.goto (-39), 3) := by decide +kernel
theorem d_Mo_worth_65 : decode prog_14_method_37_code 65 = .ok (.iload_n 3, 1) := by decide +kernel
theorem d_Mo_worth_66 : decode prog_14_method_37_code 66 = .ok (.ireturn, 1) := by decide +kernel
theorem d_Mo_worth_67 : decode prog_14_method_37_code 67 = .ok (.iload_n 2, 1) := by decide +kernel
theorem d_Mo_worth_68 : decode prog_14_method_37_code 68 = .ok (.iconst 5, 1) := by decide +kernel
theorem d_Mo_worth_69 : decode prog_14_method_37_code 69 = .ok (.if_icmp .ge 88, 3) := by decide +kernel
theorem d_Mo_worth_72 : decode prog_14_method_37_code 72 = .ok (.iload_n 2, 1) := by decide +kernel
theorem d_Mo_worth_73 : decode prog_14_method_37_code 73 = .ok (.iconst 3, 1) := by decide +kernel
theorem d_Mo_worth_74 : decode prog_14_method_37_code 74 = .ok (.if_icmp .ne 9, 3) := by decide +kernel
theorem d_Mo_worth_77 : decode prog_14_method_37_code 77 = .ok (.aload_n 0, 1) := by decide +kernel
theorem d_Mo_worth_78 : decode prog_14_method_37_code 78 = .ok (.bipush 22, 2) := by decide +kernel
theorem d_Mo_worth_80 : decode prog_14_method_37_code 80 = .ok (.invokevirtual 193, 3) := by decide +kernel
theorem d_Mo_worth_83 : decode prog_14_method_37_code 83 = .ok (.aload_n 0, 1) := by decide +kernel
theorem d_Mo_worth_84 : decode prog_14_method_37_code 84 = .ok (.bipush 21, 2) := by decide +kernel
theorem d_Mo_worth_86 : decode prog_14_method_37_code 86 = .ok (.invokevirtual 193, 3) := by decide +kernel
theorem d_Mo_worth_89 : decode prog_14_method_37_code 89 = .ok (.iconst 0, 1) := by decide +kernel
theorem d_Mo_worth_90 : decode prog_14_method_37_code 90 = .ok (.istore 4, 2) := by decide +kernel
theorem d_Mo_worth_92 : decode prog_14_method_37_code 92 = .ok (.iload 4, 2) := by decide +kernel
theorem d_Mo_worth_94 : decode prog_14_method_37_code 94 = .ok (.iconst 1, 1) := by decide +kernel
theorem d_Mo_worth_95 : decode prog_14_method_37_code 95 = .ok (.iadd, 1) := by decide +kernel
theorem d_Mo_worth_96 : decode prog_14_method_37_code 96 = .ok (.iconst 2, 1) := by decide +kernel
theorem d_Mo_worth_97 : decode prog_14_method_37_code 97 = .ok (.aload_n 0, 1) := by decide +kernel
theorem d_Mo_worth_98 : decode prog_14_method_37_code 98 = .ok (.getfield 25, 3) := by decide +kernel
theorem d_Mo_worth_101 : decode prog_14_method_37_code 101 = .ok (.iload_n 1, 1) := by decide +kernel
theorem d_Mo_worth_102 : decode prog_14_method_37_code 102 = .ok (.iaload, 1) := by decide +kernel
theorem d_Mo_worth_103 : decode prog_14_method_37_code 103 = .ok (.imul, 1) := by decide +kernel
theorem d_Mo_worth_104 : decode prog_14_method_37_code 104 = .ok (.if_icmp .ge 36, 3) := by decide +kernel
theorem d_Mo_worth_107 : decode prog_14_method_37_code 107 = .ok (.iload_n 3, 1) := by decide +kernel
theorem d_Mo_worth_108 : decode prog_14_method_37_code 108 = .ok (.aload_n 0, 1) := by decide +kernel
theorem d_Mo_worth_109 : decode prog_14_method_37_code 109 = .ok (.getfield 34, 3) := by decide +kernel
theorem d_Mo_worth_112 : decode prog_14_method_37_code 112 = .ok (.bipush 40, 2) := by decide +kernel
theorem d_Mo_worth_114 : decode prog_14_method_37_code 114 = .ok (.iload_n 1, 1) := by decide +kernel
theorem d_Mo_worth_115 : decode prog_14_method_37_code 115 = .ok (.imul, 1) := by decide +kernel
theorem d_Mo_worth_116 : decode prog_14_method_37_code 116 = .ok (.iload 4, 2) := by decide +kernel
theorem d_Mo_worth_118 : decode prog_14_method_37_code 118 = .ok (.iadd, 1) := by decide +kernel
theorem d_Mo_worth_119 : decode prog_14_method_37_code 119 = .ok (.iaload, 1) := by decide +kernel
theorem d_Mo_worth_120 : decode prog_14_method_37_code 120 = .ok (.iload 4, 2) := by decide +kernel
theorem d_Mo_worth_122 : decode prog_14_method_37_code 122 = .ok (.iconst 1, 1) := by decide +kernel
theorem d_Mo_worth_123 : decode prog_14_method_37_code 123 = .ok (.iadd, 1) := by decide +kernel
theorem d_Mo_worth_124 : decode prog_14_method_37_code 124 = .ok (.if_icmp .ne 7, 3) := by decide +kernel
theorem d_Mo_worth_127 : decode prog_14_method_37_code 127 = .ok (.iconst 1, 1) := by decide +kernel
theorem d_Mo_worth_128 : decode prog_14_method_37_code 128 = .ok (.goto 4, 3) := by decide +kernel
theorem d_Mo_worth_131 : decode prog_14_method_37_code 131 = .ok (.iconst 0, 1) := by decide +kernel
theorem d_Mo_worth_132 : decode prog_14_method_37_code 132 = .ok (.iadd, 1) := by decide +kernel
theorem d_Mo_worth_133 : decode prog_14_method_37_code 133 = .ok (.istore_n 3, 1) := by decide +kernel
theorem d_Mo_worth_134 : decode prog_14_method_37_code 134 = .ok (.iinc 4 1, 3) := by decide +kernel
theorem d_Mo_worth_137 : decode prog_14_method_37_code 137 = .ok (.goto (-45), 3) := by decide +kernel
theorem d_Mo_worth_140 : decode prog_14_method_37_code 140 = .ok (.iload_n 2, 1) := by decide +kernel
theorem d_Mo_worth_141 : decode prog_14_method_37_code 141 = .ok (.iconst 3, 1) := by decide +kernel
theorem d_Mo_worth_142 : decode prog_14_method_37_code 142 = .ok (.if_icmp .ne 13, 3) := by decide +kernel
theorem d_Mo_worth_145 : decode prog_14_method_37_code 145 = .ok (.iload_n 3, 1) := by decide +kernel
theorem d_Mo_worth_146 : decode prog_14_method_37_code 146 = .ok (.aload_n 0, 1) := by decide +kernel
theorem d_Mo_worth_147 : decode prog_14_method_37_code 147 = .ok (.iload_n 1, 1) := by decide +kernel
theorem d_Mo_worth_148 : decode prog_14_method_37_code 148 = .ok (.invokevirtual 197, 3) := by decide +kernel
theorem d_Mo_worth_151 : decode prog_14_method_37_code 151 = .ok (.iadd, 1) := by decide +kernel
theorem d_Mo_worth_152 : decode prog_14_method_37_code 152 = .ok (.goto 4, 3) := by decide +kernel
theorem d_Mo_worth_155 : decode prog_14_method_37_code 155 = .ok (.iload_n 3, 1) := by decide +kernel
theorem d_Mo_worth_156 : decode prog_14_method_37_code 156 = .ok (.ireturn, 1) := by decide +kernel
theorem d_Mo_worth_157 : decode prog_14_method_37_code 157 = .ok (.iload_n 2, 1) := by decide +kernel
theorem d_Mo_worth_158 : decode prog_14_method_37_code 158 = .ok (.bipush 7, 2) := by decide +kernel
theorem d_Mo_worth_160 : decode prog_14_method_37_code 160 = .ok (.if_icmp .ge 45, 3) := by decide +kernel
theorem d_Mo_worth_163 : decode prog_14_method_37_code 163 = .ok (.iload_n 2, 1) := by decide +kernel
theorem d_Mo_worth_164 : decode prog_14_method_37_code 164 = .ok (.bipush 6, 2) := by decide +kernel
theorem d_Mo_worth_166 : decode prog_14_method_37_code 166 = .ok (.if_icmp .ne 9, 3) := by decide +kernel
theorem d_Mo_worth_169 : decode prog_14_method_37_code 169 = .ok (.aload_n 0, 1) := by decide +kernel
theorem d_Mo_worth_170 : decode prog_14_method_37_code 170 = .ok (.bipush 24, 2) := by decide +kernel
theorem d_Mo_worth_172 : decode prog_14_method_37_code 172 = .ok (.invokevirtual 193, 3) := by decide +kernel
theorem d_Mo_worth_175 : decode prog_14_method_37_code 175 = .ok (.aload_n 0, 1) := by decide +kernel
theorem d_Mo_worth_176 : decode prog_14_method_37_code 176 = .ok (.bipush 23, 2) := by decide +kernel
theorem d_Mo_worth_178 : decode prog_14_method_37_code 178 = .ok (.invokevirtual 193, 3) := by decide +kernel
theorem d_Mo_worth_181 : decode prog_14_method_37_code 181 = .ok (.aload_n 0, 1) := by decide +kernel
theorem d_Mo_worth_182 : decode prog_14_method_37_code 182 = .ok (.iload_n 1, 1) := by decide +kernel
theorem d_Mo_worth_183 : decode prog_14_method_37_code 183 = .ok (.invokevirtual 141, 3) := by decide +kernel
theorem d_Mo_worth_186 : decode prog_14_method_37_code 186 = .ok (.istore_n 3, 1) := by decide +kernel
theorem d_Mo_worth_187 : decode prog_14_method_37_code 187 = .ok (.iload_n 2, 1) := by decide +kernel
theorem d_Mo_worth_188 : decode prog_14_method_37_code 188 = .ok (.bipush 6, 2) := by decide +kernel
theorem d_Mo_worth_190 : decode prog_14_method_37_code 190 = .ok (.if_icmp .ne 13, 3) := by decide +kernel
theorem d_Mo_worth_193 : decode prog_14_method_37_code 193 = .ok (.iload_n 3, 1) := by decide +kernel
theorem d_Mo_worth_194 : decode prog_14_method_37_code 194 = .ok (.aload_n 0, 1) := by decide +kernel
theorem d_Mo_worth_195 : decode prog_14_method_37_code 195 = .ok (.iload_n 1, 1) := by decide +kernel
theorem d_Mo_worth_196 : decode prog_14_method_37_code 196 = .ok (.invokevirtual 197, 3) := by decide +kernel
theorem d_Mo_worth_199 : decode prog_14_method_37_code 199 = .ok (.imul, 1) := by decide +kernel
theorem d_Mo_worth_200 : decode prog_14_method_37_code 200 = .ok (.goto 4, 3) := by decide +kernel
theorem d_Mo_worth_203 : decode prog_14_method_37_code 203 = .ok (.iload_n 3, 1) := by decide +kernel
theorem d_Mo_worth_204 : decode prog_14_method_37_code 204 = .ok (.ireturn, 1) := by decide +kernel
theorem d_Mo_worth_205 : decode prog_14_method_37_code 205 = .ok (.iload_n 2, 1) := by decide +kernel
theorem d_Mo_worth_206 : decode prog_14_method_37_code 206 = .ok (.bipush 8, 2) := by decide +kernel
theorem d_Mo_worth_208 : decode prog_14_method_37_code 208 = .ok (.if_icmp .ne 9, 3) := by decide +kernel
theorem d_Mo_worth_211 : decode prog_14_method_37_code 211 = .ok (.aload_n 0, 1) := by decide +kernel
theorem d_Mo_worth_212 : decode prog_14_method_37_code 212 = .ok (.bipush 26, 2) := by decide +kernel
theorem d_Mo_worth_214 : decode prog_14_method_37_code 214 = .ok (.invokevirtual 193, 3) := by decide +kernel
theorem d_Mo_worth_217 : decode prog_14_method_37_code 217 = .ok (.aload_n 0, 1) := by decide +kernel
theorem d_Mo_worth_218 : decode prog_14_method_37_code 218 = .ok (.bipush 25, 2) := by decide +kernel
theorem d_Mo_worth_220 : decode prog_14_method_37_code 220 = .ok (.invokevirtual 193, 3) := by decide +kernel
theorem d_Mo_worth_223 : decode prog_14_method_37_code 223 = .ok (.aload_n 0, 1) := by decide +kernel
theorem d_Mo_worth_224 : decode prog_14_method_37_code 224 = .ok (.getfield 28, 3) := by decide +kernel
theorem d_Mo_worth_227 : decode prog_14_method_37_code 227 = .ok (.bipush 40, 2) := by decide +kernel
theorem d_Mo_worth_229 : decode prog_14_method_37_code 229 = .ok (.iload_n 1, 1) := by decide +kernel
theorem d_Mo_worth_230 : decode prog_14_method_37_code 230 = .ok (.imul, 1) := by decide +kernel
theorem d_Mo_worth_231 : decode prog_14_method_37_code 231 = .ok (.iload_n 3, 1) := by decide +kernel
theorem d_Mo_worth_232 : decode prog_14_method_37_code 232 = .ok (.iadd, 1) := by decide +kernel
theorem d_Mo_worth_233 : decode prog_14_method_37_code 233 = .ok (.iaload, 1) := by decide +kernel
theorem d_Mo_worth_234 : decode prog_14_method_37_code 234 = .ok (.ifCond .eq 9, 3) := by decide +kernel
theorem d_Mo_worth_237 : decode prog_14_method_37_code 237 = .ok (.iinc 3 1, 3) := by decide +kernel
theorem d_Mo_worth_240 : decode prog_14_method_37_code 240 = .ok (.goto (-17), 3) := by decide +kernel
theorem d_Mo_worth_243 : decode prog_14_method_37_code 243 = .ok (.iload_n 2, 1) := by decide +kernel
theorem d_Mo_worth_244 : decode prog_14_method_37_code 244 = .ok (.bipush 8, 2) := by decide +kernel
theorem d_Mo_worth_246 : decode prog_14_method_37_code 246 = .ok (.if_icmp .ne 10, 3) := by decide +kernel
theorem d_Mo_worth_249 : decode prog_14_method_37_code 249 = .ok (.iload_n 3, 1) := by decide +kernel
theorem d_Mo_worth_250 : decode prog_14_method_37_code 250 = .ok (.bipush 100, 2) := by decide +kernel
theorem d_Mo_worth_252 : decode prog_14_method_37_code 252 = .ok (.iadd, 1) := by decide +kernel
theorem d_Mo_worth_253 : decode prog_14_method_37_code 253 = .ok (.goto 4, 3) := by decide +kernel
theorem d_Mo_worth_256 : decode prog_14_method_37_code 256 = .ok (.iload_n 3, 1) := by decide +kernel
theorem d_Mo_worth_257 : decode prog_14_method_37_code 257 = .ok (.ireturn, 1) := by decide +kernel
theorem d_Mo_mark_0 : decode prog_14_method_38_code 0 = .ok (.aload_n 0, 1) := by decide +kernel
theorem d_Mo_mark_1 : decode prog_14_method_38_code 1 = .ok (.getfield 22, 3) := by decide +kernel
theorem d_Mo_mark_4 : decode prog_14_method_38_code 4 = .ok (.iload_n 1, 1) := by decide +kernel
theorem d_Mo_mark_5 : decode prog_14_method_38_code 5 = .ok (.iaload, 1) := by decide +kernel
theorem d_Mo_mark_6 : decode prog_14_method_38_code 6 = .ok (.istore_n 2, 1) := by decide +kernel
theorem d_Mo_mark_7 : decode prog_14_method_38_code 7 = .ok (.iload_n 2, 1) := by decide +kernel
theorem d_Mo_mark_8 : decode prog_14_method_38_code 8 = .ok (.iconst 2, 1) := by decide +kernel
theorem d_Mo_mark_9 : decode prog_14_method_38_code 9 = .ok (.invokestatic 161, 3) := by decide +kernel
theorem d_Mo_mark_12 : decode prog_14_method_38_code 12 = .ok (.istore_n 3, 1) := by decide +kernel
theorem d_Mo_mark_13 : decode prog_14_method_38_code 13 = .ok (.iload_n 2, 1) := by decide +kernel
theorem d_Mo_mark_14 : decode prog_14_method_38_code 14 = .ok (.iconst 4, 1) := by decide +kernel
theorem d_Mo_mark_15 : decode prog_14_method_38_code 15 = .ok (.if_icmp .ne 9, 3) := by decide +kernel
theorem d_Mo_mark_18 : decode prog_14_method_38_code 18 = .ok (.aload_n 0, 1) := by decide +kernel
theorem d_Mo_mark_19 : decode prog_14_method_38_code 19 = .ok (.bipush 32, 2) := by decide +kernel
theorem d_Mo_mark_21 : decode prog_14_method_38_code 21 = .ok (.invokevirtual 193, 3) := by decide +kernel
theorem d_Mo_mark_24 : decode prog_14_method_38_code 24 = .ok (.iload_n 3, 1) := by decide +kernel
theorem d_Mo_mark_25 : decode prog_14_method_38_code 25 = .ok (.ifCond .eq 9, 3) := by decide +kernel
theorem d_Mo_mark_28 : decode prog_14_method_38_code 28 = .ok (.aload_n 0, 1) := by decide +kernel
theorem d_Mo_mark_29 : decode prog_14_method_38_code 29 = .ok (.bipush 31, 2) := by decide +kernel
theorem d_Mo_mark_31 : decode prog_14_method_38_code 31 = .ok (.invokevirtual 193, 3) := by decide +kernel
theorem d_Mo_mark_34 : decode prog_14_method_38_code 34 = .ok (.iload_n 2, 1) := by decide +kernel
theorem d_Mo_mark_35 : decode prog_14_method_38_code 35 = .ok (.bipush 8, 2) := by decide +kernel
theorem d_Mo_mark_37 : decode prog_14_method_38_code 37 = .ok (.if_icmp .ne 9, 3) := by decide +kernel
theorem d_Mo_mark_40 : decode prog_14_method_38_code 40 = .ok (.aload_n 0, 1) := by decide +kernel
theorem d_Mo_mark_41 : decode prog_14_method_38_code 41 = .ok (.bipush 33, 2) := by decide +kernel
theorem d_Mo_mark_43 : decode prog_14_method_38_code 43 = .ok (.invokevirtual 193, 3) := by decide +kernel
theorem d_Mo_mark_46 : decode prog_14_method_38_code 46 = .ok (.aload_n 0, 1) := by decide +kernel
theorem d_Mo_mark_47 : decode prog_14_method_38_code 47 = .ok (.bipush 30, 2) := by decide +kernel
theorem d_Mo_mark_49 : decode prog_14_method_38_code 49 = .ok (.invokevirtual 193, 3) := by decide +kernel
theorem d_Mo_mark_52 : decode prog_14_method_38_code 52 = .ok (.aload_n 0, 1) := by decide +kernel
theorem d_Mo_mark_53 : decode prog_14_method_38_code 53 = .ok (.iload_n 1, 1) := by decide +kernel
theorem d_Mo_mark_54 : decode prog_14_method_38_code 54 = .ok (.invokevirtual 197, 3) := by decide +kernel
theorem d_Mo_mark_57 : decode prog_14_method_38_code 57 = .ok (.iconst 3, 1) := by decide +kernel
theorem d_Mo_mark_58 : decode prog_14_method_38_code 58 = .ok (.iadd, 1) := by decide +kernel
theorem d_Mo_mark_59 : decode prog_14_method_38_code 59 = .ok (.istore 4, 2) := by decide +kernel
theorem d_Mo_mark_61 : decode prog_14_method_38_code 61 = .ok (.iload_n 3, 1) := by decide +kernel
theorem d_Mo_mark_62 : decode prog_14_method_38_code 62 = .ok (.ifCond .eq 10, 3) := by decide +kernel
theorem d_Mo_mark_65 : decode prog_14_method_38_code 65 = .ok (.iconst 2, 1) := by decide +kernel
theorem d_Mo_mark_66 : decode prog_14_method_38_code 66 = .ok (.iload 4, 2) := by decide +kernel
theorem d_Mo_mark_68 : decode prog_14_method_38_code 68 = .ok (.imul, 1) := by decide +kernel
theorem d_Mo_mark_69 : decode prog_14_method_38_code 69 = .ok (.goto 18, 3) := by decide +kernel
theorem d_Mo_mark_72 : decode prog_14_method_38_code 72 = .ok (.iload_n 2, 1) := by decide +kernel
theorem d_Mo_mark_73 : decode prog_14_method_38_code 73 = .ok (.bipush 8, 2) := by decide +kernel
theorem d_Mo_mark_75 : decode prog_14_method_38_code 75 = .ok (.if_icmp .ne 10, 3) := by decide +kernel
theorem d_Mo_mark_78 : decode prog_14_method_38_code 78 = .ok (.iload 4, 2) := by decide +kernel
theorem d_Mo_mark_80 : decode prog_14_method_38_code 80 = .ok (.iconst 1, 1) := by decide +kernel
theorem d_Mo_mark_81 : decode prog_14_method_38_code 81 = .ok (.isub, 1) := by decide +kernel
theorem d_Mo_mark_82 : decode prog_14_method_38_code 82 = .ok (.goto 5, 3) := by decide +kernel
theorem d_Mo_mark_85 : decode prog_14_method_38_code 85 = .ok (.iload 4, 2) := by decide +kernel
theorem d_Mo_mark_87 : decode prog_14_method_38_code 87 = .ok (.istore 4, 2) := by decide +kernel
theorem d_Mo_mark_89 : decode prog_14_method_38_code 89 = .ok (.iload_n 2, 1) := by decide +kernel
theorem d_Mo_mark_90 : decode prog_14_method_38_code 90 = .ok (.iconst 4, 1) := by decide +kernel
theorem d_Mo_mark_91 : decode prog_14_method_38_code 91 = .ok (.if_icmp .ne 14, 3) := by decide +kernel
theorem d_Mo_mark_94 : decode prog_14_method_38_code 94 = .ok (.iload 4, 2) := by decide +kernel
theorem d_Mo_mark_96 : decode prog_14_method_38_code 96 = .ok (.aload_n 0, 1) := by decide +kernel
theorem d_Mo_mark_97 : decode prog_14_method_38_code 97 = .ok (.iload_n 1, 1) := by decide +kernel
theorem d_Mo_mark_98 : decode prog_14_method_38_code 98 = .ok (.invokevirtual 200, 3) := by decide +kernel
theorem d_Mo_mark_101 : decode prog_14_method_38_code 101 = .ok (.iadd, 1) := by decide +kernel
theorem d_Mo_mark_102 : decode prog_14_method_38_code 102 = .ok (.goto 5, 3) := by decide +kernel
theorem d_Mo_mark_105 : decode prog_14_method_38_code 105 = .ok (.iload 4, 2) := by decide +kernel
theorem d_Mo_mark_107 : decode prog_14_method_38_code 107 = .ok (.ireturn, 1) := by decide +kernel
theorem d_Mo_trace_0 : decode prog_14_method_40_code 0 = .ok (.iload_n 1, 1) := by decide +kernel
theorem d_Mo_trace_1 : decode prog_14_method_40_code 1 = .ok (.i2l, 1) := by decide +kernel
theorem d_Mo_trace_2 : decode prog_14_method_40_code 2 = .ok (.lconst 0, 1) := by decide +kernel
theorem d_Mo_trace_3 : decode prog_14_method_40_code 3 = .ok (.aload_n 0, 1) := by decide +kernel
theorem d_Mo_trace_4 : decode prog_14_method_40_code 4 = .ok (.getfield 190, 3) := by decide +kernel
theorem d_Mo_trace_7 : decode prog_14_method_40_code 7 = .ok (.iconst 1, 1) := by decide +kernel
theorem d_Mo_trace_8 : decode prog_14_method_40_code 8 = .ok (.isub, 1) := by decide +kernel
theorem d_Mo_trace_9 : decode prog_14_method_40_code 9 = .ok (.i2l, 1) := by decide +kernel
theorem d_Mo_trace_10 : decode prog_14_method_40_code 10 = .ok (.invokestatic 102, 3) := by decide +kernel
theorem d_Mo_trace_13 : decode prog_14_method_40_code 13 = .ok (.ifCond .eq 12, 3) := by decide +kernel
theorem d_Mo_trace_16 : decode prog_14_method_40_code 16 = .ok (.aload_n 0, 1) := by decide +kernel
theorem d_Mo_trace_17 : decode prog_14_method_40_code 17 = .ok (.getfield 40, 3) := by decide +kernel
theorem d_Mo_trace_20 : decode prog_14_method_40_code 20 = .ok (.iload_n 1, 1) := by decide +kernel
theorem d_Mo_trace_21 : decode prog_14_method_40_code 21 = .ok (.iaload, 1) := by decide +kernel
theorem d_Mo_trace_22 : decode prog_14_method_40_code 22 = .ok (.goto 5, 3) := by decide +kernel
theorem d_Mo_trace_25 : decode prog_14_method_40_code 25 = .ok (.ldc 136, 2) := by decide +kernel
theorem d_Mo_trace_27 : decode prog_14_method_40_code 27 = .ok (.ireturn, 1) := by decide +kernel
theorem d_Mo_sign_0 : decode prog_14_method_41_code 0 = .ok (.iload_n 1, 1) := by decide +kernel
theorem d_Mo_sign_1 : decode prog_14_method_41_code 1 = .ok (.invokestatic 152, 3) := by decide +kernel
theorem d_Mo_sign_4 : decode prog_14_method_41_code 4 = .ok (.ifCond .ne 6, 3) := by decide +kernel
theorem d_Mo_sign_7 : decode prog_14_method_41_code 7 = .ok (.ldc 112, 2) := by decide +kernel
theorem d_Mo_sign_9 : decode prog_14_method_41_code 9 = .ok (.ireturn, 1) := by decide +kernel
theorem d_Mo_sign_10 : decode prog_14_method_41_code 10 = .ok (.aload_n 0, 1) := by decide +kernel
theorem d_Mo_sign_11 : decode prog_14_method_41_code 11 = .ok (.iload_n 1, 1) := by decide +kernel
theorem d_Mo_sign_12 : decode prog_14_method_41_code 12 = .ok (.iconst 1, 1) := by decide +kernel
theorem d_Mo_sign_13 : decode prog_14_method_41_code 13 = .ok (.invokevirtual 165, 3) := by decide +kernel
theorem d_Mo_sign_16 : decode prog_14_method_41_code 16 = .ok (.istore_n 3, 1) := by decide +kernel
theorem d_Mo_sign_17 : decode prog_14_method_41_code 17 = .ok (.iload_n 3, 1) := by decide +kernel
theorem d_Mo_sign_18 : decode prog_14_method_41_code 18 = .ok (.ifCond .eq 5, 3) := by decide +kernel
theorem d_Mo_sign_21 : decode prog_14_method_41_code 21 = .ok (.iload_n 3, 1) := by decide +kernel
theorem d_Mo_sign_22 : decode prog_14_method_41_code 22 = .ok (.ireturn, 1) := by decide +kernel
theorem d_Mo_sign_23 : decode prog_14_method_41_code 23 = .ok (.iload_n 2, 1) := by decide +kernel
theorem d_Mo_sign_24 : decode prog_14_method_41_code 24 = .ok (.i2l, 1) := by decide +kernel
theorem d_Mo_sign_25 : decode prog_14_method_41_code 25 = .ok (.lconst 0, 1) := by decide +kernel
theorem d_Mo_sign_26 : decode prog_14_method_41_code 26 = .ok (.iconst 2, 1) := by decide +kernel
theorem d_Mo_sign_27 : decode prog_14_method_41_code 27 = .ok (.aload_n 0, 1) := by decide +kernel
theorem d_Mo_sign_28 : decode prog_14_method_41_code 28 = .ok (.getfield 25, 3) := by decide +kernel
theorem d_Mo_sign_31 : decode prog_14_method_41_code 31 = .ok (.iload_n 1, 1) := by decide +kernel
theorem d_Mo_sign_32 : decode prog_14_method_41_code 32 = .ok (.iaload, 1) := by decide +kernel
theorem d_Mo_sign_33 : decode prog_14_method_41_code 33 = .ok (.imul, 1) := by decide +kernel
theorem d_Mo_sign_34 : decode prog_14_method_41_code 34 = .ok (.iconst 1, 1) := by decide +kernel
theorem d_Mo_sign_35 : decode prog_14_method_41_code 35 = .ok (.isub, 1) := by decide +kernel
theorem d_Mo_sign_36 : decode prog_14_method_41_code 36 = .ok (.i2l, 1) := by decide +kernel
theorem d_Mo_sign_37 : decode prog_14_method_41_code 37 = .ok (.invokestatic 102, 3) := by decide +kernel
theorem d_Mo_sign_40 : decode prog_14_method_41_code 40 = .ok (.ifCond .eq 21, 3) := by decide +kernel
theorem d_Mo_sign_43 : decode prog_14_method_41_code 43 = .ok (.aload_n 0, 1) := by decide +kernel
theorem d_Mo_sign_44 : decode prog_14_method_41_code 44 = .ok (.aload_n 0, 1) := by decide +kernel
theorem d_Mo_sign_45 : decode prog_14_method_41_code 45 = .ok (.getfield 28, 3) := by decide +kernel
theorem d_Mo_sign_48 : decode prog_14_method_41_code 48 = .ok (.bipush 40, 2) := by decide +kernel
theorem d_Mo_sign_50 : decode prog_14_method_41_code 50 = .ok (.iload_n 1, 1) := by decide +kernel
theorem d_Mo_sign_51 : decode prog_14_method_41_code 51 = .ok (.imul, 1) := by decide +kernel
theorem d_Mo_sign_52 : decode prog_14_method_41_code 52 = .ok (.iload_n 2, 1) := by decide +kernel
theorem d_Mo_sign_53 : decode prog_14_method_41_code 53 = .ok (.iadd, 1) := by decide +kernel
theorem d_Mo_sign_54 : decode prog_14_method_41_code 54 = .ok (.iaload, 1) := by decide +kernel
theorem d_Mo_sign_55 : decode prog_14_method_41_code 55 = .ok (.invokevirtual 117, 3) := by decide +kernel
theorem d_Mo_sign_58 : decode prog_14_method_41_code 58 = .ok (.goto 5, 3) := by decide +kernel
theorem d_Mo_sign_61 : decode prog_14_method_41_code 61 = .ok (.ldc 112, 2) := by decide +kernel
theorem d_Mo_sign_63 : decode prog_14_method_41_code 63 = .ok (.ireturn, 1) := by decide +kernel
theorem d_Mo_joined_0 : decode prog_14_method_42_code 0 = .ok (.iload_n 1, 1) := by decide +kernel
theorem d_Mo_joined_1 : decode prog_14_method_42_code 1 = .ok (.invokestatic 152, 3) := by decide +kernel
theorem d_Mo_joined_4 : decode prog_14_method_42_code 4 = .ok (.ifCond .ne 6, 3) := by decide +kernel
theorem d_Mo_joined_7 : decode prog_14_method_42_code 7 = .ok (.ldc 112, 2) := by decide +kernel
theorem d_Mo_joined_9 : decode prog_14_method_42_code 9 = .ok (.ireturn, 1) := by decide +kernel
theorem d_Mo_joined_10 : decode prog_14_method_42_code 10 = .ok (.aload_n 0, 1) := by decide +kernel
theorem d_Mo_joined_11 : decode prog_14_method_42_code 11 = .ok (.iload_n 1, 1) := by decide +kernel
theorem d_Mo_joined_12 : decode prog_14_method_42_code 12 = .ok (.iconst 2, 1) := by decide +kernel
theorem d_Mo_joined_13 : decode prog_14_method_42_code 13 = .ok (.invokevirtual 165, 3) := by decide +kernel
theorem d_Mo_joined_16 : decode prog_14_method_42_code 16 = .ok (.istore_n 3, 1) := by decide +kernel
theorem d_Mo_joined_17 : decode prog_14_method_42_code 17 = .ok (.iload_n 3, 1) := by decide +kernel
theorem d_Mo_joined_18 : decode prog_14_method_42_code 18 = .ok (.ifCond .eq 5, 3) := by decide +kernel
theorem d_Mo_joined_21 : decode prog_14_method_42_code 21 = .ok (.iload_n 3, 1) := by decide +kernel
theorem d_Mo_joined_22 : decode prog_14_method_42_code 22 = .ok (.ireturn, 1) := by decide +kernel
theorem d_Mo_joined_23 : decode prog_14_method_42_code 23 = .ok (.iload_n 2, 1) := by decide +kernel
theorem d_Mo_joined_24 : decode prog_14_method_42_code 24 = .ok (.i2l, 1) := by decide +kernel
theorem d_Mo_joined_25 : decode prog_14_method_42_code 25 = .ok (.lconst 0, 1) := by decide +kernel
theorem d_Mo_joined_26 : decode prog_14_method_42_code 26 = .ok (.iconst 2, 1) := by decide +kernel
theorem d_Mo_joined_27 : decode prog_14_method_42_code 27 = .ok (.aload_n 0, 1) := by decide +kernel
theorem d_Mo_joined_28 : decode prog_14_method_42_code 28 = .ok (.getfield 25, 3) := by decide +kernel
theorem d_Mo_joined_31 : decode prog_14_method_42_code 31 = .ok (.iload_n 1, 1) := by decide +kernel
theorem d_Mo_joined_32 : decode prog_14_method_42_code 32 = .ok (.iaload, 1) := by decide +kernel
theorem d_Mo_joined_33 : decode prog_14_method_42_code 33 = .ok (.imul, 1) := by decide +kernel
theorem d_Mo_joined_34 : decode prog_14_method_42_code 34 = .ok (.iconst 1, 1) := by decide +kernel
theorem d_Mo_joined_35 : decode prog_14_method_42_code 35 = .ok (.isub, 1) := by decide +kernel
theorem d_Mo_joined_36 : decode prog_14_method_42_code 36 = .ok (.i2l, 1) := by decide +kernel
theorem d_Mo_joined_37 : decode prog_14_method_42_code 37 = .ok (.invokestatic 102, 3) := by decide +kernel
theorem d_Mo_joined_40 : decode prog_14_method_42_code 40 = .ok (.ifCond .eq 21, 3) := by decide +kernel
theorem d_Mo_joined_43 : decode prog_14_method_42_code 43 = .ok (.aload_n 0, 1) := by decide +kernel
theorem d_Mo_joined_44 : decode prog_14_method_42_code 44 = .ok (.aload_n 0, 1) := by decide +kernel
theorem d_Mo_joined_45 : decode prog_14_method_42_code 45 = .ok (.getfield 34, 3) := by decide +kernel
theorem d_Mo_joined_48 : decode prog_14_method_42_code 48 = .ok (.bipush 40, 2) := by decide +kernel
theorem d_Mo_joined_50 : decode prog_14_method_42_code 50 = .ok (.iload_n 1, 1) := by decide +kernel
theorem d_Mo_joined_51 : decode prog_14_method_42_code 51 = .ok (.imul, 1) := by decide +kernel
theorem d_Mo_joined_52 : decode prog_14_method_42_code 52 = .ok (.iload_n 2, 1) := by decide +kernel
theorem d_Mo_joined_53 : decode prog_14_method_42_code 53 = .ok (.iadd, 1) := by decide +kernel
theorem d_Mo_joined_54 : decode prog_14_method_42_code 54 = .ok (.iaload, 1) := by decide +kernel
theorem d_Mo_joined_55 : decode prog_14_method_42_code 55 = .ok (.invokevirtual 117, 3) := by decide +kernel
theorem d_Mo_joined_58 : decode prog_14_method_42_code 58 = .ok (.goto 5, 3) := by decide +kernel
theorem d_Mo_joined_61 : decode prog_14_method_42_code 61 = .ok (.ldc 112, 2) := by decide +kernel
theorem d_Mo_joined_63 : decode prog_14_method_42_code 63 = .ok (.ireturn, 1) := by decide +kernel
theorem d_Mo_rank_0 : decode prog_14_method_43_code 0 = .ok (.iload_n 1, 1) := by decide +kernel
theorem d_Mo_rank_1 : decode prog_14_method_43_code 1 = .ok (.invokestatic 152, 3) := by decide +kernel
theorem d_Mo_rank_4 : decode prog_14_method_43_code 4 = .ok (.ifCond .ne 6, 3) := by decide +kernel
theorem d_Mo_rank_7 : decode prog_14_method_43_code 7 = .ok (.ldc 112, 2) := by decide +kernel
theorem d_Mo_rank_9 : decode prog_14_method_43_code 9 = .ok (.ireturn, 1) := by decide +kernel
theorem d_Mo_rank_10 : decode prog_14_method_43_code 10 = .ok (.aload_n 0, 1) := by decide +kernel
theorem d_Mo_rank_11 : decode prog_14_method_43_code 11 = .ok (.iload_n 1, 1) := by decide +kernel
theorem d_Mo_rank_12 : decode prog_14_method_43_code 12 = .ok (.iconst 2, 1) := by decide +kernel
theorem d_Mo_rank_13 : decode prog_14_method_43_code 13 = .ok (.invokevirtual 165, 3) := by decide +kernel
theorem d_Mo_rank_16 : decode prog_14_method_43_code 16 = .ok (.istore_n 2, 1) := by decide +kernel
theorem d_Mo_rank_17 : decode prog_14_method_43_code 17 = .ok (.iload_n 2, 1) := by decide +kernel
theorem d_Mo_rank_18 : decode prog_14_method_43_code 18 = .ok (.ifCond .eq 5, 3) := by decide +kernel
theorem d_Mo_rank_21 : decode prog_14_method_43_code 21 = .ok (.iload_n 2, 1) := by decide +kernel
theorem d_Mo_rank_22 : decode prog_14_method_43_code 22 = .ok (.ireturn, 1) := by decide +kernel
theorem d_Mo_rank_23 : decode prog_14_method_43_code 23 = .ok (.aload_n 0, 1) := by decide +kernel
theorem d_Mo_rank_24 : decode prog_14_method_43_code 24 = .ok (.getfield 25, 3) := by decide +kernel
theorem d_Mo_rank_27 : decode prog_14_method_43_code 27 = .ok (.iload_n 1, 1) := by decide +kernel
theorem d_Mo_rank_28 : decode prog_14_method_43_code 28 = .ok (.iaload, 1) := by decide +kernel
theorem d_Mo_rank_29 : decode prog_14_method_43_code 29 = .ok (.bipush 12, 2) := by decide +kernel
theorem d_Mo_rank_31 : decode prog_14_method_43_code 31 = .ok (.if_icmp .le 8, 3) := by decide +kernel
theorem d_Mo_rank_34 : decode prog_14_method_43_code 34 = .ok (.ldc 206, 2) := by decide +kernel
theorem d_Mo_rank_36 : decode prog_14_method_43_code 36 = .ok (.goto 25, 3) := by decide +kernel
theorem d_Mo_rank_39 : decode prog_14_method_43_code 39 = .ok (.aload_n 0, 1) := by decide +kernel
theorem d_Mo_rank_40 : decode prog_14_method_43_code 40 = .ok (.aload_n 0, 1) := by decide +kernel
theorem d_Mo_rank_41 : decode prog_14_method_43_code 41 = .ok (.aload_n 0, 1) := by decide +kernel
theorem d_Mo_rank_42 : decode prog_14_method_43_code 42 = .ok (.getfield 28, 3) := by decide +kernel
theorem d_Mo_rank_45 : decode prog_14_method_43_code 45 = .ok (.bipush 40, 2) := by decide +kernel
theorem d_Mo_rank_47 : decode prog_14_method_43_code 47 = .ok (.iload_n 1, 1) := by decide +kernel
theorem d_Mo_rank_48 : decode prog_14_method_43_code 48 = .ok (.imul, 1) := by decide +kernel
theorem d_Mo_rank_49 : decode prog_14_method_43_code 49 = .ok (.aload_n 0, 1) := by decide +kernel
theorem d_Mo_rank_50 : decode prog_14_method_43_code 50 = .ok (.getfield 25, 3) := by decide +kernel
theorem d_Mo_rank_53 : decode prog_14_method_43_code 53 = .ok (.iload_n 1, 1) := by decide +kernel
theorem d_Mo_rank_54 : decode prog_14_method_43_code 54 = .ok (.iaload, 1) := by decide +kernel
theorem d_Mo_rank_55 : decode prog_14_method_43_code 55 = .ok (.invokevirtual 207, 3) := by decide +kernel
theorem d_Mo_rank_58 : decode prog_14_method_43_code 58 = .ok (.invokevirtual 117, 3) := by decide +kernel
theorem d_Mo_rank_61 : decode prog_14_method_43_code 61 = .ok (.ireturn, 1) := by decide +kernel
theorem d_Mo_rankOf_0 : decode prog_14_method_25_code 0 = .ok (.iconst 0, 1) := by decide +kernel
theorem d_Mo_rankOf_1 : decode prog_14_method_25_code 1 = .ok (.istore 4, 2) := by decide +kernel
theorem d_Mo_rankOf_3 : decode prog_14_method_25_code 3 = .ok (.iconst 0, 1) := by decide +kernel
theorem d_Mo_rankOf_4 : decode prog_14_method_25_code 4 = .ok (.istore 5, 2) := by decide +kernel
theorem d_Mo_rankOf_6 : decode prog_14_method_25_code 6 = .ok (.iconst 0, 1) := by decide +kernel
theorem d_Mo_rankOf_7 : decode prog_14_method_25_code 7 = .ok (.istore 6, 2) := by decide +kernel
theorem d_Mo_rankOf_9 : decode prog_14_method_25_code 9 = .ok (.iload 6, 2) := by decide +kernel
theorem d_Mo_rankOf_11 : decode prog_14_method_25_code 11 = .ok (.iconst 2, 1) := by decide +kernel
theorem d_Mo_rankOf_12 : decode prog_14_method_25_code 12 = .ok (.iload_n 3, 1) := by decide +kernel
theorem d_Mo_rankOf_13 : decode prog_14_method_25_code 13 = .ok (.imul, 1) := by decide +kernel
theorem d_Mo_rankOf_14 : decode prog_14_method_25_code 14 = .ok (.if_icmp .ge 70, 3) := by decide +kernel
theorem d_Mo_rankOf_17 : decode prog_14_method_25_code 17 = .ok (.aload_n 1, 1) := by decide +kernel
theorem d_Mo_rankOf_18 : decode prog_14_method_25_code 18 = .ok (.iload_n 2, 1) := by decide +kernel
theorem d_Mo_rankOf_19 : decode prog_14_method_25_code 19 = .ok (.iload 6, 2) := by decide +kernel
theorem d_Mo_rankOf_21 : decode prog_14_method_25_code 21 = .ok (.iadd, 1) := by decide +kernel
theorem d_Mo_rankOf_22 : decode prog_14_method_25_code 22 = .ok (.iaload, 1) := by decide +kernel
theorem d_Mo_rankOf_23 : decode prog_14_method_25_code 23 = .ok (.ifCond .le 7, 3) := by decide +kernel
theorem d_Mo_rankOf_26 : decode prog_14_method_25_code 26 = .ok (.iconst 1, 1) := by decide +kernel
theorem d_Mo_rankOf_27 : decode prog_14_method_25_code 27 = .ok (.goto 4, 3) := by decide +kernel
theorem d_Mo_rankOf_30 : decode prog_14_method_25_code 30 = .ok (.iconst 0, 1) := by decide +kernel
theorem d_Mo_rankOf_31 : decode prog_14_method_25_code 31 = .ok (.istore 7, 2) := by decide +kernel
theorem d_Mo_rankOf_33 : decode prog_14_method_25_code 33 = .ok (.iload 4, 2) := by decide +kernel
theorem d_Mo_rankOf_35 : decode prog_14_method_25_code 35 = .ok (.iload 7, 2) := by decide +kernel
theorem d_Mo_rankOf_37 : decode prog_14_method_25_code 37 = .ok (.ifCond .eq 7, 3) := by decide +kernel
theorem d_Mo_rankOf_40 : decode prog_14_method_25_code 40 = .ok (.iconst 0, 1) := by decide +kernel
theorem d_Mo_rankOf_41 : decode prog_14_method_25_code 41 = .ok (.goto 19, 3) := by decide +kernel
theorem d_Mo_rankOf_44 : decode prog_14_method_25_code 44 = .ok (.aload_n 0, 1) := by decide +kernel
theorem d_Mo_rankOf_45 : decode prog_14_method_25_code 45 = .ok (.iconst 2, 1) := by decide +kernel
theorem d_Mo_rankOf_46 : decode prog_14_method_25_code 46 = .ok (.iload_n 3, 1) := by decide +kernel
theorem d_Mo_rankOf_47 : decode prog_14_method_25_code 47 = .ok (.imul, 1) := by decide +kernel
theorem d_Mo_rankOf_48 : decode prog_14_method_25_code 48 = .ok (.iload 6, 2) := by decide +kernel
theorem d_Mo_rankOf_50 : decode prog_14_method_25_code 50 = .ok (.isub, 1) := by decide +kernel
theorem d_Mo_rankOf_51 : decode prog_14_method_25_code 51 = .ok (.iconst 1, 1) := by decide +kernel
theorem d_Mo_rankOf_52 : decode prog_14_method_25_code 52 = .ok (.isub, 1) := by decide +kernel
theorem d_Mo_rankOf_53 : decode prog_14_method_25_code 53 = .ok (.iload 5, 2) := by decide +kernel
theorem d_Mo_rankOf_55 : decode prog_14_method_25_code 55 = .ok (.iconst 1, 1) := by decide +kernel
theorem d_Mo_rankOf_56 : decode prog_14_method_25_code 56 = .ok (.iadd, 1) := by decide +kernel
theorem d_Mo_rankOf_57 : decode prog_14_method_25_code 57 = .ok (.invokevirtual 172, 3) := by decide +kernel
theorem d_Mo_rankOf_60 : decode prog_14_method_25_code 60 = .ok (.iadd, 1) := by decide +kernel
theorem d_Mo_rankOf_61 : decode prog_14_method_25_code 61 = .ok (.istore 4, 2) := by decide +kernel
theorem d_Mo_rankOf_63 : decode prog_14_method_25_code 63 = .ok (.iload 5, 2) := by decide +kernel
theorem d_Mo_rankOf_65 : decode prog_14_method_25_code 65 = .ok (.iload 7, 2) := by decide +kernel
theorem d_Mo_rankOf_67 : decode prog_14_method_25_code 67 = .ok (.ifCond .eq 7, 3) := by decide +kernel
theorem d_Mo_rankOf_70 : decode prog_14_method_25_code 70 = .ok (.iconst 1, 1) := by decide +kernel
theorem d_Mo_rankOf_71 : decode prog_14_method_25_code 71 = .ok (.goto 4, 3) := by decide +kernel
theorem d_Mo_rankOf_74 : decode prog_14_method_25_code 74 = .ok (.iconst (-1), 1) := by decide +kernel
theorem d_Mo_rankOf_75 : decode prog_14_method_25_code 75 = .ok (.iadd, 1) := by decide +kernel
theorem d_Mo_rankOf_76 : decode prog_14_method_25_code 76 = .ok (.istore 5, 2) := by decide +kernel
theorem d_Mo_rankOf_78 : decode prog_14_method_25_code 78 = .ok (.iinc 6 1, 3) := by decide +kernel
theorem d_Mo_rankOf_81 : decode prog_14_method_25_code 81 = .ok (.goto (-72), 3) := by decide +kernel
theorem d_Mo_rankOf_84 : decode prog_14_method_25_code 84 = .ok (.iload 4, 2) := by decide +kernel
theorem d_Mo_rankOf_86 : decode prog_14_method_25_code 86 = .ok (.ireturn, 1) := by decide +kernel
theorem d_Mo_loops_0 : decode prog_14_method_44_code 0 = .ok (.iload_n 1, 1) := by decide +kernel
theorem d_Mo_loops_1 : decode prog_14_method_44_code 1 = .ok (.invokestatic 152, 3) := by decide +kernel
theorem d_Mo_loops_4 : decode prog_14_method_44_code 4 = .ok (.ifCond .ne 6, 3) := by decide +kernel
theorem d_Mo_loops_7 : decode prog_14_method_44_code 7 = .ok (.ldc 112, 2) := by decide +kernel
theorem d_Mo_loops_9 : decode prog_14_method_44_code 9 = .ok (.ireturn, 1) := by decide +kernel
theorem d_Mo_loops_10 : decode prog_14_method_44_code 10 = .ok (.aload_n 0, 1) := by decide +kernel
theorem d_Mo_loops_11 : decode prog_14_method_44_code 11 = .ok (.iload_n 1, 1) := by decide +kernel
theorem d_Mo_loops_12 : decode prog_14_method_44_code 12 = .ok (.iconst 5, 1) := by decide +kernel
theorem d_Mo_loops_13 : decode prog_14_method_44_code 13 = .ok (.invokevirtual 165, 3) := by decide +kernel
theorem d_Mo_loops_16 : decode prog_14_method_44_code 16 = .ok (.istore_n 3, 1) := by decide +kernel
theorem d_Mo_loops_17 : decode prog_14_method_44_code 17 = .ok (.iload_n 3, 1) := by decide +kernel
theorem d_Mo_loops_18 : decode prog_14_method_44_code 18 = .ok (.ifCond .eq 5, 3) := by decide +kernel
theorem d_Mo_loops_21 : decode prog_14_method_44_code 21 = .ok (.iload_n 3, 1) := by decide +kernel
theorem d_Mo_loops_22 : decode prog_14_method_44_code 22 = .ok (.ireturn, 1) := by decide +kernel
theorem d_Mo_loops_23 : decode prog_14_method_44_code 23 = .ok (.iload_n 2, 1) := by decide +kernel
theorem d_Mo_loops_24 : decode prog_14_method_44_code 24 = .ok (.i2l, 1) := by decide +kernel
theorem d_Mo_loops_25 : decode prog_14_method_44_code 25 = .ok (.ldc2_w 211, 3) := by decide +kernel
theorem d_Mo_loops_28 : decode prog_14_method_44_code 28 = .ok (.iconst 2, 1) := by decide +kernel
theorem d_Mo_loops_29 : decode prog_14_method_44_code 29 = .ok (.aload_n 0, 1) := by decide +kernel
theorem d_Mo_loops_30 : decode prog_14_method_44_code 30 = .ok (.getfield 25, 3) := by decide +kernel
theorem d_Mo_loops_33 : decode prog_14_method_44_code 33 = .ok (.iload_n 1, 1) := by decide +kernel
theorem d_Mo_loops_34 : decode prog_14_method_44_code 34 = .ok (.iaload, 1) := by decide +kernel
theorem d_Mo_loops_35 : decode prog_14_method_44_code 35 = .ok (.imul, 1) := by decide +kernel
theorem d_Mo_loops_36 : decode prog_14_method_44_code 36 = .ok (.iconst 1, 1) := by decide +kernel
theorem d_Mo_loops_37 : decode prog_14_method_44_code 37 = .ok (.isub, 1) := by decide +kernel
theorem d_Mo_loops_38 : decode prog_14_method_44_code 38 = .ok (.i2l, 1) := by decide +kernel
theorem d_Mo_loops_39 : decode prog_14_method_44_code 39 = .ok (.invokestatic 102, 3) := by decide +kernel
theorem d_Mo_loops_42 : decode prog_14_method_44_code 42 = .ok (.ifCond .ne 6, 3) := by decide +kernel
theorem d_Mo_loops_45 : decode prog_14_method_44_code 45 = .ok (.ldc 112, 2) := by decide +kernel
theorem d_Mo_loops_47 : decode prog_14_method_44_code 47 = .ok (.ireturn, 1) := by decide +kernel
theorem d_Mo_loops_48 : decode prog_14_method_44_code 48 = .ok (.aload_n 0, 1) := by decide +kernel
theorem d_Mo_loops_49 : decode prog_14_method_44_code 49 = .ok (.iload_n 1, 1) := by decide +kernel
theorem d_Mo_loops_50 : decode prog_14_method_44_code 50 = .ok (.invokevirtual 141, 3) := by decide +kernel
theorem d_Mo_loops_53 : decode prog_14_method_44_code 53 = .ok (.istore 4, 2) := by decide +kernel
theorem d_Mo_loops_55 : decode prog_14_method_44_code 55 = .ok (.aload_n 0, 1) := by decide +kernel
theorem d_Mo_loops_56 : decode prog_14_method_44_code 56 = .ok (.iload_n 2, 1) := by decide +kernel
theorem d_Mo_loops_57 : decode prog_14_method_44_code 57 = .ok (.ifCond .ge 8, 3) := by decide +kernel
theorem d_Mo_loops_60 : decode prog_14_method_44_code 60 = .ok (.iload 4, 2) := by decide +kernel
theorem d_Mo_loops_62 : decode prog_14_method_44_code 62 = .ok (.goto 9, 3) := by decide +kernel
theorem d_Mo_loops_65 : decode prog_14_method_44_code 65 = .ok (.aload_n 0, 1) := by decide +kernel
theorem d_Mo_loops_66 : decode prog_14_method_44_code 66 = .ok (.getfield 46, 3) := by decide +kernel
theorem d_Mo_loops_69 : decode prog_14_method_44_code 69 = .ok (.iload_n 2, 1) := by decide +kernel
theorem d_Mo_loops_70 : decode prog_14_method_44_code 70 = .ok (.iaload, 1) := by decide +kernel
theorem d_Mo_loops_71 : decode prog_14_method_44_code 71 = .ok (.invokevirtual 117, 3) := by decide +kernel
theorem d_Mo_loops_74 : decode prog_14_method_44_code 74 = .ok (.ireturn, 1) := by decide +kernel
theorem d_Mo_way_0 : decode prog_14_method_45_code 0 = .ok (.iload_n 1, 1) := by decide +kernel
theorem d_Mo_way_1 : decode prog_14_method_45_code 1 = .ok (.invokestatic 152, 3) := by decide +kernel
theorem d_Mo_way_4 : decode prog_14_method_45_code 4 = .ok (.ifCond .ne 6, 3) := by decide +kernel
theorem d_Mo_way_7 : decode prog_14_method_45_code 7 = .ok (.ldc 112, 2) := by decide +kernel
theorem d_Mo_way_9 : decode prog_14_method_45_code 9 = .ok (.ireturn, 1) := by decide +kernel
theorem d_Mo_way_10 : decode prog_14_method_45_code 10 = .ok (.aload_n 0, 1) := by decide +kernel
theorem d_Mo_way_11 : decode prog_14_method_45_code 11 = .ok (.iload_n 1, 1) := by decide +kernel
theorem d_Mo_way_12 : decode prog_14_method_45_code 12 = .ok (.iconst 5, 1) := by decide +kernel
theorem d_Mo_way_13 : decode prog_14_method_45_code 13 = .ok (.invokevirtual 165, 3) := by decide +kernel
theorem d_Mo_way_16 : decode prog_14_method_45_code 16 = .ok (.istore 4, 2) := by decide +kernel
theorem d_Mo_way_18 : decode prog_14_method_45_code 18 = .ok (.iload 4, 2) := by decide +kernel
theorem d_Mo_way_20 : decode prog_14_method_45_code 20 = .ok (.ifCond .eq 6, 3) := by decide +kernel
theorem d_Mo_way_23 : decode prog_14_method_45_code 23 = .ok (.iload 4, 2) := by decide +kernel
theorem d_Mo_way_25 : decode prog_14_method_45_code 25 = .ok (.ireturn, 1) := by decide +kernel
theorem d_Mo_way_26 : decode prog_14_method_45_code 26 = .ok (.iload_n 2, 1) := by decide +kernel
theorem d_Mo_way_27 : decode prog_14_method_45_code 27 = .ok (.i2l, 1) := by decide +kernel
theorem d_Mo_way_28 : decode prog_14_method_45_code 28 = .ok (.lconst 0, 1) := by decide +kernel
theorem d_Mo_way_29 : decode prog_14_method_45_code 29 = .ok (.iconst 2, 1) := by decide +kernel
theorem d_Mo_way_30 : decode prog_14_method_45_code 30 = .ok (.aload_n 0, 1) := by decide +kernel
theorem d_Mo_way_31 : decode prog_14_method_45_code 31 = .ok (.getfield 25, 3) := by decide +kernel
theorem d_Mo_way_34 : decode prog_14_method_45_code 34 = .ok (.iload_n 1, 1) := by decide +kernel
theorem d_Mo_way_35 : decode prog_14_method_45_code 35 = .ok (.iaload, 1) := by decide +kernel
theorem d_Mo_way_36 : decode prog_14_method_45_code 36 = .ok (.imul, 1) := by decide +kernel
theorem d_Mo_way_37 : decode prog_14_method_45_code 37 = .ok (.iconst 1, 1) := by decide +kernel
theorem d_Mo_way_38 : decode prog_14_method_45_code 38 = .ok (.isub, 1) := by decide +kernel
theorem d_Mo_way_39 : decode prog_14_method_45_code 39 = .ok (.i2l, 1) := by decide +kernel
theorem d_Mo_way_40 : decode prog_14_method_45_code 40 = .ok (.invokestatic 102, 3) := by decide +kernel
theorem d_Mo_way_43 : decode prog_14_method_45_code 43 = .ok (.ifCond .ne 6, 3) := by decide +kernel
theorem d_Mo_way_46 : decode prog_14_method_45_code 46 = .ok (.ldc 112, 2) := by decide +kernel
theorem d_Mo_way_48 : decode prog_14_method_45_code 48 = .ok (.ireturn, 1) := by decide +kernel
theorem d_Mo_way_49 : decode prog_14_method_45_code 49 = .ok (.aload_n 0, 1) := by decide +kernel
theorem d_Mo_way_50 : decode prog_14_method_45_code 50 = .ok (.iload_n 1, 1) := by decide +kernel
theorem d_Mo_way_51 : decode prog_14_method_45_code 51 = .ok (.invokevirtual 141, 3) := by decide +kernel
theorem d_Mo_way_54 : decode prog_14_method_45_code 54 = .ok (.istore 5, 2) := by decide +kernel
theorem d_Mo_way_56 : decode prog_14_method_45_code 56 = .ok (.iconst 0, 1) := by decide +kernel
theorem d_Mo_way_57 : decode prog_14_method_45_code 57 = .ok (.istore 6, 2) := by decide +kernel
theorem d_Mo_way_59 : decode prog_14_method_45_code 59 = .ok (.iconst 0, 1) := by decide +kernel
theorem d_Mo_way_60 : decode prog_14_method_45_code 60 = .ok (.istore 7, 2) := by decide +kernel
theorem d_Mo_way_62 : decode prog_14_method_45_code 62 = .ok (.iload 7, 2) := by decide +kernel
theorem d_Mo_way_64 : decode prog_14_method_45_code 64 = .ok (.iconst 2, 1) := by decide +kernel
theorem d_Mo_way_65 : decode prog_14_method_45_code 65 = .ok (.aload_n 0, 1) := by decide +kernel
theorem d_Mo_way_66 : decode prog_14_method_45_code 66 = .ok (.getfield 25, 3) := by decide +kernel
theorem d_Mo_way_69 : decode prog_14_method_45_code 69 = .ok (.iload_n 1, 1) := by decide +kernel
theorem d_Mo_way_70 : decode prog_14_method_45_code 70 = .ok (.iaload, 1) := by decide +kernel
theorem d_Mo_way_71 : decode prog_14_method_45_code 71 = .ok (.imul, 1) := by decide +kernel
theorem d_Mo_way_72 : decode prog_14_method_45_code 72 = .ok (.if_icmp .ge 35, 3) := by decide +kernel
theorem d_Mo_way_75 : decode prog_14_method_45_code 75 = .ok (.iload 6, 2) := by decide +kernel
theorem d_Mo_way_77 : decode prog_14_method_45_code 77 = .ok (.aload_n 0, 1) := by decide +kernel
theorem d_Mo_way_78 : decode prog_14_method_45_code 78 = .ok (.getfield 46, 3) := by decide +kernel
theorem d_Mo_way_81 : decode prog_14_method_45_code 81 = .ok (.iload 7, 2) := by decide +kernel
theorem d_Mo_way_83 : decode prog_14_method_45_code 83 = .ok (.iaload, 1) := by decide +kernel
theorem d_Mo_way_84 : decode prog_14_method_45_code 84 = .ok (.aload_n 0, 1) := by decide +kernel
theorem d_Mo_way_85 : decode prog_14_method_45_code 85 = .ok (.getfield 46, 3) := by decide +kernel
theorem d_Mo_way_88 : decode prog_14_method_45_code 88 = .ok (.iload_n 2, 1) := by decide +kernel
theorem d_Mo_way_89 : decode prog_14_method_45_code 89 = .ok (.iaload, 1) := by decide +kernel
theorem d_Mo_way_90 : decode prog_14_method_45_code 90 = .ok (.if_icmp .ne 7, 3) := by decide +kernel
theorem d_Mo_way_93 : decode prog_14_method_45_code 93 = .ok (.iconst 1, 1) := by decide +kernel
theorem d_Mo_way_94 : decode prog_14_method_45_code 94 = .ok (.goto 4, 3) := by decide +kernel
theorem d_Mo_way_97 : decode prog_14_method_45_code 97 = .ok (.iconst 0, 1) := by decide +kernel
theorem d_Mo_way_98 : decode prog_14_method_45_code 98 = .ok (.iadd, 1) := by decide +kernel
theorem d_Mo_way_99 : decode prog_14_method_45_code 99 = .ok (.istore 6, 2) := by decide +kernel
theorem d_Mo_way_101 : decode prog_14_method_45_code 101 = .ok (.iinc 7 1, 3) := by decide +kernel
theorem d_Mo_way_104 : decode prog_14_method_45_code 104 = .ok (.goto (-42), 3) := by decide +kernel
theorem d_Mo_way_107 : decode prog_14_method_45_code 107 = .ok (.iload_n 3, 1) := by decide +kernel
theorem d_Mo_way_108 : decode prog_14_method_45_code 108 = .ok (.i2l, 1) := by decide +kernel
theorem d_Mo_way_109 : decode prog_14_method_45_code 109 = .ok (.lconst 0, 1) := by decide +kernel
theorem d_Mo_way_110 : decode prog_14_method_45_code 110 = .ok (.iload 6, 2) := by decide +kernel
theorem d_Mo_way_112 : decode prog_14_method_45_code 112 = .ok (.iconst 1, 1) := by decide +kernel
theorem d_Mo_way_113 : decode prog_14_method_45_code 113 = .ok (.isub, 1) := by decide +kernel
theorem d_Mo_way_114 : decode prog_14_method_45_code 114 = .ok (.i2l, 1) := by decide +kernel
theorem d_Mo_way_115 : decode prog_14_method_45_code 115 = .ok (.invokestatic 102, 3) := by decide +kernel
theorem d_Mo_way_118 : decode prog_14_method_45_code 118 = .ok (.ifCond .ne 10, 3) := by decide +kernel
theorem d_Mo_way_121 : decode prog_14_method_45_code 121 = .ok (.aload_n 0, 1) := by decide +kernel
theorem d_Mo_way_122 : decode prog_14_method_45_code 122 = .ok (.ldc 136, 2) := by decide +kernel
theorem d_Mo_way_124 : decode prog_14_method_45_code 124 = .ok (.invokevirtual 117, 3) := by decide +kernel
theorem d_Mo_way_127 : decode prog_14_method_45_code 127 = .ok (.ireturn, 1) := by decide +kernel
theorem d_Mo_way_128 : decode prog_14_method_45_code 128 = .ok (.iload_n 2, 1) := by decide +kernel
theorem d_Mo_way_129 : decode prog_14_method_45_code 129 = .ok (.istore 7, 2) := by decide +kernel
theorem d_Mo_way_131 : decode prog_14_method_45_code 131 = .ok (.iconst 0, 1) := by decide +kernel
theorem d_Mo_way_132 : decode prog_14_method_45_code 132 = .ok (.istore 8, 2) := by decide +kernel
theorem d_Mo_way_134 : decode prog_14_method_45_code 134 = .ok (.iload 8, 2) := by decide +kernel
theorem d_Mo_way_136 : decode prog_14_method_45_code 136 = .ok (.iload_n 3, 1) := by decide +kernel
theorem d_Mo_way_137 : decode prog_14_method_45_code 137 = .ok (.if_icmp .ge 45, 3) := by decide +kernel
theorem d_Mo_way_140 : decode prog_14_method_45_code 140 = .ok (.iload 8, 2) := by decide +kernel
theorem d_Mo_way_142 : decode prog_14_method_45_code 142 = .ok (.iconst 2, 1) := by decide +kernel
theorem d_Mo_way_143 : decode prog_14_method_45_code 143 = .ok (.irem, 1) := by decide +kernel
theorem d_Mo_way_144 : decode prog_14_method_45_code 144 = .ok (.ifCond .ne 18, 3) := by decide +kernel
theorem d_Mo_way_147 : decode prog_14_method_45_code 147 = .ok (.aload_n 0, 1) := by decide +kernel
theorem d_Mo_way_148 : decode prog_14_method_45_code 148 = .ok (.getfield 34, 3) := by decide +kernel
theorem d_Mo_way_151 : decode prog_14_method_45_code 151 = .ok (.bipush 40, 2) := by decide +kernel
theorem d_Mo_way_153 : decode prog_14_method_45_code 153 = .ok (.iload_n 1, 1) := by decide +kernel
theorem d_Mo_way_154 : decode prog_14_method_45_code 154 = .ok (.imul, 1) := by decide +kernel
theorem d_Mo_way_155 : decode prog_14_method_45_code 155 = .ok (.iload 7, 2) := by decide +kernel
theorem d_Mo_way_157 : decode prog_14_method_45_code 157 = .ok (.iadd, 1) := by decide +kernel
theorem d_Mo_way_158 : decode prog_14_method_45_code 158 = .ok (.iaload, 1) := by decide +kernel
theorem d_Mo_way_159 : decode prog_14_method_45_code 159 = .ok (.goto 15, 3) := by decide +kernel
theorem d_Mo_way_162 : decode prog_14_method_45_code 162 = .ok (.aload_n 0, 1) := by decide +kernel
theorem d_Mo_way_163 : decode prog_14_method_45_code 163 = .ok (.getfield 37, 3) := by decide +kernel
theorem d_Mo_way_166 : decode prog_14_method_45_code 166 = .ok (.bipush 40, 2) := by decide +kernel
theorem d_Mo_way_168 : decode prog_14_method_45_code 168 = .ok (.iload_n 1, 1) := by decide +kernel
theorem d_Mo_way_169 : decode prog_14_method_45_code 169 = .ok (.imul, 1) := by decide +kernel
theorem d_Mo_way_170 : decode prog_14_method_45_code 170 = .ok (.iload 7, 2) := by decide +kernel
theorem d_Mo_way_172 : decode prog_14_method_45_code 172 = .ok (.iadd, 1) := by decide +kernel
theorem d_Mo_way_173 : decode prog_14_method_45_code 173 = .ok (.iaload, 1) := by decide +kernel
theorem d_Mo_way_174 : decode prog_14_method_45_code 174 = .ok (.istore 7, 2) := by decide +kernel
theorem d_Mo_way_176 : decode prog_14_method_45_code 176 = .ok (.iinc 8 1, 3) := by decide +kernel
theorem d_Mo_way_179 : decode prog_14_method_45_code 179 = .ok (.goto (-45), 3) := by decide +kernel
theorem d_Mo_way_182 : decode prog_14_method_45_code 182 = .ok (.aload_n 0, 1) := by decide +kernel
theorem d_Mo_way_183 : decode prog_14_method_45_code 183 = .ok (.iload 7, 2) := by decide +kernel
theorem d_Mo_way_185 : decode prog_14_method_45_code 185 = .ok (.invokevirtual 117, 3) := by decide +kernel
theorem d_Mo_way_188 : decode prog_14_method_45_code 188 = .ok (.ireturn, 1) := by decide +kernel
theorem d_Mo_lands_0 : decode prog_14_method_48_code 0 = .ok (.iload_n 1, 1) := by decide +kernel
theorem d_Mo_lands_1 : decode prog_14_method_48_code 1 = .ok (.i2l, 1) := by decide +kernel
theorem d_Mo_lands_2 : decode prog_14_method_48_code 2 = .ok (.lconst 1, 1) := by decide +kernel
theorem d_Mo_lands_3 : decode prog_14_method_48_code 3 = .ok (.ldc2_w 100, 3) := by decide +kernel
theorem d_Mo_lands_6 : decode prog_14_method_48_code 6 = .ok (.invokestatic 102, 3) := by decide +kernel
theorem d_Mo_lands_9 : decode prog_14_method_48_code 9 = .ok (.ifCond .eq 7, 3) := by decide +kernel
theorem d_Mo_lands_12 : decode prog_14_method_48_code 12 = .ok (.iload_n 2, 1) := by decide +kernel
theorem d_Mo_lands_13 : decode prog_14_method_48_code 13 = .ok (.ifCond .ge 6, 3) := by decide +kernel
theorem d_Mo_lands_16 : decode prog_14_method_48_code 16 = .ok (.ldc 112, 2) := by decide +kernel
theorem d_Mo_lands_18 : decode prog_14_method_48_code 18 = .ok (.ireturn, 1) := by decide +kernel
theorem d_Mo_lands_19 : decode prog_14_method_48_code 19 = .ok (.aload_n 0, 1) := by decide +kernel
theorem d_Mo_lands_20 : decode prog_14_method_48_code 20 = .ok (.iload_n 1, 1) := by decide +kernel
theorem d_Mo_lands_21 : decode prog_14_method_48_code 21 = .ok (.invokevirtual 216, 3) := by decide +kernel
theorem d_Mo_lands_24 : decode prog_14_method_48_code 24 = .ok (.iload_n 2, 1) := by decide +kernel
theorem d_Mo_lands_25 : decode prog_14_method_48_code 25 = .ok (.bipush 7, 2) := by decide +kernel
theorem d_Mo_lands_27 : decode prog_14_method_48_code 27 = .ok (.if_icmp .le 7, 3) := by decide +kernel
theorem d_Mo_lands_30 : decode prog_14_method_48_code 30 = .ok (.iconst 0, 1) := by decide +kernel
theorem d_Mo_lands_31 : decode prog_14_method_48_code 31 = .ok (.goto 14, 3) := by decide +kernel
theorem d_Mo_lands_34 : decode prog_14_method_48_code 34 = .ok (.aload_n 0, 1) := by decide +kernel
theorem d_Mo_lands_35 : decode prog_14_method_48_code 35 = .ok (.getfield 65, 3) := by decide +kernel
theorem d_Mo_lands_38 : decode prog_14_method_48_code 38 = .ok (.bipush 8, 2) := by decide +kernel
theorem d_Mo_lands_40 : decode prog_14_method_48_code 40 = .ok (.iload_n 1, 1) := by decide +kernel
theorem d_Mo_lands_41 : decode prog_14_method_48_code 41 = .ok (.imul, 1) := by decide +kernel
theorem d_Mo_lands_42 : decode prog_14_method_48_code 42 = .ok (.iload_n 2, 1) := by decide +kernel
theorem d_Mo_lands_43 : decode prog_14_method_48_code 43 = .ok (.iadd, 1) := by decide +kernel
theorem d_Mo_lands_44 : decode prog_14_method_48_code 44 = .ok (.iaload, 1) := by decide +kernel
theorem d_Mo_lands_45 : decode prog_14_method_48_code 45 = .ok (.ireturn, 1) := by decide +kernel
theorem d_Mo_countLands_0 : decode prog_14_method_47_code 0 = .ok (.aload_n 0, 1) := by decide +kernel
theorem d_Mo_countLands_1 : decode prog_14_method_47_code 1 = .ok (.getfield 68, 3) := by decide +kernel
theorem d_Mo_countLands_4 : decode prog_14_method_47_code 4 = .ok (.iload_n 1, 1) := by decide +kernel
theorem d_Mo_countLands_5 : decode prog_14_method_47_code 5 = .ok (.baload, 1) := by decide +kernel
theorem d_Mo_countLands_6 : decode prog_14_method_47_code 6 = .ok (.ifCond .eq 4, 3) := by decide +kernel
theorem d_Mo_countLands_9 : decode prog_14_method_47_code 9 = .ok (.return_, 1) := by decide +kernel
theorem d_Mo_countLands_10 : decode prog_14_method_47_code 10 = .ok (.aload_n 0, 1) := by decide +kernel
theorem d_Mo_countLands_11 : decode prog_14_method_47_code 11 = .ok (.getfield 68, 3) := by decide +kernel
theorem d_Mo_countLands_14 : decode prog_14_method_47_code 14 = .ok (.iload_n 1, 1) := by decide +kernel
theorem d_Mo_countLands_15 : decode prog_14_method_47_code 15 = .ok (.iconst 1, 1) := by decide +kernel
theorem d_Mo_countLands_16 : decode prog_14_method_47_code 16 = .ok (.bastore, 1) := by decide +kernel
theorem d_Mo_countLands_17 : decode prog_14_method_47_code 17 = .ok (.aload_n 0, 1) := by decide +kernel
theorem d_Mo_countLands_18 : decode prog_14_method_47_code 18 = .ok (.iload_n 1, 1) := by decide +kernel
theorem d_Mo_countLands_19 : decode prog_14_method_47_code 19 = .ok (.invokevirtual 213, 3) := by decide +kernel
theorem d_Mo_countLands_22 : decode prog_14_method_47_code 22 = .ok (.istore_n 2, 1) := by decide +kernel
theorem d_Mo_countLands_23 : decode prog_14_method_47_code 23 = .ok (.iconst 0, 1) := by decide +kernel
theorem d_Mo_countLands_24 : decode prog_14_method_47_code 24 = .ok (.istore_n 3, 1) := by decide +kernel
theorem d_Mo_countLands_25 : decode prog_14_method_47_code 25 = .ok (.iload_n 3, 1) := by decide +kernel
theorem d_Mo_countLands_26 : decode prog_14_method_47_code 26 = .ok (.iload_n 2, 1) := by decide +kernel
theorem d_Mo_countLands_27 : decode prog_14_method_47_code 27 = .ok (.if_icmp .ge 60, 3) := by decide +kernel
theorem d_Mo_countLands_30 : decode prog_14_method_47_code 30 = .ok (.iconst 0, 1) := by decide +kernel
theorem d_Mo_countLands_31 : decode prog_14_method_47_code 31 = .ok (.istore 4, 2) := by decide +kernel
theorem d_Mo_countLands_33 : decode prog_14_method_47_code 33 = .ok (.iload 4, 2) := by decide +kernel
theorem d_Mo_countLands_35 : decode prog_14_method_47_code 35 = .ok (.iload_n 2, 1) := by decide +kernel
theorem d_Mo_countLands_36 : decode prog_14_method_47_code 36 = .ok (.if_icmp .ge 45, 3) := by decide +kernel
theorem d_Mo_countLands_39 : decode prog_14_method_47_code 39 = .ok (.aload_n 0, 1) := by decide +kernel
theorem d_Mo_countLands_40 : decode prog_14_method_47_code 40 = .ok (.getfield 65, 3) := by decide +kernel
theorem d_Mo_countLands_43 : decode prog_14_method_47_code 43 = .ok (.bipush 8, 2) := by decide +kernel
theorem d_Mo_countLands_45 : decode prog_14_method_47_code 45 = .ok (.iload_n 1, 1) := by decide +kernel
theorem d_Mo_countLands_46 : decode prog_14_method_47_code 46 = .ok (.imul, 1) := by decide +kernel
theorem d_Mo_countLands_47 : decode prog_14_method_47_code 47 = .ok (.aload_n 0, 1) := by decide +kernel
theorem d_Mo_countLands_48 : decode prog_14_method_47_code 48 = .ok (.aload_n 0, 1) := by decide +kernel
theorem d_Mo_countLands_49 : decode prog_14_method_47_code 49 = .ok (.getfield 62, 3) := by decide +kernel
theorem d_Mo_countLands_52 : decode prog_14_method_47_code 52 = .ok (.bipush 14, 2) := by decide +kernel
theorem d_Mo_countLands_54 : decode prog_14_method_47_code 54 = .ok (.iload_n 3, 1) := by decide +kernel
theorem d_Mo_countLands_55 : decode prog_14_method_47_code 55 = .ok (.imul, 1) := by decide +kernel
theorem d_Mo_countLands_56 : decode prog_14_method_47_code 56 = .ok (.aload_n 0, 1) := by decide +kernel
theorem d_Mo_countLands_57 : decode prog_14_method_47_code 57 = .ok (.getfield 62, 3) := by decide +kernel
theorem d_Mo_countLands_60 : decode prog_14_method_47_code 60 = .ok (.bipush 14, 2) := by decide +kernel
theorem d_Mo_countLands_62 : decode prog_14_method_47_code 62 = .ok (.iload 4, 2) := by decide +kernel
theorem d_Mo_countLands_64 : decode prog_14_method_47_code 64 = .ok (.imul, 1) := by decide +kernel
theorem d_Mo_countLands_65 : decode prog_14_method_47_code 65 = .ok (.iload_n 1, 1) := by decide +kernel
theorem d_Mo_countLands_66 : decode prog_14_method_47_code 66 = .ok (.invokevirtual 126, 3) := by decide +kernel
theorem d_Mo_countLands_69 : decode prog_14_method_47_code 69 = .ok (.iadd, 1) := by decide +kernel
theorem d_Mo_countLands_70 : decode prog_14_method_47_code 70 = .ok (.dup2, 1) := by decide +kernel
theorem d_Mo_countLands_71 : decode prog_14_method_47_code 71 = .ok (.iaload, 1) := by decide +kernel
theorem d_Mo_countLands_72 : decode prog_14_method_47_code 72 = .ok (.iconst 1, 1) := by decide +kernel
theorem d_Mo_countLands_73 : decode prog_14_method_47_code 73 = .ok (.iadd, 1) := by decide +kernel
theorem d_Mo_countLands_74 : decode prog_14_method_47_code 74 = .ok (.iastore, 1) := by decide +kernel
theorem d_Mo_countLands_75 : decode prog_14_method_47_code 75 = .ok (.iinc 4 1, 3) := by decide +kernel
theorem d_Mo_countLands_78 : decode prog_14_method_47_code 78 = .ok (.goto (-45), 3) := by decide +kernel
theorem d_Mo_countLands_81 : decode prog_14_method_47_code 81 = .ok (.iinc 3 1, 3) := by decide +kernel
theorem d_Mo_countLands_84 : decode prog_14_method_47_code 84 = .ok (.goto (-59), 3) := by decide +kernel
theorem d_Mo_countLands_87 : decode prog_14_method_47_code 87 = .ok (.return_, 1) := by decide +kernel
theorem d_Mo_tellAll_0 : decode prog_14_method_46_code 0 = .ok (.aload_n 0, 1) := by decide +kernel
theorem d_Mo_tellAll_1 : decode prog_14_method_46_code 1 = .ok (.iconst 2, 1) := by decide +kernel
theorem d_Mo_tellAll_2 : decode prog_14_method_46_code 2 = .ok (.iload_n 1, 1) := by decide +kernel
theorem d_Mo_tellAll_3 : decode prog_14_method_46_code 3 = .ok (.imul, 1) := by decide +kernel
theorem d_Mo_tellAll_4 : decode prog_14_method_46_code 4 = .ok (.iconst 0, 1) := by decide +kernel
theorem d_Mo_tellAll_5 : decode prog_14_method_46_code 5 = .ok (.invokevirtual 172, 3) := by decide +kernel
theorem d_Mo_tellAll_8 : decode prog_14_method_46_code 8 = .ok (.istore_n 2, 1) := by decide +kernel
theorem d_Mo_tellAll_9 : decode prog_14_method_46_code 9 = .ok (.iconst 0, 1) := by decide +kernel
theorem d_Mo_tellAll_10 : decode prog_14_method_46_code 10 = .ok (.istore_n 3, 1) := by decide +kernel
theorem d_Mo_tellAll_11 : decode prog_14_method_46_code 11 = .ok (.iload_n 3, 1) := by decide +kernel
theorem d_Mo_tellAll_12 : decode prog_14_method_46_code 12 = .ok (.iload_n 2, 1) := by decide +kernel
theorem d_Mo_tellAll_13 : decode prog_14_method_46_code 13 = .ok (.if_icmp .ge 74, 3) := by decide +kernel
theorem d_Mo_tellAll_16 : decode prog_14_method_46_code 16 = .ok (.aload_n 0, 1) := by decide +kernel
theorem d_Mo_tellAll_17 : decode prog_14_method_46_code 17 = .ok (.aload_n 0, 1) := by decide +kernel
theorem d_Mo_tellAll_18 : decode prog_14_method_46_code 18 = .ok (.getfield 59, 3) := by decide +kernel
theorem d_Mo_tellAll_21 : decode prog_14_method_46_code 21 = .ok (.iconst 0, 1) := by decide +kernel
theorem d_Mo_tellAll_22 : decode prog_14_method_46_code 22 = .ok (.iload_n 1, 1) := by decide +kernel
theorem d_Mo_tellAll_23 : decode prog_14_method_46_code 23 = .ok (.iload_n 3, 1) := by decide +kernel
theorem d_Mo_tellAll_24 : decode prog_14_method_46_code 24 = .ok (.invokevirtual 177, 3) := by decide +kernel
theorem d_Mo_tellAll_27 : decode prog_14_method_46_code 27 = .ok (.istore 4, 2) := by decide +kernel
theorem d_Mo_tellAll_29 : decode prog_14_method_46_code 29 = .ok (.aload_n 0, 1) := by decide +kernel
theorem d_Mo_tellAll_30 : decode prog_14_method_46_code 30 = .ok (.aload_n 0, 1) := by decide +kernel
theorem d_Mo_tellAll_31 : decode prog_14_method_46_code 31 = .ok (.getfield 59, 3) := by decide +kernel
theorem d_Mo_tellAll_34 : decode prog_14_method_46_code 34 = .ok (.aload_n 0, 1) := by decide +kernel
theorem d_Mo_tellAll_35 : decode prog_14_method_46_code 35 = .ok (.getfield 77, 3) := by decide +kernel
theorem d_Mo_tellAll_38 : decode prog_14_method_46_code 38 = .ok (.iconst 0, 1) := by decide +kernel
theorem d_Mo_tellAll_39 : decode prog_14_method_46_code 39 = .ok (.iload_n 1, 1) := by decide +kernel
theorem d_Mo_tellAll_40 : decode prog_14_method_46_code 40 = .ok (.invokevirtual 122, 3) := by decide +kernel
theorem d_Mo_tellAll_43 : decode prog_14_method_46_code 43 = .ok (.istore 4, 2) := by decide +kernel
theorem d_Mo_tellAll_45 : decode prog_14_method_46_code 45 = .ok (.iconst 0, 1) := by decide +kernel
theorem d_Mo_tellAll_46 : decode prog_14_method_46_code 46 = .ok (.istore 5, 2) := by decide +kernel
theorem d_Mo_tellAll_48 : decode prog_14_method_46_code 48 = .ok (.iload 5, 2) := by decide +kernel
theorem d_Mo_tellAll_50 : decode prog_14_method_46_code 50 = .ok (.iconst 2, 1) := by decide +kernel
theorem d_Mo_tellAll_51 : decode prog_14_method_46_code 51 = .ok (.iload_n 1, 1) := by decide +kernel
theorem d_Mo_tellAll_52 : decode prog_14_method_46_code 52 = .ok (.imul, 1) := by decide +kernel
theorem d_Mo_tellAll_53 : decode prog_14_method_46_code 53 = .ok (.if_icmp .ge 28, 3) := by decide +kernel
theorem d_Mo_tellAll_56 : decode prog_14_method_46_code 56 = .ok (.aload_n 0, 1) := by decide +kernel
theorem d_Mo_tellAll_57 : decode prog_14_method_46_code 57 = .ok (.getfield 62, 3) := by decide +kernel
theorem d_Mo_tellAll_60 : decode prog_14_method_46_code 60 = .ok (.bipush 14, 2) := by decide +kernel
theorem d_Mo_tellAll_62 : decode prog_14_method_46_code 62 = .ok (.iload_n 3, 1) := by decide +kernel
theorem d_Mo_tellAll_63 : decode prog_14_method_46_code 63 = .ok (.imul, 1) := by decide +kernel
theorem d_Mo_tellAll_64 : decode prog_14_method_46_code 64 = .ok (.iload 5, 2) := by decide +kernel
theorem d_Mo_tellAll_66 : decode prog_14_method_46_code 66 = .ok (.iadd, 1) := by decide +kernel
theorem d_Mo_tellAll_67 : decode prog_14_method_46_code 67 = .ok (.aload_n 0, 1) := by decide +kernel
theorem d_Mo_tellAll_68 : decode prog_14_method_46_code 68 = .ok (.getfield 77, 3) := by decide +kernel
theorem d_Mo_tellAll_71 : decode prog_14_method_46_code 71 = .ok (.iload 5, 2) := by decide +kernel
theorem d_Mo_tellAll_73 : decode prog_14_method_46_code 73 = .ok (.iaload, 1) := by decide +kernel
theorem d_Mo_tellAll_74 : decode prog_14_method_46_code 74 = .ok (.iastore, 1) := by decide +kernel
theorem d_Mo_tellAll_75 : decode prog_14_method_46_code 75 = .ok (.iinc 5 1, 3) := by decide +kernel
theorem d_Mo_tellAll_78 : decode prog_14_method_46_code 78 = .ok (.goto (-30), 3) := by decide +kernel
theorem d_Mo_tellAll_81 : decode prog_14_method_46_code 81 = .ok (.iinc 3 1, 3) := by decide +kernel
theorem d_Mo_tellAll_84 : decode prog_14_method_46_code 84 = .ok (.goto (-73), 3) := by decide +kernel
theorem d_Mo_tellAll_87 : decode prog_14_method_46_code 87 = .ok (.iload_n 2, 1) := by decide +kernel
theorem d_Mo_tellAll_88 : decode prog_14_method_46_code 88 = .ok (.ireturn, 1) := by decide +kernel
theorem d_Mo_unlike_0 : decode prog_14_method_49_code 0 = .ok (.iload_n 1, 1) := by decide +kernel
theorem d_Mo_unlike_1 : decode prog_14_method_49_code 1 = .ok (.i2l, 1) := by decide +kernel
theorem d_Mo_unlike_2 : decode prog_14_method_49_code 2 = .ok (.lconst 1, 1) := by decide +kernel
theorem d_Mo_unlike_3 : decode prog_14_method_49_code 3 = .ok (.ldc2_w 219, 3) := by decide +kernel
theorem d_Mo_unlike_6 : decode prog_14_method_49_code 6 = .ok (.invokestatic 102, 3) := by decide +kernel
theorem d_Mo_unlike_9 : decode prog_14_method_49_code 9 = .ok (.ifCond .ne 6, 3) := by decide +kernel
theorem d_Mo_unlike_12 : decode prog_14_method_49_code 12 = .ok (.ldc 112, 2) := by decide +kernel
theorem d_Mo_unlike_14 : decode prog_14_method_49_code 14 = .ok (.ireturn, 1) := by decide +kernel
theorem d_Mo_unlike_15 : decode prog_14_method_49_code 15 = .ok (.aload_n 0, 1) := by decide +kernel
theorem d_Mo_unlike_16 : decode prog_14_method_49_code 16 = .ok (.getfield 71, 3) := by decide +kernel
theorem d_Mo_unlike_19 : decode prog_14_method_49_code 19 = .ok (.iload_n 1, 1) := by decide +kernel
theorem d_Mo_unlike_20 : decode prog_14_method_49_code 20 = .ok (.iaload, 1) := by decide +kernel
theorem d_Mo_unlike_21 : decode prog_14_method_49_code 21 = .ok (.ifCond .le 10, 3) := by decide +kernel
theorem d_Mo_unlike_24 : decode prog_14_method_49_code 24 = .ok (.aload_n 0, 1) := by decide +kernel
theorem d_Mo_unlike_25 : decode prog_14_method_49_code 25 = .ok (.getfield 71, 3) := by decide +kernel
theorem d_Mo_unlike_28 : decode prog_14_method_49_code 28 = .ok (.iload_n 1, 1) := by decide +kernel
theorem d_Mo_unlike_29 : decode prog_14_method_49_code 29 = .ok (.iaload, 1) := by decide +kernel
theorem d_Mo_unlike_30 : decode prog_14_method_49_code 30 = .ok (.ireturn, 1) := by decide +kernel
theorem d_Mo_unlike_31 : decode prog_14_method_49_code 31 = .ok (.aload_n 0, 1) := by decide +kernel
theorem d_Mo_unlike_32 : decode prog_14_method_49_code 32 = .ok (.iload_n 1, 1) := by decide +kernel
theorem d_Mo_unlike_33 : decode prog_14_method_49_code 33 = .ok (.invokevirtual 213, 3) := by decide +kernel
theorem d_Mo_unlike_36 : decode prog_14_method_49_code 36 = .ok (.istore_n 2, 1) := by decide +kernel
theorem d_Mo_unlike_37 : decode prog_14_method_49_code 37 = .ok (.iconst 0, 1) := by decide +kernel
theorem d_Mo_unlike_38 : decode prog_14_method_49_code 38 = .ok (.istore_n 3, 1) := by decide +kernel
theorem d_Mo_unlike_39 : decode prog_14_method_49_code 39 = .ok (.iload_n 3, 1) := by decide +kernel
theorem d_Mo_unlike_40 : decode prog_14_method_49_code 40 = .ok (.iload_n 2, 1) := by decide +kernel
theorem d_Mo_unlike_41 : decode prog_14_method_49_code 41 = .ok (.if_icmp .ge 87, 3) := by decide +kernel
theorem d_Mo_unlike_44 : decode prog_14_method_49_code 44 = .ok (.aload_n 0, 1) := by decide +kernel
theorem d_Mo_unlike_45 : decode prog_14_method_49_code 45 = .ok (.aload_n 0, 1) := by decide +kernel
theorem d_Mo_unlike_46 : decode prog_14_method_49_code 46 = .ok (.getfield 59, 3) := by decide +kernel
theorem d_Mo_unlike_49 : decode prog_14_method_49_code 49 = .ok (.iconst 0, 1) := by decide +kernel
theorem d_Mo_unlike_50 : decode prog_14_method_49_code 50 = .ok (.aload_n 0, 1) := by decide +kernel
theorem d_Mo_unlike_51 : decode prog_14_method_49_code 51 = .ok (.getfield 62, 3) := by decide +kernel
theorem d_Mo_unlike_54 : decode prog_14_method_49_code 54 = .ok (.bipush 14, 2) := by decide +kernel
theorem d_Mo_unlike_56 : decode prog_14_method_49_code 56 = .ok (.iload_n 3, 1) := by decide +kernel
theorem d_Mo_unlike_57 : decode prog_14_method_49_code 57 = .ok (.imul, 1) := by decide +kernel
theorem d_Mo_unlike_58 : decode prog_14_method_49_code 58 = .ok (.iload_n 1, 1) := by decide +kernel
theorem d_Mo_unlike_59 : decode prog_14_method_49_code 59 = .ok (.invokevirtual 181, 3) := by decide +kernel
theorem d_Mo_unlike_62 : decode prog_14_method_49_code 62 = .ok (.aload_n 0, 1) := by decide +kernel
theorem d_Mo_unlike_63 : decode prog_14_method_49_code 63 = .ok (.getfield 83, 3) := by decide +kernel
theorem d_Mo_unlike_66 : decode prog_14_method_49_code 66 = .ok (.iload_n 3, 1) := by decide +kernel
theorem d_Mo_unlike_67 : decode prog_14_method_49_code 67 = .ok (.aload_n 0, 1) := by decide +kernel
theorem d_Mo_unlike_68 : decode prog_14_method_49_code 68 = .ok (.aload_n 0, 1) := by decide +kernel
theorem d_Mo_unlike_69 : decode prog_14_method_49_code 69 = .ok (.getfield 59, 3) := by decide +kernel
theorem d_Mo_unlike_72 : decode prog_14_method_49_code 72 = .ok (.iconst 0, 1) := by decide +kernel
theorem d_Mo_unlike_73 : decode prog_14_method_49_code 73 = .ok (.iload_n 1, 1) := by decide +kernel
theorem d_Mo_unlike_74 : decode prog_14_method_49_code 74 = .ok (.invokevirtual 207, 3) := by decide +kernel
theorem d_Mo_unlike_77 : decode prog_14_method_49_code 77 = .ok (.iastore, 1) := by decide +kernel
theorem d_Mo_unlike_78 : decode prog_14_method_49_code 78 = .ok (.aload_n 0, 1) := by decide +kernel
theorem d_Mo_unlike_79 : decode prog_14_method_49_code 79 = .ok (.aload_n 0, 1) := by decide +kernel
theorem d_Mo_unlike_80 : decode prog_14_method_49_code 80 = .ok (.getfield 77, 3) := by decide +kernel
theorem d_Mo_unlike_83 : decode prog_14_method_49_code 83 = .ok (.iconst 0, 1) := by decide +kernel
theorem d_Mo_unlike_84 : decode prog_14_method_49_code 84 = .ok (.iload_n 1, 1) := by decide +kernel
theorem d_Mo_unlike_85 : decode prog_14_method_49_code 85 = .ok (.iload_n 3, 1) := by decide +kernel
theorem d_Mo_unlike_86 : decode prog_14_method_49_code 86 = .ok (.invokevirtual 177, 3) := by decide +kernel
theorem d_Mo_unlike_89 : decode prog_14_method_49_code 89 = .ok (.istore 4, 2) := by decide +kernel
theorem d_Mo_unlike_91 : decode prog_14_method_49_code 91 = .ok (.aload_n 0, 1) := by decide +kernel
theorem d_Mo_unlike_92 : decode prog_14_method_49_code 92 = .ok (.aload_n 0, 1) := by decide +kernel
theorem d_Mo_unlike_93 : decode prog_14_method_49_code 93 = .ok (.getfield 59, 3) := by decide +kernel
theorem d_Mo_unlike_96 : decode prog_14_method_49_code 96 = .ok (.iconst 0, 1) := by decide +kernel
theorem d_Mo_unlike_97 : decode prog_14_method_49_code 97 = .ok (.aload_n 0, 1) := by decide +kernel
theorem d_Mo_unlike_98 : decode prog_14_method_49_code 98 = .ok (.getfield 77, 3) := by decide +kernel
theorem d_Mo_unlike_101 : decode prog_14_method_49_code 101 = .ok (.iconst 0, 1) := by decide +kernel
theorem d_Mo_unlike_102 : decode prog_14_method_49_code 102 = .ok (.iload_n 1, 1) := by decide +kernel
theorem d_Mo_unlike_103 : decode prog_14_method_49_code 103 = .ok (.invokevirtual 185, 3) := by decide +kernel
theorem d_Mo_unlike_106 : decode prog_14_method_49_code 106 = .ok (.aload_n 0, 1) := by decide +kernel
theorem d_Mo_unlike_107 : decode prog_14_method_49_code 107 = .ok (.getfield 86, 3) := by decide +kernel
theorem d_Mo_unlike_110 : decode prog_14_method_49_code 110 = .ok (.iload_n 3, 1) := by decide +kernel
theorem d_Mo_unlike_111 : decode prog_14_method_49_code 111 = .ok (.aload_n 0, 1) := by decide +kernel
theorem d_Mo_unlike_112 : decode prog_14_method_49_code 112 = .ok (.aload_n 0, 1) := by decide +kernel
theorem d_Mo_unlike_113 : decode prog_14_method_49_code 113 = .ok (.getfield 59, 3) := by decide +kernel
theorem d_Mo_unlike_116 : decode prog_14_method_49_code 116 = .ok (.iconst 0, 1) := by decide +kernel
theorem d_Mo_unlike_117 : decode prog_14_method_49_code 117 = .ok (.iload_n 1, 1) := by decide +kernel
theorem d_Mo_unlike_118 : decode prog_14_method_49_code 118 = .ok (.invokevirtual 207, 3) := by decide +kernel
theorem d_Mo_unlike_121 : decode prog_14_method_49_code 121 = .ok (.iastore, 1) := by decide +kernel
theorem d_Mo_unlike_122 : decode prog_14_method_49_code 122 = .ok (.iinc 3 1, 3) := by decide +kernel
theorem d_Mo_unlike_125 : decode prog_14_method_49_code 125 = .ok (.goto (-86), 3) := by decide +kernel
theorem d_Mo_unlike_128 : decode prog_14_method_49_code 128 = .ok (.iconst 0, 1) := by decide +kernel
theorem d_Mo_unlike_129 : decode prog_14_method_49_code 129 = .ok (.istore_n 3, 1) := by decide +kernel
theorem d_Mo_unlike_130 : decode prog_14_method_49_code 130 = .ok (.iload_n 3, 1) := by decide +kernel
theorem d_Mo_unlike_131 : decode prog_14_method_49_code 131 = .ok (.iload_n 2, 1) := by decide +kernel
theorem d_Mo_unlike_132 : decode prog_14_method_49_code 132 = .ok (.iload_n 2, 1) := by decide +kernel
theorem d_Mo_unlike_133 : decode prog_14_method_49_code 133 = .ok (.imul, 1) := by decide +kernel
theorem d_Mo_unlike_134 : decode prog_14_method_49_code 134 = .ok (.if_icmp .ge 16, 3) := by decide +kernel
theorem d_Mo_unlike_137 : decode prog_14_method_49_code 137 = .ok (.aload_n 0, 1) := by decide +kernel
theorem d_Mo_unlike_138 : decode prog_14_method_49_code 138 = .ok (.getfield 80, 3) := by decide +kernel
theorem d_Mo_unlike_141 : decode prog_14_method_49_code 141 = .ok (.iload_n 3, 1) := by decide +kernel
theorem d_Mo_unlike_142 : decode prog_14_method_49_code 142 = .ok (.iconst 0, 1) := by decide +kernel
theorem d_Mo_unlike_143 : decode prog_14_method_49_code 143 = .ok (.bastore, 1) := by decide +kernel
theorem d_Mo_unlike_144 : decode prog_14_method_49_code 144 = .ok (.iinc 3 1, 3) := by decide +kernel
theorem d_Mo_unlike_147 : decode prog_14_method_49_code 147 = .ok (.goto (-17), 3) := by decide +kernel
theorem d_Mo_unlike_150 : decode prog_14_method_49_code 150 = .ok (.iconst 0, 1) := by decide +kernel
theorem d_Mo_unlike_151 : decode prog_14_method_49_code 151 = .ok (.istore_n 3, 1) := by decide +kernel
theorem d_Mo_unlike_152 : decode prog_14_method_49_code 152 = .ok (.iload_n 3, 1) := by decide +kernel
theorem d_Mo_unlike_153 : decode prog_14_method_49_code 153 = .ok (.iload_n 2, 1) := by decide +kernel
theorem d_Mo_unlike_154 : decode prog_14_method_49_code 154 = .ok (.iload_n 2, 1) := by decide +kernel
theorem d_Mo_unlike_155 : decode prog_14_method_49_code 155 = .ok (.imul, 1) := by decide +kernel
theorem d_Mo_unlike_156 : decode prog_14_method_49_code 156 = .ok (.if_icmp .ge 212, 3) := by decide +kernel
theorem d_Mo_unlike_159 : decode prog_14_method_49_code 159 = .ok (.aload_n 0, 1) := by decide +kernel
theorem d_Mo_unlike_160 : decode prog_14_method_49_code 160 = .ok (.getfield 80, 3) := by decide +kernel
theorem d_Mo_unlike_163 : decode prog_14_method_49_code 163 = .ok (.iload_n 3, 1) := by decide +kernel
theorem d_Mo_unlike_164 : decode prog_14_method_49_code 164 = .ok (.baload, 1) := by decide +kernel
theorem d_Mo_unlike_165 : decode prog_14_method_49_code 165 = .ok (.ifCond .ne 197, 3) := by decide +kernel
theorem d_Mo_unlike_168 : decode prog_14_method_49_code 168 = .ok (.aload_n 0, 1) := by decide +kernel
theorem d_Mo_unlike_169 : decode prog_14_method_49_code 169 = .ok (.aload_n 0, 1) := by decide +kernel
theorem d_Mo_unlike_170 : decode prog_14_method_49_code 170 = .ok (.getfield 62, 3) := by decide +kernel
theorem d_Mo_unlike_173 : decode prog_14_method_49_code 173 = .ok (.bipush 14, 2) := by decide +kernel
theorem d_Mo_unlike_175 : decode prog_14_method_49_code 175 = .ok (.iload_n 3, 1) := by decide +kernel
theorem d_Mo_unlike_176 : decode prog_14_method_49_code 176 = .ok (.iload_n 2, 1) := by decide +kernel
theorem d_Mo_unlike_177 : decode prog_14_method_49_code 177 = .ok (.idiv, 1) := by decide +kernel
theorem d_Mo_unlike_178 : decode prog_14_method_49_code 178 = .ok (.imul, 1) := by decide +kernel
theorem d_Mo_unlike_179 : decode prog_14_method_49_code 179 = .ok (.aload_n 0, 1) := by decide +kernel
theorem d_Mo_unlike_180 : decode prog_14_method_49_code 180 = .ok (.getfield 62, 3) := by decide +kernel
theorem d_Mo_unlike_183 : decode prog_14_method_49_code 183 = .ok (.bipush 14, 2) := by decide +kernel
theorem d_Mo_unlike_185 : decode prog_14_method_49_code 185 = .ok (.iload_n 3, 1) := by decide +kernel
theorem d_Mo_unlike_186 : decode prog_14_method_49_code 186 = .ok (.iload_n 2, 1) := by decide +kernel
theorem d_Mo_unlike_187 : decode prog_14_method_49_code 187 = .ok (.irem, 1) := by decide +kernel
theorem d_Mo_unlike_188 : decode prog_14_method_49_code 188 = .ok (.imul, 1) := by decide +kernel
theorem d_Mo_unlike_189 : decode prog_14_method_49_code 189 = .ok (.iload_n 1, 1) := by decide +kernel
theorem d_Mo_unlike_190 : decode prog_14_method_49_code 190 = .ok (.invokevirtual 126, 3) := by decide +kernel
theorem d_Mo_unlike_193 : decode prog_14_method_49_code 193 = .ok (.iconst 1, 1) := by decide +kernel
theorem d_Mo_unlike_194 : decode prog_14_method_49_code 194 = .ok (.if_icmp .ne 168, 3) := by decide +kernel
theorem d_Mo_unlike_197 : decode prog_14_method_49_code 197 = .ok (.aload_n 0, 1) := by decide +kernel
theorem d_Mo_unlike_198 : decode prog_14_method_49_code 198 = .ok (.getfield 71, 3) := by decide +kernel
theorem d_Mo_unlike_201 : decode prog_14_method_49_code 201 = .ok (.iload_n 1, 1) := by decide +kernel
theorem d_Mo_unlike_202 : decode prog_14_method_49_code 202 = .ok (.dup2, 1) := by decide +kernel
theorem d_Mo_unlike_203 : decode prog_14_method_49_code 203 = .ok (.iaload, 1) := by decide +kernel
theorem d_Mo_unlike_204 : decode prog_14_method_49_code 204 = .ok (.iconst 1, 1) := by decide +kernel
theorem d_Mo_unlike_205 : decode prog_14_method_49_code 205 = .ok (.iadd, 1) := by decide +kernel
theorem d_Mo_unlike_206 : decode prog_14_method_49_code 206 = .ok (.iastore, 1) := by decide +kernel
theorem d_Mo_unlike_207 : decode prog_14_method_49_code 207 = .ok (.aload_n 0, 1) := by decide +kernel
theorem d_Mo_unlike_208 : decode prog_14_method_49_code 208 = .ok (.getfield 80, 3) := by decide +kernel
theorem d_Mo_unlike_211 : decode prog_14_method_49_code 211 = .ok (.iload_n 3, 1) := by decide +kernel
theorem d_Mo_unlike_212 : decode prog_14_method_49_code 212 = .ok (.iconst 1, 1) := by decide +kernel
theorem d_Mo_unlike_213 : decode prog_14_method_49_code 213 = .ok (.bastore, 1) := by decide +kernel
theorem d_Mo_unlike_214 : decode prog_14_method_49_code 214 = .ok (.aload_n 0, 1) := by decide +kernel
theorem d_Mo_unlike_215 : decode prog_14_method_49_code 215 = .ok (.getfield 89, 3) := by decide +kernel
theorem d_Mo_unlike_218 : decode prog_14_method_49_code 218 = .ok (.iconst 0, 1) := by decide +kernel
theorem d_Mo_unlike_219 : decode prog_14_method_49_code 219 = .ok (.iload_n 3, 1) := by decide +kernel
theorem d_Mo_unlike_220 : decode prog_14_method_49_code 220 = .ok (.iastore, 1) := by decide +kernel
theorem d_Mo_unlike_221 : decode prog_14_method_49_code 221 = .ok (.iconst 1, 1) := by decide +kernel
theorem d_Mo_unlike_222 : decode prog_14_method_49_code 222 = .ok (.istore 4, 2) := by decide +kernel
theorem d_Mo_unlike_224 : decode prog_14_method_49_code 224 = .ok (.iload 4, 2) := by decide +kernel
theorem d_Mo_unlike_226 : decode prog_14_method_49_code 226 = .ok (.ifCond .le 136, 3) := by decide +kernel
theorem d_Mo_unlike_229 : decode prog_14_method_49_code 229 = .ok (.iinc 4 (-1), 3) := by decide +kernel
theorem d_Mo_unlike_232 : decode prog_14_method_49_code 232 = .ok (.aload_n 0, 1) := by decide +kernel
theorem d_Mo_unlike_233 : decode prog_14_method_49_code 233 = .ok (.getfield 89, 3) := by decide +kernel
theorem d_Mo_unlike_236 : decode prog_14_method_49_code 236 = .ok (.iload 4, 2) := by decide +kernel
theorem d_Mo_unlike_238 : decode prog_14_method_49_code 238 = .ok (.iaload, 1) := by decide +kernel
theorem d_Mo_unlike_239 : decode prog_14_method_49_code 239 = .ok (.iload_n 2, 1) := by decide +kernel
theorem d_Mo_unlike_240 : decode prog_14_method_49_code 240 = .ok (.idiv, 1) := by decide +kernel
theorem d_Mo_unlike_241 : decode prog_14_method_49_code 241 = .ok (.istore 5, 2) := by decide +kernel
theorem d_Mo_unlike_243 : decode prog_14_method_49_code 243 = .ok (.aload_n 0, 1) := by decide +kernel
theorem d_Mo_unlike_244 : decode prog_14_method_49_code 244 = .ok (.getfield 89, 3) := by decide +kernel
theorem d_Mo_unlike_247 : decode prog_14_method_49_code 247 = .ok (.iload 4, 2) := by decide +kernel
theorem d_Mo_unlike_249 : decode prog_14_method_49_code 249 = .ok (.iaload, 1) := by decide +kernel
theorem d_Mo_unlike_250 : decode prog_14_method_49_code 250 = .ok (.iload_n 2, 1) := by decide +kernel
theorem d_Mo_unlike_251 : decode prog_14_method_49_code 251 = .ok (.irem, 1) := by decide +kernel
theorem d_Mo_unlike_252 : decode prog_14_method_49_code 252 = .ok (.istore 6, 2) := by decide +kernel
theorem d_Mo_unlike_254 : decode prog_14_method_49_code 254 = .ok (.iconst 0, 1) := by decide +kernel
theorem d_Mo_unlike_255 : decode prog_14_method_49_code 255 = .ok (.istore 7, 2) := by decide +kernel
theorem d_Mo_unlike_257 : decode prog_14_method_49_code 257 = .ok (.iload 7, 2) := by decide +kernel
theorem d_Mo_unlike_259 : decode prog_14_method_49_code 259 = .ok (.iconst 3, 1) := by decide +kernel
theorem d_Mo_unlike_260 : decode prog_14_method_49_code 260 = .ok (.if_icmp .ge 99, 3) := by decide +kernel
theorem d_Mo_unlike_263 : decode prog_14_method_49_code 263 = .ok (.iload 7, 2) := by decide +kernel
theorem d_Mo_unlike_265 : decode prog_14_method_49_code 265 = .ok (.ifCond .ne 23, 3) := by decide +kernel
theorem d_Mo_unlike_268 : decode prog_14_method_49_code 268 = .ok (.iload_n 2, 1) := by decide +kernel
theorem d_Mo_unlike_269 : decode prog_14_method_49_code 269 = .ok (.aload_n 0, 1) := by decide +kernel
theorem d_Mo_unlike_270 : decode prog_14_method_49_code 270 = .ok (.getfield 83, 3) := by decide +kernel
theorem d_Mo_unlike_273 : decode prog_14_method_49_code 273 = .ok (.iload 5, 2) := by decide +kernel
theorem d_Mo_unlike_275 : decode prog_14_method_49_code 275 = .ok (.iaload, 1) := by decide +kernel
theorem d_Mo_unlike_276 : decode prog_14_method_49_code 276 = .ok (.imul, 1) := by decide +kernel
theorem d_Mo_unlike_277 : decode prog_14_method_49_code 277 = .ok (.aload_n 0, 1) := by decide +kernel
theorem d_Mo_unlike_278 : decode prog_14_method_49_code 278 = .ok (.getfield 83, 3) := by decide +kernel
theorem d_Mo_unlike_281 : decode prog_14_method_49_code 281 = .ok (.iload 6, 2) := by decide +kernel
theorem d_Mo_unlike_283 : decode prog_14_method_49_code 283 = .ok (.iaload, 1) := by decide +kernel
theorem d_Mo_unlike_284 : decode prog_14_method_49_code 284 = .ok (.iadd, 1) := by decide +kernel
theorem d_Mo_unlike_285 : decode prog_14_method_49_code 285 = .ok (.goto 36, 3) := by decide +kernel
theorem d_Mo_unlike_288 : decode prog_14_method_49_code 288 = .ok (.iload 7, 2) := by decide +kernel
theorem d_Mo_unlike_290 : decode prog_14_method_49_code 290 = .ok (.iconst 1, 1) := by decide +kernel
theorem d_Mo_unlike_291 : decode prog_14_method_49_code 291 = .ok (.if_icmp .ne 23, 3) := by decide +kernel
theorem d_Mo_unlike_294 : decode prog_14_method_49_code 294 = .ok (.iload_n 2, 1) := by decide +kernel
theorem d_Mo_unlike_295 : decode prog_14_method_49_code 295 = .ok (.aload_n 0, 1) := by decide +kernel
theorem d_Mo_unlike_296 : decode prog_14_method_49_code 296 = .ok (.getfield 86, 3) := by decide +kernel
theorem d_Mo_unlike_299 : decode prog_14_method_49_code 299 = .ok (.iload 5, 2) := by decide +kernel
theorem d_Mo_unlike_301 : decode prog_14_method_49_code 301 = .ok (.iaload, 1) := by decide +kernel
theorem d_Mo_unlike_302 : decode prog_14_method_49_code 302 = .ok (.imul, 1) := by decide +kernel
theorem d_Mo_unlike_303 : decode prog_14_method_49_code 303 = .ok (.aload_n 0, 1) := by decide +kernel
theorem d_Mo_unlike_304 : decode prog_14_method_49_code 304 = .ok (.getfield 86, 3) := by decide +kernel
theorem d_Mo_unlike_307 : decode prog_14_method_49_code 307 = .ok (.iload 6, 2) := by decide +kernel
theorem d_Mo_unlike_309 : decode prog_14_method_49_code 309 = .ok (.iaload, 1) := by decide +kernel
theorem d_Mo_unlike_310 : decode prog_14_method_49_code 310 = .ok (.iadd, 1) := by decide +kernel
theorem d_Mo_unlike_311 : decode prog_14_method_49_code 311 = .ok (.goto 10, 3) := by decide +kernel
theorem d_Mo_unlike_314 : decode prog_14_method_49_code 314 = .ok (.iload_n 2, 1) := by decide +kernel
theorem d_Mo_unlike_315 : decode prog_14_method_49_code 315 = .ok (.iload 6, 2) := by decide +kernel
theorem d_Mo_unlike_317 : decode prog_14_method_49_code 317 = .ok (.imul, 1) := by decide +kernel
theorem d_Mo_unlike_318 : decode prog_14_method_49_code 318 = .ok (.iload 5, 2) := by decide +kernel
theorem d_Mo_unlike_320 : decode prog_14_method_49_code 320 = .ok (.iadd, 1) := by decide +kernel
theorem d_Mo_unlike_321 : decode prog_14_method_49_code 321 = .ok (.istore 8, 2) := by decide +kernel
theorem d_Mo_unlike_323 : decode prog_14_method_49_code 323 = .ok (.aload_n 0, 1) := by decide +kernel
theorem d_Mo_unlike_324 : decode prog_14_method_49_code 324 = .ok (.getfield 80, 3) := by decide +kernel
theorem d_Mo_unlike_327 : decode prog_14_method_49_code 327 = .ok (.iload 8, 2) := by decide +kernel
theorem d_Mo_unlike_329 : decode prog_14_method_49_code 329 = .ok (.baload, 1) := by decide +kernel
theorem d_Mo_unlike_330 : decode prog_14_method_49_code 330 = .ok (.ifCond .ne 23, 3) := by decide +kernel
theorem d_Mo_unlike_333 : decode prog_14_method_49_code 333 = .ok (.aload_n 0, 1) := by decide +kernel
theorem d_Mo_unlike_334 : decode prog_14_method_49_code 334 = .ok (.getfield 80, 3) := by decide +kernel
theorem d_Mo_unlike_337 : decode prog_14_method_49_code 337 = .ok (.iload 8, 2) := by decide +kernel
theorem d_Mo_unlike_339 : decode prog_14_method_49_code 339 = .ok (.iconst 1, 1) := by decide +kernel
theorem d_Mo_unlike_340 : decode prog_14_method_49_code 340 = .ok (.bastore, 1) := by decide +kernel
theorem d_Mo_unlike_341 : decode prog_14_method_49_code 341 = .ok (.aload_n 0, 1) := by decide +kernel
theorem d_Mo_unlike_342 : decode prog_14_method_49_code 342 = .ok (.getfield 89, 3) := by decide +kernel
theorem d_Mo_unlike_345 : decode prog_14_method_49_code 345 = .ok (.iload 4, 2) := by decide +kernel
theorem d_Mo_unlike_347 : decode prog_14_method_49_code 347 = .ok (.iload 8, 2) := by decide +kernel
theorem d_Mo_unlike_349 : decode prog_14_method_49_code 349 = .ok (.iastore, 1) := by decide +kernel
theorem d_Mo_unlike_350 : decode prog_14_method_49_code 350 = .ok (.iinc 4 1, 3) := by decide +kernel
theorem d_Mo_unlike_353 : decode prog_14_method_49_code 353 = .ok (.iinc 7 1, 3) := by decide +kernel
theorem d_Mo_unlike_356 : decode prog_14_method_49_code 356 = .ok (.goto (-99), 3) := by decide +kernel
theorem d_Mo_unlike_359 : decode prog_14_method_49_code 359 = .ok (.goto (-135), 3) := by decide +kernel
theorem d_Mo_unlike_362 : decode prog_14_method_49_code 362 = .ok (.iinc 3 1, 3) := by decide +kernel
theorem d_Mo_unlike_365 : decode prog_14_method_49_code 365 = .ok (.goto (-213), 3) := by decide +kernel
theorem d_Mo_unlike_368 : decode prog_14_method_49_code 368 = .ok (.aload_n 0, 1) := by decide +kernel
theorem d_Mo_unlike_369 : decode prog_14_method_49_code 369 = .ok (.getfield 71, 3) := by decide +kernel
theorem d_Mo_unlike_372 : decode prog_14_method_49_code 372 = .ok (.iload_n 1, 1) := by decide +kernel
theorem d_Mo_unlike_373 : decode prog_14_method_49_code 373 = .ok (.iaload, 1) := by decide +kernel
theorem d_Mo_unlike_374 : decode prog_14_method_49_code 374 = .ok (.ireturn, 1) := by decide +kernel
theorem d_Mo_sum_0 : decode prog_14_method_50_code 0 = .ok (.iload_n 1, 1) := by decide +kernel
theorem d_Mo_sum_1 : decode prog_14_method_50_code 1 = .ok (.i2l, 1) := by decide +kernel
theorem d_Mo_sum_2 : decode prog_14_method_50_code 2 = .ok (.lconst 1, 1) := by decide +kernel
theorem d_Mo_sum_3 : decode prog_14_method_50_code 3 = .ok (.ldc2_w 100, 3) := by decide +kernel
theorem d_Mo_sum_6 : decode prog_14_method_50_code 6 = .ok (.invokestatic 102, 3) := by decide +kernel
theorem d_Mo_sum_9 : decode prog_14_method_50_code 9 = .ok (.ifCond .eq 17, 3) := by decide +kernel
theorem d_Mo_sum_12 : decode prog_14_method_50_code 12 = .ok (.iload_n 2, 1) := by decide +kernel
theorem d_Mo_sum_13 : decode prog_14_method_50_code 13 = .ok (.i2l, 1) := by decide +kernel
theorem d_Mo_sum_14 : decode prog_14_method_50_code 14 = .ok (.ldc2_w 221, 3) := by decide +kernel
theorem d_Mo_sum_17 : decode prog_14_method_50_code 17 = .ok (.ldc2_w 120, 3) := by decide +kernel
theorem d_Mo_sum_20 : decode prog_14_method_50_code 20 = .ok (.invokestatic 102, 3) := by decide +kernel
theorem d_Mo_sum_23 : decode prog_14_method_50_code 23 = .ok (.ifCond .ne 7, 3) := by decide +kernel
theorem d_Mo_sum_26 : decode prog_14_method_50_code 26 = .ok (.ldc2_w 223, 3) := by decide +kernel
theorem d_Mo_sum_29 : decode prog_14_method_50_code 29 = .ok (.lreturn, 1) := by decide +kernel
theorem d_Mo_sum_30 : decode prog_14_method_50_code 30 = .ok (.aload_n 0, 1) := by decide +kernel
theorem d_Mo_sum_31 : decode prog_14_method_50_code 31 = .ok (.iload_n 1, 1) := by decide +kernel
theorem d_Mo_sum_32 : decode prog_14_method_50_code 32 = .ok (.invokevirtual 216, 3) := by decide +kernel
theorem d_Mo_sum_35 : decode prog_14_method_50_code 35 = .ok (.lconst 0, 1) := by decide +kernel
theorem d_Mo_sum_36 : decode prog_14_method_50_code 36 = .ok (.lstore_n 3, 1) := by decide +kernel
theorem d_Mo_sum_37 : decode prog_14_method_50_code 37 = .ok (.lconst 1, 1) := by decide +kernel
theorem d_Mo_sum_38 : decode prog_14_method_50_code 38 = .ok (.lstore 5, 2) := by decide +kernel
theorem d_Mo_sum_40 : decode prog_14_method_50_code 40 = .ok (.iconst 1, 1) := by decide +kernel
theorem d_Mo_sum_41 : decode prog_14_method_50_code 41 = .ok (.istore 7, 2) := by decide +kernel
theorem d_Mo_sum_43 : decode prog_14_method_50_code 43 = .ok (.iload 7, 2) := by decide +kernel
theorem d_Mo_sum_45 : decode prog_14_method_50_code 45 = .ok (.iload_n 1, 1) := by decide +kernel
theorem d_Mo_sum_46 : decode prog_14_method_50_code 46 = .ok (.if_icmp .gt 35, 3) := by decide +kernel
theorem d_Mo_sum_49 : decode prog_14_method_50_code 49 = .ok (.lload 5, 2) := by decide +kernel
theorem d_Mo_sum_51 : decode prog_14_method_50_code 51 = .ok (.iload_n 2, 1) := by decide +kernel
theorem d_Mo_sum_52 : decode prog_14_method_50_code 52 = .ok (.i2l, 1) := by decide +kernel
theorem d_Mo_sum_53 : decode prog_14_method_50_code 53 = .ok (.lmul, 1) := by decide +kernel
theorem d_Mo_sum_54 : decode prog_14_method_50_code 54 = .ok (.lstore 5, 2) := by decide +kernel
theorem d_Mo_sum_56 : decode prog_14_method_50_code 56 = .ok (.lload_n 3, 1) := by decide +kernel
theorem d_Mo_sum_57 : decode prog_14_method_50_code 57 = .ok (.lload 5, 2) := by decide +kernel
theorem d_Mo_sum_59 : decode prog_14_method_50_code 59 = .ok (.aload_n 0, 1) := by decide +kernel
theorem d_Mo_sum_60 : decode prog_14_method_50_code 60 = .ok (.getfield 65, 3) := by decide +kernel
theorem d_Mo_sum_63 : decode prog_14_method_50_code 63 = .ok (.bipush 8, 2) := by decide +kernel
theorem d_Mo_sum_65 : decode prog_14_method_50_code 65 = .ok (.iload_n 1, 1) := by decide +kernel
theorem d_Mo_sum_66 : decode prog_14_method_50_code 66 = .ok (.imul, 1) := by decide +kernel
theorem d_Mo_sum_67 : decode prog_14_method_50_code 67 = .ok (.iload 7, 2) := by decide +kernel
theorem d_Mo_sum_69 : decode prog_14_method_50_code 69 = .ok (.iadd, 1) := by decide +kernel
theorem d_Mo_sum_70 : decode prog_14_method_50_code 70 = .ok (.iaload, 1) := by decide +kernel
theorem d_Mo_sum_71 : decode prog_14_method_50_code 71 = .ok (.i2l, 1) := by decide +kernel
theorem d_Mo_sum_72 : decode prog_14_method_50_code 72 = .ok (.lmul, 1) := by decide +kernel
theorem d_Mo_sum_73 : decode prog_14_method_50_code 73 = .ok (.ladd, 1) := by decide +kernel
theorem d_Mo_sum_74 : decode prog_14_method_50_code 74 = .ok (.lstore_n 3, 1) := by decide +kernel
theorem d_Mo_sum_75 : decode prog_14_method_50_code 75 = .ok (.iinc 7 1, 3) := by decide +kernel
theorem d_Mo_sum_78 : decode prog_14_method_50_code 78 = .ok (.goto (-35), 3) := by decide +kernel
theorem d_Mo_sum_81 : decode prog_14_method_50_code 81 = .ok (.lload_n 3, 1) := by decide +kernel
theorem d_Mo_sum_82 : decode prog_14_method_50_code 82 = .ok (.lreturn, 1) := by decide +kernel
theorem d_Mo_stamp_0 : decode prog_14_method_51_code 0 = .ok (.iload_n 1, 1) := by decide +kernel
theorem d_Mo_stamp_1 : decode prog_14_method_51_code 1 = .ok (.invokestatic 152, 3) := by decide +kernel
theorem d_Mo_stamp_4 : decode prog_14_method_51_code 4 = .ok (.ifCond .ne 6, 3) := by decide +kernel
theorem d_Mo_stamp_7 : decode prog_14_method_51_code 7 = .ok (.ldc 112, 2) := by decide +kernel
theorem d_Mo_stamp_9 : decode prog_14_method_51_code 9 = .ok (.ireturn, 1) := by decide +kernel
theorem d_Mo_stamp_10 : decode prog_14_method_51_code 10 = .ok (.aload_n 0, 1) := by decide +kernel
theorem d_Mo_stamp_11 : decode prog_14_method_51_code 11 = .ok (.iload_n 1, 1) := by decide +kernel
theorem d_Mo_stamp_12 : decode prog_14_method_51_code 12 = .ok (.bipush 7, 2) := by decide +kernel
theorem d_Mo_stamp_14 : decode prog_14_method_51_code 14 = .ok (.invokevirtual 165, 3) := by decide +kernel
theorem d_Mo_stamp_17 : decode prog_14_method_51_code 17 = .ok (.istore_n 3, 1) := by decide +kernel
theorem d_Mo_stamp_18 : decode prog_14_method_51_code 18 = .ok (.iload_n 3, 1) := by decide +kernel
theorem d_Mo_stamp_19 : decode prog_14_method_51_code 19 = .ok (.ifCond .eq 5, 3) := by decide +kernel
theorem d_Mo_stamp_22 : decode prog_14_method_51_code 22 = .ok (.iload_n 3, 1) := by decide +kernel
theorem d_Mo_stamp_23 : decode prog_14_method_51_code 23 = .ok (.ireturn, 1) := by decide +kernel
theorem d_Mo_stamp_24 : decode prog_14_method_51_code 24 = .ok (.iload_n 2, 1) := by decide +kernel
theorem d_Mo_stamp_25 : decode prog_14_method_51_code 25 = .ok (.i2l, 1) := by decide +kernel
theorem d_Mo_stamp_26 : decode prog_14_method_51_code 26 = .ok (.lconst 0, 1) := by decide +kernel
theorem d_Mo_stamp_27 : decode prog_14_method_51_code 27 = .ok (.aload_n 0, 1) := by decide +kernel
theorem d_Mo_stamp_28 : decode prog_14_method_51_code 28 = .ok (.getfield 25, 3) := by decide +kernel
theorem d_Mo_stamp_31 : decode prog_14_method_51_code 31 = .ok (.iload_n 1, 1) := by decide +kernel
theorem d_Mo_stamp_32 : decode prog_14_method_51_code 32 = .ok (.iaload, 1) := by decide +kernel
theorem d_Mo_stamp_33 : decode prog_14_method_51_code 33 = .ok (.iconst 1, 1) := by decide +kernel
theorem d_Mo_stamp_34 : decode prog_14_method_51_code 34 = .ok (.isub, 1) := by decide +kernel
theorem d_Mo_stamp_35 : decode prog_14_method_51_code 35 = .ok (.i2l, 1) := by decide +kernel
theorem d_Mo_stamp_36 : decode prog_14_method_51_code 36 = .ok (.invokestatic 102, 3) := by decide +kernel
theorem d_Mo_stamp_39 : decode prog_14_method_51_code 39 = .ok (.ifCond .eq 21, 3) := by decide +kernel
theorem d_Mo_stamp_42 : decode prog_14_method_51_code 42 = .ok (.aload_n 0, 1) := by decide +kernel
theorem d_Mo_stamp_43 : decode prog_14_method_51_code 43 = .ok (.aload_n 0, 1) := by decide +kernel
theorem d_Mo_stamp_44 : decode prog_14_method_51_code 44 = .ok (.getfield 28, 3) := by decide +kernel
theorem d_Mo_stamp_47 : decode prog_14_method_51_code 47 = .ok (.bipush 40, 2) := by decide +kernel
theorem d_Mo_stamp_49 : decode prog_14_method_51_code 49 = .ok (.iload_n 1, 1) := by decide +kernel
theorem d_Mo_stamp_50 : decode prog_14_method_51_code 50 = .ok (.imul, 1) := by decide +kernel
theorem d_Mo_stamp_51 : decode prog_14_method_51_code 51 = .ok (.iload_n 2, 1) := by decide +kernel
theorem d_Mo_stamp_52 : decode prog_14_method_51_code 52 = .ok (.iadd, 1) := by decide +kernel
theorem d_Mo_stamp_53 : decode prog_14_method_51_code 53 = .ok (.iaload, 1) := by decide +kernel
theorem d_Mo_stamp_54 : decode prog_14_method_51_code 54 = .ok (.invokevirtual 117, 3) := by decide +kernel
theorem d_Mo_stamp_57 : decode prog_14_method_51_code 57 = .ok (.goto 5, 3) := by decide +kernel
theorem d_Mo_stamp_60 : decode prog_14_method_51_code 60 = .ok (.ldc 112, 2) := by decide +kernel
theorem d_Mo_stamp_62 : decode prog_14_method_51_code 62 = .ok (.ireturn, 1) := by decide +kernel
theorem d_Mo_clash_0 : decode prog_14_method_52_code 0 = .ok (.iload_n 1, 1) := by decide +kernel
theorem d_Mo_clash_1 : decode prog_14_method_52_code 1 = .ok (.invokestatic 152, 3) := by decide +kernel
theorem d_Mo_clash_4 : decode prog_14_method_52_code 4 = .ok (.ifCond .eq 13, 3) := by decide +kernel
theorem d_Mo_clash_7 : decode prog_14_method_52_code 7 = .ok (.iload_n 2, 1) := by decide +kernel
theorem d_Mo_clash_8 : decode prog_14_method_52_code 8 = .ok (.i2l, 1) := by decide +kernel
theorem d_Mo_clash_9 : decode prog_14_method_52_code 9 = .ok (.lconst 0, 1) := by decide +kernel
theorem d_Mo_clash_10 : decode prog_14_method_52_code 10 = .ok (.lconst 1, 1) := by decide +kernel
theorem d_Mo_clash_11 : decode prog_14_method_52_code 11 = .ok (.invokestatic 102, 3) := by decide +kernel
theorem d_Mo_clash_14 : decode prog_14_method_52_code 14 = .ok (.ifCond .ne 6, 3) := by decide +kernel
theorem d_Mo_clash_17 : decode prog_14_method_52_code 17 = .ok (.ldc 112, 2) := by decide +kernel
theorem d_Mo_clash_19 : decode prog_14_method_52_code 19 = .ok (.ireturn, 1) := by decide +kernel
theorem d_Mo_clash_20 : decode prog_14_method_52_code 20 = .ok (.aload_n 0, 1) := by decide +kernel
theorem d_Mo_clash_21 : decode prog_14_method_52_code 21 = .ok (.iload_n 1, 1) := by decide +kernel
theorem d_Mo_clash_22 : decode prog_14_method_52_code 22 = .ok (.bipush 7, 2) := by decide +kernel
theorem d_Mo_clash_24 : decode prog_14_method_52_code 24 = .ok (.invokevirtual 165, 3) := by decide +kernel
theorem d_Mo_clash_27 : decode prog_14_method_52_code 27 = .ok (.istore_n 3, 1) := by decide +kernel
theorem d_Mo_clash_28 : decode prog_14_method_52_code 28 = .ok (.iload_n 3, 1) := by decide +kernel
theorem d_Mo_clash_29 : decode prog_14_method_52_code 29 = .ok (.ifCond .eq 5, 3) := by decide +kernel
theorem d_Mo_clash_32 : decode prog_14_method_52_code 32 = .ok (.iload_n 3, 1) := by decide +kernel
theorem d_Mo_clash_33 : decode prog_14_method_52_code 33 = .ok (.ireturn, 1) := by decide +kernel
theorem d_Mo_clash_34 : decode prog_14_method_52_code 34 = .ok (.aload_n 0, 1) := by decide +kernel
theorem d_Mo_clash_35 : decode prog_14_method_52_code 35 = .ok (.aload_n 0, 1) := by decide +kernel
theorem d_Mo_clash_36 : decode prog_14_method_52_code 36 = .ok (.getfield 28, 3) := by decide +kernel
theorem d_Mo_clash_39 : decode prog_14_method_52_code 39 = .ok (.bipush 40, 2) := by decide +kernel
theorem d_Mo_clash_41 : decode prog_14_method_52_code 41 = .ok (.iload_n 1, 1) := by decide +kernel
theorem d_Mo_clash_42 : decode prog_14_method_52_code 42 = .ok (.imul, 1) := by decide +kernel
theorem d_Mo_clash_43 : decode prog_14_method_52_code 43 = .ok (.aload_n 0, 1) := by decide +kernel
theorem d_Mo_clash_44 : decode prog_14_method_52_code 44 = .ok (.getfield 25, 3) := by decide +kernel
theorem d_Mo_clash_47 : decode prog_14_method_52_code 47 = .ok (.iload_n 1, 1) := by decide +kernel
theorem d_Mo_clash_48 : decode prog_14_method_52_code 48 = .ok (.iaload, 1) := by decide +kernel
theorem d_Mo_clash_49 : decode prog_14_method_52_code 49 = .ok (.invokevirtual 144, 3) := by decide +kernel
theorem d_Mo_clash_52 : decode prog_14_method_52_code 52 = .ok (.istore 4, 2) := by decide +kernel
theorem d_Mo_clash_54 : decode prog_14_method_52_code 54 = .ok (.aload_n 0, 1) := by decide +kernel
theorem d_Mo_clash_55 : decode prog_14_method_52_code 55 = .ok (.iload_n 2, 1) := by decide +kernel
theorem d_Mo_clash_56 : decode prog_14_method_52_code 56 = .ok (.ifCond .ne 10, 3) := by decide +kernel
theorem d_Mo_clash_59 : decode prog_14_method_52_code 59 = .ok (.aload_n 0, 1) := by decide +kernel
theorem d_Mo_clash_60 : decode prog_14_method_52_code 60 = .ok (.getfield 130, 3) := by decide +kernel
theorem d_Mo_clash_63 : decode prog_14_method_52_code 63 = .ok (.goto 7, 3) := by decide +kernel
theorem d_Mo_clash_66 : decode prog_14_method_52_code 66 = .ok (.aload_n 0, 1) := by decide +kernel
theorem d_Mo_clash_67 : decode prog_14_method_52_code 67 = .ok (.getfield 133, 3) := by decide +kernel
theorem d_Mo_clash_70 : decode prog_14_method_52_code 70 = .ok (.invokevirtual 117, 3) := by decide +kernel
theorem d_Mo_clash_73 : decode prog_14_method_52_code 73 = .ok (.ireturn, 1) := by decide +kernel
theorem d_Mo_folds_0 : decode prog_14_method_55_code 0 = .ok (.iload_n 1, 1) := by decide +kernel
theorem d_Mo_folds_1 : decode prog_14_method_55_code 1 = .ok (.i2l, 1) := by decide +kernel
theorem d_Mo_folds_2 : decode prog_14_method_55_code 2 = .ok (.lconst 1, 1) := by decide +kernel
theorem d_Mo_folds_3 : decode prog_14_method_55_code 3 = .ok (.ldc2_w 188, 3) := by decide +kernel
theorem d_Mo_folds_6 : decode prog_14_method_55_code 6 = .ok (.invokestatic 102, 3) := by decide +kernel
theorem d_Mo_folds_9 : decode prog_14_method_55_code 9 = .ok (.ifCond .ne 6, 3) := by decide +kernel
theorem d_Mo_folds_12 : decode prog_14_method_55_code 12 = .ok (.ldc 112, 2) := by decide +kernel
theorem d_Mo_folds_14 : decode prog_14_method_55_code 14 = .ok (.ireturn, 1) := by decide +kernel
theorem d_Mo_folds_15 : decode prog_14_method_55_code 15 = .ok (.aload_n 0, 1) := by decide +kernel
theorem d_Mo_folds_16 : decode prog_14_method_55_code 16 = .ok (.getfield 74, 3) := by decide +kernel
theorem d_Mo_folds_19 : decode prog_14_method_55_code 19 = .ok (.iload_n 1, 1) := by decide +kernel
theorem d_Mo_folds_20 : decode prog_14_method_55_code 20 = .ok (.iaload, 1) := by decide +kernel
theorem d_Mo_folds_21 : decode prog_14_method_55_code 21 = .ok (.ifCond .ne 15, 3) := by decide +kernel
theorem d_Mo_folds_24 : decode prog_14_method_55_code 24 = .ok (.aload_n 0, 1) := by decide +kernel
theorem d_Mo_folds_25 : decode prog_14_method_55_code 25 = .ok (.getfield 74, 3) := by decide +kernel
theorem d_Mo_folds_28 : decode prog_14_method_55_code 28 = .ok (.iload_n 1, 1) := by decide +kernel
theorem d_Mo_folds_29 : decode prog_14_method_55_code 29 = .ok (.aload_n 0, 1) := by decide +kernel
theorem d_Mo_folds_30 : decode prog_14_method_55_code 30 = .ok (.iload_n 1, 1) := by decide +kernel
theorem d_Mo_folds_31 : decode prog_14_method_55_code 31 = .ok (.iconst (-1), 1) := by decide +kernel
theorem d_Mo_folds_32 : decode prog_14_method_55_code 32 = .ok (.invokevirtual 228, 3) := by decide +kernel
theorem d_Mo_folds_35 : decode prog_14_method_55_code 35 = .ok (.iastore, 1) := by decide +kernel
theorem d_Mo_folds_36 : decode prog_14_method_55_code 36 = .ok (.aload_n 0, 1) := by decide +kernel
theorem d_Mo_folds_37 : decode prog_14_method_55_code 37 = .ok (.getfield 74, 3) := by decide +kernel
theorem d_Mo_folds_40 : decode prog_14_method_55_code 40 = .ok (.iload_n 1, 1) := by decide +kernel
theorem d_Mo_folds_41 : decode prog_14_method_55_code 41 = .ok (.iaload, 1) := by decide +kernel
theorem d_Mo_folds_42 : decode prog_14_method_55_code 42 = .ok (.ireturn, 1) := by decide +kernel
theorem d_Mo_goThrough_0 : decode prog_14_method_54_code 0 = .ok (.iconst 0, 1) := by decide +kernel
theorem d_Mo_goThrough_1 : decode prog_14_method_54_code 1 = .ok (.istore_n 3, 1) := by decide +kernel
theorem d_Mo_goThrough_2 : decode prog_14_method_54_code 2 = .ok (.iload_n 3, 1) := by decide +kernel
theorem d_Mo_goThrough_3 : decode prog_14_method_54_code 3 = .ok (.iload_n 1, 1) := by decide +kernel
theorem d_Mo_goThrough_4 : decode prog_14_method_54_code 4 = .ok (.if_icmp .ge 16, 3) := by decide +kernel
theorem d_Mo_goThrough_7 : decode prog_14_method_54_code 7 = .ok (.aload_n 0, 1) := by decide +kernel
theorem d_Mo_goThrough_8 : decode prog_14_method_54_code 8 = .ok (.getfield 92, 3) := by decide +kernel
theorem d_Mo_goThrough_11 : decode prog_14_method_54_code 11 = .ok (.iload_n 3, 1) := by decide +kernel
theorem d_Mo_goThrough_12 : decode prog_14_method_54_code 12 = .ok (.iload_n 3, 1) := by decide +kernel
theorem d_Mo_goThrough_13 : decode prog_14_method_54_code 13 = .ok (.iastore, 1) := by decide +kernel
theorem d_Mo_goThrough_14 : decode prog_14_method_54_code 14 = .ok (.iinc 3 1, 3) := by decide +kernel
theorem d_Mo_goThrough_17 : decode prog_14_method_54_code 17 = .ok (.goto (-15), 3) := by decide +kernel
theorem d_Mo_goThrough_20 : decode prog_14_method_54_code 20 = .ok (.iconst 0, 1) := by decide +kernel
theorem d_Mo_goThrough_21 : decode prog_14_method_54_code 21 = .ok (.istore_n 3, 1) := by decide +kernel
theorem d_Mo_goThrough_22 : decode prog_14_method_54_code 22 = .ok (.iconst 1, 1) := by decide +kernel
theorem d_Mo_goThrough_23 : decode prog_14_method_54_code 23 = .ok (.istore 4, 2) := by decide +kernel
theorem d_Mo_goThrough_25 : decode prog_14_method_54_code 25 = .ok (.iload 4, 2) := by decide +kernel
theorem d_Mo_goThrough_27 : decode prog_14_method_54_code 27 = .ok (.ifCond .eq 38, 3) := by decide +kernel
theorem d_Mo_goThrough_30 : decode prog_14_method_54_code 30 = .ok (.aload_n 0, 1) := by decide +kernel
theorem d_Mo_goThrough_31 : decode prog_14_method_54_code 31 = .ok (.aload_n 0, 1) := by decide +kernel
theorem d_Mo_goThrough_32 : decode prog_14_method_54_code 32 = .ok (.getfield 92, 3) := by decide +kernel
theorem d_Mo_goThrough_35 : decode prog_14_method_54_code 35 = .ok (.iconst 0, 1) := by decide +kernel
theorem d_Mo_goThrough_36 : decode prog_14_method_54_code 36 = .ok (.iload_n 1, 1) := by decide +kernel
theorem d_Mo_goThrough_37 : decode prog_14_method_54_code 37 = .ok (.invokevirtual 144, 3) := by decide +kernel
theorem d_Mo_goThrough_40 : decode prog_14_method_54_code 40 = .ok (.ifCond .eq 15, 3) := by decide +kernel
theorem d_Mo_goThrough_43 : decode prog_14_method_54_code 43 = .ok (.iload_n 3, 1) := by decide +kernel
theorem d_Mo_goThrough_44 : decode prog_14_method_54_code 44 = .ok (.iload_n 2, 1) := by decide +kernel
theorem d_Mo_goThrough_45 : decode prog_14_method_54_code 45 = .ok (.if_icmp .ne 7, 3) := by decide +kernel
theorem d_Mo_goThrough_48 : decode prog_14_method_54_code 48 = .ok (.iload_n 3, 1) := by decide +kernel
theorem d_Mo_goThrough_49 : decode prog_14_method_54_code 49 = .ok (.iconst 1, 1) := by decide +kernel
theorem d_Mo_goThrough_50 : decode prog_14_method_54_code 50 = .ok (.iadd, 1) := by decide +kernel
theorem d_Mo_goThrough_51 : decode prog_14_method_54_code 51 = .ok (.ireturn, 1) := by decide +kernel
theorem d_Mo_goThrough_52 : decode prog_14_method_54_code 52 = .ok (.iinc 3 1, 3) := by decide +kernel
theorem d_Mo_goThrough_55 : decode prog_14_method_54_code 55 = .ok (.aload_n 0, 1) := by decide +kernel
theorem d_Mo_goThrough_56 : decode prog_14_method_54_code 56 = .ok (.iload_n 1, 1) := by decide +kernel
theorem d_Mo_goThrough_57 : decode prog_14_method_54_code 57 = .ok (.invokevirtual 225, 3) := by decide +kernel
theorem d_Mo_goThrough_60 : decode prog_14_method_54_code 60 = .ok (.istore 4, 2) := by decide +kernel
theorem d_Mo_goThrough_62 : decode prog_14_method_54_code 62 = .ok (.goto (-37), 3) := by decide +kernel
theorem d_Mo_goThrough_65 : decode prog_14_method_54_code 65 = .ok (.iload_n 3, 1) := by decide +kernel
theorem d_Mo_goThrough_66 : decode prog_14_method_54_code 66 = .ok (.ireturn, 1) := by decide +kernel
theorem d_Mo_nextOrder_0 : decode prog_14_method_53_code 0 = .ok (.iload_n 1, 1) := by decide +kernel
theorem d_Mo_nextOrder_1 : decode prog_14_method_53_code 1 = .ok (.iconst 2, 1) := by decide +kernel
theorem d_Mo_nextOrder_2 : decode prog_14_method_53_code 2 = .ok (.isub, 1) := by decide +kernel
theorem d_Mo_nextOrder_3 : decode prog_14_method_53_code 3 = .ok (.istore_n 2, 1) := by decide +kernel
theorem d_Mo_nextOrder_4 : decode prog_14_method_53_code 4 = .ok (.iload_n 2, 1) := by decide +kernel
theorem d_Mo_nextOrder_5 : decode prog_14_method_53_code 5 = .ok (.ifCond .lt 26, 3) := by decide +kernel
theorem d_Mo_nextOrder_8 : decode prog_14_method_53_code 8 = .ok (.aload_n 0, 1) := by decide +kernel
theorem d_Mo_nextOrder_9 : decode prog_14_method_53_code 9 = .ok (.getfield 92, 3) := by decide +kernel
theorem d_Mo_nextOrder_12 : decode prog_14_method_53_code 12 = .ok (.iload_n 2, 1) := by decide +kernel
theorem d_Mo_nextOrder_13 : decode prog_14_method_53_code 13 = .ok (.iaload, 1) := by decide +kernel
theorem d_Mo_nextOrder_14 : decode prog_14_method_53_code 14 = .ok (.aload_n 0, 1) := by decide +kernel
theorem d_Mo_nextOrder_15 : decode prog_14_method_53_code 15 = .ok (.getfield 92, 3) := by decide +kernel
theorem d_Mo_nextOrder_18 : decode prog_14_method_53_code 18 = .ok (.iload_n 2, 1) := by decide +kernel
theorem d_Mo_nextOrder_19 : decode prog_14_method_53_code 19 = .ok (.iconst 1, 1) := by decide +kernel
theorem d_Mo_nextOrder_20 : decode prog_14_method_53_code 20 = .ok (.iadd, 1) := by decide +kernel
theorem d_Mo_nextOrder_21 : decode prog_14_method_53_code 21 = .ok (.iaload, 1) := by decide +kernel
theorem d_Mo_nextOrder_22 : decode prog_14_method_53_code 22 = .ok (.if_icmp .le 9, 3) := by decide +kernel
theorem d_Mo_nextOrder_25 : decode prog_14_method_53_code 25 = .ok (.iinc 2 (-1), 3) := by decide +kernel
theorem d_Mo_nextOrder_28 : decode prog_14_method_53_code 28 = .ok (.goto (-24), 3) := by decide +kernel
theorem d_Mo_nextOrder_31 : decode prog_14_method_53_code 31 = .ok (.iload_n 2, 1) := by decide +kernel
theorem d_Mo_nextOrder_32 : decode prog_14_method_53_code 32 = .ok (.ifCond .ge 5, 3) := by decide +kernel
theorem d_Mo_nextOrder_35 : decode prog_14_method_53_code 35 = .ok (.iconst 0, 1) := by decide +kernel
theorem d_Mo_nextOrder_36 : decode prog_14_method_53_code 36 = .ok (.ireturn, 1) := by decide +kernel
theorem d_Mo_nextOrder_37 : decode prog_14_method_53_code 37 = .ok (.iload_n 1, 1) := by decide +kernel
theorem d_Mo_nextOrder_38 : decode prog_14_method_53_code 38 = .ok (.iconst 1, 1) := by decide +kernel
theorem d_Mo_nextOrder_39 : decode prog_14_method_53_code 39 = .ok (.isub, 1) := by decide +kernel
theorem d_Mo_nextOrder_40 : decode prog_14_method_53_code 40 = .ok (.istore_n 3, 1) := by decide +kernel
theorem d_Mo_nextOrder_41 : decode prog_14_method_53_code 41 = .ok (.aload_n 0, 1) := by decide +kernel
theorem d_Mo_nextOrder_42 : decode prog_14_method_53_code 42 = .ok (.getfield 92, 3) := by decide +kernel
theorem d_Mo_nextOrder_45 : decode prog_14_method_53_code 45 = .ok (.iload_n 3, 1) := by decide +kernel
theorem d_Mo_nextOrder_46 : decode prog_14_method_53_code 46 = .ok (.iaload, 1) := by decide +kernel
theorem d_Mo_nextOrder_47 : decode prog_14_method_53_code 47 = .ok (.aload_n 0, 1) := by decide +kernel
theorem d_Mo_nextOrder_48 : decode prog_14_method_53_code 48 = .ok (.getfield 92, 3) := by decide +kernel
theorem d_Mo_nextOrder_51 : decode prog_14_method_53_code 51 = .ok (.iload_n 2, 1) := by decide +kernel
theorem d_Mo_nextOrder_52 : decode prog_14_method_53_code 52 = .ok (.iaload, 1) := by decide +kernel
theorem d_Mo_nextOrder_53 : decode prog_14_method_53_code 53 = .ok (.if_icmp .ge 9, 3) := by decide +kernel
theorem d_Mo_nextOrder_56 : decode prog_14_method_53_code 56 = .ok (.iinc 3 (-1), 3) := by decide +kernel
theorem d_Mo_nextOrder_59 : decode prog_14_method_53_code 59 = .ok (.goto (-18), 3) := by decide +kernel
theorem d_Mo_nextOrder_62 : decode prog_14_method_53_code 62 = .ok (.aload_n 0, 1) := by decide +kernel
theorem d_Mo_nextOrder_63 : decode prog_14_method_53_code 63 = .ok (.getfield 92, 3) := by decide +kernel
theorem d_Mo_nextOrder_66 : decode prog_14_method_53_code 66 = .ok (.iload_n 2, 1) := by decide +kernel
theorem d_Mo_nextOrder_67 : decode prog_14_method_53_code 67 = .ok (.iaload, 1) := by decide +kernel
theorem d_Mo_nextOrder_68 : decode prog_14_method_53_code 68 = .ok (.istore 4, 2) := by decide +kernel
theorem d_Mo_nextOrder_70 : decode prog_14_method_53_code 70 = .ok (.aload_n 0, 1) := by decide +kernel
theorem d_Mo_nextOrder_71 : decode prog_14_method_53_code 71 = .ok (.getfield 92, 3) := by decide +kernel
theorem d_Mo_nextOrder_74 : decode prog_14_method_53_code 74 = .ok (.iload_n 2, 1) := by decide +kernel
theorem d_Mo_nextOrder_75 : decode prog_14_method_53_code 75 = .ok (.aload_n 0, 1) := by decide +kernel
theorem d_Mo_nextOrder_76 : decode prog_14_method_53_code 76 = .ok (.getfield 92, 3) := by decide +kernel
theorem d_Mo_nextOrder_79 : decode prog_14_method_53_code 79 = .ok (.iload_n 3, 1) := by decide +kernel
theorem d_Mo_nextOrder_80 : decode prog_14_method_53_code 80 = .ok (.iaload, 1) := by decide +kernel
theorem d_Mo_nextOrder_81 : decode prog_14_method_53_code 81 = .ok (.iastore, 1) := by decide +kernel
theorem d_Mo_nextOrder_82 : decode prog_14_method_53_code 82 = .ok (.aload_n 0, 1) := by decide +kernel
theorem d_Mo_nextOrder_83 : decode prog_14_method_53_code 83 = .ok (.getfield 92, 3) := by decide +kernel
theorem d_Mo_nextOrder_86 : decode prog_14_method_53_code 86 = .ok (.iload_n 3, 1) := by decide +kernel
theorem d_Mo_nextOrder_87 : decode prog_14_method_53_code 87 = .ok (.iload 4, 2) := by decide +kernel
theorem d_Mo_nextOrder_89 : decode prog_14_method_53_code 89 = .ok (.iastore, 1) := by decide +kernel
theorem d_Mo_nextOrder_90 : decode prog_14_method_53_code 90 = .ok (.iload_n 2, 1) := by decide +kernel
theorem d_Mo_nextOrder_91 : decode prog_14_method_53_code 91 = .ok (.iconst 1, 1) := by decide +kernel
theorem d_Mo_nextOrder_92 : decode prog_14_method_53_code 92 = .ok (.iadd, 1) := by decide +kernel
theorem d_Mo_nextOrder_93 : decode prog_14_method_53_code 93 = .ok (.istore 5, 2) := by decide +kernel
theorem d_Mo_nextOrder_95 : decode prog_14_method_53_code 95 = .ok (.iload_n 1, 1) := by decide +kernel
theorem d_Mo_nextOrder_96 : decode prog_14_method_53_code 96 = .ok (.iconst 1, 1) := by decide +kernel
theorem d_Mo_nextOrder_97 : decode prog_14_method_53_code 97 = .ok (.isub, 1) := by decide +kernel
theorem d_Mo_nextOrder_98 : decode prog_14_method_53_code 98 = .ok (.istore 6, 2) := by decide +kernel
theorem d_Mo_nextOrder_100 : decode prog_14_method_53_code 100 = .ok (.iload 5, 2) := by decide +kernel
theorem d_Mo_nextOrder_102 : decode prog_14_method_53_code 102 = .ok (.iload 6, 2) := by decide +kernel
theorem d_Mo_nextOrder_104 : decode prog_14_method_53_code 104 = .ok (.if_icmp .ge 44, 3) := by decide +kernel
theorem d_Mo_nextOrder_107 : decode prog_14_method_53_code 107 = .ok (.aload_n 0, 1) := by decide +kernel
theorem d_Mo_nextOrder_108 : decode prog_14_method_53_code 108 = .ok (.getfield 92, 3) := by decide +kernel
theorem d_Mo_nextOrder_111 : decode prog_14_method_53_code 111 = .ok (.iload 5, 2) := by decide +kernel
theorem d_Mo_nextOrder_113 : decode prog_14_method_53_code 113 = .ok (.iaload, 1) := by decide +kernel
theorem d_Mo_nextOrder_114 : decode prog_14_method_53_code 114 = .ok (.istore 4, 2) := by decide +kernel
theorem d_Mo_nextOrder_116 : decode prog_14_method_53_code 116 = .ok (.aload_n 0, 1) := by decide +kernel
theorem d_Mo_nextOrder_117 : decode prog_14_method_53_code 117 = .ok (.getfield 92, 3) := by decide +kernel
theorem d_Mo_nextOrder_120 : decode prog_14_method_53_code 120 = .ok (.iload 5, 2) := by decide +kernel
theorem d_Mo_nextOrder_122 : decode prog_14_method_53_code 122 = .ok (.aload_n 0, 1) := by decide +kernel
theorem d_Mo_nextOrder_123 : decode prog_14_method_53_code 123 = .ok (.getfield 92, 3) := by decide +kernel
theorem d_Mo_nextOrder_126 : decode prog_14_method_53_code 126 = .ok (.iload 6, 2) := by decide +kernel
theorem d_Mo_nextOrder_128 : decode prog_14_method_53_code 128 = .ok (.iaload, 1) := by decide +kernel
theorem d_Mo_nextOrder_129 : decode prog_14_method_53_code 129 = .ok (.iastore, 1) := by decide +kernel
theorem d_Mo_nextOrder_130 : decode prog_14_method_53_code 130 = .ok (.aload_n 0, 1) := by decide +kernel
theorem d_Mo_nextOrder_131 : decode prog_14_method_53_code 131 = .ok (.getfield 92, 3) := by decide +kernel
theorem d_Mo_nextOrder_134 : decode prog_14_method_53_code 134 = .ok (.iload 6, 2) := by decide +kernel
theorem d_Mo_nextOrder_136 : decode prog_14_method_53_code 136 = .ok (.iload 4, 2) := by decide +kernel
theorem d_Mo_nextOrder_138 : decode prog_14_method_53_code 138 = .ok (.iastore, 1) := by decide +kernel
theorem d_Mo_nextOrder_139 : decode prog_14_method_53_code 139 = .ok (.iinc 5 1, 3) := by decide +kernel
theorem d_Mo_nextOrder_142 : decode prog_14_method_53_code 142 = .ok (.iinc 6 (-1), 3) := by decide +kernel
theorem d_Mo_nextOrder_145 : decode prog_14_method_53_code 145 = .ok (.goto (-45), 3) := by decide +kernel
theorem d_Mo_nextOrder_148 : decode prog_14_method_53_code 148 = .ok (.iconst 1, 1) := by decide +kernel
theorem d_Mo_nextOrder_149 : decode prog_14_method_53_code 149 = .ok (.ireturn, 1) := by decide +kernel
theorem d_Mo_nthFold_0 : decode prog_14_method_56_code 0 = .ok (.iload_n 1, 1) := by decide +kernel
theorem d_Mo_nthFold_1 : decode prog_14_method_56_code 1 = .ok (.invokestatic 152, 3) := by decide +kernel
theorem d_Mo_nthFold_4 : decode prog_14_method_56_code 4 = .ok (.ifCond .eq 15, 3) := by decide +kernel
theorem d_Mo_nthFold_7 : decode prog_14_method_56_code 7 = .ok (.iload_n 2, 1) := by decide +kernel
theorem d_Mo_nthFold_8 : decode prog_14_method_56_code 8 = .ok (.i2l, 1) := by decide +kernel
theorem d_Mo_nthFold_9 : decode prog_14_method_56_code 9 = .ok (.lconst 1, 1) := by decide +kernel
theorem d_Mo_nthFold_10 : decode prog_14_method_56_code 10 = .ok (.ldc2_w 188, 3) := by decide +kernel
theorem d_Mo_nthFold_13 : decode prog_14_method_56_code 13 = .ok (.invokestatic 102, 3) := by decide +kernel
theorem d_Mo_nthFold_16 : decode prog_14_method_56_code 16 = .ok (.ifCond .ne 6, 3) := by decide +kernel
theorem d_Mo_nthFold_19 : decode prog_14_method_56_code 19 = .ok (.ldc 112, 2) := by decide +kernel
theorem d_Mo_nthFold_21 : decode prog_14_method_56_code 21 = .ok (.ireturn, 1) := by decide +kernel
theorem d_Mo_nthFold_22 : decode prog_14_method_56_code 22 = .ok (.iload_n 3, 1) := by decide +kernel
theorem d_Mo_nthFold_23 : decode prog_14_method_56_code 23 = .ok (.ifCond .lt 13, 3) := by decide +kernel
theorem d_Mo_nthFold_26 : decode prog_14_method_56_code 26 = .ok (.aload_n 0, 1) := by decide +kernel
theorem d_Mo_nthFold_27 : decode prog_14_method_56_code 27 = .ok (.iload_n 2, 1) := by decide +kernel
theorem d_Mo_nthFold_28 : decode prog_14_method_56_code 28 = .ok (.iload_n 3, 1) := by decide +kernel
theorem d_Mo_nthFold_29 : decode prog_14_method_56_code 29 = .ok (.invokevirtual 228, 3) := by decide +kernel
theorem d_Mo_nthFold_32 : decode prog_14_method_56_code 32 = .ok (.iload_n 3, 1) := by decide +kernel
theorem d_Mo_nthFold_33 : decode prog_14_method_56_code 33 = .ok (.if_icmp .gt 10, 3) := by decide +kernel
theorem d_Mo_nthFold_36 : decode prog_14_method_56_code 36 = .ok (.aload_n 0, 1) := by decide +kernel
theorem d_Mo_nthFold_37 : decode prog_14_method_56_code 37 = .ok (.ldc 136, 2) := by decide +kernel
theorem d_Mo_nthFold_39 : decode prog_14_method_56_code 39 = .ok (.invokevirtual 117, 3) := by decide +kernel
theorem d_Mo_nthFold_42 : decode prog_14_method_56_code 42 = .ok (.ireturn, 1) := by decide +kernel
theorem d_Mo_nthFold_43 : decode prog_14_method_56_code 43 = .ok (.aload_n 0, 1) := by decide +kernel
theorem d_Mo_nthFold_44 : decode prog_14_method_56_code 44 = .ok (.getfield 25, 3) := by decide +kernel
theorem d_Mo_nthFold_47 : decode prog_14_method_56_code 47 = .ok (.bipush 10, 2) := by decide +kernel
theorem d_Mo_nthFold_49 : decode prog_14_method_56_code 49 = .ok (.iload_n 2, 1) := by decide +kernel
theorem d_Mo_nthFold_50 : decode prog_14_method_56_code 50 = .ok (.iastore, 1) := by decide +kernel
theorem d_Mo_nthFold_51 : decode prog_14_method_56_code 51 = .ok (.iconst 0, 1) := by decide +kernel
theorem d_Mo_nthFold_52 : decode prog_14_method_56_code 52 = .ok (.istore 4, 2) := by decide +kernel
theorem d_Mo_nthFold_54 : decode prog_14_method_56_code 54 = .ok (.iload 4, 2) := by decide +kernel
theorem d_Mo_nthFold_56 : decode prog_14_method_56_code 56 = .ok (.iload_n 2, 1) := by decide +kernel
theorem d_Mo_nthFold_57 : decode prog_14_method_56_code 57 = .ok (.if_icmp .ge 27, 3) := by decide +kernel
theorem d_Mo_nthFold_60 : decode prog_14_method_56_code 60 = .ok (.aload_n 0, 1) := by decide +kernel
theorem d_Mo_nthFold_61 : decode prog_14_method_56_code 61 = .ok (.getfield 28, 3) := by decide +kernel
theorem d_Mo_nthFold_64 : decode prog_14_method_56_code 64 = .ok (.sipush 400, 3) := by decide +kernel
theorem d_Mo_nthFold_67 : decode prog_14_method_56_code 67 = .ok (.iload 4, 2) := by decide +kernel
theorem d_Mo_nthFold_69 : decode prog_14_method_56_code 69 = .ok (.iadd, 1) := by decide +kernel
theorem d_Mo_nthFold_70 : decode prog_14_method_56_code 70 = .ok (.aload_n 0, 1) := by decide +kernel
theorem d_Mo_nthFold_71 : decode prog_14_method_56_code 71 = .ok (.getfield 92, 3) := by decide +kernel
theorem d_Mo_nthFold_74 : decode prog_14_method_56_code 74 = .ok (.iload 4, 2) := by decide +kernel
theorem d_Mo_nthFold_76 : decode prog_14_method_56_code 76 = .ok (.iaload, 1) := by decide +kernel
theorem d_Mo_nthFold_77 : decode prog_14_method_56_code 77 = .ok (.iastore, 1) := by decide +kernel
theorem d_Mo_nthFold_78 : decode prog_14_method_56_code 78 = .ok (.iinc 4 1, 3) := by decide +kernel
theorem d_Mo_nthFold_81 : decode prog_14_method_56_code 81 = .ok (.goto (-27), 3) := by decide +kernel
theorem d_Mo_nthFold_84 : decode prog_14_method_56_code 84 = .ok (.aload_n 0, 1) := by decide +kernel
theorem d_Mo_nthFold_85 : decode prog_14_method_56_code 85 = .ok (.iload_n 1, 1) := by decide +kernel
theorem d_Mo_nthFold_86 : decode prog_14_method_56_code 86 = .ok (.bipush 7, 2) := by decide +kernel
theorem d_Mo_nthFold_88 : decode prog_14_method_56_code 88 = .ok (.invokevirtual 157, 3) := by decide +kernel
theorem d_Mo_nthFold_91 : decode prog_14_method_56_code 91 = .ok (.ireturn, 1) := by decide +kernel
theorem d_Mo_count_0 : decode prog_14_method_57_code 0 = .ok (.iload_n 1, 1) := by decide +kernel
theorem d_Mo_count_1 : decode prog_14_method_57_code 1 = .ok (.i2l, 1) := by decide +kernel
theorem d_Mo_count_2 : decode prog_14_method_57_code 2 = .ok (.lconst 0, 1) := by decide +kernel
theorem d_Mo_count_3 : decode prog_14_method_57_code 3 = .ok (.ldc2_w 231, 3) := by decide +kernel
theorem d_Mo_count_6 : decode prog_14_method_57_code 6 = .ok (.invokestatic 102, 3) := by decide +kernel
theorem d_Mo_count_9 : decode prog_14_method_57_code 9 = .ok (.ifCond .ne 6, 3) := by decide +kernel
theorem d_Mo_count_12 : decode prog_14_method_57_code 12 = .ok (.ldc 112, 2) := by decide +kernel
theorem d_Mo_count_14 : decode prog_14_method_57_code 14 = .ok (.ireturn, 1) := by decide +kernel
theorem d_Mo_count_15 : decode prog_14_method_57_code 15 = .ok (.iconst 0, 1) := by decide +kernel
theorem d_Mo_count_16 : decode prog_14_method_57_code 16 = .ok (.istore_n 2, 1) := by decide +kernel
theorem d_Mo_count_17 : decode prog_14_method_57_code 17 = .ok (.iconst 0, 1) := by decide +kernel
theorem d_Mo_count_18 : decode prog_14_method_57_code 18 = .ok (.istore_n 3, 1) := by decide +kernel
theorem d_Mo_count_19 : decode prog_14_method_57_code 19 = .ok (.iload_n 3, 1) := by decide +kernel
theorem d_Mo_count_20 : decode prog_14_method_57_code 20 = .ok (.bipush 8, 2) := by decide +kernel
theorem d_Mo_count_22 : decode prog_14_method_57_code 22 = .ok (.if_icmp .ge 30, 3) := by decide +kernel
theorem d_Mo_count_25 : decode prog_14_method_57_code 25 = .ok (.iload_n 1, 1) := by decide +kernel
theorem d_Mo_count_26 : decode prog_14_method_57_code 26 = .ok (.ifCond .ne 26, 3) := by decide +kernel
theorem d_Mo_count_29 : decode prog_14_method_57_code 29 = .ok (.iload_n 2, 1) := by decide +kernel
theorem d_Mo_count_30 : decode prog_14_method_57_code 30 = .ok (.aload_n 0, 1) := by decide +kernel
theorem d_Mo_count_31 : decode prog_14_method_57_code 31 = .ok (.getfield 7, 3) := by decide +kernel
theorem d_Mo_count_34 : decode prog_14_method_57_code 34 = .ok (.iload_n 3, 1) := by decide +kernel
theorem d_Mo_count_35 : decode prog_14_method_57_code 35 = .ok (.iaload, 1) := by decide +kernel
theorem d_Mo_count_36 : decode prog_14_method_57_code 36 = .ok (.ifCond .le 7, 3) := by decide +kernel
theorem d_Mo_count_39 : decode prog_14_method_57_code 39 = .ok (.iconst 1, 1) := by decide +kernel
theorem d_Mo_count_40 : decode prog_14_method_57_code 40 = .ok (.goto 4, 3) := by decide +kernel
theorem d_Mo_count_43 : decode prog_14_method_57_code 43 = .ok (.iconst 0, 1) := by decide +kernel
theorem d_Mo_count_44 : decode prog_14_method_57_code 44 = .ok (.iadd, 1) := by decide +kernel
theorem d_Mo_count_45 : decode prog_14_method_57_code 45 = .ok (.istore_n 2, 1) := by decide +kernel
theorem d_Mo_count_46 : decode prog_14_method_57_code 46 = .ok (.iinc 3 1, 3) := by decide +kernel
theorem d_Mo_count_49 : decode prog_14_method_57_code 49 = .ok (.goto (-30), 3) := by decide +kernel
theorem d_Mo_count_52 : decode prog_14_method_57_code 52 = .ok (.iconst 0, 1) := by decide +kernel
theorem d_Mo_count_53 : decode prog_14_method_57_code 53 = .ok (.istore_n 3, 1) := by decide +kernel
theorem d_Mo_count_54 : decode prog_14_method_57_code 54 = .ok (.iload_n 3, 1) := by decide +kernel
theorem d_Mo_count_55 : decode prog_14_method_57_code 55 = .ok (.bipush 10, 2) := by decide +kernel
theorem d_Mo_count_57 : decode prog_14_method_57_code 57 = .ok (.if_icmp .ge 71, 3) := by decide +kernel
theorem d_Mo_count_60 : decode prog_14_method_57_code 60 = .ok (.iload_n 1, 1) := by decide +kernel
theorem d_Mo_count_61 : decode prog_14_method_57_code 61 = .ok (.ifCond .le 67, 3) := by decide +kernel
theorem d_Mo_count_64 : decode prog_14_method_57_code 64 = .ok (.aload_n 0, 1) := by decide +kernel
theorem d_Mo_count_65 : decode prog_14_method_57_code 65 = .ok (.getfield 22, 3) := by decide +kernel
theorem d_Mo_count_68 : decode prog_14_method_57_code 68 = .ok (.iload_n 3, 1) := by decide +kernel
theorem d_Mo_count_69 : decode prog_14_method_57_code 69 = .ok (.iaload, 1) := by decide +kernel
theorem d_Mo_count_70 : decode prog_14_method_57_code 70 = .ok (.istore 4, 2) := by decide +kernel
theorem d_Mo_count_72 : decode prog_14_method_57_code 72 = .ok (.iload_n 2, 1) := by decide +kernel
theorem d_Mo_count_73 : decode prog_14_method_57_code 73 = .ok (.iload 4, 2) := by decide +kernel
theorem d_Mo_count_75 : decode prog_14_method_57_code 75 = .ok (.ifCond .le 44, 3) := by decide +kernel
theorem d_Mo_count_78 : decode prog_14_method_57_code 78 = .ok (.iload 4, 2) := by decide +kernel
theorem d_Mo_count_80 : decode prog_14_method_57_code 80 = .ok (.iload_n 1, 1) := by decide +kernel
theorem d_Mo_count_81 : decode prog_14_method_57_code 81 = .ok (.iconst 1, 1) := by decide +kernel
theorem d_Mo_count_82 : decode prog_14_method_57_code 82 = .ok (.if_icmp .ne 7, 3) := by decide +kernel
theorem d_Mo_count_85 : decode prog_14_method_57_code 85 = .ok (.iconst 0, 1) := by decide +kernel
theorem d_Mo_count_86 : decode prog_14_method_57_code 86 = .ok (.goto 23, 3) := by decide +kernel
theorem d_Mo_count_89 : decode prog_14_method_57_code 89 = .ok (.iload_n 1, 1) := by decide +kernel
theorem d_Mo_count_90 : decode prog_14_method_57_code 90 = .ok (.iconst 2, 1) := by decide +kernel
theorem d_Mo_count_91 : decode prog_14_method_57_code 91 = .ok (.if_icmp .ne 7, 3) := by decide +kernel
theorem d_Mo_count_94 : decode prog_14_method_57_code 94 = .ok (.iconst 1, 1) := by decide +kernel
theorem d_Mo_count_95 : decode prog_14_method_57_code 95 = .ok (.goto 14, 3) := by decide +kernel
theorem d_Mo_count_98 : decode prog_14_method_57_code 98 = .ok (.iload_n 1, 1) := by decide +kernel
theorem d_Mo_count_99 : decode prog_14_method_57_code 99 = .ok (.iconst 3, 1) := by decide +kernel
theorem d_Mo_count_100 : decode prog_14_method_57_code 100 = .ok (.if_icmp .ne 7, 3) := by decide +kernel
theorem d_Mo_count_103 : decode prog_14_method_57_code 103 = .ok (.iconst 5, 1) := by decide +kernel
theorem d_Mo_count_104 : decode prog_14_method_57_code 104 = .ok (.goto 5, 3) := by decide +kernel
theorem d_Mo_count_107 : decode prog_14_method_57_code 107 = .ok (.bipush 7, 2) := by decide +kernel
theorem d_Mo_count_109 : decode prog_14_method_57_code 109 = .ok (.invokestatic 161, 3) := by decide +kernel
theorem d_Mo_count_112 : decode prog_14_method_57_code 112 = .ok (.ifCond .eq 7, 3) := by decide +kernel
theorem d_Mo_count_115 : decode prog_14_method_57_code 115 = .ok (.iconst 1, 1) := by decide +kernel
theorem d_Mo_count_116 : decode prog_14_method_57_code 116 = .ok (.goto 4, 3) := by decide +kernel
theorem d_Mo_count_119 : decode prog_14_method_57_code 119 = .ok (.iconst 0, 1) := by decide +kernel
theorem d_Mo_count_120 : decode prog_14_method_57_code 120 = .ok (.iadd, 1) := by decide +kernel
theorem d_Mo_count_121 : decode prog_14_method_57_code 121 = .ok (.istore_n 2, 1) := by decide +kernel
theorem d_Mo_count_122 : decode prog_14_method_57_code 122 = .ok (.iinc 3 1, 3) := by decide +kernel
theorem d_Mo_count_125 : decode prog_14_method_57_code 125 = .ok (.goto (-71), 3) := by decide +kernel
theorem d_Mo_count_128 : decode prog_14_method_57_code 128 = .ok (.iload_n 2, 1) := by decide +kernel
theorem d_Mo_count_129 : decode prog_14_method_57_code 129 = .ok (.ireturn, 1) := by decide +kernel
theorem d_Mo_status_0 : decode prog_14_method_58_code 0 = .ok (.aload_n 0, 1) := by decide +kernel
theorem d_Mo_status_1 : decode prog_14_method_58_code 1 = .ok (.getfield 95, 3) := by decide +kernel
theorem d_Mo_status_4 : decode prog_14_method_58_code 4 = .ok (.ireturn, 1) := by decide +kernel
theorem d_Law_0 : decode code 0 = .ok (.new 7, 3) := by decide +kernel
theorem d_Law_3 : decode code 3 = .ok (.dup, 1) := by decide +kernel
theorem d_Law_4 : decode code 4 = .ok (.invokespecial 9, 3) := by decide +kernel
theorem d_Law_7 : decode code 7 = .ok (.astore_n 1, 1) := by decide +kernel
theorem d_Law_8 : decode code 8 = .ok (.new 10, 3) := by decide +kernel
theorem d_Law_11 : decode code 11 = .ok (.dup, 1) := by decide +kernel
theorem d_Law_12 : decode code 12 = .ok (.invokespecial 12, 3) := by decide +kernel
theorem d_Law_15 : decode code 15 = .ok (.astore_n 2, 1) := by decide +kernel
theorem d_Law_16 : decode code 16 = .ok (.iconst 0, 1) := by decide +kernel
theorem d_Law_17 : decode code 17 = .ok (.istore_n 3, 1) := by decide +kernel
theorem d_Law_18 : decode code 18 = .ok (.iload_n 3, 1) := by decide +kernel
theorem d_Law_19 : decode code 19 = .ok (.aload_n 0, 1) := by decide +kernel
theorem d_Law_20 : decode code 20 = .ok (.arraylength, 1) := by decide +kernel
theorem d_Law_21 : decode code 21 = .ok (.bipush 6, 2) := by decide +kernel
theorem d_Law_23 : decode code 23 = .ok (.isub, 1) := by decide +kernel
theorem d_Law_24 : decode code 24 = .ok (.if_icmp .gt 1171, 3) := by decide +kernel
theorem d_Law_27 : decode code 27 = .ok (.aload_n 0, 1) := by decide +kernel
theorem d_Law_28 : decode code 28 = .ok (.iload_n 3, 1) := by decide +kernel
theorem d_Law_29 : decode code 29 = .ok (.iaload, 1) := by decide +kernel
theorem d_Law_30 : decode code 30 = .ok (.bipush 31, 2) := by decide +kernel
theorem d_Law_32 : decode code 32 = .ok (.iand, 1) := by decide +kernel
theorem d_Law_33 : decode code 33 = .ok (.tableswitch 1156 0 29 #[135, 178, 221, 284, 307, 360, 403, 456, 499, 532, 565, 588, 611, 644, 677, 710, 733, 766, 799, 822, 855, 898, 931, 954, 988, 1021, 1054, 1077, 1120, 1143], 135) := by decide +kernel
theorem d_Law_168 : decode code 168 = .ok (.aload_n 1, 1) := by decide +kernel
theorem d_Law_169 : decode code 169 = .ok (.aload_n 0, 1) := by decide +kernel
theorem d_Law_170 : decode code 170 = .ok (.iload_n 3, 1) := by decide +kernel
theorem d_Law_171 : decode code 171 = .ok (.iconst 1, 1) := by decide +kernel
theorem d_Law_172 : decode code 172 = .ok (.iadd, 1) := by decide +kernel
theorem d_Law_173 : decode code 173 = .ok (.iaload, 1) := by decide +kernel
theorem d_Law_174 : decode code 174 = .ok (.aload_n 0, 1) := by decide +kernel
theorem d_Law_175 : decode code 175 = .ok (.iload_n 3, 1) := by decide +kernel
theorem d_Law_176 : decode code 176 = .ok (.iconst 2, 1) := by decide +kernel
theorem d_Law_177 : decode code 177 = .ok (.iadd, 1) := by decide +kernel
theorem d_Law_178 : decode code 178 = .ok (.iaload, 1) := by decide +kernel
theorem d_Law_179 : decode code 179 = .ok (.aload_n 0, 1) := by decide +kernel
theorem d_Law_180 : decode code 180 = .ok (.iload_n 3, 1) := by decide +kernel
theorem d_Law_181 : decode code 181 = .ok (.iconst 3, 1) := by decide +kernel
theorem d_Law_182 : decode code 182 = .ok (.iadd, 1) := by decide +kernel
theorem d_Law_183 : decode code 183 = .ok (.iaload, 1) := by decide +kernel
theorem d_Law_184 : decode code 184 = .ok (.invokevirtual 13, 3) := by decide +kernel
theorem d_Law_187 : decode code 187 = .ok (.aload_n 2, 1) := by decide +kernel
theorem d_Law_188 : decode code 188 = .ok (.aload_n 0, 1) := by decide +kernel
theorem d_Law_189 : decode code 189 = .ok (.iload_n 3, 1) := by decide +kernel
theorem d_Law_190 : decode code 190 = .ok (.iconst 1, 1) := by decide +kernel
theorem d_Law_191 : decode code 191 = .ok (.iadd, 1) := by decide +kernel
theorem d_Law_192 : decode code 192 = .ok (.iaload, 1) := by decide +kernel
theorem d_Law_193 : decode code 193 = .ok (.aload_n 0, 1) := by decide +kernel
theorem d_Law_194 : decode code 194 = .ok (.iload_n 3, 1) := by decide +kernel
theorem d_Law_195 : decode code 195 = .ok (.iconst 2, 1) := by decide +kernel
theorem d_Law_196 : decode code 196 = .ok (.iadd, 1) := by decide +kernel
theorem d_Law_197 : decode code 197 = .ok (.iaload, 1) := by decide +kernel
theorem d_Law_198 : decode code 198 = .ok (.aload_n 0, 1) := by decide +kernel
theorem d_Law_199 : decode code 199 = .ok (.iload_n 3, 1) := by decide +kernel
theorem d_Law_200 : decode code 200 = .ok (.iconst 3, 1) := by decide +kernel
theorem d_Law_201 : decode code 201 = .ok (.iadd, 1) := by decide +kernel
theorem d_Law_202 : decode code 202 = .ok (.iaload, 1) := by decide +kernel
theorem d_Law_203 : decode code 203 = .ok (.invokevirtual 17, 3) := by decide +kernel
theorem d_Law_206 : decode code 206 = .ok (.if_icmp .eq 983, 3) := by decide +kernel
theorem d_Law_209 : decode code 209 = .ok (.iconst 0, 1) := by decide +kernel
theorem d_Law_210 : decode code 210 = .ok (.ireturn, 1) := by decide +kernel
theorem d_Law_211 : decode code 211 = .ok (.aload_n 1, 1) := by decide +kernel
theorem d_Law_212 : decode code 212 = .ok (.aload_n 0, 1) := by decide +kernel
theorem d_Law_213 : decode code 213 = .ok (.iload_n 3, 1) := by decide +kernel
theorem d_Law_214 : decode code 214 = .ok (.iconst 1, 1) := by decide +kernel
theorem d_Law_215 : decode code 215 = .ok (.iadd, 1) := by decide +kernel
theorem d_Law_216 : decode code 216 = .ok (.iaload, 1) := by decide +kernel
theorem d_Law_217 : decode code 217 = .ok (.aload_n 0, 1) := by decide +kernel
theorem d_Law_218 : decode code 218 = .ok (.iload_n 3, 1) := by decide +kernel
theorem d_Law_219 : decode code 219 = .ok (.iconst 2, 1) := by decide +kernel
theorem d_Law_220 : decode code 220 = .ok (.iadd, 1) := by decide +kernel
theorem d_Law_221 : decode code 221 = .ok (.iaload, 1) := by decide +kernel
theorem d_Law_222 : decode code 222 = .ok (.aload_n 0, 1) := by decide +kernel
theorem d_Law_223 : decode code 223 = .ok (.iload_n 3, 1) := by decide +kernel
theorem d_Law_224 : decode code 224 = .ok (.iconst 3, 1) := by decide +kernel
theorem d_Law_225 : decode code 225 = .ok (.iadd, 1) := by decide +kernel
theorem d_Law_226 : decode code 226 = .ok (.iaload, 1) := by decide +kernel
theorem d_Law_227 : decode code 227 = .ok (.invokevirtual 18, 3) := by decide +kernel
theorem d_Law_230 : decode code 230 = .ok (.aload_n 2, 1) := by decide +kernel
theorem d_Law_231 : decode code 231 = .ok (.aload_n 0, 1) := by decide +kernel
theorem d_Law_232 : decode code 232 = .ok (.iload_n 3, 1) := by decide +kernel
theorem d_Law_233 : decode code 233 = .ok (.iconst 1, 1) := by decide +kernel
theorem d_Law_234 : decode code 234 = .ok (.iadd, 1) := by decide +kernel
theorem d_Law_235 : decode code 235 = .ok (.iaload, 1) := by decide +kernel
theorem d_Law_236 : decode code 236 = .ok (.aload_n 0, 1) := by decide +kernel
theorem d_Law_237 : decode code 237 = .ok (.iload_n 3, 1) := by decide +kernel
theorem d_Law_238 : decode code 238 = .ok (.iconst 2, 1) := by decide +kernel
theorem d_Law_239 : decode code 239 = .ok (.iadd, 1) := by decide +kernel
theorem d_Law_240 : decode code 240 = .ok (.iaload, 1) := by decide +kernel
theorem d_Law_241 : decode code 241 = .ok (.aload_n 0, 1) := by decide +kernel
theorem d_Law_242 : decode code 242 = .ok (.iload_n 3, 1) := by decide +kernel
theorem d_Law_243 : decode code 243 = .ok (.iconst 3, 1) := by decide +kernel
theorem d_Law_244 : decode code 244 = .ok (.iadd, 1) := by decide +kernel
theorem d_Law_245 : decode code 245 = .ok (.iaload, 1) := by decide +kernel
theorem d_Law_246 : decode code 246 = .ok (.invokevirtual 21, 3) := by decide +kernel
theorem d_Law_249 : decode code 249 = .ok (.if_icmp .eq 940, 3) := by decide +kernel
theorem d_Law_252 : decode code 252 = .ok (.iconst 0, 1) := by decide +kernel
theorem d_Law_253 : decode code 253 = .ok (.ireturn, 1) := by decide +kernel
theorem d_Law_254 : decode code 254 = .ok (.aload_n 1, 1) := by decide +kernel
theorem d_Law_255 : decode code 255 = .ok (.aload_n 0, 1) := by decide +kernel
theorem d_Law_256 : decode code 256 = .ok (.iload_n 3, 1) := by decide +kernel
theorem d_Law_257 : decode code 257 = .ok (.iconst 1, 1) := by decide +kernel
theorem d_Law_258 : decode code 258 = .ok (.iadd, 1) := by decide +kernel
theorem d_Law_259 : decode code 259 = .ok (.iaload, 1) := by decide +kernel
theorem d_Law_260 : decode code 260 = .ok (.aload_n 0, 1) := by decide +kernel
theorem d_Law_261 : decode code 261 = .ok (.iload_n 3, 1) := by decide +kernel
theorem d_Law_262 : decode code 262 = .ok (.iconst 2, 1) := by decide +kernel
theorem d_Law_263 : decode code 263 = .ok (.iadd, 1) := by decide +kernel
theorem d_Law_264 : decode code 264 = .ok (.iaload, 1) := by decide +kernel
theorem d_Law_265 : decode code 265 = .ok (.aload_n 0, 1) := by decide +kernel
theorem d_Law_266 : decode code 266 = .ok (.iload_n 3, 1) := by decide +kernel
theorem d_Law_267 : decode code 267 = .ok (.iconst 3, 1) := by decide +kernel
theorem d_Law_268 : decode code 268 = .ok (.iadd, 1) := by decide +kernel
theorem d_Law_269 : decode code 269 = .ok (.iaload, 1) := by decide +kernel
theorem d_Law_270 : decode code 270 = .ok (.aload_n 0, 1) := by decide +kernel
theorem d_Law_271 : decode code 271 = .ok (.iload_n 3, 1) := by decide +kernel
theorem d_Law_272 : decode code 272 = .ok (.iconst 4, 1) := by decide +kernel
theorem d_Law_273 : decode code 273 = .ok (.iadd, 1) := by decide +kernel
theorem d_Law_274 : decode code 274 = .ok (.iaload, 1) := by decide +kernel
theorem d_Law_275 : decode code 275 = .ok (.aload_n 0, 1) := by decide +kernel
theorem d_Law_276 : decode code 276 = .ok (.iload_n 3, 1) := by decide +kernel
theorem d_Law_277 : decode code 277 = .ok (.iconst 5, 1) := by decide +kernel
theorem d_Law_278 : decode code 278 = .ok (.iadd, 1) := by decide +kernel
theorem d_Law_279 : decode code 279 = .ok (.iaload, 1) := by decide +kernel
theorem d_Law_280 : decode code 280 = .ok (.invokevirtual 22, 3) := by decide +kernel
theorem d_Law_283 : decode code 283 = .ok (.aload_n 2, 1) := by decide +kernel
theorem d_Law_284 : decode code 284 = .ok (.aload_n 0, 1) := by decide +kernel
theorem d_Law_285 : decode code 285 = .ok (.iload_n 3, 1) := by decide +kernel
theorem d_Law_286 : decode code 286 = .ok (.iconst 1, 1) := by decide +kernel
theorem d_Law_287 : decode code 287 = .ok (.iadd, 1) := by decide +kernel
theorem d_Law_288 : decode code 288 = .ok (.iaload, 1) := by decide +kernel
theorem d_Law_289 : decode code 289 = .ok (.aload_n 0, 1) := by decide +kernel
theorem d_Law_290 : decode code 290 = .ok (.iload_n 3, 1) := by decide +kernel
theorem d_Law_291 : decode code 291 = .ok (.iconst 2, 1) := by decide +kernel
theorem d_Law_292 : decode code 292 = .ok (.iadd, 1) := by decide +kernel
theorem d_Law_293 : decode code 293 = .ok (.iaload, 1) := by decide +kernel
theorem d_Law_294 : decode code 294 = .ok (.aload_n 0, 1) := by decide +kernel
theorem d_Law_295 : decode code 295 = .ok (.iload_n 3, 1) := by decide +kernel
theorem d_Law_296 : decode code 296 = .ok (.iconst 3, 1) := by decide +kernel
theorem d_Law_297 : decode code 297 = .ok (.iadd, 1) := by decide +kernel
theorem d_Law_298 : decode code 298 = .ok (.iaload, 1) := by decide +kernel
theorem d_Law_299 : decode code 299 = .ok (.aload_n 0, 1) := by decide +kernel
theorem d_Law_300 : decode code 300 = .ok (.iload_n 3, 1) := by decide +kernel
theorem d_Law_301 : decode code 301 = .ok (.iconst 4, 1) := by decide +kernel
theorem d_Law_302 : decode code 302 = .ok (.iadd, 1) := by decide +kernel
theorem d_Law_303 : decode code 303 = .ok (.iaload, 1) := by decide +kernel
theorem d_Law_304 : decode code 304 = .ok (.aload_n 0, 1) := by decide +kernel
theorem d_Law_305 : decode code 305 = .ok (.iload_n 3, 1) := by decide +kernel
theorem d_Law_306 : decode code 306 = .ok (.iconst 5, 1) := by decide +kernel
theorem d_Law_307 : decode code 307 = .ok (.iadd, 1) := by decide +kernel
theorem d_Law_308 : decode code 308 = .ok (.iaload, 1) := by decide +kernel
theorem d_Law_309 : decode code 309 = .ok (.invokevirtual 26, 3) := by decide +kernel
theorem d_Law_312 : decode code 312 = .ok (.if_icmp .eq 877, 3) := by decide +kernel
theorem d_Law_315 : decode code 315 = .ok (.iconst 0, 1) := by decide +kernel
theorem d_Law_316 : decode code 316 = .ok (.ireturn, 1) := by decide +kernel
theorem d_Law_317 : decode code 317 = .ok (.aload_n 1, 1) := by decide +kernel
theorem d_Law_318 : decode code 318 = .ok (.aload_n 0, 1) := by decide +kernel
theorem d_Law_319 : decode code 319 = .ok (.iload_n 3, 1) := by decide +kernel
theorem d_Law_320 : decode code 320 = .ok (.iconst 1, 1) := by decide +kernel
theorem d_Law_321 : decode code 321 = .ok (.iadd, 1) := by decide +kernel
theorem d_Law_322 : decode code 322 = .ok (.iaload, 1) := by decide +kernel
theorem d_Law_323 : decode code 323 = .ok (.invokevirtual 27, 3) := by decide +kernel
theorem d_Law_326 : decode code 326 = .ok (.aload_n 2, 1) := by decide +kernel
theorem d_Law_327 : decode code 327 = .ok (.aload_n 0, 1) := by decide +kernel
theorem d_Law_328 : decode code 328 = .ok (.iload_n 3, 1) := by decide +kernel
theorem d_Law_329 : decode code 329 = .ok (.iconst 1, 1) := by decide +kernel
theorem d_Law_330 : decode code 330 = .ok (.iadd, 1) := by decide +kernel
theorem d_Law_331 : decode code 331 = .ok (.iaload, 1) := by decide +kernel
theorem d_Law_332 : decode code 332 = .ok (.invokevirtual 31, 3) := by decide +kernel
theorem d_Law_335 : decode code 335 = .ok (.if_icmp .eq 854, 3) := by decide +kernel
theorem d_Law_338 : decode code 338 = .ok (.iconst 0, 1) := by decide +kernel
theorem d_Law_339 : decode code 339 = .ok (.ireturn, 1) := by decide +kernel
theorem d_Law_340 : decode code 340 = .ok (.aload_n 1, 1) := by decide +kernel
theorem d_Law_341 : decode code 341 = .ok (.aload_n 0, 1) := by decide +kernel
theorem d_Law_342 : decode code 342 = .ok (.iload_n 3, 1) := by decide +kernel
theorem d_Law_343 : decode code 343 = .ok (.iconst 1, 1) := by decide +kernel
theorem d_Law_344 : decode code 344 = .ok (.iadd, 1) := by decide +kernel
theorem d_Law_345 : decode code 345 = .ok (.iaload, 1) := by decide +kernel
theorem d_Law_346 : decode code 346 = .ok (.aload_n 0, 1) := by decide +kernel
theorem d_Law_347 : decode code 347 = .ok (.iload_n 3, 1) := by decide +kernel
theorem d_Law_348 : decode code 348 = .ok (.iconst 2, 1) := by decide +kernel
theorem d_Law_349 : decode code 349 = .ok (.iadd, 1) := by decide +kernel
theorem d_Law_350 : decode code 350 = .ok (.iaload, 1) := by decide +kernel
theorem d_Law_351 : decode code 351 = .ok (.aload_n 0, 1) := by decide +kernel
theorem d_Law_352 : decode code 352 = .ok (.iload_n 3, 1) := by decide +kernel
theorem d_Law_353 : decode code 353 = .ok (.iconst 3, 1) := by decide +kernel
theorem d_Law_354 : decode code 354 = .ok (.iadd, 1) := by decide +kernel
theorem d_Law_355 : decode code 355 = .ok (.iaload, 1) := by decide +kernel
theorem d_Law_356 : decode code 356 = .ok (.aload_n 0, 1) := by decide +kernel
theorem d_Law_357 : decode code 357 = .ok (.iload_n 3, 1) := by decide +kernel
theorem d_Law_358 : decode code 358 = .ok (.iconst 4, 1) := by decide +kernel
theorem d_Law_359 : decode code 359 = .ok (.iadd, 1) := by decide +kernel
theorem d_Law_360 : decode code 360 = .ok (.iaload, 1) := by decide +kernel
theorem d_Law_361 : decode code 361 = .ok (.invokevirtual 32, 3) := by decide +kernel
theorem d_Law_364 : decode code 364 = .ok (.aload_n 2, 1) := by decide +kernel
theorem d_Law_365 : decode code 365 = .ok (.aload_n 0, 1) := by decide +kernel
theorem d_Law_366 : decode code 366 = .ok (.iload_n 3, 1) := by decide +kernel
theorem d_Law_367 : decode code 367 = .ok (.iconst 1, 1) := by decide +kernel
theorem d_Law_368 : decode code 368 = .ok (.iadd, 1) := by decide +kernel
theorem d_Law_369 : decode code 369 = .ok (.iaload, 1) := by decide +kernel
theorem d_Law_370 : decode code 370 = .ok (.aload_n 0, 1) := by decide +kernel
theorem d_Law_371 : decode code 371 = .ok (.iload_n 3, 1) := by decide +kernel
theorem d_Law_372 : decode code 372 = .ok (.iconst 2, 1) := by decide +kernel
theorem d_Law_373 : decode code 373 = .ok (.iadd, 1) := by decide +kernel
theorem d_Law_374 : decode code 374 = .ok (.iaload, 1) := by decide +kernel
theorem d_Law_375 : decode code 375 = .ok (.aload_n 0, 1) := by decide +kernel
theorem d_Law_376 : decode code 376 = .ok (.iload_n 3, 1) := by decide +kernel
theorem d_Law_377 : decode code 377 = .ok (.iconst 3, 1) := by decide +kernel
theorem d_Law_378 : decode code 378 = .ok (.iadd, 1) := by decide +kernel
theorem d_Law_379 : decode code 379 = .ok (.iaload, 1) := by decide +kernel
theorem d_Law_380 : decode code 380 = .ok (.aload_n 0, 1) := by decide +kernel
theorem d_Law_381 : decode code 381 = .ok (.iload_n 3, 1) := by decide +kernel
theorem d_Law_382 : decode code 382 = .ok (.iconst 4, 1) := by decide +kernel
theorem d_Law_383 : decode code 383 = .ok (.iadd, 1) := by decide +kernel
theorem d_Law_384 : decode code 384 = .ok (.iaload, 1) := by decide +kernel
theorem d_Law_385 : decode code 385 = .ok (.invokevirtual 36, 3) := by decide +kernel
theorem d_Law_388 : decode code 388 = .ok (.if_icmp .eq 801, 3) := by decide +kernel
theorem d_Law_391 : decode code 391 = .ok (.iconst 0, 1) := by decide +kernel
theorem d_Law_392 : decode code 392 = .ok (.ireturn, 1) := by decide +kernel
theorem d_Law_393 : decode code 393 = .ok (.aload_n 1, 1) := by decide +kernel
theorem d_Law_394 : decode code 394 = .ok (.aload_n 0, 1) := by decide +kernel
theorem d_Law_395 : decode code 395 = .ok (.iload_n 3, 1) := by decide +kernel
theorem d_Law_396 : decode code 396 = .ok (.iconst 1, 1) := by decide +kernel
theorem d_Law_397 : decode code 397 = .ok (.iadd, 1) := by decide +kernel
theorem d_Law_398 : decode code 398 = .ok (.iaload, 1) := by decide +kernel
theorem d_Law_399 : decode code 399 = .ok (.aload_n 0, 1) := by decide +kernel
theorem d_Law_400 : decode code 400 = .ok (.iload_n 3, 1) := by decide +kernel
theorem d_Law_401 : decode code 401 = .ok (.iconst 2, 1) := by decide +kernel
theorem d_Law_402 : decode code 402 = .ok (.iadd, 1) := by decide +kernel
theorem d_Law_403 : decode code 403 = .ok (.iaload, 1) := by decide +kernel
theorem d_Law_404 : decode code 404 = .ok (.aload_n 0, 1) := by decide +kernel
theorem d_Law_405 : decode code 405 = .ok (.iload_n 3, 1) := by decide +kernel
theorem d_Law_406 : decode code 406 = .ok (.iconst 3, 1) := by decide +kernel
theorem d_Law_407 : decode code 407 = .ok (.iadd, 1) := by decide +kernel
theorem d_Law_408 : decode code 408 = .ok (.iaload, 1) := by decide +kernel
theorem d_Law_409 : decode code 409 = .ok (.invokevirtual 37, 3) := by decide +kernel
theorem d_Law_412 : decode code 412 = .ok (.aload_n 2, 1) := by decide +kernel
theorem d_Law_413 : decode code 413 = .ok (.aload_n 0, 1) := by decide +kernel
theorem d_Law_414 : decode code 414 = .ok (.iload_n 3, 1) := by decide +kernel
theorem d_Law_415 : decode code 415 = .ok (.iconst 1, 1) := by decide +kernel
theorem d_Law_416 : decode code 416 = .ok (.iadd, 1) := by decide +kernel
theorem d_Law_417 : decode code 417 = .ok (.iaload, 1) := by decide +kernel
theorem d_Law_418 : decode code 418 = .ok (.aload_n 0, 1) := by decide +kernel
theorem d_Law_419 : decode code 419 = .ok (.iload_n 3, 1) := by decide +kernel
theorem d_Law_420 : decode code 420 = .ok (.iconst 2, 1) := by decide +kernel
theorem d_Law_421 : decode code 421 = .ok (.iadd, 1) := by decide +kernel
theorem d_Law_422 : decode code 422 = .ok (.iaload, 1) := by decide +kernel
theorem d_Law_423 : decode code 423 = .ok (.aload_n 0, 1) := by decide +kernel
theorem d_Law_424 : decode code 424 = .ok (.iload_n 3, 1) := by decide +kernel
theorem d_Law_425 : decode code 425 = .ok (.iconst 3, 1) := by decide +kernel
theorem d_Law_426 : decode code 426 = .ok (.iadd, 1) := by decide +kernel
theorem d_Law_427 : decode code 427 = .ok (.iaload, 1) := by decide +kernel
theorem d_Law_428 : decode code 428 = .ok (.invokevirtual 40, 3) := by decide +kernel
theorem d_Law_431 : decode code 431 = .ok (.if_icmp .eq 758, 3) := by decide +kernel
theorem d_Law_434 : decode code 434 = .ok (.iconst 0, 1) := by decide +kernel
theorem d_Law_435 : decode code 435 = .ok (.ireturn, 1) := by decide +kernel
theorem d_Law_436 : decode code 436 = .ok (.aload_n 1, 1) := by decide +kernel
theorem d_Law_437 : decode code 437 = .ok (.aload_n 0, 1) := by decide +kernel
theorem d_Law_438 : decode code 438 = .ok (.iload_n 3, 1) := by decide +kernel
theorem d_Law_439 : decode code 439 = .ok (.iconst 1, 1) := by decide +kernel
theorem d_Law_440 : decode code 440 = .ok (.iadd, 1) := by decide +kernel
theorem d_Law_441 : decode code 441 = .ok (.iaload, 1) := by decide +kernel
theorem d_Law_442 : decode code 442 = .ok (.aload_n 0, 1) := by decide +kernel
theorem d_Law_443 : decode code 443 = .ok (.iload_n 3, 1) := by decide +kernel
theorem d_Law_444 : decode code 444 = .ok (.iconst 2, 1) := by decide +kernel
theorem d_Law_445 : decode code 445 = .ok (.iadd, 1) := by decide +kernel
theorem d_Law_446 : decode code 446 = .ok (.iaload, 1) := by decide +kernel
theorem d_Law_447 : decode code 447 = .ok (.aload_n 0, 1) := by decide +kernel
theorem d_Law_448 : decode code 448 = .ok (.iload_n 3, 1) := by decide +kernel
theorem d_Law_449 : decode code 449 = .ok (.iconst 3, 1) := by decide +kernel
theorem d_Law_450 : decode code 450 = .ok (.iadd, 1) := by decide +kernel
theorem d_Law_451 : decode code 451 = .ok (.iaload, 1) := by decide +kernel
theorem d_Law_452 : decode code 452 = .ok (.aload_n 0, 1) := by decide +kernel
theorem d_Law_453 : decode code 453 = .ok (.iload_n 3, 1) := by decide +kernel
theorem d_Law_454 : decode code 454 = .ok (.iconst 4, 1) := by decide +kernel
theorem d_Law_455 : decode code 455 = .ok (.iadd, 1) := by decide +kernel
theorem d_Law_456 : decode code 456 = .ok (.iaload, 1) := by decide +kernel
theorem d_Law_457 : decode code 457 = .ok (.invokevirtual 41, 3) := by decide +kernel
theorem d_Law_460 : decode code 460 = .ok (.aload_n 2, 1) := by decide +kernel
theorem d_Law_461 : decode code 461 = .ok (.aload_n 0, 1) := by decide +kernel
theorem d_Law_462 : decode code 462 = .ok (.iload_n 3, 1) := by decide +kernel
theorem d_Law_463 : decode code 463 = .ok (.iconst 1, 1) := by decide +kernel
theorem d_Law_464 : decode code 464 = .ok (.iadd, 1) := by decide +kernel
theorem d_Law_465 : decode code 465 = .ok (.iaload, 1) := by decide +kernel
theorem d_Law_466 : decode code 466 = .ok (.aload_n 0, 1) := by decide +kernel
theorem d_Law_467 : decode code 467 = .ok (.iload_n 3, 1) := by decide +kernel
theorem d_Law_468 : decode code 468 = .ok (.iconst 2, 1) := by decide +kernel
theorem d_Law_469 : decode code 469 = .ok (.iadd, 1) := by decide +kernel
theorem d_Law_470 : decode code 470 = .ok (.iaload, 1) := by decide +kernel
theorem d_Law_471 : decode code 471 = .ok (.aload_n 0, 1) := by decide +kernel
theorem d_Law_472 : decode code 472 = .ok (.iload_n 3, 1) := by decide +kernel
theorem d_Law_473 : decode code 473 = .ok (.iconst 3, 1) := by decide +kernel
theorem d_Law_474 : decode code 474 = .ok (.iadd, 1) := by decide +kernel
theorem d_Law_475 : decode code 475 = .ok (.iaload, 1) := by decide +kernel
theorem d_Law_476 : decode code 476 = .ok (.aload_n 0, 1) := by decide +kernel
theorem d_Law_477 : decode code 477 = .ok (.iload_n 3, 1) := by decide +kernel
theorem d_Law_478 : decode code 478 = .ok (.iconst 4, 1) := by decide +kernel
theorem d_Law_479 : decode code 479 = .ok (.iadd, 1) := by decide +kernel
theorem d_Law_480 : decode code 480 = .ok (.iaload, 1) := by decide +kernel
theorem d_Law_481 : decode code 481 = .ok (.invokevirtual 44, 3) := by decide +kernel
theorem d_Law_484 : decode code 484 = .ok (.if_icmp .eq 705, 3) := by decide +kernel
theorem d_Law_487 : decode code 487 = .ok (.iconst 0, 1) := by decide +kernel
theorem d_Law_488 : decode code 488 = .ok (.ireturn, 1) := by decide +kernel
theorem d_Law_489 : decode code 489 = .ok (.aload_n 1, 1) := by decide +kernel
theorem d_Law_490 : decode code 490 = .ok (.aload_n 0, 1) := by decide +kernel
theorem d_Law_491 : decode code 491 = .ok (.iload_n 3, 1) := by decide +kernel
theorem d_Law_492 : decode code 492 = .ok (.iconst 1, 1) := by decide +kernel
theorem d_Law_493 : decode code 493 = .ok (.iadd, 1) := by decide +kernel
theorem d_Law_494 : decode code 494 = .ok (.iaload, 1) := by decide +kernel
theorem d_Law_495 : decode code 495 = .ok (.aload_n 0, 1) := by decide +kernel
theorem d_Law_496 : decode code 496 = .ok (.iload_n 3, 1) := by decide +kernel
theorem d_Law_497 : decode code 497 = .ok (.iconst 2, 1) := by decide +kernel
theorem d_Law_498 : decode code 498 = .ok (.iadd, 1) := by decide +kernel
theorem d_Law_499 : decode code 499 = .ok (.iaload, 1) := by decide +kernel
theorem d_Law_500 : decode code 500 = .ok (.aload_n 0, 1) := by decide +kernel
theorem d_Law_501 : decode code 501 = .ok (.iload_n 3, 1) := by decide +kernel
theorem d_Law_502 : decode code 502 = .ok (.iconst 3, 1) := by decide +kernel
theorem d_Law_503 : decode code 503 = .ok (.iadd, 1) := by decide +kernel
theorem d_Law_504 : decode code 504 = .ok (.iaload, 1) := by decide +kernel
theorem d_Law_505 : decode code 505 = .ok (.invokevirtual 45, 3) := by decide +kernel
theorem d_Law_508 : decode code 508 = .ok (.aload_n 2, 1) := by decide +kernel
theorem d_Law_509 : decode code 509 = .ok (.aload_n 0, 1) := by decide +kernel
theorem d_Law_510 : decode code 510 = .ok (.iload_n 3, 1) := by decide +kernel
theorem d_Law_511 : decode code 511 = .ok (.iconst 1, 1) := by decide +kernel
theorem d_Law_512 : decode code 512 = .ok (.iadd, 1) := by decide +kernel
theorem d_Law_513 : decode code 513 = .ok (.iaload, 1) := by decide +kernel
theorem d_Law_514 : decode code 514 = .ok (.aload_n 0, 1) := by decide +kernel
theorem d_Law_515 : decode code 515 = .ok (.iload_n 3, 1) := by decide +kernel
theorem d_Law_516 : decode code 516 = .ok (.iconst 2, 1) := by decide +kernel
theorem d_Law_517 : decode code 517 = .ok (.iadd, 1) := by decide +kernel
theorem d_Law_518 : decode code 518 = .ok (.iaload, 1) := by decide +kernel
theorem d_Law_519 : decode code 519 = .ok (.aload_n 0, 1) := by decide +kernel
theorem d_Law_520 : decode code 520 = .ok (.iload_n 3, 1) := by decide +kernel
theorem d_Law_521 : decode code 521 = .ok (.iconst 3, 1) := by decide +kernel
theorem d_Law_522 : decode code 522 = .ok (.iadd, 1) := by decide +kernel
theorem d_Law_523 : decode code 523 = .ok (.iaload, 1) := by decide +kernel
theorem d_Law_524 : decode code 524 = .ok (.invokevirtual 48, 3) := by decide +kernel
theorem d_Law_527 : decode code 527 = .ok (.if_icmp .eq 662, 3) := by decide +kernel
theorem d_Law_530 : decode code 530 = .ok (.iconst 0, 1) := by decide +kernel
theorem d_Law_531 : decode code 531 = .ok (.ireturn, 1) := by decide +kernel
theorem d_Law_532 : decode code 532 = .ok (.aload_n 1, 1) := by decide +kernel
theorem d_Law_533 : decode code 533 = .ok (.aload_n 0, 1) := by decide +kernel
theorem d_Law_534 : decode code 534 = .ok (.iload_n 3, 1) := by decide +kernel
theorem d_Law_535 : decode code 535 = .ok (.iconst 1, 1) := by decide +kernel
theorem d_Law_536 : decode code 536 = .ok (.iadd, 1) := by decide +kernel
theorem d_Law_537 : decode code 537 = .ok (.iaload, 1) := by decide +kernel
theorem d_Law_538 : decode code 538 = .ok (.aload_n 0, 1) := by decide +kernel
theorem d_Law_539 : decode code 539 = .ok (.iload_n 3, 1) := by decide +kernel
theorem d_Law_540 : decode code 540 = .ok (.iconst 2, 1) := by decide +kernel
theorem d_Law_541 : decode code 541 = .ok (.iadd, 1) := by decide +kernel
theorem d_Law_542 : decode code 542 = .ok (.iaload, 1) := by decide +kernel
theorem d_Law_543 : decode code 543 = .ok (.invokevirtual 49, 3) := by decide +kernel
theorem d_Law_546 : decode code 546 = .ok (.aload_n 2, 1) := by decide +kernel
theorem d_Law_547 : decode code 547 = .ok (.aload_n 0, 1) := by decide +kernel
theorem d_Law_548 : decode code 548 = .ok (.iload_n 3, 1) := by decide +kernel
theorem d_Law_549 : decode code 549 = .ok (.iconst 1, 1) := by decide +kernel
theorem d_Law_550 : decode code 550 = .ok (.iadd, 1) := by decide +kernel
theorem d_Law_551 : decode code 551 = .ok (.iaload, 1) := by decide +kernel
theorem d_Law_552 : decode code 552 = .ok (.aload_n 0, 1) := by decide +kernel
theorem d_Law_553 : decode code 553 = .ok (.iload_n 3, 1) := by decide +kernel
theorem d_Law_554 : decode code 554 = .ok (.iconst 2, 1) := by decide +kernel
theorem d_Law_555 : decode code 555 = .ok (.iadd, 1) := by decide +kernel
theorem d_Law_556 : decode code 556 = .ok (.iaload, 1) := by decide +kernel
theorem d_Law_557 : decode code 557 = .ok (.invokevirtual 53, 3) := by decide +kernel
theorem d_Law_560 : decode code 560 = .ok (.if_icmp .eq 629, 3) := by decide +kernel
theorem d_Law_563 : decode code 563 = .ok (.iconst 0, 1) := by decide +kernel
theorem d_Law_564 : decode code 564 = .ok (.ireturn, 1) := by decide +kernel
theorem d_Law_565 : decode code 565 = .ok (.aload_n 1, 1) := by decide +kernel
theorem d_Law_566 : decode code 566 = .ok (.aload_n 0, 1) := by decide +kernel
theorem d_Law_567 : decode code 567 = .ok (.iload_n 3, 1) := by decide +kernel
theorem d_Law_568 : decode code 568 = .ok (.iconst 1, 1) := by decide +kernel
theorem d_Law_569 : decode code 569 = .ok (.iadd, 1) := by decide +kernel
theorem d_Law_570 : decode code 570 = .ok (.iaload, 1) := by decide +kernel
theorem d_Law_571 : decode code 571 = .ok (.aload_n 0, 1) := by decide +kernel
theorem d_Law_572 : decode code 572 = .ok (.iload_n 3, 1) := by decide +kernel
theorem d_Law_573 : decode code 573 = .ok (.iconst 2, 1) := by decide +kernel
theorem d_Law_574 : decode code 574 = .ok (.iadd, 1) := by decide +kernel
theorem d_Law_575 : decode code 575 = .ok (.iaload, 1) := by decide +kernel
theorem d_Law_576 : decode code 576 = .ok (.invokevirtual 54, 3) := by decide +kernel
theorem d_Law_579 : decode code 579 = .ok (.aload_n 2, 1) := by decide +kernel
theorem d_Law_580 : decode code 580 = .ok (.aload_n 0, 1) := by decide +kernel
theorem d_Law_581 : decode code 581 = .ok (.iload_n 3, 1) := by decide +kernel
theorem d_Law_582 : decode code 582 = .ok (.iconst 1, 1) := by decide +kernel
theorem d_Law_583 : decode code 583 = .ok (.iadd, 1) := by decide +kernel
theorem d_Law_584 : decode code 584 = .ok (.iaload, 1) := by decide +kernel
theorem d_Law_585 : decode code 585 = .ok (.aload_n 0, 1) := by decide +kernel
theorem d_Law_586 : decode code 586 = .ok (.iload_n 3, 1) := by decide +kernel
theorem d_Law_587 : decode code 587 = .ok (.iconst 2, 1) := by decide +kernel
theorem d_Law_588 : decode code 588 = .ok (.iadd, 1) := by decide +kernel
theorem d_Law_589 : decode code 589 = .ok (.iaload, 1) := by decide +kernel
theorem d_Law_590 : decode code 590 = .ok (.invokevirtual 57, 3) := by decide +kernel
theorem d_Law_593 : decode code 593 = .ok (.if_icmp .eq 596, 3) := by decide +kernel
theorem d_Law_596 : decode code 596 = .ok (.iconst 0, 1) := by decide +kernel
theorem d_Law_597 : decode code 597 = .ok (.ireturn, 1) := by decide +kernel
theorem d_Law_598 : decode code 598 = .ok (.aload_n 1, 1) := by decide +kernel
theorem d_Law_599 : decode code 599 = .ok (.aload_n 0, 1) := by decide +kernel
theorem d_Law_600 : decode code 600 = .ok (.iload_n 3, 1) := by decide +kernel
theorem d_Law_601 : decode code 601 = .ok (.iconst 1, 1) := by decide +kernel
theorem d_Law_602 : decode code 602 = .ok (.iadd, 1) := by decide +kernel
theorem d_Law_603 : decode code 603 = .ok (.iaload, 1) := by decide +kernel
theorem d_Law_604 : decode code 604 = .ok (.invokevirtual 58, 3) := by decide +kernel
theorem d_Law_607 : decode code 607 = .ok (.aload_n 2, 1) := by decide +kernel
theorem d_Law_608 : decode code 608 = .ok (.aload_n 0, 1) := by decide +kernel
theorem d_Law_609 : decode code 609 = .ok (.iload_n 3, 1) := by decide +kernel
theorem d_Law_610 : decode code 610 = .ok (.iconst 1, 1) := by decide +kernel
theorem d_Law_611 : decode code 611 = .ok (.iadd, 1) := by decide +kernel
theorem d_Law_612 : decode code 612 = .ok (.iaload, 1) := by decide +kernel
theorem d_Law_613 : decode code 613 = .ok (.invokevirtual 61, 3) := by decide +kernel
theorem d_Law_616 : decode code 616 = .ok (.if_icmp .eq 573, 3) := by decide +kernel
theorem d_Law_619 : decode code 619 = .ok (.iconst 0, 1) := by decide +kernel
theorem d_Law_620 : decode code 620 = .ok (.ireturn, 1) := by decide +kernel
theorem d_Law_621 : decode code 621 = .ok (.aload_n 1, 1) := by decide +kernel
theorem d_Law_622 : decode code 622 = .ok (.aload_n 0, 1) := by decide +kernel
theorem d_Law_623 : decode code 623 = .ok (.iload_n 3, 1) := by decide +kernel
theorem d_Law_624 : decode code 624 = .ok (.iconst 1, 1) := by decide +kernel
theorem d_Law_625 : decode code 625 = .ok (.iadd, 1) := by decide +kernel
theorem d_Law_626 : decode code 626 = .ok (.iaload, 1) := by decide +kernel
theorem d_Law_627 : decode code 627 = .ok (.invokevirtual 62, 3) := by decide +kernel
theorem d_Law_630 : decode code 630 = .ok (.aload_n 2, 1) := by decide +kernel
theorem d_Law_631 : decode code 631 = .ok (.aload_n 0, 1) := by decide +kernel
theorem d_Law_632 : decode code 632 = .ok (.iload_n 3, 1) := by decide +kernel
theorem d_Law_633 : decode code 633 = .ok (.iconst 1, 1) := by decide +kernel
theorem d_Law_634 : decode code 634 = .ok (.iadd, 1) := by decide +kernel
theorem d_Law_635 : decode code 635 = .ok (.iaload, 1) := by decide +kernel
theorem d_Law_636 : decode code 636 = .ok (.invokevirtual 65, 3) := by decide +kernel
theorem d_Law_639 : decode code 639 = .ok (.if_icmp .eq 550, 3) := by decide +kernel
theorem d_Law_642 : decode code 642 = .ok (.iconst 0, 1) := by decide +kernel
theorem d_Law_643 : decode code 643 = .ok (.ireturn, 1) := by decide +kernel
theorem d_Law_644 : decode code 644 = .ok (.aload_n 1, 1) := by decide +kernel
theorem d_Law_645 : decode code 645 = .ok (.aload_n 0, 1) := by decide +kernel
theorem d_Law_646 : decode code 646 = .ok (.iload_n 3, 1) := by decide +kernel
theorem d_Law_647 : decode code 647 = .ok (.iconst 1, 1) := by decide +kernel
theorem d_Law_648 : decode code 648 = .ok (.iadd, 1) := by decide +kernel
theorem d_Law_649 : decode code 649 = .ok (.iaload, 1) := by decide +kernel
theorem d_Law_650 : decode code 650 = .ok (.aload_n 0, 1) := by decide +kernel
theorem d_Law_651 : decode code 651 = .ok (.iload_n 3, 1) := by decide +kernel
theorem d_Law_652 : decode code 652 = .ok (.iconst 2, 1) := by decide +kernel
theorem d_Law_653 : decode code 653 = .ok (.iadd, 1) := by decide +kernel
theorem d_Law_654 : decode code 654 = .ok (.iaload, 1) := by decide +kernel
theorem d_Law_655 : decode code 655 = .ok (.invokevirtual 66, 3) := by decide +kernel
theorem d_Law_658 : decode code 658 = .ok (.aload_n 2, 1) := by decide +kernel
theorem d_Law_659 : decode code 659 = .ok (.aload_n 0, 1) := by decide +kernel
theorem d_Law_660 : decode code 660 = .ok (.iload_n 3, 1) := by decide +kernel
theorem d_Law_661 : decode code 661 = .ok (.iconst 1, 1) := by decide +kernel
theorem d_Law_662 : decode code 662 = .ok (.iadd, 1) := by decide +kernel
theorem d_Law_663 : decode code 663 = .ok (.iaload, 1) := by decide +kernel
theorem d_Law_664 : decode code 664 = .ok (.aload_n 0, 1) := by decide +kernel
theorem d_Law_665 : decode code 665 = .ok (.iload_n 3, 1) := by decide +kernel
theorem d_Law_666 : decode code 666 = .ok (.iconst 2, 1) := by decide +kernel
theorem d_Law_667 : decode code 667 = .ok (.iadd, 1) := by decide +kernel
theorem d_Law_668 : decode code 668 = .ok (.iaload, 1) := by decide +kernel
theorem d_Law_669 : decode code 669 = .ok (.invokevirtual 69, 3) := by decide +kernel
theorem d_Law_672 : decode code 672 = .ok (.if_icmp .eq 517, 3) := by decide +kernel
theorem d_Law_675 : decode code 675 = .ok (.iconst 0, 1) := by decide +kernel
theorem d_Law_676 : decode code 676 = .ok (.ireturn, 1) := by decide +kernel
theorem d_Law_677 : decode code 677 = .ok (.aload_n 1, 1) := by decide +kernel
theorem d_Law_678 : decode code 678 = .ok (.aload_n 0, 1) := by decide +kernel
theorem d_Law_679 : decode code 679 = .ok (.iload_n 3, 1) := by decide +kernel
theorem d_Law_680 : decode code 680 = .ok (.iconst 1, 1) := by decide +kernel
theorem d_Law_681 : decode code 681 = .ok (.iadd, 1) := by decide +kernel
theorem d_Law_682 : decode code 682 = .ok (.iaload, 1) := by decide +kernel
theorem d_Law_683 : decode code 683 = .ok (.aload_n 0, 1) := by decide +kernel
theorem d_Law_684 : decode code 684 = .ok (.iload_n 3, 1) := by decide +kernel
theorem d_Law_685 : decode code 685 = .ok (.iconst 2, 1) := by decide +kernel
theorem d_Law_686 : decode code 686 = .ok (.iadd, 1) := by decide +kernel
theorem d_Law_687 : decode code 687 = .ok (.iaload, 1) := by decide +kernel
theorem d_Law_688 : decode code 688 = .ok (.invokevirtual 70, 3) := by decide +kernel
theorem d_Law_691 : decode code 691 = .ok (.aload_n 2, 1) := by decide +kernel
theorem d_Law_692 : decode code 692 = .ok (.aload_n 0, 1) := by decide +kernel
theorem d_Law_693 : decode code 693 = .ok (.iload_n 3, 1) := by decide +kernel
theorem d_Law_694 : decode code 694 = .ok (.iconst 1, 1) := by decide +kernel
theorem d_Law_695 : decode code 695 = .ok (.iadd, 1) := by decide +kernel
theorem d_Law_696 : decode code 696 = .ok (.iaload, 1) := by decide +kernel
theorem d_Law_697 : decode code 697 = .ok (.aload_n 0, 1) := by decide +kernel
theorem d_Law_698 : decode code 698 = .ok (.iload_n 3, 1) := by decide +kernel
theorem d_Law_699 : decode code 699 = .ok (.iconst 2, 1) := by decide +kernel
theorem d_Law_700 : decode code 700 = .ok (.iadd, 1) := by decide +kernel
theorem d_Law_701 : decode code 701 = .ok (.iaload, 1) := by decide +kernel
theorem d_Law_702 : decode code 702 = .ok (.invokevirtual 73, 3) := by decide +kernel
theorem d_Law_705 : decode code 705 = .ok (.if_icmp .eq 484, 3) := by decide +kernel
theorem d_Law_708 : decode code 708 = .ok (.iconst 0, 1) := by decide +kernel
theorem d_Law_709 : decode code 709 = .ok (.ireturn, 1) := by decide +kernel
theorem d_Law_710 : decode code 710 = .ok (.aload_n 1, 1) := by decide +kernel
theorem d_Law_711 : decode code 711 = .ok (.aload_n 0, 1) := by decide +kernel
theorem d_Law_712 : decode code 712 = .ok (.iload_n 3, 1) := by decide +kernel
theorem d_Law_713 : decode code 713 = .ok (.iconst 1, 1) := by decide +kernel
theorem d_Law_714 : decode code 714 = .ok (.iadd, 1) := by decide +kernel
theorem d_Law_715 : decode code 715 = .ok (.iaload, 1) := by decide +kernel
theorem d_Law_716 : decode code 716 = .ok (.aload_n 0, 1) := by decide +kernel
theorem d_Law_717 : decode code 717 = .ok (.iload_n 3, 1) := by decide +kernel
theorem d_Law_718 : decode code 718 = .ok (.iconst 2, 1) := by decide +kernel
theorem d_Law_719 : decode code 719 = .ok (.iadd, 1) := by decide +kernel
theorem d_Law_720 : decode code 720 = .ok (.iaload, 1) := by decide +kernel
theorem d_Law_721 : decode code 721 = .ok (.invokevirtual 74, 3) := by decide +kernel
theorem d_Law_724 : decode code 724 = .ok (.aload_n 2, 1) := by decide +kernel
theorem d_Law_725 : decode code 725 = .ok (.aload_n 0, 1) := by decide +kernel
theorem d_Law_726 : decode code 726 = .ok (.iload_n 3, 1) := by decide +kernel
theorem d_Law_727 : decode code 727 = .ok (.iconst 1, 1) := by decide +kernel
theorem d_Law_728 : decode code 728 = .ok (.iadd, 1) := by decide +kernel
theorem d_Law_729 : decode code 729 = .ok (.iaload, 1) := by decide +kernel
theorem d_Law_730 : decode code 730 = .ok (.aload_n 0, 1) := by decide +kernel
theorem d_Law_731 : decode code 731 = .ok (.iload_n 3, 1) := by decide +kernel
theorem d_Law_732 : decode code 732 = .ok (.iconst 2, 1) := by decide +kernel
theorem d_Law_733 : decode code 733 = .ok (.iadd, 1) := by decide +kernel
theorem d_Law_734 : decode code 734 = .ok (.iaload, 1) := by decide +kernel
theorem d_Law_735 : decode code 735 = .ok (.invokevirtual 77, 3) := by decide +kernel
theorem d_Law_738 : decode code 738 = .ok (.if_icmp .eq 451, 3) := by decide +kernel
theorem d_Law_741 : decode code 741 = .ok (.iconst 0, 1) := by decide +kernel
theorem d_Law_742 : decode code 742 = .ok (.ireturn, 1) := by decide +kernel
theorem d_Law_743 : decode code 743 = .ok (.aload_n 1, 1) := by decide +kernel
theorem d_Law_744 : decode code 744 = .ok (.aload_n 0, 1) := by decide +kernel
theorem d_Law_745 : decode code 745 = .ok (.iload_n 3, 1) := by decide +kernel
theorem d_Law_746 : decode code 746 = .ok (.iconst 1, 1) := by decide +kernel
theorem d_Law_747 : decode code 747 = .ok (.iadd, 1) := by decide +kernel
theorem d_Law_748 : decode code 748 = .ok (.iaload, 1) := by decide +kernel
theorem d_Law_749 : decode code 749 = .ok (.invokevirtual 78, 3) := by decide +kernel
theorem d_Law_752 : decode code 752 = .ok (.aload_n 2, 1) := by decide +kernel
theorem d_Law_753 : decode code 753 = .ok (.aload_n 0, 1) := by decide +kernel
theorem d_Law_754 : decode code 754 = .ok (.iload_n 3, 1) := by decide +kernel
theorem d_Law_755 : decode code 755 = .ok (.iconst 1, 1) := by decide +kernel
theorem d_Law_756 : decode code 756 = .ok (.iadd, 1) := by decide +kernel
theorem d_Law_757 : decode code 757 = .ok (.iaload, 1) := by decide +kernel
theorem d_Law_758 : decode code 758 = .ok (.invokevirtual 81, 3) := by decide +kernel
theorem d_Law_761 : decode code 761 = .ok (.if_icmp .eq 428, 3) := by decide +kernel
theorem d_Law_764 : decode code 764 = .ok (.iconst 0, 1) := by decide +kernel
theorem d_Law_765 : decode code 765 = .ok (.ireturn, 1) := by decide +kernel
theorem d_Law_766 : decode code 766 = .ok (.aload_n 1, 1) := by decide +kernel
theorem d_Law_767 : decode code 767 = .ok (.aload_n 0, 1) := by decide +kernel
theorem d_Law_768 : decode code 768 = .ok (.iload_n 3, 1) := by decide +kernel
theorem d_Law_769 : decode code 769 = .ok (.iconst 1, 1) := by decide +kernel
theorem d_Law_770 : decode code 770 = .ok (.iadd, 1) := by decide +kernel
theorem d_Law_771 : decode code 771 = .ok (.iaload, 1) := by decide +kernel
theorem d_Law_772 : decode code 772 = .ok (.aload_n 0, 1) := by decide +kernel
theorem d_Law_773 : decode code 773 = .ok (.iload_n 3, 1) := by decide +kernel
theorem d_Law_774 : decode code 774 = .ok (.iconst 2, 1) := by decide +kernel
theorem d_Law_775 : decode code 775 = .ok (.iadd, 1) := by decide +kernel
theorem d_Law_776 : decode code 776 = .ok (.iaload, 1) := by decide +kernel
theorem d_Law_777 : decode code 777 = .ok (.invokevirtual 82, 3) := by decide +kernel
theorem d_Law_780 : decode code 780 = .ok (.aload_n 2, 1) := by decide +kernel
theorem d_Law_781 : decode code 781 = .ok (.aload_n 0, 1) := by decide +kernel
theorem d_Law_782 : decode code 782 = .ok (.iload_n 3, 1) := by decide +kernel
theorem d_Law_783 : decode code 783 = .ok (.iconst 1, 1) := by decide +kernel
theorem d_Law_784 : decode code 784 = .ok (.iadd, 1) := by decide +kernel
theorem d_Law_785 : decode code 785 = .ok (.iaload, 1) := by decide +kernel
theorem d_Law_786 : decode code 786 = .ok (.aload_n 0, 1) := by decide +kernel
theorem d_Law_787 : decode code 787 = .ok (.iload_n 3, 1) := by decide +kernel
theorem d_Law_788 : decode code 788 = .ok (.iconst 2, 1) := by decide +kernel
theorem d_Law_789 : decode code 789 = .ok (.iadd, 1) := by decide +kernel
theorem d_Law_790 : decode code 790 = .ok (.iaload, 1) := by decide +kernel
theorem d_Law_791 : decode code 791 = .ok (.invokevirtual 85, 3) := by decide +kernel
theorem d_Law_794 : decode code 794 = .ok (.if_icmp .eq 395, 3) := by decide +kernel
theorem d_Law_797 : decode code 797 = .ok (.iconst 0, 1) := by decide +kernel
theorem d_Law_798 : decode code 798 = .ok (.ireturn, 1) := by decide +kernel
theorem d_Law_799 : decode code 799 = .ok (.aload_n 1, 1) := by decide +kernel
theorem d_Law_800 : decode code 800 = .ok (.aload_n 0, 1) := by decide +kernel
theorem d_Law_801 : decode code 801 = .ok (.iload_n 3, 1) := by decide +kernel
theorem d_Law_802 : decode code 802 = .ok (.iconst 1, 1) := by decide +kernel
theorem d_Law_803 : decode code 803 = .ok (.iadd, 1) := by decide +kernel
theorem d_Law_804 : decode code 804 = .ok (.iaload, 1) := by decide +kernel
theorem d_Law_805 : decode code 805 = .ok (.aload_n 0, 1) := by decide +kernel
theorem d_Law_806 : decode code 806 = .ok (.iload_n 3, 1) := by decide +kernel
theorem d_Law_807 : decode code 807 = .ok (.iconst 2, 1) := by decide +kernel
theorem d_Law_808 : decode code 808 = .ok (.iadd, 1) := by decide +kernel
theorem d_Law_809 : decode code 809 = .ok (.iaload, 1) := by decide +kernel
theorem d_Law_810 : decode code 810 = .ok (.invokevirtual 86, 3) := by decide +kernel
theorem d_Law_813 : decode code 813 = .ok (.aload_n 2, 1) := by decide +kernel
theorem d_Law_814 : decode code 814 = .ok (.aload_n 0, 1) := by decide +kernel
theorem d_Law_815 : decode code 815 = .ok (.iload_n 3, 1) := by decide +kernel
theorem d_Law_816 : decode code 816 = .ok (.iconst 1, 1) := by decide +kernel
theorem d_Law_817 : decode code 817 = .ok (.iadd, 1) := by decide +kernel
theorem d_Law_818 : decode code 818 = .ok (.iaload, 1) := by decide +kernel
theorem d_Law_819 : decode code 819 = .ok (.aload_n 0, 1) := by decide +kernel
theorem d_Law_820 : decode code 820 = .ok (.iload_n 3, 1) := by decide +kernel
theorem d_Law_821 : decode code 821 = .ok (.iconst 2, 1) := by decide +kernel
theorem d_Law_822 : decode code 822 = .ok (.iadd, 1) := by decide +kernel
theorem d_Law_823 : decode code 823 = .ok (.iaload, 1) := by decide +kernel
theorem d_Law_824 : decode code 824 = .ok (.invokevirtual 89, 3) := by decide +kernel
theorem d_Law_827 : decode code 827 = .ok (.if_icmp .eq 362, 3) := by decide +kernel
theorem d_Law_830 : decode code 830 = .ok (.iconst 0, 1) := by decide +kernel
theorem d_Law_831 : decode code 831 = .ok (.ireturn, 1) := by decide +kernel
theorem d_Law_832 : decode code 832 = .ok (.aload_n 1, 1) := by decide +kernel
theorem d_Law_833 : decode code 833 = .ok (.aload_n 0, 1) := by decide +kernel
theorem d_Law_834 : decode code 834 = .ok (.iload_n 3, 1) := by decide +kernel
theorem d_Law_835 : decode code 835 = .ok (.iconst 1, 1) := by decide +kernel
theorem d_Law_836 : decode code 836 = .ok (.iadd, 1) := by decide +kernel
theorem d_Law_837 : decode code 837 = .ok (.iaload, 1) := by decide +kernel
theorem d_Law_838 : decode code 838 = .ok (.invokevirtual 90, 3) := by decide +kernel
theorem d_Law_841 : decode code 841 = .ok (.aload_n 2, 1) := by decide +kernel
theorem d_Law_842 : decode code 842 = .ok (.aload_n 0, 1) := by decide +kernel
theorem d_Law_843 : decode code 843 = .ok (.iload_n 3, 1) := by decide +kernel
theorem d_Law_844 : decode code 844 = .ok (.iconst 1, 1) := by decide +kernel
theorem d_Law_845 : decode code 845 = .ok (.iadd, 1) := by decide +kernel
theorem d_Law_846 : decode code 846 = .ok (.iaload, 1) := by decide +kernel
theorem d_Law_847 : decode code 847 = .ok (.invokevirtual 93, 3) := by decide +kernel
theorem d_Law_850 : decode code 850 = .ok (.if_icmp .eq 339, 3) := by decide +kernel
theorem d_Law_853 : decode code 853 = .ok (.iconst 0, 1) := by decide +kernel
theorem d_Law_854 : decode code 854 = .ok (.ireturn, 1) := by decide +kernel
theorem d_Law_855 : decode code 855 = .ok (.aload_n 1, 1) := by decide +kernel
theorem d_Law_856 : decode code 856 = .ok (.aload_n 0, 1) := by decide +kernel
theorem d_Law_857 : decode code 857 = .ok (.iload_n 3, 1) := by decide +kernel
theorem d_Law_858 : decode code 858 = .ok (.iconst 1, 1) := by decide +kernel
theorem d_Law_859 : decode code 859 = .ok (.iadd, 1) := by decide +kernel
theorem d_Law_860 : decode code 860 = .ok (.iaload, 1) := by decide +kernel
theorem d_Law_861 : decode code 861 = .ok (.aload_n 0, 1) := by decide +kernel
theorem d_Law_862 : decode code 862 = .ok (.iload_n 3, 1) := by decide +kernel
theorem d_Law_863 : decode code 863 = .ok (.iconst 2, 1) := by decide +kernel
theorem d_Law_864 : decode code 864 = .ok (.iadd, 1) := by decide +kernel
theorem d_Law_865 : decode code 865 = .ok (.iaload, 1) := by decide +kernel
theorem d_Law_866 : decode code 866 = .ok (.invokevirtual 94, 3) := by decide +kernel
theorem d_Law_869 : decode code 869 = .ok (.aload_n 2, 1) := by decide +kernel
theorem d_Law_870 : decode code 870 = .ok (.aload_n 0, 1) := by decide +kernel
theorem d_Law_871 : decode code 871 = .ok (.iload_n 3, 1) := by decide +kernel
theorem d_Law_872 : decode code 872 = .ok (.iconst 1, 1) := by decide +kernel
theorem d_Law_873 : decode code 873 = .ok (.iadd, 1) := by decide +kernel
theorem d_Law_874 : decode code 874 = .ok (.iaload, 1) := by decide +kernel
theorem d_Law_875 : decode code 875 = .ok (.aload_n 0, 1) := by decide +kernel
theorem d_Law_876 : decode code 876 = .ok (.iload_n 3, 1) := by decide +kernel
theorem d_Law_877 : decode code 877 = .ok (.iconst 2, 1) := by decide +kernel
theorem d_Law_878 : decode code 878 = .ok (.iadd, 1) := by decide +kernel
theorem d_Law_879 : decode code 879 = .ok (.iaload, 1) := by decide +kernel
theorem d_Law_880 : decode code 880 = .ok (.invokevirtual 97, 3) := by decide +kernel
theorem d_Law_883 : decode code 883 = .ok (.if_icmp .eq 306, 3) := by decide +kernel
theorem d_Law_886 : decode code 886 = .ok (.iconst 0, 1) := by decide +kernel
theorem d_Law_887 : decode code 887 = .ok (.ireturn, 1) := by decide +kernel
theorem d_Law_888 : decode code 888 = .ok (.aload_n 1, 1) := by decide +kernel
theorem d_Law_889 : decode code 889 = .ok (.aload_n 0, 1) := by decide +kernel
theorem d_Law_890 : decode code 890 = .ok (.iload_n 3, 1) := by decide +kernel
theorem d_Law_891 : decode code 891 = .ok (.iconst 1, 1) := by decide +kernel
theorem d_Law_892 : decode code 892 = .ok (.iadd, 1) := by decide +kernel
theorem d_Law_893 : decode code 893 = .ok (.iaload, 1) := by decide +kernel
theorem d_Law_894 : decode code 894 = .ok (.aload_n 0, 1) := by decide +kernel
theorem d_Law_895 : decode code 895 = .ok (.iload_n 3, 1) := by decide +kernel
theorem d_Law_896 : decode code 896 = .ok (.iconst 2, 1) := by decide +kernel
theorem d_Law_897 : decode code 897 = .ok (.iadd, 1) := by decide +kernel
theorem d_Law_898 : decode code 898 = .ok (.iaload, 1) := by decide +kernel
theorem d_Law_899 : decode code 899 = .ok (.aload_n 0, 1) := by decide +kernel
theorem d_Law_900 : decode code 900 = .ok (.iload_n 3, 1) := by decide +kernel
theorem d_Law_901 : decode code 901 = .ok (.iconst 3, 1) := by decide +kernel
theorem d_Law_902 : decode code 902 = .ok (.iadd, 1) := by decide +kernel
theorem d_Law_903 : decode code 903 = .ok (.iaload, 1) := by decide +kernel
theorem d_Law_904 : decode code 904 = .ok (.invokevirtual 98, 3) := by decide +kernel
theorem d_Law_907 : decode code 907 = .ok (.aload_n 2, 1) := by decide +kernel
theorem d_Law_908 : decode code 908 = .ok (.aload_n 0, 1) := by decide +kernel
theorem d_Law_909 : decode code 909 = .ok (.iload_n 3, 1) := by decide +kernel
theorem d_Law_910 : decode code 910 = .ok (.iconst 1, 1) := by decide +kernel
theorem d_Law_911 : decode code 911 = .ok (.iadd, 1) := by decide +kernel
theorem d_Law_912 : decode code 912 = .ok (.iaload, 1) := by decide +kernel
theorem d_Law_913 : decode code 913 = .ok (.aload_n 0, 1) := by decide +kernel
theorem d_Law_914 : decode code 914 = .ok (.iload_n 3, 1) := by decide +kernel
theorem d_Law_915 : decode code 915 = .ok (.iconst 2, 1) := by decide +kernel
theorem d_Law_916 : decode code 916 = .ok (.iadd, 1) := by decide +kernel
theorem d_Law_917 : decode code 917 = .ok (.iaload, 1) := by decide +kernel
theorem d_Law_918 : decode code 918 = .ok (.aload_n 0, 1) := by decide +kernel
theorem d_Law_919 : decode code 919 = .ok (.iload_n 3, 1) := by decide +kernel
theorem d_Law_920 : decode code 920 = .ok (.iconst 3, 1) := by decide +kernel
theorem d_Law_921 : decode code 921 = .ok (.iadd, 1) := by decide +kernel
theorem d_Law_922 : decode code 922 = .ok (.iaload, 1) := by decide +kernel
theorem d_Law_923 : decode code 923 = .ok (.invokevirtual 101, 3) := by decide +kernel
theorem d_Law_926 : decode code 926 = .ok (.if_icmp .eq 263, 3) := by decide +kernel
theorem d_Law_929 : decode code 929 = .ok (.iconst 0, 1) := by decide +kernel
theorem d_Law_930 : decode code 930 = .ok (.ireturn, 1) := by decide +kernel
theorem d_Law_931 : decode code 931 = .ok (.aload_n 1, 1) := by decide +kernel
theorem d_Law_932 : decode code 932 = .ok (.aload_n 0, 1) := by decide +kernel
theorem d_Law_933 : decode code 933 = .ok (.iload_n 3, 1) := by decide +kernel
theorem d_Law_934 : decode code 934 = .ok (.iconst 1, 1) := by decide +kernel
theorem d_Law_935 : decode code 935 = .ok (.iadd, 1) := by decide +kernel
theorem d_Law_936 : decode code 936 = .ok (.iaload, 1) := by decide +kernel
theorem d_Law_937 : decode code 937 = .ok (.aload_n 0, 1) := by decide +kernel
theorem d_Law_938 : decode code 938 = .ok (.iload_n 3, 1) := by decide +kernel
theorem d_Law_939 : decode code 939 = .ok (.iconst 2, 1) := by decide +kernel
theorem d_Law_940 : decode code 940 = .ok (.iadd, 1) := by decide +kernel
theorem d_Law_941 : decode code 941 = .ok (.iaload, 1) := by decide +kernel
theorem d_Law_942 : decode code 942 = .ok (.invokevirtual 102, 3) := by decide +kernel
theorem d_Law_945 : decode code 945 = .ok (.aload_n 2, 1) := by decide +kernel
theorem d_Law_946 : decode code 946 = .ok (.aload_n 0, 1) := by decide +kernel
theorem d_Law_947 : decode code 947 = .ok (.iload_n 3, 1) := by decide +kernel
theorem d_Law_948 : decode code 948 = .ok (.iconst 1, 1) := by decide +kernel
theorem d_Law_949 : decode code 949 = .ok (.iadd, 1) := by decide +kernel
theorem d_Law_950 : decode code 950 = .ok (.iaload, 1) := by decide +kernel
theorem d_Law_951 : decode code 951 = .ok (.aload_n 0, 1) := by decide +kernel
theorem d_Law_952 : decode code 952 = .ok (.iload_n 3, 1) := by decide +kernel
theorem d_Law_953 : decode code 953 = .ok (.iconst 2, 1) := by decide +kernel
theorem d_Law_954 : decode code 954 = .ok (.iadd, 1) := by decide +kernel
theorem d_Law_955 : decode code 955 = .ok (.iaload, 1) := by decide +kernel
theorem d_Law_956 : decode code 956 = .ok (.invokevirtual 105, 3) := by decide +kernel
theorem d_Law_959 : decode code 959 = .ok (.if_icmp .eq 230, 3) := by decide +kernel
theorem d_Law_962 : decode code 962 = .ok (.iconst 0, 1) := by decide +kernel
theorem d_Law_963 : decode code 963 = .ok (.ireturn, 1) := by decide +kernel
theorem d_Law_964 : decode code 964 = .ok (.aload_n 1, 1) := by decide +kernel
theorem d_Law_965 : decode code 965 = .ok (.aload_n 0, 1) := by decide +kernel
theorem d_Law_966 : decode code 966 = .ok (.iload_n 3, 1) := by decide +kernel
theorem d_Law_967 : decode code 967 = .ok (.iconst 1, 1) := by decide +kernel
theorem d_Law_968 : decode code 968 = .ok (.iadd, 1) := by decide +kernel
theorem d_Law_969 : decode code 969 = .ok (.iaload, 1) := by decide +kernel
theorem d_Law_970 : decode code 970 = .ok (.invokevirtual 106, 3) := by decide +kernel
theorem d_Law_973 : decode code 973 = .ok (.aload_n 2, 1) := by decide +kernel
theorem d_Law_974 : decode code 974 = .ok (.aload_n 0, 1) := by decide +kernel
theorem d_Law_975 : decode code 975 = .ok (.iload_n 3, 1) := by decide +kernel
theorem d_Law_976 : decode code 976 = .ok (.iconst 1, 1) := by decide +kernel
theorem d_Law_977 : decode code 977 = .ok (.iadd, 1) := by decide +kernel
theorem d_Law_978 : decode code 978 = .ok (.iaload, 1) := by decide +kernel
theorem d_Law_979 : decode code 979 = .ok (.invokevirtual 109, 3) := by decide +kernel
theorem d_Law_982 : decode code 982 = .ok (.if_icmp .eq 207, 3) := by decide +kernel
theorem d_Law_985 : decode code 985 = .ok (.iconst 0, 1) := by decide +kernel
theorem d_Law_986 : decode code 986 = .ok (.ireturn, 1) := by decide +kernel
theorem d_Law_987 : decode code 987 = .ok (.aload_n 1, 1) := by decide +kernel
theorem d_Law_988 : decode code 988 = .ok (.aload_n 0, 1) := by decide +kernel
theorem d_Law_989 : decode code 989 = .ok (.iload_n 3, 1) := by decide +kernel
theorem d_Law_990 : decode code 990 = .ok (.iconst 1, 1) := by decide +kernel
theorem d_Law_991 : decode code 991 = .ok (.iadd, 1) := by decide +kernel
theorem d_Law_992 : decode code 992 = .ok (.iaload, 1) := by decide +kernel
theorem d_Law_993 : decode code 993 = .ok (.aload_n 0, 1) := by decide +kernel
theorem d_Law_994 : decode code 994 = .ok (.iload_n 3, 1) := by decide +kernel
theorem d_Law_995 : decode code 995 = .ok (.iconst 2, 1) := by decide +kernel
theorem d_Law_996 : decode code 996 = .ok (.iadd, 1) := by decide +kernel
theorem d_Law_997 : decode code 997 = .ok (.iaload, 1) := by decide +kernel
theorem d_Law_998 : decode code 998 = .ok (.invokevirtual 110, 3) := by decide +kernel
theorem d_Law_1001 : decode code 1001 = .ok (.aload_n 2, 1) := by decide +kernel
theorem d_Law_1002 : decode code 1002 = .ok (.aload_n 0, 1) := by decide +kernel
theorem d_Law_1003 : decode code 1003 = .ok (.iload_n 3, 1) := by decide +kernel
theorem d_Law_1004 : decode code 1004 = .ok (.iconst 1, 1) := by decide +kernel
theorem d_Law_1005 : decode code 1005 = .ok (.iadd, 1) := by decide +kernel
theorem d_Law_1006 : decode code 1006 = .ok (.iaload, 1) := by decide +kernel
theorem d_Law_1007 : decode code 1007 = .ok (.aload_n 0, 1) := by decide +kernel
theorem d_Law_1008 : decode code 1008 = .ok (.iload_n 3, 1) := by decide +kernel
theorem d_Law_1009 : decode code 1009 = .ok (.iconst 2, 1) := by decide +kernel
theorem d_Law_1010 : decode code 1010 = .ok (.iadd, 1) := by decide +kernel
theorem d_Law_1011 : decode code 1011 = .ok (.iaload, 1) := by decide +kernel
theorem d_Law_1012 : decode code 1012 = .ok (.invokevirtual 114, 3) := by decide +kernel
theorem d_Law_1015 : decode code 1015 = .ok (.lcmp, 1) := by decide +kernel
theorem d_Law_1016 : decode code 1016 = .ok (.ifCond .eq 173, 3) := by decide +kernel
theorem d_Law_1019 : decode code 1019 = .ok (.iconst 0, 1) := by decide +kernel
theorem d_Law_1020 : decode code 1020 = .ok (.ireturn, 1) := by decide +kernel
theorem d_Law_1021 : decode code 1021 = .ok (.aload_n 1, 1) := by decide +kernel
theorem d_Law_1022 : decode code 1022 = .ok (.aload_n 0, 1) := by decide +kernel
theorem d_Law_1023 : decode code 1023 = .ok (.iload_n 3, 1) := by decide +kernel
theorem d_Law_1024 : decode code 1024 = .ok (.iconst 1, 1) := by decide +kernel
theorem d_Law_1025 : decode code 1025 = .ok (.iadd, 1) := by decide +kernel
theorem d_Law_1026 : decode code 1026 = .ok (.iaload, 1) := by decide +kernel
theorem d_Law_1027 : decode code 1027 = .ok (.aload_n 0, 1) := by decide +kernel
theorem d_Law_1028 : decode code 1028 = .ok (.iload_n 3, 1) := by decide +kernel
theorem d_Law_1029 : decode code 1029 = .ok (.iconst 2, 1) := by decide +kernel
theorem d_Law_1030 : decode code 1030 = .ok (.iadd, 1) := by decide +kernel
theorem d_Law_1031 : decode code 1031 = .ok (.iaload, 1) := by decide +kernel
theorem d_Law_1032 : decode code 1032 = .ok (.invokevirtual 115, 3) := by decide +kernel
theorem d_Law_1035 : decode code 1035 = .ok (.aload_n 2, 1) := by decide +kernel
theorem d_Law_1036 : decode code 1036 = .ok (.aload_n 0, 1) := by decide +kernel
theorem d_Law_1037 : decode code 1037 = .ok (.iload_n 3, 1) := by decide +kernel
theorem d_Law_1038 : decode code 1038 = .ok (.iconst 1, 1) := by decide +kernel
theorem d_Law_1039 : decode code 1039 = .ok (.iadd, 1) := by decide +kernel
theorem d_Law_1040 : decode code 1040 = .ok (.iaload, 1) := by decide +kernel
theorem d_Law_1041 : decode code 1041 = .ok (.aload_n 0, 1) := by decide +kernel
theorem d_Law_1042 : decode code 1042 = .ok (.iload_n 3, 1) := by decide +kernel
theorem d_Law_1043 : decode code 1043 = .ok (.iconst 2, 1) := by decide +kernel
theorem d_Law_1044 : decode code 1044 = .ok (.iadd, 1) := by decide +kernel
theorem d_Law_1045 : decode code 1045 = .ok (.iaload, 1) := by decide +kernel
theorem d_Law_1046 : decode code 1046 = .ok (.invokevirtual 118, 3) := by decide +kernel
theorem d_Law_1049 : decode code 1049 = .ok (.if_icmp .eq 140, 3) := by decide +kernel
theorem d_Law_1052 : decode code 1052 = .ok (.iconst 0, 1) := by decide +kernel
theorem d_Law_1053 : decode code 1053 = .ok (.ireturn, 1) := by decide +kernel
theorem d_Law_1054 : decode code 1054 = .ok (.aload_n 1, 1) := by decide +kernel
theorem d_Law_1055 : decode code 1055 = .ok (.aload_n 0, 1) := by decide +kernel
theorem d_Law_1056 : decode code 1056 = .ok (.iload_n 3, 1) := by decide +kernel
theorem d_Law_1057 : decode code 1057 = .ok (.iconst 1, 1) := by decide +kernel
theorem d_Law_1058 : decode code 1058 = .ok (.iadd, 1) := by decide +kernel
theorem d_Law_1059 : decode code 1059 = .ok (.iaload, 1) := by decide +kernel
theorem d_Law_1060 : decode code 1060 = .ok (.aload_n 0, 1) := by decide +kernel
theorem d_Law_1061 : decode code 1061 = .ok (.iload_n 3, 1) := by decide +kernel
theorem d_Law_1062 : decode code 1062 = .ok (.iconst 2, 1) := by decide +kernel
theorem d_Law_1063 : decode code 1063 = .ok (.iadd, 1) := by decide +kernel
theorem d_Law_1064 : decode code 1064 = .ok (.iaload, 1) := by decide +kernel
theorem d_Law_1065 : decode code 1065 = .ok (.invokevirtual 119, 3) := by decide +kernel
theorem d_Law_1068 : decode code 1068 = .ok (.aload_n 2, 1) := by decide +kernel
theorem d_Law_1069 : decode code 1069 = .ok (.aload_n 0, 1) := by decide +kernel
theorem d_Law_1070 : decode code 1070 = .ok (.iload_n 3, 1) := by decide +kernel
theorem d_Law_1071 : decode code 1071 = .ok (.iconst 1, 1) := by decide +kernel
theorem d_Law_1072 : decode code 1072 = .ok (.iadd, 1) := by decide +kernel
theorem d_Law_1073 : decode code 1073 = .ok (.iaload, 1) := by decide +kernel
theorem d_Law_1074 : decode code 1074 = .ok (.aload_n 0, 1) := by decide +kernel
theorem d_Law_1075 : decode code 1075 = .ok (.iload_n 3, 1) := by decide +kernel
theorem d_Law_1076 : decode code 1076 = .ok (.iconst 2, 1) := by decide +kernel
theorem d_Law_1077 : decode code 1077 = .ok (.iadd, 1) := by decide +kernel
theorem d_Law_1078 : decode code 1078 = .ok (.iaload, 1) := by decide +kernel
theorem d_Law_1079 : decode code 1079 = .ok (.invokevirtual 122, 3) := by decide +kernel
theorem d_Law_1082 : decode code 1082 = .ok (.if_icmp .eq 107, 3) := by decide +kernel
theorem d_Law_1085 : decode code 1085 = .ok (.iconst 0, 1) := by decide +kernel
theorem d_Law_1086 : decode code 1086 = .ok (.ireturn, 1) := by decide +kernel
theorem d_Law_1087 : decode code 1087 = .ok (.aload_n 1, 1) := by decide +kernel
theorem d_Law_1088 : decode code 1088 = .ok (.aload_n 0, 1) := by decide +kernel
theorem d_Law_1089 : decode code 1089 = .ok (.iload_n 3, 1) := by decide +kernel
theorem d_Law_1090 : decode code 1090 = .ok (.iconst 1, 1) := by decide +kernel
theorem d_Law_1091 : decode code 1091 = .ok (.iadd, 1) := by decide +kernel
theorem d_Law_1092 : decode code 1092 = .ok (.iaload, 1) := by decide +kernel
theorem d_Law_1093 : decode code 1093 = .ok (.invokevirtual 123, 3) := by decide +kernel
theorem d_Law_1096 : decode code 1096 = .ok (.aload_n 2, 1) := by decide +kernel
theorem d_Law_1097 : decode code 1097 = .ok (.aload_n 0, 1) := by decide +kernel
theorem d_Law_1098 : decode code 1098 = .ok (.iload_n 3, 1) := by decide +kernel
theorem d_Law_1099 : decode code 1099 = .ok (.iconst 1, 1) := by decide +kernel
theorem d_Law_1100 : decode code 1100 = .ok (.iadd, 1) := by decide +kernel
theorem d_Law_1101 : decode code 1101 = .ok (.iaload, 1) := by decide +kernel
theorem d_Law_1102 : decode code 1102 = .ok (.invokevirtual 126, 3) := by decide +kernel
theorem d_Law_1105 : decode code 1105 = .ok (.if_icmp .eq 84, 3) := by decide +kernel
theorem d_Law_1108 : decode code 1108 = .ok (.iconst 0, 1) := by decide +kernel
theorem d_Law_1109 : decode code 1109 = .ok (.ireturn, 1) := by decide +kernel
theorem d_Law_1110 : decode code 1110 = .ok (.aload_n 1, 1) := by decide +kernel
theorem d_Law_1111 : decode code 1111 = .ok (.aload_n 0, 1) := by decide +kernel
theorem d_Law_1112 : decode code 1112 = .ok (.iload_n 3, 1) := by decide +kernel
theorem d_Law_1113 : decode code 1113 = .ok (.iconst 1, 1) := by decide +kernel
theorem d_Law_1114 : decode code 1114 = .ok (.iadd, 1) := by decide +kernel
theorem d_Law_1115 : decode code 1115 = .ok (.iaload, 1) := by decide +kernel
theorem d_Law_1116 : decode code 1116 = .ok (.aload_n 0, 1) := by decide +kernel
theorem d_Law_1117 : decode code 1117 = .ok (.iload_n 3, 1) := by decide +kernel
theorem d_Law_1118 : decode code 1118 = .ok (.iconst 2, 1) := by decide +kernel
theorem d_Law_1119 : decode code 1119 = .ok (.iadd, 1) := by decide +kernel
theorem d_Law_1120 : decode code 1120 = .ok (.iaload, 1) := by decide +kernel
theorem d_Law_1121 : decode code 1121 = .ok (.aload_n 0, 1) := by decide +kernel
theorem d_Law_1122 : decode code 1122 = .ok (.iload_n 3, 1) := by decide +kernel
theorem d_Law_1123 : decode code 1123 = .ok (.iconst 3, 1) := by decide +kernel
theorem d_Law_1124 : decode code 1124 = .ok (.iadd, 1) := by decide +kernel
theorem d_Law_1125 : decode code 1125 = .ok (.iaload, 1) := by decide +kernel
theorem d_Law_1126 : decode code 1126 = .ok (.invokevirtual 127, 3) := by decide +kernel
theorem d_Law_1129 : decode code 1129 = .ok (.aload_n 2, 1) := by decide +kernel
theorem d_Law_1130 : decode code 1130 = .ok (.aload_n 0, 1) := by decide +kernel
theorem d_Law_1131 : decode code 1131 = .ok (.iload_n 3, 1) := by decide +kernel
theorem d_Law_1132 : decode code 1132 = .ok (.iconst 1, 1) := by decide +kernel
theorem d_Law_1133 : decode code 1133 = .ok (.iadd, 1) := by decide +kernel
theorem d_Law_1134 : decode code 1134 = .ok (.iaload, 1) := by decide +kernel
theorem d_Law_1135 : decode code 1135 = .ok (.aload_n 0, 1) := by decide +kernel
theorem d_Law_1136 : decode code 1136 = .ok (.iload_n 3, 1) := by decide +kernel
theorem d_Law_1137 : decode code 1137 = .ok (.iconst 2, 1) := by decide +kernel
theorem d_Law_1138 : decode code 1138 = .ok (.iadd, 1) := by decide +kernel
theorem d_Law_1139 : decode code 1139 = .ok (.iaload, 1) := by decide +kernel
theorem d_Law_1140 : decode code 1140 = .ok (.aload_n 0, 1) := by decide +kernel
theorem d_Law_1141 : decode code 1141 = .ok (.iload_n 3, 1) := by decide +kernel
theorem d_Law_1142 : decode code 1142 = .ok (.iconst 3, 1) := by decide +kernel
theorem d_Law_1143 : decode code 1143 = .ok (.iadd, 1) := by decide +kernel
theorem d_Law_1144 : decode code 1144 = .ok (.iaload, 1) := by decide +kernel
theorem d_Law_1145 : decode code 1145 = .ok (.invokevirtual 130, 3) := by decide +kernel
theorem d_Law_1148 : decode code 1148 = .ok (.if_icmp .eq 41, 3) := by decide +kernel
theorem d_Law_1151 : decode code 1151 = .ok (.iconst 0, 1) := by decide +kernel
theorem d_Law_1152 : decode code 1152 = .ok (.ireturn, 1) := by decide +kernel
theorem d_Law_1153 : decode code 1153 = .ok (.aload_n 1, 1) := by decide +kernel
theorem d_Law_1154 : decode code 1154 = .ok (.aload_n 0, 1) := by decide +kernel
theorem d_Law_1155 : decode code 1155 = .ok (.iload_n 3, 1) := by decide +kernel
theorem d_Law_1156 : decode code 1156 = .ok (.iconst 1, 1) := by decide +kernel
theorem d_Law_1157 : decode code 1157 = .ok (.iadd, 1) := by decide +kernel
theorem d_Law_1158 : decode code 1158 = .ok (.iaload, 1) := by decide +kernel
theorem d_Law_1159 : decode code 1159 = .ok (.invokevirtual 131, 3) := by decide +kernel
theorem d_Law_1162 : decode code 1162 = .ok (.aload_n 2, 1) := by decide +kernel
theorem d_Law_1163 : decode code 1163 = .ok (.aload_n 0, 1) := by decide +kernel
theorem d_Law_1164 : decode code 1164 = .ok (.iload_n 3, 1) := by decide +kernel
theorem d_Law_1165 : decode code 1165 = .ok (.iconst 1, 1) := by decide +kernel
theorem d_Law_1166 : decode code 1166 = .ok (.iadd, 1) := by decide +kernel
theorem d_Law_1167 : decode code 1167 = .ok (.iaload, 1) := by decide +kernel
theorem d_Law_1168 : decode code 1168 = .ok (.invokevirtual 134, 3) := by decide +kernel
theorem d_Law_1171 : decode code 1171 = .ok (.if_icmp .eq 18, 3) := by decide +kernel
theorem d_Law_1174 : decode code 1174 = .ok (.iconst 0, 1) := by decide +kernel
theorem d_Law_1175 : decode code 1175 = .ok (.ireturn, 1) := by decide +kernel
theorem d_Law_1176 : decode code 1176 = .ok (.aload_n 1, 1) := by decide +kernel
theorem d_Law_1177 : decode code 1177 = .ok (.invokevirtual 135, 3) := by decide +kernel
theorem d_Law_1180 : decode code 1180 = .ok (.aload_n 2, 1) := by decide +kernel
theorem d_Law_1181 : decode code 1181 = .ok (.invokevirtual 139, 3) := by decide +kernel
theorem d_Law_1184 : decode code 1184 = .ok (.if_icmp .eq 5, 3) := by decide +kernel
theorem d_Law_1187 : decode code 1187 = .ok (.iconst 0, 1) := by decide +kernel
theorem d_Law_1188 : decode code 1188 = .ok (.ireturn, 1) := by decide +kernel
theorem d_Law_1189 : decode code 1189 = .ok (.iinc 3 6, 3) := by decide +kernel
theorem d_Law_1192 : decode code 1192 = .ok (.goto (-1174), 3) := by decide +kernel
theorem d_Law_1195 : decode code 1195 = .ok (.iconst 1, 1) := by decide +kernel
theorem d_Law_1196 : decode code 1196 = .ok (.ireturn, 1) := by decide +kernel
