theorem dX12_valley_137 : decode cX12_valley 137 = .ok (.laload, 1) := by decide +kernel
theorem dX12_valley_138 : decode cX12_valley 138 = .ok (.lastore, 1) := by decide +kernel
theorem dX12_valley_139 : decode cX12_valley 139 = .ok (.iinc 1 1, 3) := by decide +kernel
theorem dX12_valley_142 : decode cX12_valley 142 = .ok (.goto (-24), 3) := by decide +kernel
theorem dX12_valley_145 : decode cX12_valley 145 = .ok (.aload_n 0, 1) := by decide +kernel
theorem dX12_valley_146 : decode cX12_valley 146 = .ok (.getfield 307, 3) := by decide +kernel
theorem dX12_valley_149 : decode cX12_valley 149 = .ok (.ireturn, 1) := by decide +kernel
theorem dX12_fault_0 : decode cX12_fault 0 = .ok (.aload_n 0, 1) := by decide +kernel
theorem dX12_fault_1 : decode cX12_fault 1 = .ok (.iconst 0, 1) := by decide +kernel
theorem dX12_fault_2 : decode cX12_fault 2 = .ok (.putfield 1, 3) := by decide +kernel
theorem dX12_fault_5 : decode cX12_fault 5 = .ok (.aload_n 0, 1) := by decide +kernel
theorem dX12_fault_6 : decode cX12_fault 6 = .ok (.getfield 239, 3) := by decide +kernel
theorem dX12_fault_9 : decode cX12_fault 9 = .ok (.ireturn, 1) := by decide +kernel
theorem dX12_isWho_0 : decode cX12_isWho 0 = .ok (.iload_n 1, 1) := by decide +kernel
theorem dX12_isWho_1 : decode cX12_isWho 1 = .ok (.iconst 0, 1) := by decide +kernel
theorem dX12_isWho_2 : decode cX12_isWho 2 = .ok (.aload_n 0, 1) := by decide +kernel
theorem dX12_isWho_3 : decode cX12_isWho 3 = .ok (.getfield 33, 3) := by decide +kernel
theorem dX12_isWho_6 : decode cX12_isWho 6 = .ok (.iconst 0, 1) := by decide +kernel
theorem dX12_isWho_7 : decode cX12_isWho 7 = .ok (.iaload, 1) := by decide +kernel
theorem dX12_isWho_8 : decode cX12_isWho 8 = .ok (.iconst 1, 1) := by decide +kernel
theorem dX12_isWho_9 : decode cX12_isWho 9 = .ok (.isub, 1) := by decide +kernel
theorem dX12_isWho_10 : decode cX12_isWho 10 = .ok (.invokestatic 254, 3) := by decide +kernel
theorem dX12_isWho_13 : decode cX12_isWho 13 = .ok (.ireturn, 1) := by decide +kernel
theorem dX12_isFact_0 : decode cX12_isFact 0 = .ok (.iload_n 1, 1) := by decide +kernel
theorem dX12_isFact_1 : decode cX12_isFact 1 = .ok (.iconst 0, 1) := by decide +kernel
theorem dX12_isFact_2 : decode cX12_isFact 2 = .ok (.aload_n 0, 1) := by decide +kernel
theorem dX12_isFact_3 : decode cX12_isFact 3 = .ok (.getfield 33, 3) := by decide +kernel
theorem dX12_isFact_6 : decode cX12_isFact 6 = .ok (.iconst 1, 1) := by decide +kernel
theorem dX12_isFact_7 : decode cX12_isFact 7 = .ok (.iaload, 1) := by decide +kernel
theorem dX12_isFact_8 : decode cX12_isFact 8 = .ok (.iconst 1, 1) := by decide +kernel
theorem dX12_isFact_9 : decode cX12_isFact 9 = .ok (.isub, 1) := by decide +kernel
theorem dX12_isFact_10 : decode cX12_isFact 10 = .ok (.invokestatic 254, 3) := by decide +kernel
theorem dX12_isFact_13 : decode cX12_isFact 13 = .ok (.ireturn, 1) := by decide +kernel
theorem dX12_fact_0 : decode cX12_fact 0 = .ok (.aload_n 0, 1) := by decide +kernel
theorem dX12_fact_1 : decode cX12_fact 1 = .ok (.aload_n 0, 1) := by decide +kernel
theorem dX12_fact_2 : decode cX12_fact 2 = .ok (.iload_n 1, 1) := by decide +kernel
theorem dX12_fact_3 : decode cX12_fact 3 = .ok (.invokevirtual 316, 3) := by decide +kernel
theorem dX12_fact_6 : decode cX12_fact 6 = .ok (.ifCond .eq 12, 3) := by decide +kernel
theorem dX12_fact_9 : decode cX12_fact 9 = .ok (.iload_n 2, 1) := by decide +kernel
theorem dX12_fact_10 : decode cX12_fact 10 = .ok (.iconst 0, 1) := by decide +kernel
theorem dX12_fact_11 : decode cX12_fact 11 = .ok (.iconst 2, 1) := by decide +kernel
theorem dX12_fact_12 : decode cX12_fact 12 = .ok (.invokestatic 254, 3) := by decide +kernel
theorem dX12_fact_15 : decode cX12_fact 15 = .ok (.ifCond .ne 7, 3) := by decide +kernel
theorem dX12_fact_18 : decode cX12_fact 18 = .ok (.iconst 1, 1) := by decide +kernel
theorem dX12_fact_19 : decode cX12_fact 19 = .ok (.goto 4, 3) := by decide +kernel
theorem dX12_fact_22 : decode cX12_fact 22 = .ok (.iconst 0, 1) := by decide +kernel
theorem dX12_fact_23 : decode cX12_fact 23 = .ok (.invokevirtual 319, 3) := by decide +kernel
theorem dX12_fact_26 : decode cX12_fact 26 = .ok (.ifCond .eq 7, 3) := by decide +kernel
theorem dX12_fact_29 : decode cX12_fact 29 = .ok (.iconst 0, 1) := by decide +kernel
theorem dX12_fact_30 : decode cX12_fact 30 = .ok (.goto 16, 3) := by decide +kernel
theorem dX12_fact_33 : decode cX12_fact 33 = .ok (.aload_n 0, 1) := by decide +kernel
theorem dX12_fact_34 : decode cX12_fact 34 = .ok (.getfield 33, 3) := by decide +kernel
theorem dX12_fact_37 : decode cX12_fact 37 = .ok (.bipush 8, 2) := by decide +kernel
theorem dX12_fact_39 : decode cX12_fact 39 = .ok (.iconst 3, 1) := by decide +kernel
theorem dX12_fact_40 : decode cX12_fact 40 = .ok (.iload_n 1, 1) := by decide +kernel
theorem dX12_fact_41 : decode cX12_fact 41 = .ok (.imul, 1) := by decide +kernel
theorem dX12_fact_42 : decode cX12_fact 42 = .ok (.iadd, 1) := by decide +kernel
theorem dX12_fact_43 : decode cX12_fact 43 = .ok (.iload_n 2, 1) := by decide +kernel
theorem dX12_fact_44 : decode cX12_fact 44 = .ok (.iadd, 1) := by decide +kernel
theorem dX12_fact_45 : decode cX12_fact 45 = .ok (.iaload, 1) := by decide +kernel
theorem dX12_fact_46 : decode cX12_fact 46 = .ok (.ireturn, 1) := by decide +kernel
theorem dX12_bookLine_0 : decode cX12_bookLine 0 = .ok (.iconst 5, 1) := by decide +kernel
theorem dX12_bookLine_1 : decode cX12_bookLine 1 = .ok (.aload_n 0, 1) := by decide +kernel
theorem dX12_bookLine_2 : decode cX12_bookLine 2 = .ok (.getfield 323, 3) := by decide +kernel
theorem dX12_bookLine_5 : decode cX12_bookLine 5 = .ok (.imul, 1) := by decide +kernel
theorem dX12_bookLine_6 : decode cX12_bookLine 6 = .ok (.istore_n 1, 1) := by decide +kernel
theorem dX12_bookLine_7 : decode cX12_bookLine 7 = .ok (.aload_n 0, 1) := by decide +kernel
theorem dX12_bookLine_8 : decode cX12_bookLine 8 = .ok (.ldc2_w 177, 3) := by decide +kernel
theorem dX12_bookLine_11 : decode cX12_bookLine 11 = .ok (.invokevirtual 279, 3) := by decide +kernel
theorem dX12_bookLine_14 : decode cX12_bookLine 14 = .ok (.ifCond .eq 74, 3) := by decide +kernel
theorem dX12_bookLine_17 : decode cX12_bookLine 17 = .ok (.aload_n 0, 1) := by decide +kernel
theorem dX12_bookLine_18 : decode cX12_bookLine 18 = .ok (.getfield 323, 3) := by decide +kernel
theorem dX12_bookLine_21 : decode cX12_bookLine 21 = .ok (.bipush 60, 2) := by decide +kernel
theorem dX12_bookLine_23 : decode cX12_bookLine 23 = .ok (.if_icmp .ne 9, 3) := by decide +kernel
theorem dX12_bookLine_26 : decode cX12_bookLine 26 = .ok (.aload_n 0, 1) := by decide +kernel
theorem dX12_bookLine_27 : decode cX12_bookLine 27 = .ok (.iconst 4, 1) := by decide +kernel
theorem dX12_bookLine_28 : decode cX12_bookLine 28 = .ok (.invokevirtual 248, 3) := by decide +kernel
theorem dX12_bookLine_31 : decode cX12_bookLine 31 = .ok (.ireturn, 1) := by decide +kernel
theorem dX12_bookLine_32 : decode cX12_bookLine 32 = .ok (.aload_n 0, 1) := by decide +kernel
theorem dX12_bookLine_33 : decode cX12_bookLine 33 = .ok (.invokevirtual 251, 3) := by decide +kernel
theorem dX12_bookLine_36 : decode cX12_bookLine 36 = .ok (.aload_n 0, 1) := by decide +kernel
theorem dX12_bookLine_37 : decode cX12_bookLine 37 = .ok (.aload_n 0, 1) := by decide +kernel
theorem dX12_bookLine_38 : decode cX12_bookLine 38 = .ok (.getfield 323, 3) := by decide +kernel
theorem dX12_bookLine_41 : decode cX12_bookLine 41 = .ok (.ifCond .ne 7, 3) := by decide +kernel
theorem dX12_bookLine_44 : decode cX12_bookLine 44 = .ok (.iconst 0, 1) := by decide +kernel
theorem dX12_bookLine_45 : decode cX12_bookLine 45 = .ok (.goto 9, 3) := by decide +kernel
theorem dX12_bookLine_48 : decode cX12_bookLine 48 = .ok (.aload_n 0, 1) := by decide +kernel
theorem dX12_bookLine_49 : decode cX12_bookLine 49 = .ok (.getfield 326, 3) := by decide +kernel
theorem dX12_bookLine_52 : decode cX12_bookLine 52 = .ok (.iconst 1, 1) := by decide +kernel
theorem dX12_bookLine_53 : decode cX12_bookLine 53 = .ok (.iadd, 1) := by decide +kernel
theorem dX12_bookLine_54 : decode cX12_bookLine 54 = .ok (.sipush 999, 3) := by decide +kernel
theorem dX12_bookLine_57 : decode cX12_bookLine 57 = .ok (.invokevirtual 276, 3) := by decide +kernel
theorem dX12_bookLine_60 : decode cX12_bookLine 60 = .ok (.ifCond .ne 5, 3) := by decide +kernel
theorem dX12_bookLine_63 : decode cX12_bookLine 63 = .ok (.iconst 0, 1) := by decide +kernel
theorem dX12_bookLine_64 : decode cX12_bookLine 64 = .ok (.ireturn, 1) := by decide +kernel
theorem dX12_bookLine_65 : decode cX12_bookLine 65 = .ok (.aload_n 0, 1) := by decide +kernel
theorem dX12_bookLine_66 : decode cX12_bookLine 66 = .ok (.aload_n 0, 1) := by decide +kernel
theorem dX12_bookLine_67 : decode cX12_bookLine 67 = .ok (.getfield 258, 3) := by decide +kernel
theorem dX12_bookLine_70 : decode cX12_bookLine 70 = .ok (.putfield 326, 3) := by decide +kernel
theorem dX12_bookLine_73 : decode cX12_bookLine 73 = .ok (.aload_n 0, 1) := by decide +kernel
theorem dX12_bookLine_74 : decode cX12_bookLine 74 = .ok (.iload_n 1, 1) := by decide +kernel
theorem dX12_bookLine_75 : decode cX12_bookLine 75 = .ok (.iconst 0, 1) := by decide +kernel
theorem dX12_bookLine_76 : decode cX12_bookLine 76 = .ok (.aload_n 0, 1) := by decide +kernel
theorem dX12_bookLine_77 : decode cX12_bookLine 77 = .ok (.getfield 258, 3) := by decide +kernel
theorem dX12_bookLine_80 : decode cX12_bookLine 80 = .ok (.iconst (-1), 1) := by decide +kernel
theorem dX12_bookLine_81 : decode cX12_bookLine 81 = .ok (.iconst (-1), 1) := by decide +kernel
theorem dX12_bookLine_82 : decode cX12_bookLine 82 = .ok (.iconst 0, 1) := by decide +kernel
theorem dX12_bookLine_83 : decode cX12_bookLine 83 = .ok (.invokevirtual 329, 3) := by decide +kernel
theorem dX12_bookLine_86 : decode cX12_bookLine 86 = .ok (.iconst 1, 1) := by decide +kernel
theorem dX12_bookLine_87 : decode cX12_bookLine 87 = .ok (.ireturn, 1) := by decide +kernel
theorem dX12_bookLine_88 : decode cX12_bookLine 88 = .ok (.aload_n 0, 1) := by decide +kernel
theorem dX12_bookLine_89 : decode cX12_bookLine 89 = .ok (.invokevirtual 261, 3) := by decide +kernel
theorem dX12_bookLine_92 : decode cX12_bookLine 92 = .ok (.ifCond .ne 9, 3) := by decide +kernel
theorem dX12_bookLine_95 : decode cX12_bookLine 95 = .ok (.aload_n 0, 1) := by decide +kernel
theorem dX12_bookLine_96 : decode cX12_bookLine 96 = .ok (.iconst 1, 1) := by decide +kernel
theorem dX12_bookLine_97 : decode cX12_bookLine 97 = .ok (.invokevirtual 248, 3) := by decide +kernel
theorem dX12_bookLine_100 : decode cX12_bookLine 100 = .ok (.ireturn, 1) := by decide +kernel
theorem dX12_bookLine_101 : decode cX12_bookLine 101 = .ok (.aload_n 0, 1) := by decide +kernel
theorem dX12_bookLine_102 : decode cX12_bookLine 102 = .ok (.iconst 0, 1) := by decide +kernel
theorem dX12_bookLine_103 : decode cX12_bookLine 103 = .ok (.aload_n 0, 1) := by decide +kernel
theorem dX12_bookLine_104 : decode cX12_bookLine 104 = .ok (.getfield 33, 3) := by decide +kernel
theorem dX12_bookLine_107 : decode cX12_bookLine 107 = .ok (.iconst 0, 1) := by decide +kernel
theorem dX12_bookLine_108 : decode cX12_bookLine 108 = .ok (.iaload, 1) := by decide +kernel
theorem dX12_bookLine_109 : decode cX12_bookLine 109 = .ok (.invokevirtual 265, 3) := by decide +kernel
theorem dX12_bookLine_112 : decode cX12_bookLine 112 = .ok (.istore_n 2, 1) := by decide +kernel
theorem dX12_bookLine_113 : decode cX12_bookLine 113 = .ok (.iload_n 2, 1) := by decide +kernel
theorem dX12_bookLine_114 : decode cX12_bookLine 114 = .ok (.ifCond .ge 9, 3) := by decide +kernel
theorem dX12_bookLine_117 : decode cX12_bookLine 117 = .ok (.aload_n 0, 1) := by decide +kernel
theorem dX12_bookLine_118 : decode cX12_bookLine 118 = .ok (.iconst 3, 1) := by decide +kernel
theorem dX12_bookLine_119 : decode cX12_bookLine 119 = .ok (.invokevirtual 248, 3) := by decide +kernel
theorem dX12_bookLine_122 : decode cX12_bookLine 122 = .ok (.ireturn, 1) := by decide +kernel
theorem dX12_bookLine_123 : decode cX12_bookLine 123 = .ok (.aload_n 0, 1) := by decide +kernel
theorem dX12_bookLine_124 : decode cX12_bookLine 124 = .ok (.getfield 323, 3) := by decide +kernel
theorem dX12_bookLine_127 : decode cX12_bookLine 127 = .ok (.bipush 60, 2) := by decide +kernel
theorem dX12_bookLine_129 : decode cX12_bookLine 129 = .ok (.if_icmp .ne 9, 3) := by decide +kernel
theorem dX12_bookLine_132 : decode cX12_bookLine 132 = .ok (.aload_n 0, 1) := by decide +kernel
theorem dX12_bookLine_133 : decode cX12_bookLine 133 = .ok (.iconst 4, 1) := by decide +kernel
theorem dX12_bookLine_134 : decode cX12_bookLine 134 = .ok (.invokevirtual 248, 3) := by decide +kernel
theorem dX12_bookLine_137 : decode cX12_bookLine 137 = .ok (.ireturn, 1) := by decide +kernel
theorem dX12_bookLine_138 : decode cX12_bookLine 138 = .ok (.aload_n 0, 1) := by decide +kernel
theorem dX12_bookLine_139 : decode cX12_bookLine 139 = .ok (.invokevirtual 251, 3) := by decide +kernel
theorem dX12_bookLine_142 : decode cX12_bookLine 142 = .ok (.aload_n 0, 1) := by decide +kernel
theorem dX12_bookLine_143 : decode cX12_bookLine 143 = .ok (.ldc2_w 179, 3) := by decide +kernel
theorem dX12_bookLine_146 : decode cX12_bookLine 146 = .ok (.invokevirtual 279, 3) := by decide +kernel
theorem dX12_bookLine_149 : decode cX12_bookLine 149 = .ok (.ifCond .eq 7, 3) := by decide +kernel
theorem dX12_bookLine_152 : decode cX12_bookLine 152 = .ok (.iconst 1, 1) := by decide +kernel
theorem dX12_bookLine_153 : decode cX12_bookLine 153 = .ok (.goto 46, 3) := by decide +kernel
theorem dX12_bookLine_156 : decode cX12_bookLine 156 = .ok (.aload_n 0, 1) := by decide +kernel
theorem dX12_bookLine_157 : decode cX12_bookLine 157 = .ok (.ldc2_w 183, 3) := by decide +kernel
theorem dX12_bookLine_160 : decode cX12_bookLine 160 = .ok (.invokevirtual 279, 3) := by decide +kernel
theorem dX12_bookLine_163 : decode cX12_bookLine 163 = .ok (.ifCond .eq 7, 3) := by decide +kernel
theorem dX12_bookLine_166 : decode cX12_bookLine 166 = .ok (.iconst 2, 1) := by decide +kernel
theorem dX12_bookLine_167 : decode cX12_bookLine 167 = .ok (.goto 32, 3) := by decide +kernel
theorem dX12_bookLine_170 : decode cX12_bookLine 170 = .ok (.aload_n 0, 1) := by decide +kernel
theorem dX12_bookLine_171 : decode cX12_bookLine 171 = .ok (.ldc2_w 185, 3) := by decide +kernel
theorem dX12_bookLine_174 : decode cX12_bookLine 174 = .ok (.invokevirtual 279, 3) := by decide +kernel
theorem dX12_bookLine_177 : decode cX12_bookLine 177 = .ok (.ifCond .eq 7, 3) := by decide +kernel
theorem dX12_bookLine_180 : decode cX12_bookLine 180 = .ok (.iconst 3, 1) := by decide +kernel
theorem dX12_bookLine_181 : decode cX12_bookLine 181 = .ok (.goto 18, 3) := by decide +kernel
theorem dX12_bookLine_184 : decode cX12_bookLine 184 = .ok (.aload_n 0, 1) := by decide +kernel
theorem dX12_bookLine_185 : decode cX12_bookLine 185 = .ok (.ldc2_w 187, 3) := by decide +kernel
theorem dX12_bookLine_188 : decode cX12_bookLine 188 = .ok (.invokevirtual 279, 3) := by decide +kernel
theorem dX12_bookLine_191 : decode cX12_bookLine 191 = .ok (.ifCond .eq 7, 3) := by decide +kernel
theorem dX12_bookLine_194 : decode cX12_bookLine 194 = .ok (.iconst 4, 1) := by decide +kernel
theorem dX12_bookLine_195 : decode cX12_bookLine 195 = .ok (.goto 4, 3) := by decide +kernel
theorem dX12_bookLine_198 : decode cX12_bookLine 198 = .ok (.iconst (-1), 1) := by decide +kernel
theorem dX12_bookLine_199 : decode cX12_bookLine 199 = .ok (.istore_n 3, 1) := by decide +kernel
theorem dX12_bookLine_200 : decode cX12_bookLine 200 = .ok (.iload_n 3, 1) := by decide +kernel
theorem dX12_bookLine_201 : decode cX12_bookLine 201 = .ok (.ifCond .ge 9, 3) := by decide +kernel
theorem dX12_bookLine_204 : decode cX12_bookLine 204 = .ok (.aload_n 0, 1) := by decide +kernel
theorem dX12_bookLine_205 : decode cX12_bookLine 205 = .ok (.iconst 1, 1) := by decide +kernel
theorem dX12_bookLine_206 : decode cX12_bookLine 206 = .ok (.invokevirtual 248, 3) := by decide +kernel
theorem dX12_bookLine_209 : decode cX12_bookLine 209 = .ok (.ireturn, 1) := by decide +kernel
theorem dX12_bookLine_210 : decode cX12_bookLine 210 = .ok (.aload_n 0, 1) := by decide +kernel
theorem dX12_bookLine_211 : decode cX12_bookLine 211 = .ok (.invokevirtual 251, 3) := by decide +kernel
theorem dX12_bookLine_214 : decode cX12_bookLine 214 = .ok (.aload_n 0, 1) := by decide +kernel
theorem dX12_bookLine_215 : decode cX12_bookLine 215 = .ok (.invokevirtual 261, 3) := by decide +kernel
theorem dX12_bookLine_218 : decode cX12_bookLine 218 = .ok (.ifCond .ne 9, 3) := by decide +kernel
theorem dX12_bookLine_221 : decode cX12_bookLine 221 = .ok (.aload_n 0, 1) := by decide +kernel
theorem dX12_bookLine_222 : decode cX12_bookLine 222 = .ok (.iconst 1, 1) := by decide +kernel
theorem dX12_bookLine_223 : decode cX12_bookLine 223 = .ok (.invokevirtual 248, 3) := by decide +kernel
theorem dX12_bookLine_226 : decode cX12_bookLine 226 = .ok (.ireturn, 1) := by decide +kernel
theorem dX12_bookLine_227 : decode cX12_bookLine 227 = .ok (.aload_n 0, 1) := by decide +kernel
theorem dX12_bookLine_228 : decode cX12_bookLine 228 = .ok (.iconst 0, 1) := by decide +kernel
theorem dX12_bookLine_229 : decode cX12_bookLine 229 = .ok (.aload_n 0, 1) := by decide +kernel
theorem dX12_bookLine_230 : decode cX12_bookLine 230 = .ok (.getfield 33, 3) := by decide +kernel
theorem dX12_bookLine_233 : decode cX12_bookLine 233 = .ok (.iconst 0, 1) := by decide +kernel
theorem dX12_bookLine_234 : decode cX12_bookLine 234 = .ok (.iaload, 1) := by decide +kernel
theorem dX12_bookLine_235 : decode cX12_bookLine 235 = .ok (.invokevirtual 265, 3) := by decide +kernel
theorem dX12_bookLine_238 : decode cX12_bookLine 238 = .ok (.istore 4, 2) := by decide +kernel
theorem dX12_bookLine_240 : decode cX12_bookLine 240 = .ok (.iload 4, 2) := by decide +kernel
theorem dX12_bookLine_242 : decode cX12_bookLine 242 = .ok (.ifCond .lt 9, 3) := by decide +kernel
theorem dX12_bookLine_245 : decode cX12_bookLine 245 = .ok (.iload 4, 2) := by decide +kernel
theorem dX12_bookLine_247 : decode cX12_bookLine 247 = .ok (.iload_n 2, 1) := by decide +kernel
theorem dX12_bookLine_248 : decode cX12_bookLine 248 = .ok (.if_icmp .ne 9, 3) := by decide +kernel
theorem dX12_bookLine_251 : decode cX12_bookLine 251 = .ok (.aload_n 0, 1) := by decide +kernel
theorem dX12_bookLine_252 : decode cX12_bookLine 252 = .ok (.iconst 3, 1) := by decide +kernel
theorem dX12_bookLine_253 : decode cX12_bookLine 253 = .ok (.invokevirtual 248, 3) := by decide +kernel
theorem dX12_bookLine_256 : decode cX12_bookLine 256 = .ok (.ireturn, 1) := by decide +kernel
theorem dX12_bookLine_257 : decode cX12_bookLine 257 = .ok (.aload_n 0, 1) := by decide +kernel
theorem dX12_bookLine_258 : decode cX12_bookLine 258 = .ok (.invokevirtual 251, 3) := by decide +kernel
theorem dX12_bookLine_261 : decode cX12_bookLine 261 = .ok (.aload_n 0, 1) := by decide +kernel
theorem dX12_bookLine_262 : decode cX12_bookLine 262 = .ok (.bipush 8, 2) := by decide +kernel
theorem dX12_bookLine_264 : decode cX12_bookLine 264 = .ok (.aload_n 0, 1) := by decide +kernel
theorem dX12_bookLine_265 : decode cX12_bookLine 265 = .ok (.getfield 33, 3) := by decide +kernel
theorem dX12_bookLine_268 : decode cX12_bookLine 268 = .ok (.iconst 1, 1) := by decide +kernel
theorem dX12_bookLine_269 : decode cX12_bookLine 269 = .ok (.iaload, 1) := by decide +kernel
theorem dX12_bookLine_270 : decode cX12_bookLine 270 = .ok (.invokevirtual 301, 3) := by decide +kernel
theorem dX12_bookLine_273 : decode cX12_bookLine 273 = .ok (.ifCond .ne 5, 3) := by decide +kernel
theorem dX12_bookLine_276 : decode cX12_bookLine 276 = .ok (.iconst 0, 1) := by decide +kernel
theorem dX12_bookLine_277 : decode cX12_bookLine 277 = .ok (.ireturn, 1) := by decide +kernel
theorem dX12_bookLine_278 : decode cX12_bookLine 278 = .ok (.aload_n 0, 1) := by decide +kernel
theorem dX12_bookLine_279 : decode cX12_bookLine 279 = .ok (.getfield 258, 3) := by decide +kernel
theorem dX12_bookLine_282 : decode cX12_bookLine 282 = .ok (.istore 5, 2) := by decide +kernel
theorem dX12_bookLine_284 : decode cX12_bookLine 284 = .ok (.iconst 0, 1) := by decide +kernel
theorem dX12_bookLine_285 : decode cX12_bookLine 285 = .ok (.istore 6, 2) := by decide +kernel
theorem dX12_bookLine_287 : decode cX12_bookLine 287 = .ok (.iload_n 3, 1) := by decide +kernel
theorem dX12_bookLine_288 : decode cX12_bookLine 288 = .ok (.iconst 1, 1) := by decide +kernel
theorem dX12_bookLine_289 : decode cX12_bookLine 289 = .ok (.if_icmp .ne 107, 3) := by decide +kernel
theorem dX12_bookLine_292 : decode cX12_bookLine 292 = .ok (.aload_n 0, 1) := by decide +kernel
theorem dX12_bookLine_293 : decode cX12_bookLine 293 = .ok (.ldc2_w 181, 3) := by decide +kernel
theorem dX12_bookLine_296 : decode cX12_bookLine 296 = .ok (.invokevirtual 279, 3) := by decide +kernel
theorem dX12_bookLine_299 : decode cX12_bookLine 299 = .ok (.ifCond .eq 97, 3) := by decide +kernel
theorem dX12_bookLine_302 : decode cX12_bookLine 302 = .ok (.aload_n 0, 1) := by decide +kernel
theorem dX12_bookLine_303 : decode cX12_bookLine 303 = .ok (.invokevirtual 251, 3) := by decide +kernel
theorem dX12_bookLine_306 : decode cX12_bookLine 306 = .ok (.aload_n 0, 1) := by decide +kernel
theorem dX12_bookLine_307 : decode cX12_bookLine 307 = .ok (.invokevirtual 261, 3) := by decide +kernel
theorem dX12_bookLine_310 : decode cX12_bookLine 310 = .ok (.ifCond .ne 9, 3) := by decide +kernel
theorem dX12_bookLine_313 : decode cX12_bookLine 313 = .ok (.aload_n 0, 1) := by decide +kernel
theorem dX12_bookLine_314 : decode cX12_bookLine 314 = .ok (.iconst 1, 1) := by decide +kernel
theorem dX12_bookLine_315 : decode cX12_bookLine 315 = .ok (.invokevirtual 248, 3) := by decide +kernel
theorem dX12_bookLine_318 : decode cX12_bookLine 318 = .ok (.ireturn, 1) := by decide +kernel
theorem dX12_bookLine_319 : decode cX12_bookLine 319 = .ok (.aload_n 0, 1) := by decide +kernel
theorem dX12_bookLine_320 : decode cX12_bookLine 320 = .ok (.iconst 0, 1) := by decide +kernel
theorem dX12_bookLine_321 : decode cX12_bookLine 321 = .ok (.aload_n 0, 1) := by decide +kernel
theorem dX12_bookLine_322 : decode cX12_bookLine 322 = .ok (.getfield 33, 3) := by decide +kernel
theorem dX12_bookLine_325 : decode cX12_bookLine 325 = .ok (.iconst 0, 1) := by decide +kernel
theorem dX12_bookLine_326 : decode cX12_bookLine 326 = .ok (.iaload, 1) := by decide +kernel
theorem dX12_bookLine_327 : decode cX12_bookLine 327 = .ok (.invokevirtual 265, 3) := by decide +kernel
theorem dX12_bookLine_330 : decode cX12_bookLine 330 = .ok (.istore 7, 2) := by decide +kernel
theorem dX12_bookLine_332 : decode cX12_bookLine 332 = .ok (.iload 7, 2) := by decide +kernel
theorem dX12_bookLine_334 : decode cX12_bookLine 334 = .ok (.ifCond .lt 26, 3) := by decide +kernel
theorem dX12_bookLine_337 : decode cX12_bookLine 337 = .ok (.iload 7, 2) := by decide +kernel
theorem dX12_bookLine_339 : decode cX12_bookLine 339 = .ok (.iload_n 2, 1) := by decide +kernel
theorem dX12_bookLine_340 : decode cX12_bookLine 340 = .ok (.if_icmp .eq 20, 3) := by decide +kernel
theorem dX12_bookLine_343 : decode cX12_bookLine 343 = .ok (.iload 7, 2) := by decide +kernel
theorem dX12_bookLine_345 : decode cX12_bookLine 345 = .ok (.iload 4, 2) := by decide +kernel
theorem dX12_bookLine_347 : decode cX12_bookLine 347 = .ok (.if_icmp .eq 13, 3) := by decide +kernel
theorem dX12_bookLine_350 : decode cX12_bookLine 350 = .ok (.iload 6, 2) := by decide +kernel
theorem dX12_bookLine_352 : decode cX12_bookLine 352 = .ok (.iload 7, 2) := by decide +kernel
theorem dX12_bookLine_354 : decode cX12_bookLine 354 = .ok (.invokestatic 272, 3) := by decide +kernel
theorem dX12_bookLine_357 : decode cX12_bookLine 357 = .ok (.ifCond .eq 9, 3) := by decide +kernel
theorem dX12_bookLine_360 : decode cX12_bookLine 360 = .ok (.aload_n 0, 1) := by decide +kernel
theorem dX12_bookLine_361 : decode cX12_bookLine 361 = .ok (.iconst 3, 1) := by decide +kernel
theorem dX12_bookLine_362 : decode cX12_bookLine 362 = .ok (.invokevirtual 248, 3) := by decide +kernel
theorem dX12_bookLine_365 : decode cX12_bookLine 365 = .ok (.ireturn, 1) := by decide +kernel
theorem dX12_bookLine_366 : decode cX12_bookLine 366 = .ok (.iload 6, 2) := by decide +kernel
theorem dX12_bookLine_368 : decode cX12_bookLine 368 = .ok (.iconst 1, 1) := by decide +kernel
theorem dX12_bookLine_369 : decode cX12_bookLine 369 = .ok (.iload 7, 2) := by decide +kernel
theorem dX12_bookLine_371 : decode cX12_bookLine 371 = .ok (.ishl, 1) := by decide +kernel
theorem dX12_bookLine_372 : decode cX12_bookLine 372 = .ok (.ior, 1) := by decide +kernel
theorem dX12_bookLine_373 : decode cX12_bookLine 373 = .ok (.istore 6, 2) := by decide +kernel
theorem dX12_bookLine_375 : decode cX12_bookLine 375 = .ok (.aload_n 0, 1) := by decide +kernel
theorem dX12_bookLine_376 : decode cX12_bookLine 376 = .ok (.getfield 50, 3) := by decide +kernel
theorem dX12_bookLine_379 : decode cX12_bookLine 379 = .ok (.iload 6, 2) := by decide +kernel
theorem dX12_bookLine_381 : decode cX12_bookLine 381 = .ok (.invokestatic 333, 3) := by decide +kernel
theorem dX12_bookLine_384 : decode cX12_bookLine 384 = .ok (.iconst 1, 1) := by decide +kernel
theorem dX12_bookLine_385 : decode cX12_bookLine 385 = .ok (.isub, 1) := by decide +kernel
theorem dX12_bookLine_386 : decode cX12_bookLine 386 = .ok (.iload 7, 2) := by decide +kernel
theorem dX12_bookLine_388 : decode cX12_bookLine 388 = .ok (.iastore, 1) := by decide +kernel
theorem dX12_bookLine_389 : decode cX12_bookLine 389 = .ok (.aload_n 0, 1) := by decide +kernel
theorem dX12_bookLine_390 : decode cX12_bookLine 390 = .ok (.invokevirtual 251, 3) := by decide +kernel
theorem dX12_bookLine_393 : decode cX12_bookLine 393 = .ok (.goto (-106), 3) := by decide +kernel
theorem dX12_bookLine_396 : decode cX12_bookLine 396 = .ok (.iload_n 3, 1) := by decide +kernel
theorem dX12_bookLine_397 : decode cX12_bookLine 397 = .ok (.iconst 4, 1) := by decide +kernel
theorem dX12_bookLine_398 : decode cX12_bookLine 398 = .ok (.if_icmp .ne 21, 3) := by decide +kernel
theorem dX12_bookLine_401 : decode cX12_bookLine 401 = .ok (.aload_n 0, 1) := by decide +kernel
theorem dX12_bookLine_402 : decode cX12_bookLine 402 = .ok (.iconst 0, 1) := by decide +kernel
theorem dX12_bookLine_403 : decode cX12_bookLine 403 = .ok (.bipush 99, 2) := by decide +kernel
theorem dX12_bookLine_405 : decode cX12_bookLine 405 = .ok (.invokevirtual 276, 3) := by decide +kernel
theorem dX12_bookLine_408 : decode cX12_bookLine 408 = .ok (.ifCond .ne 5, 3) := by decide +kernel
theorem dX12_bookLine_411 : decode cX12_bookLine 411 = .ok (.iconst 0, 1) := by decide +kernel
theorem dX12_bookLine_412 : decode cX12_bookLine 412 = .ok (.ireturn, 1) := by decide +kernel
theorem dX12_bookLine_413 : decode cX12_bookLine 413 = .ok (.aload_n 0, 1) := by decide +kernel
theorem dX12_bookLine_414 : decode cX12_bookLine 414 = .ok (.getfield 258, 3) := by decide +kernel
theorem dX12_bookLine_417 : decode cX12_bookLine 417 = .ok (.istore 6, 2) := by decide +kernel
theorem dX12_bookLine_419 : decode cX12_bookLine 419 = .ok (.aload_n 0, 1) := by decide +kernel
theorem dX12_bookLine_420 : decode cX12_bookLine 420 = .ok (.iload_n 1, 1) := by decide +kernel
theorem dX12_bookLine_421 : decode cX12_bookLine 421 = .ok (.iload_n 3, 1) := by decide +kernel
theorem dX12_bookLine_422 : decode cX12_bookLine 422 = .ok (.iload_n 2, 1) := by decide +kernel
theorem dX12_bookLine_423 : decode cX12_bookLine 423 = .ok (.iload 4, 2) := by decide +kernel
theorem dX12_bookLine_425 : decode cX12_bookLine 425 = .ok (.iload 5, 2) := by decide +kernel
theorem dX12_bookLine_427 : decode cX12_bookLine 427 = .ok (.iload 6, 2) := by decide +kernel
theorem dX12_bookLine_429 : decode cX12_bookLine 429 = .ok (.invokevirtual 329, 3) := by decide +kernel
theorem dX12_bookLine_432 : decode cX12_bookLine 432 = .ok (.iload_n 3, 1) := by decide +kernel
theorem dX12_bookLine_433 : decode cX12_bookLine 433 = .ok (.iconst 1, 1) := by decide +kernel
theorem dX12_bookLine_434 : decode cX12_bookLine 434 = .ok (.if_icmp .ne 13, 3) := by decide +kernel
theorem dX12_bookLine_437 : decode cX12_bookLine 437 = .ok (.aload_n 0, 1) := by decide +kernel
theorem dX12_bookLine_438 : decode cX12_bookLine 438 = .ok (.iload_n 1, 1) := by decide +kernel
theorem dX12_bookLine_439 : decode cX12_bookLine 439 = .ok (.iload 6, 2) := by decide +kernel
theorem dX12_bookLine_441 : decode cX12_bookLine 441 = .ok (.invokestatic 333, 3) := by decide +kernel
theorem dX12_bookLine_444 : decode cX12_bookLine 444 = .ok (.invokevirtual 337, 3) := by decide +kernel
theorem dX12_bookLine_447 : decode cX12_bookLine 447 = .ok (.iconst 1, 1) := by decide +kernel
theorem dX12_bookLine_448 : decode cX12_bookLine 448 = .ok (.ireturn, 1) := by decide +kernel
theorem dX12_put_0 : decode cX12_put 0 = .ok (.aload_n 0, 1) := by decide +kernel
theorem dX12_put_1 : decode cX12_put 1 = .ok (.getfield 40, 3) := by decide +kernel
theorem dX12_put_4 : decode cX12_put 4 = .ok (.iload_n 1, 1) := by decide +kernel
theorem dX12_put_5 : decode cX12_put 5 = .ok (.iload_n 2, 1) := by decide +kernel
theorem dX12_put_6 : decode cX12_put 6 = .ok (.iastore, 1) := by decide +kernel
theorem dX12_put_7 : decode cX12_put 7 = .ok (.aload_n 0, 1) := by decide +kernel
theorem dX12_put_8 : decode cX12_put 8 = .ok (.getfield 40, 3) := by decide +kernel
theorem dX12_put_11 : decode cX12_put 11 = .ok (.iload_n 1, 1) := by decide +kernel
theorem dX12_put_12 : decode cX12_put 12 = .ok (.iconst 1, 1) := by decide +kernel
theorem dX12_put_13 : decode cX12_put 13 = .ok (.iadd, 1) := by decide +kernel
theorem dX12_put_14 : decode cX12_put 14 = .ok (.iload_n 3, 1) := by decide +kernel
theorem dX12_put_15 : decode cX12_put 15 = .ok (.iastore, 1) := by decide +kernel
theorem dX12_put_16 : decode cX12_put 16 = .ok (.aload_n 0, 1) := by decide +kernel
theorem dX12_put_17 : decode cX12_put 17 = .ok (.getfield 40, 3) := by decide +kernel
theorem dX12_put_20 : decode cX12_put 20 = .ok (.iload_n 1, 1) := by decide +kernel
theorem dX12_put_21 : decode cX12_put 21 = .ok (.iconst 2, 1) := by decide +kernel
theorem dX12_put_22 : decode cX12_put 22 = .ok (.iadd, 1) := by decide +kernel
theorem dX12_put_23 : decode cX12_put 23 = .ok (.iload 4, 2) := by decide +kernel
theorem dX12_put_25 : decode cX12_put 25 = .ok (.iastore, 1) := by decide +kernel
theorem dX12_put_26 : decode cX12_put 26 = .ok (.aload_n 0, 1) := by decide +kernel
theorem dX12_put_27 : decode cX12_put 27 = .ok (.getfield 40, 3) := by decide +kernel
theorem dX12_put_30 : decode cX12_put 30 = .ok (.iload_n 1, 1) := by decide +kernel
theorem dX12_put_31 : decode cX12_put 31 = .ok (.iconst 3, 1) := by decide +kernel
theorem dX12_put_32 : decode cX12_put 32 = .ok (.iadd, 1) := by decide +kernel
theorem dX12_put_33 : decode cX12_put 33 = .ok (.iload 5, 2) := by decide +kernel
theorem dX12_put_35 : decode cX12_put 35 = .ok (.iastore, 1) := by decide +kernel
theorem dX12_put_36 : decode cX12_put 36 = .ok (.aload_n 0, 1) := by decide +kernel
theorem dX12_put_37 : decode cX12_put 37 = .ok (.getfield 40, 3) := by decide +kernel
theorem dX12_put_40 : decode cX12_put 40 = .ok (.iload_n 1, 1) := by decide +kernel
theorem dX12_put_41 : decode cX12_put 41 = .ok (.iconst 4, 1) := by decide +kernel
theorem dX12_put_42 : decode cX12_put 42 = .ok (.iadd, 1) := by decide +kernel
theorem dX12_put_43 : decode cX12_put 43 = .ok (.iload 6, 2) := by decide +kernel
theorem dX12_put_45 : decode cX12_put 45 = .ok (.iastore, 1) := by decide +kernel
theorem dX12_put_46 : decode cX12_put 46 = .ok (.aload_n 0, 1) := by decide +kernel
theorem dX12_put_47 : decode cX12_put 47 = .ok (.getfield 53, 3) := by decide +kernel
theorem dX12_put_50 : decode cX12_put 50 = .ok (.iload_n 1, 1) := by decide +kernel
theorem dX12_put_51 : decode cX12_put 51 = .ok (.iconst 5, 1) := by decide +kernel
theorem dX12_put_52 : decode cX12_put 52 = .ok (.idiv, 1) := by decide +kernel
theorem dX12_put_53 : decode cX12_put 53 = .ok (.iconst 0, 1) := by decide +kernel
theorem dX12_put_54 : decode cX12_put 54 = .ok (.iastore, 1) := by decide +kernel
theorem dX12_put_55 : decode cX12_put 55 = .ok (.return_, 1) := by decide +kernel
theorem dX12_withOrder_0 : decode cX12_withOrder 0 = .ok (.iconst 0, 1) := by decide +kernel
theorem dX12_withOrder_1 : decode cX12_withOrder 1 = .ok (.istore_n 3, 1) := by decide +kernel
theorem dX12_withOrder_2 : decode cX12_withOrder 2 = .ok (.iconst 0, 1) := by decide +kernel
theorem dX12_withOrder_3 : decode cX12_withOrder 3 = .ok (.istore 4, 2) := by decide +kernel
theorem dX12_withOrder_5 : decode cX12_withOrder 5 = .ok (.iload 4, 2) := by decide +kernel
theorem dX12_withOrder_7 : decode cX12_withOrder 7 = .ok (.iload_n 2, 1) := by decide +kernel
theorem dX12_withOrder_8 : decode cX12_withOrder 8 = .ok (.if_icmp .ge 24, 3) := by decide +kernel
theorem dX12_withOrder_11 : decode cX12_withOrder 11 = .ok (.iload_n 3, 1) := by decide +kernel
theorem dX12_withOrder_12 : decode cX12_withOrder 12 = .ok (.aload_n 0, 1) := by decide +kernel
theorem dX12_withOrder_13 : decode cX12_withOrder 13 = .ok (.getfield 50, 3) := by decide +kernel
theorem dX12_withOrder_16 : decode cX12_withOrder 16 = .ok (.iload 4, 2) := by decide +kernel
theorem dX12_withOrder_18 : decode cX12_withOrder 18 = .ok (.iaload, 1) := by decide +kernel
theorem dX12_withOrder_19 : decode cX12_withOrder 19 = .ok (.iconst 3, 1) := by decide +kernel
theorem dX12_withOrder_20 : decode cX12_withOrder 20 = .ok (.iload 4, 2) := by decide +kernel
theorem dX12_withOrder_22 : decode cX12_withOrder 22 = .ok (.imul, 1) := by decide +kernel
theorem dX12_withOrder_23 : decode cX12_withOrder 23 = .ok (.ishl, 1) := by decide +kernel
theorem dX12_withOrder_24 : decode cX12_withOrder 24 = .ok (.ior, 1) := by decide +kernel
theorem dX12_withOrder_25 : decode cX12_withOrder 25 = .ok (.istore_n 3, 1) := by decide +kernel
theorem dX12_withOrder_26 : decode cX12_withOrder 26 = .ok (.iinc 4 1, 3) := by decide +kernel
theorem dX12_withOrder_29 : decode cX12_withOrder 29 = .ok (.goto (-24), 3) := by decide +kernel
theorem dX12_withOrder_32 : decode cX12_withOrder 32 = .ok (.aload_n 0, 1) := by decide +kernel
theorem dX12_withOrder_33 : decode cX12_withOrder 33 = .ok (.getfield 53, 3) := by decide +kernel
theorem dX12_withOrder_36 : decode cX12_withOrder 36 = .ok (.iload_n 1, 1) := by decide +kernel
theorem dX12_withOrder_37 : decode cX12_withOrder 37 = .ok (.iconst 5, 1) := by decide +kernel
theorem dX12_withOrder_38 : decode cX12_withOrder 38 = .ok (.idiv, 1) := by decide +kernel
theorem dX12_withOrder_39 : decode cX12_withOrder 39 = .ok (.iload_n 3, 1) := by decide +kernel
theorem dX12_withOrder_40 : decode cX12_withOrder 40 = .ok (.iastore, 1) := by decide +kernel
theorem dX12_withOrder_41 : decode cX12_withOrder 41 = .ok (.return_, 1) := by decide +kernel
theorem dX12_keepBook_0 : decode cX12_keepBook 0 = .ok (.aload_n 0, 1) := by decide +kernel
theorem dX12_keepBook_1 : decode cX12_keepBook 1 = .ok (.getfield 33, 3) := by decide +kernel
theorem dX12_keepBook_4 : decode cX12_keepBook 4 = .ok (.sipush 172, 3) := by decide +kernel
theorem dX12_keepBook_7 : decode cX12_keepBook 7 = .ok (.aload_n 0, 1) := by decide +kernel
theorem dX12_keepBook_8 : decode cX12_keepBook 8 = .ok (.getfield 323, 3) := by decide +kernel
theorem dX12_keepBook_11 : decode cX12_keepBook 11 = .ok (.iastore, 1) := by decide +kernel
theorem dX12_keepBook_12 : decode cX12_keepBook 12 = .ok (.iconst 0, 1) := by decide +kernel
theorem dX12_keepBook_13 : decode cX12_keepBook 13 = .ok (.istore_n 1, 1) := by decide +kernel
theorem dX12_keepBook_14 : decode cX12_keepBook 14 = .ok (.iload_n 1, 1) := by decide +kernel
theorem dX12_keepBook_15 : decode cX12_keepBook 15 = .ok (.iconst 5, 1) := by decide +kernel
theorem dX12_keepBook_16 : decode cX12_keepBook 16 = .ok (.aload_n 0, 1) := by decide +kernel
theorem dX12_keepBook_17 : decode cX12_keepBook 17 = .ok (.getfield 323, 3) := by decide +kernel
theorem dX12_keepBook_20 : decode cX12_keepBook 20 = .ok (.imul, 1) := by decide +kernel
theorem dX12_keepBook_21 : decode cX12_keepBook 21 = .ok (.if_icmp .ge 25, 3) := by decide +kernel
theorem dX12_keepBook_24 : decode cX12_keepBook 24 = .ok (.aload_n 0, 1) := by decide +kernel
theorem dX12_keepBook_25 : decode cX12_keepBook 25 = .ok (.getfield 33, 3) := by decide +kernel
theorem dX12_keepBook_28 : decode cX12_keepBook 28 = .ok (.sipush 173, 3) := by decide +kernel
theorem dX12_keepBook_31 : decode cX12_keepBook 31 = .ok (.iload_n 1, 1) := by decide +kernel
theorem dX12_keepBook_32 : decode cX12_keepBook 32 = .ok (.iadd, 1) := by decide +kernel
theorem dX12_keepBook_33 : decode cX12_keepBook 33 = .ok (.aload_n 0, 1) := by decide +kernel
theorem dX12_keepBook_34 : decode cX12_keepBook 34 = .ok (.getfield 40, 3) := by decide +kernel
theorem dX12_keepBook_37 : decode cX12_keepBook 37 = .ok (.iload_n 1, 1) := by decide +kernel
theorem dX12_keepBook_38 : decode cX12_keepBook 38 = .ok (.iaload, 1) := by decide +kernel
theorem dX12_keepBook_39 : decode cX12_keepBook 39 = .ok (.iastore, 1) := by decide +kernel
theorem dX12_keepBook_40 : decode cX12_keepBook 40 = .ok (.iinc 1 1, 3) := by decide +kernel
theorem dX12_keepBook_43 : decode cX12_keepBook 43 = .ok (.goto (-29), 3) := by decide +kernel
theorem dX12_keepBook_46 : decode cX12_keepBook 46 = .ok (.iconst 0, 1) := by decide +kernel
theorem dX12_keepBook_47 : decode cX12_keepBook 47 = .ok (.istore_n 1, 1) := by decide +kernel
theorem dX12_keepBook_48 : decode cX12_keepBook 48 = .ok (.iload_n 1, 1) := by decide +kernel
theorem dX12_keepBook_49 : decode cX12_keepBook 49 = .ok (.aload_n 0, 1) := by decide +kernel
theorem dX12_keepBook_50 : decode cX12_keepBook 50 = .ok (.getfield 323, 3) := by decide +kernel
theorem dX12_keepBook_53 : decode cX12_keepBook 53 = .ok (.if_icmp .ge 21, 3) := by decide +kernel
theorem dX12_keepBook_56 : decode cX12_keepBook 56 = .ok (.aload_n 0, 1) := by decide +kernel
theorem dX12_keepBook_57 : decode cX12_keepBook 57 = .ok (.getfield 56, 3) := by decide +kernel
theorem dX12_keepBook_60 : decode cX12_keepBook 60 = .ok (.iload_n 1, 1) := by decide +kernel
theorem dX12_keepBook_61 : decode cX12_keepBook 61 = .ok (.aload_n 0, 1) := by decide +kernel
theorem dX12_keepBook_62 : decode cX12_keepBook 62 = .ok (.getfield 53, 3) := by decide +kernel
theorem dX12_keepBook_65 : decode cX12_keepBook 65 = .ok (.iload_n 1, 1) := by decide +kernel
theorem dX12_keepBook_66 : decode cX12_keepBook 66 = .ok (.iaload, 1) := by decide +kernel
theorem dX12_keepBook_67 : decode cX12_keepBook 67 = .ok (.iastore, 1) := by decide +kernel
theorem dX12_keepBook_68 : decode cX12_keepBook 68 = .ok (.iinc 1 1, 3) := by decide +kernel
theorem dX12_keepBook_71 : decode cX12_keepBook 71 = .ok (.goto (-23), 3) := by decide +kernel
theorem dX12_keepBook_74 : decode cX12_keepBook 74 = .ok (.return_, 1) := by decide +kernel
theorem dX12_book_0 : decode cX12_book 0 = .ok (.aload_n 0, 1) := by decide +kernel
theorem dX12_book_1 : decode cX12_book 1 = .ok (.iconst 0, 1) := by decide +kernel
theorem dX12_book_2 : decode cX12_book 2 = .ok (.putfield 1, 3) := by decide +kernel
theorem dX12_book_5 : decode cX12_book 5 = .ok (.aload_n 0, 1) := by decide +kernel
theorem dX12_book_6 : decode cX12_book 6 = .ok (.sipush 900, 3) := by decide +kernel
theorem dX12_book_9 : decode cX12_book 9 = .ok (.invokevirtual 304, 3) := by decide +kernel
theorem dX12_book_12 : decode cX12_book 12 = .ok (.aload_n 0, 1) := by decide +kernel
theorem dX12_book_13 : decode cX12_book 13 = .ok (.iconst 0, 1) := by decide +kernel
theorem dX12_book_14 : decode cX12_book 14 = .ok (.putfield 239, 3) := by decide +kernel
theorem dX12_book_17 : decode cX12_book 17 = .ok (.aload_n 0, 1) := by decide +kernel
theorem dX12_book_18 : decode cX12_book 18 = .ok (.iconst 0, 1) := by decide +kernel
theorem dX12_book_19 : decode cX12_book 19 = .ok (.putfield 323, 3) := by decide +kernel
theorem dX12_book_22 : decode cX12_book 22 = .ok (.aload_n 0, 1) := by decide +kernel
theorem dX12_book_23 : decode cX12_book 23 = .ok (.iconst 0, 1) := by decide +kernel
theorem dX12_book_24 : decode cX12_book 24 = .ok (.putfield 326, 3) := by decide +kernel
theorem dX12_book_27 : decode cX12_book 27 = .ok (.aload_n 0, 1) := by decide +kernel
theorem dX12_book_28 : decode cX12_book 28 = .ok (.invokevirtual 251, 3) := by decide +kernel
theorem dX12_book_31 : decode cX12_book 31 = .ok (.aload_n 0, 1) := by decide +kernel
theorem dX12_book_32 : decode cX12_book 32 = .ok (.getfield 222, 3) := by decide +kernel
theorem dX12_book_35 : decode cX12_book 35 = .ok (.ifCond .eq 39, 3) := by decide +kernel
theorem dX12_book_38 : decode cX12_book 38 = .ok (.aload_n 0, 1) := by decide +kernel
theorem dX12_book_39 : decode cX12_book 39 = .ok (.invokevirtual 341, 3) := by decide +kernel
theorem dX12_book_42 : decode cX12_book 42 = .ok (.ifCond .eq 12, 3) := by decide +kernel
theorem dX12_book_45 : decode cX12_book 45 = .ok (.aload_n 0, 1) := by decide +kernel
theorem dX12_book_46 : decode cX12_book 46 = .ok (.bipush 59, 2) := by decide +kernel
theorem dX12_book_48 : decode cX12_book 48 = .ok (.invokevirtual 313, 3) := by decide +kernel
theorem dX12_book_51 : decode cX12_book 51 = .ok (.ifCond .ne 10, 3) := by decide +kernel
theorem dX12_book_54 : decode cX12_book 54 = .ok (.iconst (-1), 1) := by decide +kernel
theorem dX12_book_55 : decode cX12_book 55 = .ok (.aload_n 0, 1) := by decide +kernel
theorem dX12_book_56 : decode cX12_book 56 = .ok (.getfield 242, 3) := by decide +kernel
theorem dX12_book_59 : decode cX12_book 59 = .ok (.isub, 1) := by decide +kernel
theorem dX12_book_60 : decode cX12_book 60 = .ok (.ireturn, 1) := by decide +kernel
theorem dX12_book_61 : decode cX12_book 61 = .ok (.aload_n 0, 1) := by decide +kernel
theorem dX12_book_62 : decode cX12_book 62 = .ok (.dup, 1) := by decide +kernel
theorem dX12_book_63 : decode cX12_book 63 = .ok (.getfield 323, 3) := by decide +kernel
theorem dX12_book_66 : decode cX12_book 66 = .ok (.iconst 1, 1) := by decide +kernel
theorem dX12_book_67 : decode cX12_book 67 = .ok (.iadd, 1) := by decide +kernel
theorem dX12_book_68 : decode cX12_book 68 = .ok (.putfield 323, 3) := by decide +kernel
theorem dX12_book_71 : decode cX12_book 71 = .ok (.goto (-40), 3) := by decide +kernel
theorem dX12_book_74 : decode cX12_book 74 = .ok (.aload_n 0, 1) := by decide +kernel
theorem dX12_book_75 : decode cX12_book 75 = .ok (.invokevirtual 344, 3) := by decide +kernel
theorem dX12_book_78 : decode cX12_book 78 = .ok (.aload_n 0, 1) := by decide +kernel
theorem dX12_book_79 : decode cX12_book 79 = .ok (.getfield 323, 3) := by decide +kernel
theorem dX12_book_82 : decode cX12_book 82 = .ok (.ireturn, 1) := by decide +kernel
theorem dX12_draw_0 : decode cX12_draw 0 = .ok (.aload_n 0, 1) := by decide +kernel
theorem dX12_draw_1 : decode cX12_draw 1 = .ok (.aload_n 0, 1) := by decide +kernel
theorem dX12_draw_2 : decode cX12_draw 2 = .ok (.getfield 347, 3) := by decide +kernel
theorem dX12_draw_5 : decode cX12_draw 5 = .ok (.ldc_w 350, 3) := by decide +kernel
theorem dX12_draw_8 : decode cX12_draw 8 = .ok (.imul, 1) := by decide +kernel
theorem dX12_draw_9 : decode cX12_draw 9 = .ok (.sipush 12345, 3) := by decide +kernel
theorem dX12_draw_12 : decode cX12_draw 12 = .ok (.iadd, 1) := by decide +kernel
theorem dX12_draw_13 : decode cX12_draw 13 = .ok (.putfield 347, 3) := by decide +kernel
theorem dX12_draw_16 : decode cX12_draw 16 = .ok (.aload_n 0, 1) := by decide +kernel
theorem dX12_draw_17 : decode cX12_draw 17 = .ok (.getfield 347, 3) := by decide +kernel
theorem dX12_draw_20 : decode cX12_draw 20 = .ok (.bipush 8, 2) := by decide +kernel
theorem dX12_draw_22 : decode cX12_draw 22 = .ok (.iushr, 1) := by decide +kernel
theorem dX12_draw_23 : decode cX12_draw 23 = .ok (.iload_n 1, 1) := by decide +kernel
theorem dX12_draw_24 : decode cX12_draw 24 = .ok (.irem, 1) := by decide +kernel
theorem dX12_draw_25 : decode cX12_draw 25 = .ok (.ireturn, 1) := by decide +kernel
theorem dX12_drawn_0 : decode cX12_drawn 0 = .ok (.aload_n 0, 1) := by decide +kernel
theorem dX12_drawn_1 : decode cX12_drawn 1 = .ok (.iconst 0, 1) := by decide +kernel
theorem dX12_drawn_2 : decode cX12_drawn 2 = .ok (.putfield 1, 3) := by decide +kernel
theorem dX12_drawn_5 : decode cX12_drawn 5 = .ok (.iload_n 1, 1) := by decide +kernel
theorem dX12_drawn_6 : decode cX12_drawn 6 = .ok (.iconst 1, 1) := by decide +kernel
theorem dX12_drawn_7 : decode cX12_drawn 7 = .ok (.bipush 60, 2) := by decide +kernel
theorem dX12_drawn_9 : decode cX12_drawn 9 = .ok (.invokestatic 254, 3) := by decide +kernel
theorem dX12_drawn_12 : decode cX12_drawn 12 = .ok (.ifCond .eq 22, 3) := by decide +kernel
theorem dX12_drawn_15 : decode cX12_drawn 15 = .ok (.aload_n 0, 1) := by decide +kernel
theorem dX12_drawn_16 : decode cX12_drawn 16 = .ok (.getfield 33, 3) := by decide +kernel
theorem dX12_drawn_19 : decode cX12_drawn 19 = .ok (.iconst 0, 1) := by decide +kernel
theorem dX12_drawn_20 : decode cX12_drawn 20 = .ok (.iaload, 1) := by decide +kernel
theorem dX12_drawn_21 : decode cX12_drawn 21 = .ok (.iconst 2, 1) := by decide +kernel
theorem dX12_drawn_22 : decode cX12_drawn 22 = .ok (.if_icmp .lt 12, 3) := by decide +kernel
theorem dX12_drawn_25 : decode cX12_drawn 25 = .ok (.aload_n 0, 1) := by decide +kernel
theorem dX12_drawn_26 : decode cX12_drawn 26 = .ok (.getfield 33, 3) := by decide +kernel
theorem dX12_drawn_29 : decode cX12_drawn 29 = .ok (.iconst 1, 1) := by decide +kernel
theorem dX12_drawn_30 : decode cX12_drawn 30 = .ok (.iaload, 1) := by decide +kernel
theorem dX12_drawn_31 : decode cX12_drawn 31 = .ok (.ifCond .ne 5, 3) := by decide +kernel
theorem dX12_drawn_34 : decode cX12_drawn 34 = .ok (.iconst (-1), 1) := by decide +kernel
theorem dX12_drawn_35 : decode cX12_drawn 35 = .ok (.ireturn, 1) := by decide +kernel
theorem dX12_drawn_36 : decode cX12_drawn 36 = .ok (.aload_n 0, 1) := by decide +kernel
theorem dX12_drawn_37 : decode cX12_drawn 37 = .ok (.iload_n 2, 1) := by decide +kernel
theorem dX12_drawn_38 : decode cX12_drawn 38 = .ok (.putfield 347, 3) := by decide +kernel
theorem dX12_drawn_41 : decode cX12_drawn 41 = .ok (.aload_n 0, 1) := by decide +kernel
theorem dX12_drawn_42 : decode cX12_drawn 42 = .ok (.iconst 0, 1) := by decide +kernel
theorem dX12_drawn_43 : decode cX12_drawn 43 = .ok (.putfield 326, 3) := by decide +kernel
theorem dX12_drawn_46 : decode cX12_drawn 46 = .ok (.aload_n 0, 1) := by decide +kernel
theorem dX12_drawn_47 : decode cX12_drawn 47 = .ok (.iconst 0, 1) := by decide +kernel
theorem dX12_drawn_48 : decode cX12_drawn 48 = .ok (.putfield 323, 3) := by decide +kernel
theorem dX12_drawn_51 : decode cX12_drawn 51 = .ok (.aload_n 0, 1) := by decide +kernel
theorem dX12_drawn_52 : decode cX12_drawn 52 = .ok (.getfield 323, 3) := by decide +kernel
theorem dX12_drawn_55 : decode cX12_drawn 55 = .ok (.iload_n 1, 1) := by decide +kernel
theorem dX12_drawn_56 : decode cX12_drawn 56 = .ok (.if_icmp .ge 183, 3) := by decide +kernel
theorem dX12_drawn_59 : decode cX12_drawn 59 = .ok (.aload_n 0, 1) := by decide +kernel
theorem dX12_drawn_60 : decode cX12_drawn 60 = .ok (.bipush 8, 2) := by decide +kernel
theorem dX12_drawn_62 : decode cX12_drawn 62 = .ok (.invokevirtual 351, 3) := by decide +kernel
theorem dX12_drawn_65 : decode cX12_drawn 65 = .ok (.istore_n 3, 1) := by decide +kernel
theorem dX12_drawn_66 : decode cX12_drawn 66 = .ok (.aload_n 0, 1) := by decide +kernel
theorem dX12_drawn_67 : decode cX12_drawn 67 = .ok (.aload_n 0, 1) := by decide +kernel
theorem dX12_drawn_68 : decode cX12_drawn 68 = .ok (.getfield 33, 3) := by decide +kernel
theorem dX12_drawn_71 : decode cX12_drawn 71 = .ok (.iconst 0, 1) := by decide +kernel
theorem dX12_drawn_72 : decode cX12_drawn 72 = .ok (.iaload, 1) := by decide +kernel
theorem dX12_drawn_73 : decode cX12_drawn 73 = .ok (.invokevirtual 351, 3) := by decide +kernel
theorem dX12_drawn_76 : decode cX12_drawn 76 = .ok (.istore 4, 2) := by decide +kernel
theorem dX12_drawn_78 : decode cX12_drawn 78 = .ok (.aload_n 0, 1) := by decide +kernel
theorem dX12_drawn_79 : decode cX12_drawn 79 = .ok (.aload_n 0, 1) := by decide +kernel
theorem dX12_drawn_80 : decode cX12_drawn 80 = .ok (.getfield 33, 3) := by decide +kernel
theorem dX12_drawn_83 : decode cX12_drawn 83 = .ok (.iconst 0, 1) := by decide +kernel
theorem dX12_drawn_84 : decode cX12_drawn 84 = .ok (.iaload, 1) := by decide +kernel
theorem dX12_drawn_85 : decode cX12_drawn 85 = .ok (.invokevirtual 351, 3) := by decide +kernel
theorem dX12_drawn_88 : decode cX12_drawn 88 = .ok (.istore 5, 2) := by decide +kernel
theorem dX12_drawn_90 : decode cX12_drawn 90 = .ok (.aload_n 0, 1) := by decide +kernel
theorem dX12_drawn_91 : decode cX12_drawn 91 = .ok (.aload_n 0, 1) := by decide +kernel
theorem dX12_drawn_92 : decode cX12_drawn 92 = .ok (.getfield 33, 3) := by decide +kernel
theorem dX12_drawn_95 : decode cX12_drawn 95 = .ok (.iconst 1, 1) := by decide +kernel
theorem dX12_drawn_96 : decode cX12_drawn 96 = .ok (.iaload, 1) := by decide +kernel
theorem dX12_drawn_97 : decode cX12_drawn 97 = .ok (.invokevirtual 351, 3) := by decide +kernel
theorem dX12_drawn_100 : decode cX12_drawn 100 = .ok (.istore 6, 2) := by decide +kernel
theorem dX12_drawn_102 : decode cX12_drawn 102 = .ok (.iload 5, 2) := by decide +kernel
theorem dX12_drawn_104 : decode cX12_drawn 104 = .ok (.iload 4, 2) := by decide +kernel
theorem dX12_drawn_106 : decode cX12_drawn 106 = .ok (.if_icmp .ne 17, 3) := by decide +kernel
theorem dX12_drawn_109 : decode cX12_drawn 109 = .ok (.iload 4, 2) := by decide +kernel
theorem dX12_drawn_111 : decode cX12_drawn 111 = .ok (.iconst 1, 1) := by decide +kernel
theorem dX12_drawn_112 : decode cX12_drawn 112 = .ok (.iadd, 1) := by decide +kernel
theorem dX12_drawn_113 : decode cX12_drawn 113 = .ok (.aload_n 0, 1) := by decide +kernel
theorem dX12_drawn_114 : decode cX12_drawn 114 = .ok (.getfield 33, 3) := by decide +kernel
theorem dX12_drawn_117 : decode cX12_drawn 117 = .ok (.iconst 0, 1) := by decide +kernel
theorem dX12_drawn_118 : decode cX12_drawn 118 = .ok (.iaload, 1) := by decide +kernel
theorem dX12_drawn_119 : decode cX12_drawn 119 = .ok (.irem, 1) := by decide +kernel
theorem dX12_drawn_120 : decode cX12_drawn 120 = .ok (.goto 5, 3) := by decide +kernel
theorem dX12_drawn_123 : decode cX12_drawn 123 = .ok (.iload 5, 2) := by decide +kernel
theorem dX12_drawn_125 : decode cX12_drawn 125 = .ok (.istore 5, 2) := by decide +kernel
theorem dX12_drawn_127 : decode cX12_drawn 127 = .ok (.iload_n 3, 1) := by decide +kernel
theorem dX12_drawn_128 : decode cX12_drawn 128 = .ok (.ifCond .ne 34, 3) := by decide +kernel
theorem dX12_drawn_131 : decode cX12_drawn 131 = .ok (.aload_n 0, 1) := by decide +kernel
theorem dX12_drawn_132 : decode cX12_drawn 132 = .ok (.dup, 1) := by decide +kernel
theorem dX12_drawn_133 : decode cX12_drawn 133 = .ok (.getfield 326, 3) := by decide +kernel
theorem dX12_drawn_136 : decode cX12_drawn 136 = .ok (.iconst 1, 1) := by decide +kernel
theorem dX12_drawn_137 : decode cX12_drawn 137 = .ok (.iadd, 1) := by decide +kernel
theorem dX12_drawn_138 : decode cX12_drawn 138 = .ok (.putfield 326, 3) := by decide +kernel
theorem dX12_drawn_141 : decode cX12_drawn 141 = .ok (.aload_n 0, 1) := by decide +kernel
theorem dX12_drawn_142 : decode cX12_drawn 142 = .ok (.iconst 5, 1) := by decide +kernel
theorem dX12_drawn_143 : decode cX12_drawn 143 = .ok (.aload_n 0, 1) := by decide +kernel
theorem dX12_drawn_144 : decode cX12_drawn 144 = .ok (.getfield 323, 3) := by decide +kernel
theorem dX12_drawn_147 : decode cX12_drawn 147 = .ok (.imul, 1) := by decide +kernel
theorem dX12_drawn_148 : decode cX12_drawn 148 = .ok (.iconst 0, 1) := by decide +kernel
theorem dX12_drawn_149 : decode cX12_drawn 149 = .ok (.aload_n 0, 1) := by decide +kernel
theorem dX12_drawn_150 : decode cX12_drawn 150 = .ok (.getfield 326, 3) := by decide +kernel
theorem dX12_drawn_153 : decode cX12_drawn 153 = .ok (.iconst (-1), 1) := by decide +kernel
theorem dX12_drawn_154 : decode cX12_drawn 154 = .ok (.iconst (-1), 1) := by decide +kernel
theorem dX12_drawn_155 : decode cX12_drawn 155 = .ok (.iconst 0, 1) := by decide +kernel
theorem dX12_drawn_156 : decode cX12_drawn 156 = .ok (.invokevirtual 329, 3) := by decide +kernel
theorem dX12_drawn_159 : decode cX12_drawn 159 = .ok (.goto 67, 3) := by decide +kernel
theorem dX12_drawn_162 : decode cX12_drawn 162 = .ok (.iload_n 3, 1) := by decide +kernel
theorem dX12_drawn_163 : decode cX12_drawn 163 = .ok (.iconst 3, 1) := by decide +kernel
theorem dX12_drawn_164 : decode cX12_drawn 164 = .ok (.if_icmp .ge 7, 3) := by decide +kernel
theorem dX12_drawn_167 : decode cX12_drawn 167 = .ok (.iconst 1, 1) := by decide +kernel
theorem dX12_drawn_168 : decode cX12_drawn 168 = .ok (.goto 22, 3) := by decide +kernel
theorem dX12_drawn_171 : decode cX12_drawn 171 = .ok (.iload_n 3, 1) := by decide +kernel
theorem dX12_drawn_172 : decode cX12_drawn 172 = .ok (.iconst 3, 1) := by decide +kernel
theorem dX12_drawn_173 : decode cX12_drawn 173 = .ok (.if_icmp .ne 7, 3) := by decide +kernel
theorem dX12_drawn_176 : decode cX12_drawn 176 = .ok (.iconst 2, 1) := by decide +kernel
theorem dX12_drawn_177 : decode cX12_drawn 177 = .ok (.goto 13, 3) := by decide +kernel
theorem dX12_drawn_180 : decode cX12_drawn 180 = .ok (.iload_n 3, 1) := by decide +kernel
theorem dX12_drawn_181 : decode cX12_drawn 181 = .ok (.iconst 4, 1) := by decide +kernel
theorem dX12_drawn_182 : decode cX12_drawn 182 = .ok (.if_icmp .ne 7, 3) := by decide +kernel
theorem dX12_drawn_185 : decode cX12_drawn 185 = .ok (.iconst 4, 1) := by decide +kernel
theorem dX12_drawn_186 : decode cX12_drawn 186 = .ok (.goto 4, 3) := by decide +kernel
theorem dX12_drawn_189 : decode cX12_drawn 189 = .ok (.iconst 3, 1) := by decide +kernel
theorem dX12_drawn_190 : decode cX12_drawn 190 = .ok (.istore 7, 2) := by decide +kernel
theorem dX12_drawn_192 : decode cX12_drawn 192 = .ok (.aload_n 0, 1) := by decide +kernel
theorem dX12_drawn_193 : decode cX12_drawn 193 = .ok (.iconst 5, 1) := by decide +kernel
theorem dX12_drawn_194 : decode cX12_drawn 194 = .ok (.aload_n 0, 1) := by decide +kernel
theorem dX12_drawn_195 : decode cX12_drawn 195 = .ok (.getfield 323, 3) := by decide +kernel
theorem dX12_drawn_198 : decode cX12_drawn 198 = .ok (.imul, 1) := by decide +kernel
theorem dX12_drawn_199 : decode cX12_drawn 199 = .ok (.iload 7, 2) := by decide +kernel
theorem dX12_drawn_201 : decode cX12_drawn 201 = .ok (.iload 4, 2) := by decide +kernel
theorem dX12_drawn_203 : decode cX12_drawn 203 = .ok (.iload 5, 2) := by decide +kernel
theorem dX12_drawn_205 : decode cX12_drawn 205 = .ok (.iload 6, 2) := by decide +kernel
theorem dX12_drawn_207 : decode cX12_drawn 207 = .ok (.iload 7, 2) := by decide +kernel
theorem dX12_drawn_209 : decode cX12_drawn 209 = .ok (.iconst 4, 1) := by decide +kernel
theorem dX12_drawn_210 : decode cX12_drawn 210 = .ok (.if_icmp .ne 12, 3) := by decide +kernel
theorem dX12_drawn_213 : decode cX12_drawn 213 = .ok (.aload_n 0, 1) := by decide +kernel
theorem dX12_drawn_214 : decode cX12_drawn 214 = .ok (.bipush 20, 2) := by decide +kernel
theorem dX12_drawn_216 : decode cX12_drawn 216 = .ok (.invokevirtual 351, 3) := by decide +kernel
theorem dX12_drawn_219 : decode cX12_drawn 219 = .ok (.goto 4, 3) := by decide +kernel
theorem dX12_drawn_222 : decode cX12_drawn 222 = .ok (.iconst 0, 1) := by decide +kernel
theorem dX12_drawn_223 : decode cX12_drawn 223 = .ok (.invokevirtual 329, 3) := by decide +kernel
theorem dX12_drawn_226 : decode cX12_drawn 226 = .ok (.aload_n 0, 1) := by decide +kernel
theorem dX12_drawn_227 : decode cX12_drawn 227 = .ok (.dup, 1) := by decide +kernel
theorem dX12_drawn_228 : decode cX12_drawn 228 = .ok (.getfield 323, 3) := by decide +kernel
theorem dX12_drawn_231 : decode cX12_drawn 231 = .ok (.iconst 1, 1) := by decide +kernel
theorem dX12_drawn_232 : decode cX12_drawn 232 = .ok (.iadd, 1) := by decide +kernel
theorem dX12_drawn_233 : decode cX12_drawn 233 = .ok (.putfield 323, 3) := by decide +kernel
theorem dX12_drawn_236 : decode cX12_drawn 236 = .ok (.goto (-185), 3) := by decide +kernel
theorem dX12_drawn_239 : decode cX12_drawn 239 = .ok (.aload_n 0, 1) := by decide +kernel
theorem dX12_drawn_240 : decode cX12_drawn 240 = .ok (.invokevirtual 344, 3) := by decide +kernel
theorem dX12_drawn_243 : decode cX12_drawn 243 = .ok (.iload_n 1, 1) := by decide +kernel
theorem dX12_drawn_244 : decode cX12_drawn 244 = .ok (.ireturn, 1) := by decide +kernel
theorem dX12_line_0 : decode cX12_line 0 = .ok (.aload_n 0, 1) := by decide +kernel
theorem dX12_line_1 : decode cX12_line 1 = .ok (.iload_n 1, 1) := by decide +kernel
theorem dX12_line_2 : decode cX12_line 2 = .ok (.iconst 0, 1) := by decide +kernel
theorem dX12_line_3 : decode cX12_line 3 = .ok (.aload_n 0, 1) := by decide +kernel
theorem dX12_line_4 : decode cX12_line 4 = .ok (.getfield 33, 3) := by decide +kernel
theorem dX12_line_7 : decode cX12_line 7 = .ok (.sipush 172, 3) := by decide +kernel
theorem dX12_line_10 : decode cX12_line 10 = .ok (.iaload, 1) := by decide +kernel
theorem dX12_line_11 : decode cX12_line 11 = .ok (.iconst 1, 1) := by decide +kernel
theorem dX12_line_12 : decode cX12_line 12 = .ok (.isub, 1) := by decide +kernel
theorem dX12_line_13 : decode cX12_line 13 = .ok (.invokestatic 254, 3) := by decide +kernel
theorem dX12_line_16 : decode cX12_line 16 = .ok (.ifCond .eq 12, 3) := by decide +kernel
theorem dX12_line_19 : decode cX12_line 19 = .ok (.iload_n 2, 1) := by decide +kernel
theorem dX12_line_20 : decode cX12_line 20 = .ok (.iconst 0, 1) := by decide +kernel
theorem dX12_line_21 : decode cX12_line 21 = .ok (.iconst 4, 1) := by decide +kernel
theorem dX12_line_22 : decode cX12_line 22 = .ok (.invokestatic 254, 3) := by decide +kernel
theorem dX12_line_25 : decode cX12_line 25 = .ok (.ifCond .ne 7, 3) := by decide +kernel
theorem dX12_line_28 : decode cX12_line 28 = .ok (.iconst 1, 1) := by decide +kernel
theorem dX12_line_29 : decode cX12_line 29 = .ok (.goto 4, 3) := by decide +kernel
theorem dX12_line_32 : decode cX12_line 32 = .ok (.iconst 0, 1) := by decide +kernel
theorem dX12_line_33 : decode cX12_line 33 = .ok (.invokevirtual 319, 3) := by decide +kernel
theorem dX12_line_36 : decode cX12_line 36 = .ok (.ifCond .eq 7, 3) := by decide +kernel
theorem dX12_line_39 : decode cX12_line 39 = .ok (.iconst 0, 1) := by decide +kernel
theorem dX12_line_40 : decode cX12_line 40 = .ok (.goto 17, 3) := by decide +kernel
theorem dX12_line_43 : decode cX12_line 43 = .ok (.aload_n 0, 1) := by decide +kernel
theorem dX12_line_44 : decode cX12_line 44 = .ok (.getfield 33, 3) := by decide +kernel
theorem dX12_line_47 : decode cX12_line 47 = .ok (.sipush 173, 3) := by decide +kernel
theorem dX12_line_50 : decode cX12_line 50 = .ok (.iconst 5, 1) := by decide +kernel
theorem dX12_line_51 : decode cX12_line 51 = .ok (.iload_n 1, 1) := by decide +kernel
theorem dX12_line_52 : decode cX12_line 52 = .ok (.imul, 1) := by decide +kernel
theorem dX12_line_53 : decode cX12_line 53 = .ok (.iadd, 1) := by decide +kernel
theorem dX12_line_54 : decode cX12_line 54 = .ok (.iload_n 2, 1) := by decide +kernel
theorem dX12_line_55 : decode cX12_line 55 = .ok (.iadd, 1) := by decide +kernel
theorem dX12_line_56 : decode cX12_line 56 = .ok (.iaload, 1) := by decide +kernel
theorem dX12_line_57 : decode cX12_line 57 = .ok (.ireturn, 1) := by decide +kernel
theorem dX12_follows_0 : decode cX12_follows 0 = .ok (.iload_n 1, 1) := by decide +kernel
theorem dX12_follows_1 : decode cX12_follows 1 = .ok (.istore_n 2, 1) := by decide +kernel
theorem dX12_follows_2 : decode cX12_follows 2 = .ok (.iconst (-1), 1) := by decide +kernel
theorem dX12_follows_3 : decode cX12_follows 3 = .ok (.istore_n 3, 1) := by decide +kernel
theorem dX12_follows_4 : decode cX12_follows 4 = .ok (.iload_n 2, 1) := by decide +kernel
theorem dX12_follows_5 : decode cX12_follows 5 = .ok (.iload_n 3, 1) := by decide +kernel
theorem dX12_follows_6 : decode cX12_follows 6 = .ok (.if_icmp .eq 87, 3) := by decide +kernel
theorem dX12_follows_9 : decode cX12_follows 9 = .ok (.iload_n 2, 1) := by decide +kernel
theorem dX12_follows_10 : decode cX12_follows 10 = .ok (.istore_n 3, 1) := by decide +kernel
theorem dX12_follows_11 : decode cX12_follows 11 = .ok (.iconst 0, 1) := by decide +kernel
theorem dX12_follows_12 : decode cX12_follows 12 = .ok (.istore 4, 2) := by decide +kernel
theorem dX12_follows_14 : decode cX12_follows 14 = .ok (.iload 4, 2) := by decide +kernel
theorem dX12_follows_16 : decode cX12_follows 16 = .ok (.aload_n 0, 1) := by decide +kernel
theorem dX12_follows_17 : decode cX12_follows 17 = .ok (.getfield 33, 3) := by decide +kernel
theorem dX12_follows_20 : decode cX12_follows 20 = .ok (.iconst 2, 1) := by decide +kernel
theorem dX12_follows_21 : decode cX12_follows 21 = .ok (.iaload, 1) := by decide +kernel
theorem dX12_follows_22 : decode cX12_follows 22 = .ok (.if_icmp .ge 68, 3) := by decide +kernel
theorem dX12_follows_25 : decode cX12_follows 25 = .ok (.iload_n 2, 1) := by decide +kernel
theorem dX12_follows_26 : decode cX12_follows 26 = .ok (.aload_n 0, 1) := by decide +kernel
theorem dX12_follows_27 : decode cX12_follows 27 = .ok (.getfield 33, 3) := by decide +kernel
theorem dX12_follows_30 : decode cX12_follows 30 = .ok (.bipush 52, 2) := by decide +kernel
theorem dX12_follows_32 : decode cX12_follows 32 = .ok (.iconst 3, 1) := by decide +kernel
theorem dX12_follows_33 : decode cX12_follows 33 = .ok (.iload 4, 2) := by decide +kernel
theorem dX12_follows_35 : decode cX12_follows 35 = .ok (.imul, 1) := by decide +kernel
theorem dX12_follows_36 : decode cX12_follows 36 = .ok (.iadd, 1) := by decide +kernel
theorem dX12_follows_37 : decode cX12_follows 37 = .ok (.iaload, 1) := by decide +kernel
theorem dX12_follows_38 : decode cX12_follows 38 = .ok (.invokestatic 272, 3) := by decide +kernel
theorem dX12_follows_41 : decode cX12_follows 41 = .ok (.ifCond .eq 43, 3) := by decide +kernel
theorem dX12_follows_44 : decode cX12_follows 44 = .ok (.iload_n 2, 1) := by decide +kernel
theorem dX12_follows_45 : decode cX12_follows 45 = .ok (.aload_n 0, 1) := by decide +kernel
theorem dX12_follows_46 : decode cX12_follows 46 = .ok (.getfield 33, 3) := by decide +kernel
theorem dX12_follows_49 : decode cX12_follows 49 = .ok (.bipush 52, 2) := by decide +kernel
theorem dX12_follows_51 : decode cX12_follows 51 = .ok (.iconst 3, 1) := by decide +kernel
theorem dX12_follows_52 : decode cX12_follows 52 = .ok (.iload 4, 2) := by decide +kernel
theorem dX12_follows_54 : decode cX12_follows 54 = .ok (.imul, 1) := by decide +kernel
theorem dX12_follows_55 : decode cX12_follows 55 = .ok (.iadd, 1) := by decide +kernel
theorem dX12_follows_56 : decode cX12_follows 56 = .ok (.iconst 1, 1) := by decide +kernel
theorem dX12_follows_57 : decode cX12_follows 57 = .ok (.iadd, 1) := by decide +kernel
theorem dX12_follows_58 : decode cX12_follows 58 = .ok (.iaload, 1) := by decide +kernel
theorem dX12_follows_59 : decode cX12_follows 59 = .ok (.invokestatic 272, 3) := by decide +kernel
theorem dX12_follows_62 : decode cX12_follows 62 = .ok (.ifCond .eq 22, 3) := by decide +kernel
theorem dX12_follows_65 : decode cX12_follows 65 = .ok (.iload_n 2, 1) := by decide +kernel
theorem dX12_follows_66 : decode cX12_follows 66 = .ok (.iconst 1, 1) := by decide +kernel
theorem dX12_follows_67 : decode cX12_follows 67 = .ok (.aload_n 0, 1) := by decide +kernel
theorem dX12_follows_68 : decode cX12_follows 68 = .ok (.getfield 33, 3) := by decide +kernel
theorem dX12_follows_71 : decode cX12_follows 71 = .ok (.bipush 52, 2) := by decide +kernel
theorem dX12_follows_73 : decode cX12_follows 73 = .ok (.iconst 3, 1) := by decide +kernel
theorem dX12_follows_74 : decode cX12_follows 74 = .ok (.iload 4, 2) := by decide +kernel
theorem dX12_follows_76 : decode cX12_follows 76 = .ok (.imul, 1) := by decide +kernel
theorem dX12_follows_77 : decode cX12_follows 77 = .ok (.iadd, 1) := by decide +kernel
theorem dX12_follows_78 : decode cX12_follows 78 = .ok (.iconst 2, 1) := by decide +kernel
theorem dX12_follows_79 : decode cX12_follows 79 = .ok (.iadd, 1) := by decide +kernel
theorem dX12_follows_80 : decode cX12_follows 80 = .ok (.iaload, 1) := by decide +kernel
theorem dX12_follows_81 : decode cX12_follows 81 = .ok (.ishl, 1) := by decide +kernel
theorem dX12_follows_82 : decode cX12_follows 82 = .ok (.ior, 1) := by decide +kernel
theorem dX12_follows_83 : decode cX12_follows 83 = .ok (.istore_n 2, 1) := by decide +kernel
theorem dX12_follows_84 : decode cX12_follows 84 = .ok (.iinc 4 1, 3) := by decide +kernel
theorem dX12_follows_87 : decode cX12_follows 87 = .ok (.goto (-73), 3) := by decide +kernel
theorem dX12_follows_90 : decode cX12_follows 90 = .ok (.goto (-86), 3) := by decide +kernel
theorem dX12_follows_93 : decode cX12_follows 93 = .ok (.iload_n 2, 1) := by decide +kernel
theorem dX12_follows_94 : decode cX12_follows 94 = .ok (.ireturn, 1) := by decide +kernel
theorem dX12_begin_0 : decode cX12_begin 0 = .ok (.iconst 0, 1) := by decide +kernel
theorem dX12_begin_1 : decode cX12_begin 1 = .ok (.istore_n 1, 1) := by decide +kernel
theorem dX12_begin_2 : decode cX12_begin 2 = .ok (.iload_n 1, 1) := by decide +kernel
theorem dX12_begin_3 : decode cX12_begin 3 = .ok (.bipush 8, 2) := by decide +kernel
theorem dX12_begin_5 : decode cX12_begin 5 = .ok (.if_icmp .ge 42, 3) := by decide +kernel
theorem dX12_begin_8 : decode cX12_begin 8 = .ok (.aload_n 0, 1) := by decide +kernel
theorem dX12_begin_9 : decode cX12_begin 9 = .ok (.getfield 62, 3) := by decide +kernel
theorem dX12_begin_12 : decode cX12_begin 12 = .ok (.iload_n 1, 1) := by decide +kernel
theorem dX12_begin_13 : decode cX12_begin 13 = .ok (.aload_n 0, 1) := by decide +kernel
theorem dX12_begin_14 : decode cX12_begin 14 = .ok (.aload_n 0, 1) := by decide +kernel
theorem dX12_begin_15 : decode cX12_begin 15 = .ok (.getfield 33, 3) := by decide +kernel
theorem dX12_begin_18 : decode cX12_begin 18 = .ok (.bipush 44, 2) := by decide +kernel
theorem dX12_begin_20 : decode cX12_begin 20 = .ok (.iload_n 1, 1) := by decide +kernel
theorem dX12_begin_21 : decode cX12_begin 21 = .ok (.iadd, 1) := by decide +kernel
theorem dX12_begin_22 : decode cX12_begin 22 = .ok (.iaload, 1) := by decide +kernel
theorem dX12_begin_23 : decode cX12_begin 23 = .ok (.invokevirtual 354, 3) := by decide +kernel
theorem dX12_begin_26 : decode cX12_begin 26 = .ok (.iastore, 1) := by decide +kernel
theorem dX12_begin_27 : decode cX12_begin 27 = .ok (.aload_n 0, 1) := by decide +kernel
theorem dX12_begin_28 : decode cX12_begin 28 = .ok (.getfield 68, 3) := by decide +kernel
theorem dX12_begin_31 : decode cX12_begin 31 = .ok (.iload_n 1, 1) := by decide +kernel
theorem dX12_begin_32 : decode cX12_begin 32 = .ok (.iconst 0, 1) := by decide +kernel
theorem dX12_begin_33 : decode cX12_begin 33 = .ok (.iastore, 1) := by decide +kernel
theorem dX12_begin_34 : decode cX12_begin 34 = .ok (.aload_n 0, 1) := by decide +kernel
theorem dX12_begin_35 : decode cX12_begin 35 = .ok (.getfield 71, 3) := by decide +kernel
theorem dX12_begin_38 : decode cX12_begin 38 = .ok (.iload_n 1, 1) := by decide +kernel
theorem dX12_begin_39 : decode cX12_begin 39 = .ok (.iconst 0, 1) := by decide +kernel
theorem dX12_begin_40 : decode cX12_begin 40 = .ok (.iastore, 1) := by decide +kernel
theorem dX12_begin_41 : decode cX12_begin 41 = .ok (.iinc 1 1, 3) := by decide +kernel
theorem dX12_begin_44 : decode cX12_begin 44 = .ok (.goto (-42), 3) := by decide +kernel
theorem dX12_begin_47 : decode cX12_begin 47 = .ok (.iconst 0, 1) := by decide +kernel
theorem dX12_begin_48 : decode cX12_begin 48 = .ok (.istore_n 1, 1) := by decide +kernel
theorem dX12_begin_49 : decode cX12_begin 49 = .ok (.iload_n 1, 1) := by decide +kernel
theorem dX12_begin_50 : decode cX12_begin 50 = .ok (.bipush 96, 2) := by decide +kernel
theorem dX12_begin_52 : decode cX12_begin 52 = .ok (.if_icmp .ge 16, 3) := by decide +kernel
theorem dX12_begin_55 : decode cX12_begin 55 = .ok (.aload_n 0, 1) := by decide +kernel
theorem dX12_begin_56 : decode cX12_begin 56 = .ok (.getfield 65, 3) := by decide +kernel
theorem dX12_begin_59 : decode cX12_begin 59 = .ok (.iload_n 1, 1) := by decide +kernel
theorem dX12_begin_60 : decode cX12_begin 60 = .ok (.iconst (-1), 1) := by decide +kernel
theorem dX12_begin_61 : decode cX12_begin 61 = .ok (.iastore, 1) := by decide +kernel
theorem dX12_begin_62 : decode cX12_begin 62 = .ok (.iinc 1 1, 3) := by decide +kernel
theorem dX12_begin_65 : decode cX12_begin 65 = .ok (.goto (-16), 3) := by decide +kernel
theorem dX12_begin_68 : decode cX12_begin 68 = .ok (.aload_n 0, 1) := by decide +kernel
theorem dX12_begin_69 : decode cX12_begin 69 = .ok (.iconst 0, 1) := by decide +kernel
theorem dX12_begin_70 : decode cX12_begin 70 = .ok (.putfield 357, 3) := by decide +kernel
theorem dX12_begin_73 : decode cX12_begin 73 = .ok (.aload_n 0, 1) := by decide +kernel
theorem dX12_begin_74 : decode cX12_begin 74 = .ok (.iconst 0, 1) := by decide +kernel
theorem dX12_begin_75 : decode cX12_begin 75 = .ok (.putfield 360, 3) := by decide +kernel
theorem dX12_begin_78 : decode cX12_begin 78 = .ok (.aload_n 0, 1) := by decide +kernel
theorem dX12_begin_79 : decode cX12_begin 79 = .ok (.iconst 0, 1) := by decide +kernel
theorem dX12_begin_80 : decode cX12_begin 80 = .ok (.putfield 363, 3) := by decide +kernel
theorem dX12_begin_83 : decode cX12_begin 83 = .ok (.aload_n 0, 1) := by decide +kernel
theorem dX12_begin_84 : decode cX12_begin 84 = .ok (.iconst 0, 1) := by decide +kernel
theorem dX12_begin_85 : decode cX12_begin 85 = .ok (.putfield 366, 3) := by decide +kernel
theorem dX12_begin_88 : decode cX12_begin 88 = .ok (.return_, 1) := by decide +kernel
theorem dX12_worthOf_0 : decode cX12_worthOf 0 = .ok (.aload_n 0, 1) := by decide +kernel
theorem dX12_worthOf_1 : decode cX12_worthOf 1 = .ok (.getfield 33, 3) := by decide +kernel
theorem dX12_worthOf_4 : decode cX12_worthOf 4 = .ok (.bipush 8, 2) := by decide +kernel
theorem dX12_worthOf_6 : decode cX12_worthOf 6 = .ok (.iconst 3, 1) := by decide +kernel
theorem dX12_worthOf_7 : decode cX12_worthOf 7 = .ok (.iload_n 2, 1) := by decide +kernel
theorem dX12_worthOf_8 : decode cX12_worthOf 8 = .ok (.imul, 1) := by decide +kernel
theorem dX12_worthOf_9 : decode cX12_worthOf 9 = .ok (.iadd, 1) := by decide +kernel
theorem dX12_worthOf_10 : decode cX12_worthOf 10 = .ok (.iaload, 1) := by decide +kernel
theorem dX12_worthOf_11 : decode cX12_worthOf 11 = .ok (.istore_n 3, 1) := by decide +kernel
theorem dX12_worthOf_12 : decode cX12_worthOf 12 = .ok (.aload_n 0, 1) := by decide +kernel
theorem dX12_worthOf_13 : decode cX12_worthOf 13 = .ok (.getfield 363, 3) := by decide +kernel
theorem dX12_worthOf_16 : decode cX12_worthOf 16 = .ok (.iload_n 2, 1) := by decide +kernel
theorem dX12_worthOf_17 : decode cX12_worthOf 17 = .ok (.invokestatic 272, 3) := by decide +kernel
theorem dX12_worthOf_20 : decode cX12_worthOf 20 = .ok (.ifCond .eq 15, 3) := by decide +kernel
theorem dX12_worthOf_23 : decode cX12_worthOf 23 = .ok (.iload_n 3, 1) := by decide +kernel
theorem dX12_worthOf_24 : decode cX12_worthOf 24 = .ok (.aload_n 0, 1) := by decide +kernel
theorem dX12_worthOf_25 : decode cX12_worthOf 25 = .ok (.getfield 33, 3) := by decide +kernel
theorem dX12_worthOf_28 : decode cX12_worthOf 28 = .ok (.iconst 4, 1) := by decide +kernel
theorem dX12_worthOf_29 : decode cX12_worthOf 29 = .ok (.iaload, 1) := by decide +kernel
theorem dX12_worthOf_30 : decode cX12_worthOf 30 = .ok (.imul, 1) := by decide +kernel
theorem dX12_worthOf_31 : decode cX12_worthOf 31 = .ok (.bipush 10, 2) := by decide +kernel
theorem dX12_worthOf_33 : decode cX12_worthOf 33 = .ok (.idiv, 1) := by decide +kernel
theorem dX12_worthOf_34 : decode cX12_worthOf 34 = .ok (.ireturn, 1) := by decide +kernel
theorem dX12_worthOf_35 : decode cX12_worthOf 35 = .ok (.aload_n 0, 1) := by decide +kernel
theorem dX12_worthOf_36 : decode cX12_worthOf 36 = .ok (.getfield 33, 3) := by decide +kernel
theorem dX12_worthOf_39 : decode cX12_worthOf 39 = .ok (.bipush 8, 2) := by decide +kernel
theorem dX12_worthOf_41 : decode cX12_worthOf 41 = .ok (.iconst 3, 1) := by decide +kernel
theorem dX12_worthOf_42 : decode cX12_worthOf 42 = .ok (.iload_n 2, 1) := by decide +kernel
theorem dX12_worthOf_43 : decode cX12_worthOf 43 = .ok (.imul, 1) := by decide +kernel
theorem dX12_worthOf_44 : decode cX12_worthOf 44 = .ok (.iadd, 1) := by decide +kernel
theorem dX12_worthOf_45 : decode cX12_worthOf 45 = .ok (.iconst 2, 1) := by decide +kernel
theorem dX12_worthOf_46 : decode cX12_worthOf 46 = .ok (.iadd, 1) := by decide +kernel
theorem dX12_worthOf_47 : decode cX12_worthOf 47 = .ok (.iaload, 1) := by decide +kernel
theorem dX12_worthOf_48 : decode cX12_worthOf 48 = .ok (.iload_n 1, 1) := by decide +kernel
theorem dX12_worthOf_49 : decode cX12_worthOf 49 = .ok (.if_icmp .eq 7, 3) := by decide +kernel
theorem dX12_worthOf_52 : decode cX12_worthOf 52 = .ok (.iconst 1, 1) := by decide +kernel
theorem dX12_worthOf_53 : decode cX12_worthOf 53 = .ok (.goto 4, 3) := by decide +kernel
theorem dX12_worthOf_56 : decode cX12_worthOf 56 = .ok (.iconst 0, 1) := by decide +kernel
theorem dX12_worthOf_57 : decode cX12_worthOf 57 = .ok (.istore 4, 2) := by decide +kernel
theorem dX12_worthOf_59 : decode cX12_worthOf 59 = .ok (.iconst 0, 1) := by decide +kernel
theorem dX12_worthOf_60 : decode cX12_worthOf 60 = .ok (.istore 5, 2) := by decide +kernel
theorem dX12_worthOf_62 : decode cX12_worthOf 62 = .ok (.iload 5, 2) := by decide +kernel
theorem dX12_worthOf_64 : decode cX12_worthOf 64 = .ok (.aload_n 0, 1) := by decide +kernel
theorem dX12_worthOf_65 : decode cX12_worthOf 65 = .ok (.getfield 33, 3) := by decide +kernel
theorem dX12_worthOf_68 : decode cX12_worthOf 68 = .ok (.iconst 0, 1) := by decide +kernel
theorem dX12_worthOf_69 : decode cX12_worthOf 69 = .ok (.iaload, 1) := by decide +kernel
theorem dX12_worthOf_70 : decode cX12_worthOf 70 = .ok (.if_icmp .ge 41, 3) := by decide +kernel
theorem dX12_worthOf_73 : decode cX12_worthOf 73 = .ok (.iload 4, 2) := by decide +kernel
theorem dX12_worthOf_75 : decode cX12_worthOf 75 = .ok (.ifCond .eq 27, 3) := by decide +kernel
theorem dX12_worthOf_78 : decode cX12_worthOf 78 = .ok (.iload 5, 2) := by decide +kernel
theorem dX12_worthOf_80 : decode cX12_worthOf 80 = .ok (.iload_n 1, 1) := by decide +kernel
theorem dX12_worthOf_81 : decode cX12_worthOf 81 = .ok (.if_icmp .eq 17, 3) := by decide +kernel
theorem dX12_worthOf_84 : decode cX12_worthOf 84 = .ok (.aload_n 0, 1) := by decide +kernel
theorem dX12_worthOf_85 : decode cX12_worthOf 85 = .ok (.getfield 62, 3) := by decide +kernel
theorem dX12_worthOf_88 : decode cX12_worthOf 88 = .ok (.iload 5, 2) := by decide +kernel
theorem dX12_worthOf_90 : decode cX12_worthOf 90 = .ok (.iaload, 1) := by decide +kernel
theorem dX12_worthOf_91 : decode cX12_worthOf 91 = .ok (.iload_n 2, 1) := by decide +kernel
theorem dX12_worthOf_92 : decode cX12_worthOf 92 = .ok (.invokestatic 272, 3) := by decide +kernel
theorem dX12_worthOf_95 : decode cX12_worthOf 95 = .ok (.ifCond .ne 7, 3) := by decide +kernel
theorem dX12_worthOf_98 : decode cX12_worthOf 98 = .ok (.iconst 1, 1) := by decide +kernel
theorem dX12_worthOf_99 : decode cX12_worthOf 99 = .ok (.goto 4, 3) := by decide +kernel
theorem dX12_worthOf_102 : decode cX12_worthOf 102 = .ok (.iconst 0, 1) := by decide +kernel
theorem dX12_worthOf_103 : decode cX12_worthOf 103 = .ok (.istore 4, 2) := by decide +kernel
theorem dX12_worthOf_105 : decode cX12_worthOf 105 = .ok (.iinc 5 1, 3) := by decide +kernel
theorem dX12_worthOf_108 : decode cX12_worthOf 108 = .ok (.goto (-46), 3) := by decide +kernel
theorem dX12_worthOf_111 : decode cX12_worthOf 111 = .ok (.iload 4, 2) := by decide +kernel
theorem dX12_worthOf_113 : decode cX12_worthOf 113 = .ok (.ifCond .eq 17, 3) := by decide +kernel
theorem dX12_worthOf_116 : decode cX12_worthOf 116 = .ok (.iload_n 3, 1) := by decide +kernel
theorem dX12_worthOf_117 : decode cX12_worthOf 117 = .ok (.aload_n 0, 1) := by decide +kernel
theorem dX12_worthOf_118 : decode cX12_worthOf 118 = .ok (.getfield 33, 3) := by decide +kernel
theorem dX12_worthOf_121 : decode cX12_worthOf 121 = .ok (.iconst 5, 1) := by decide +kernel
theorem dX12_worthOf_122 : decode cX12_worthOf 122 = .ok (.iaload, 1) := by decide +kernel
theorem dX12_worthOf_123 : decode cX12_worthOf 123 = .ok (.imul, 1) := by decide +kernel
theorem dX12_worthOf_124 : decode cX12_worthOf 124 = .ok (.bipush 10, 2) := by decide +kernel
theorem dX12_worthOf_126 : decode cX12_worthOf 126 = .ok (.idiv, 1) := by decide +kernel
theorem dX12_worthOf_127 : decode cX12_worthOf 127 = .ok (.goto 4, 3) := by decide +kernel
theorem dX12_worthOf_130 : decode cX12_worthOf 130 = .ok (.iload_n 3, 1) := by decide +kernel
theorem dX12_worthOf_131 : decode cX12_worthOf 131 = .ok (.ireturn, 1) := by decide +kernel
theorem dX12_owes_0 : decode cX12_owes 0 = .ok (.iload 4, 2) := by decide +kernel
theorem dX12_owes_2 : decode cX12_owes 2 = .ok (.ifCond .ne 4, 3) := by decide +kernel
theorem dX12_owes_5 : decode cX12_owes 5 = .ok (.return_, 1) := by decide +kernel
theorem dX12_owes_6 : decode cX12_owes 6 = .ok (.aload_n 0, 1) := by decide +kernel
theorem dX12_owes_7 : decode cX12_owes 7 = .ok (.getfield 77, 3) := by decide +kernel
theorem dX12_owes_10 : decode cX12_owes 10 = .ok (.aload_n 0, 1) := by decide +kernel
theorem dX12_owes_11 : decode cX12_owes 11 = .ok (.getfield 357, 3) := by decide +kernel
theorem dX12_owes_14 : decode cX12_owes 14 = .ok (.iload_n 1, 1) := by decide +kernel
theorem dX12_owes_15 : decode cX12_owes 15 = .ok (.iastore, 1) := by decide +kernel
theorem dX12_owes_16 : decode cX12_owes 16 = .ok (.aload_n 0, 1) := by decide +kernel
theorem dX12_owes_17 : decode cX12_owes 17 = .ok (.getfield 80, 3) := by decide +kernel
theorem dX12_owes_20 : decode cX12_owes 20 = .ok (.aload_n 0, 1) := by decide +kernel
theorem dX12_owes_21 : decode cX12_owes 21 = .ok (.getfield 357, 3) := by decide +kernel
theorem dX12_owes_24 : decode cX12_owes 24 = .ok (.iload_n 2, 1) := by decide +kernel
theorem dX12_owes_25 : decode cX12_owes 25 = .ok (.iastore, 1) := by decide +kernel
theorem dX12_owes_26 : decode cX12_owes 26 = .ok (.aload_n 0, 1) := by decide +kernel
theorem dX12_owes_27 : decode cX12_owes 27 = .ok (.getfield 83, 3) := by decide +kernel
theorem dX12_owes_30 : decode cX12_owes 30 = .ok (.aload_n 0, 1) := by decide +kernel
theorem dX12_owes_31 : decode cX12_owes 31 = .ok (.getfield 357, 3) := by decide +kernel
theorem dX12_owes_34 : decode cX12_owes 34 = .ok (.iload_n 3, 1) := by decide +kernel
theorem dX12_owes_35 : decode cX12_owes 35 = .ok (.iastore, 1) := by decide +kernel
theorem dX12_owes_36 : decode cX12_owes 36 = .ok (.aload_n 0, 1) := by decide +kernel
theorem dX12_owes_37 : decode cX12_owes 37 = .ok (.getfield 86, 3) := by decide +kernel
theorem dX12_owes_40 : decode cX12_owes 40 = .ok (.aload_n 0, 1) := by decide +kernel
theorem dX12_owes_41 : decode cX12_owes 41 = .ok (.getfield 357, 3) := by decide +kernel
theorem dX12_owes_44 : decode cX12_owes 44 = .ok (.iload 4, 2) := by decide +kernel
theorem dX12_owes_46 : decode cX12_owes 46 = .ok (.iastore, 1) := by decide +kernel
theorem dX12_owes_47 : decode cX12_owes 47 = .ok (.aload_n 0, 1) := by decide +kernel
theorem dX12_owes_48 : decode cX12_owes 48 = .ok (.getfield 89, 3) := by decide +kernel
theorem dX12_owes_51 : decode cX12_owes 51 = .ok (.aload_n 0, 1) := by decide +kernel
theorem dX12_owes_52 : decode cX12_owes 52 = .ok (.getfield 357, 3) := by decide +kernel
theorem dX12_owes_55 : decode cX12_owes 55 = .ok (.iload 4, 2) := by decide +kernel
theorem dX12_owes_57 : decode cX12_owes 57 = .ok (.iastore, 1) := by decide +kernel
theorem dX12_owes_58 : decode cX12_owes 58 = .ok (.aload_n 0, 1) := by decide +kernel
theorem dX12_owes_59 : decode cX12_owes 59 = .ok (.getfield 92, 3) := by decide +kernel
theorem dX12_owes_62 : decode cX12_owes 62 = .ok (.aload_n 0, 1) := by decide +kernel
theorem dX12_owes_63 : decode cX12_owes 63 = .ok (.getfield 357, 3) := by decide +kernel
theorem dX12_owes_66 : decode cX12_owes 66 = .ok (.iload 5, 2) := by decide +kernel
theorem dX12_owes_68 : decode cX12_owes 68 = .ok (.iastore, 1) := by decide +kernel
theorem dX12_owes_69 : decode cX12_owes 69 = .ok (.aload_n 0, 1) := by decide +kernel
theorem dX12_owes_70 : decode cX12_owes 70 = .ok (.getfield 95, 3) := by decide +kernel
theorem dX12_owes_73 : decode cX12_owes 73 = .ok (.aload_n 0, 1) := by decide +kernel
theorem dX12_owes_74 : decode cX12_owes 74 = .ok (.getfield 357, 3) := by decide +kernel
theorem dX12_owes_77 : decode cX12_owes 77 = .ok (.iconst (-1), 1) := by decide +kernel
theorem dX12_owes_78 : decode cX12_owes 78 = .ok (.iastore, 1) := by decide +kernel
theorem dX12_owes_79 : decode cX12_owes 79 = .ok (.aload_n 0, 1) := by decide +kernel
theorem dX12_owes_80 : decode cX12_owes 80 = .ok (.getfield 98, 3) := by decide +kernel
theorem dX12_owes_83 : decode cX12_owes 83 = .ok (.aload_n 0, 1) := by decide +kernel
theorem dX12_owes_84 : decode cX12_owes 84 = .ok (.getfield 357, 3) := by decide +kernel
theorem dX12_owes_87 : decode cX12_owes 87 = .ok (.iconst 0, 1) := by decide +kernel
theorem dX12_owes_88 : decode cX12_owes 88 = .ok (.iastore, 1) := by decide +kernel
theorem dX12_owes_89 : decode cX12_owes 89 = .ok (.aload_n 0, 1) := by decide +kernel
theorem dX12_owes_90 : decode cX12_owes 90 = .ok (.getfield 101, 3) := by decide +kernel
theorem dX12_owes_93 : decode cX12_owes 93 = .ok (.aload_n 0, 1) := by decide +kernel
theorem dX12_owes_94 : decode cX12_owes 94 = .ok (.getfield 357, 3) := by decide +kernel
theorem dX12_owes_97 : decode cX12_owes 97 = .ok (.aload_n 0, 1) := by decide +kernel
theorem dX12_owes_98 : decode cX12_owes 98 = .ok (.getfield 360, 3) := by decide +kernel
theorem dX12_owes_101 : decode cX12_owes 101 = .ok (.iastore, 1) := by decide +kernel
theorem dX12_owes_102 : decode cX12_owes 102 = .ok (.aload_n 0, 1) := by decide +kernel
theorem dX12_owes_103 : decode cX12_owes 103 = .ok (.getfield 104, 3) := by decide +kernel
theorem dX12_owes_106 : decode cX12_owes 106 = .ok (.aload_n 0, 1) := by decide +kernel
theorem dX12_owes_107 : decode cX12_owes 107 = .ok (.getfield 357, 3) := by decide +kernel
theorem dX12_owes_110 : decode cX12_owes 110 = .ok (.iconst (-1), 1) := by decide +kernel
theorem dX12_owes_111 : decode cX12_owes 111 = .ok (.iastore, 1) := by decide +kernel
theorem dX12_owes_112 : decode cX12_owes 112 = .ok (.aload_n 0, 1) := by decide +kernel
theorem dX12_owes_113 : decode cX12_owes 113 = .ok (.dup, 1) := by decide +kernel
theorem dX12_owes_114 : decode cX12_owes 114 = .ok (.getfield 357, 3) := by decide +kernel
theorem dX12_owes_117 : decode cX12_owes 117 = .ok (.iconst 1, 1) := by decide +kernel
theorem dX12_owes_118 : decode cX12_owes 118 = .ok (.iadd, 1) := by decide +kernel
theorem dX12_owes_119 : decode cX12_owes 119 = .ok (.putfield 357, 3) := by decide +kernel
theorem dX12_owes_122 : decode cX12_owes 122 = .ok (.return_, 1) := by decide +kernel
theorem dX12_learns_0 : decode cX12_learns 0 = .ok (.aload_n 0, 1) := by decide +kernel
theorem dX12_learns_1 : decode cX12_learns 1 = .ok (.aload_n 0, 1) := by decide +kernel
theorem dX12_learns_2 : decode cX12_learns 2 = .ok (.getfield 62, 3) := by decide +kernel
theorem dX12_learns_5 : decode cX12_learns 5 = .ok (.iload_n 1, 1) := by decide +kernel
theorem dX12_learns_6 : decode cX12_learns 6 = .ok (.iaload, 1) := by decide +kernel
theorem dX12_learns_7 : decode cX12_learns 7 = .ok (.iconst 1, 1) := by decide +kernel
theorem dX12_learns_8 : decode cX12_learns 8 = .ok (.iload_n 2, 1) := by decide +kernel
theorem dX12_learns_9 : decode cX12_learns 9 = .ok (.ishl, 1) := by decide +kernel
theorem dX12_learns_10 : decode cX12_learns 10 = .ok (.ior, 1) := by decide +kernel
theorem dX12_learns_11 : decode cX12_learns 11 = .ok (.invokevirtual 354, 3) := by decide +kernel
theorem dX12_learns_14 : decode cX12_learns 14 = .ok (.aload_n 0, 1) := by decide +kernel
theorem dX12_learns_15 : decode cX12_learns 15 = .ok (.getfield 62, 3) := by decide +kernel
theorem dX12_learns_18 : decode cX12_learns 18 = .ok (.iload_n 1, 1) := by decide +kernel
theorem dX12_learns_19 : decode cX12_learns 19 = .ok (.iaload, 1) := by decide +kernel
theorem dX12_learns_20 : decode cX12_learns 20 = .ok (.iconst (-1), 1) := by decide +kernel
theorem dX12_learns_21 : decode cX12_learns 21 = .ok (.ixor, 1) := by decide +kernel
theorem dX12_learns_22 : decode cX12_learns 22 = .ok (.iand, 1) := by decide +kernel
theorem dX12_learns_23 : decode cX12_learns 23 = .ok (.istore 4, 2) := by decide +kernel
theorem dX12_learns_25 : decode cX12_learns 25 = .ok (.aload_n 0, 1) := by decide +kernel
theorem dX12_learns_26 : decode cX12_learns 26 = .ok (.getfield 62, 3) := by decide +kernel
theorem dX12_learns_29 : decode cX12_learns 29 = .ok (.iload_n 1, 1) := by decide +kernel
theorem dX12_learns_30 : decode cX12_learns 30 = .ok (.dup2, 1) := by decide +kernel
theorem dX12_learns_31 : decode cX12_learns 31 = .ok (.iaload, 1) := by decide +kernel
theorem dX12_learns_32 : decode cX12_learns 32 = .ok (.iload 4, 2) := by decide +kernel
theorem dX12_learns_34 : decode cX12_learns 34 = .ok (.ior, 1) := by decide +kernel
theorem dX12_learns_35 : decode cX12_learns 35 = .ok (.iastore, 1) := by decide +kernel
theorem dX12_learns_36 : decode cX12_learns 36 = .ok (.iconst 0, 1) := by decide +kernel
theorem dX12_learns_37 : decode cX12_learns 37 = .ok (.istore 5, 2) := by decide +kernel
theorem dX12_learns_39 : decode cX12_learns 39 = .ok (.iload 5, 2) := by decide +kernel
theorem dX12_learns_41 : decode cX12_learns 41 = .ok (.bipush 12, 2) := by decide +kernel
theorem dX12_learns_43 : decode cX12_learns 43 = .ok (.if_icmp .ge 32, 3) := by decide +kernel
theorem dX12_learns_46 : decode cX12_learns 46 = .ok (.iload 4, 2) := by decide +kernel
theorem dX12_learns_48 : decode cX12_learns 48 = .ok (.iload 5, 2) := by decide +kernel
theorem dX12_learns_50 : decode cX12_learns 50 = .ok (.invokestatic 272, 3) := by decide +kernel
theorem dX12_learns_53 : decode cX12_learns 53 = .ok (.ifCond .eq 16, 3) := by decide +kernel
theorem dX12_learns_56 : decode cX12_learns 56 = .ok (.aload_n 0, 1) := by decide +kernel
theorem dX12_learns_57 : decode cX12_learns 57 = .ok (.getfield 65, 3) := by decide +kernel
theorem dX12_learns_60 : decode cX12_learns 60 = .ok (.bipush 12, 2) := by decide +kernel
theorem dX12_learns_62 : decode cX12_learns 62 = .ok (.iload_n 1, 1) := by decide +kernel
theorem dX12_learns_63 : decode cX12_learns 63 = .ok (.imul, 1) := by decide +kernel
theorem dX12_learns_64 : decode cX12_learns 64 = .ok (.iload 5, 2) := by decide +kernel
theorem dX12_learns_66 : decode cX12_learns 66 = .ok (.iadd, 1) := by decide +kernel
theorem dX12_learns_67 : decode cX12_learns 67 = .ok (.iload_n 3, 1) := by decide +kernel
theorem dX12_learns_68 : decode cX12_learns 68 = .ok (.iastore, 1) := by decide +kernel
theorem dX12_learns_69 : decode cX12_learns 69 = .ok (.iinc 5 1, 3) := by decide +kernel
theorem dX12_learns_72 : decode cX12_learns 72 = .ok (.goto (-33), 3) := by decide +kernel
theorem dX12_learns_75 : decode cX12_learns 75 = .ok (.iconst 0, 1) := by decide +kernel
theorem dX12_learns_76 : decode cX12_learns 76 = .ok (.istore 5, 2) := by decide +kernel
theorem dX12_learns_78 : decode cX12_learns 78 = .ok (.iload 5, 2) := by decide +kernel
theorem dX12_learns_80 : decode cX12_learns 80 = .ok (.aload_n 0, 1) := by decide +kernel
theorem dX12_learns_81 : decode cX12_learns 81 = .ok (.getfield 357, 3) := by decide +kernel
theorem dX12_learns_84 : decode cX12_learns 84 = .ok (.if_icmp .ge 70, 3) := by decide +kernel
theorem dX12_learns_87 : decode cX12_learns 87 = .ok (.aload_n 0, 1) := by decide +kernel
theorem dX12_learns_88 : decode cX12_learns 88 = .ok (.getfield 80, 3) := by decide +kernel
theorem dX12_learns_91 : decode cX12_learns 91 = .ok (.iload 5, 2) := by decide +kernel
theorem dX12_learns_93 : decode cX12_learns 93 = .ok (.iaload, 1) := by decide +kernel
theorem dX12_learns_94 : decode cX12_learns 94 = .ok (.iload_n 1, 1) := by decide +kernel
theorem dX12_learns_95 : decode cX12_learns 95 = .ok (.if_icmp .ne 53, 3) := by decide +kernel
theorem dX12_learns_98 : decode cX12_learns 98 = .ok (.iload 4, 2) := by decide +kernel
theorem dX12_learns_100 : decode cX12_learns 100 = .ok (.aload_n 0, 1) := by decide +kernel
theorem dX12_learns_101 : decode cX12_learns 101 = .ok (.getfield 83, 3) := by decide +kernel
theorem dX12_learns_104 : decode cX12_learns 104 = .ok (.iload 5, 2) := by decide +kernel
theorem dX12_learns_106 : decode cX12_learns 106 = .ok (.iaload, 1) := by decide +kernel
theorem dX12_learns_107 : decode cX12_learns 107 = .ok (.invokestatic 272, 3) := by decide +kernel
theorem dX12_learns_110 : decode cX12_learns 110 = .ok (.ifCond .ne 6, 3) := by decide +kernel
theorem dX12_learns_113 : decode cX12_learns 113 = .ok (.goto 35, 3) := by decide +kernel
theorem dX12_learns_116 : decode cX12_learns 116 = .ok (.aload_n 0, 1) := by decide +kernel
theorem dX12_learns_117 : decode cX12_learns 117 = .ok (.getfield 98, 3) := by decide +kernel
theorem dX12_learns_120 : decode cX12_learns 120 = .ok (.iload 5, 2) := by decide +kernel
theorem dX12_learns_122 : decode cX12_learns 122 = .ok (.iconst 1, 1) := by decide +kernel
theorem dX12_learns_123 : decode cX12_learns 123 = .ok (.iastore, 1) := by decide +kernel
theorem dX12_learns_124 : decode cX12_learns 124 = .ok (.aload_n 0, 1) := by decide +kernel
theorem dX12_learns_125 : decode cX12_learns 125 = .ok (.getfield 89, 3) := by decide +kernel
theorem dX12_learns_128 : decode cX12_learns 128 = .ok (.iload 5, 2) := by decide +kernel
theorem dX12_learns_130 : decode cX12_learns 130 = .ok (.aload_n 0, 1) := by decide +kernel
theorem dX12_learns_131 : decode cX12_learns 131 = .ok (.getfield 89, 3) := by decide +kernel
theorem dX12_learns_134 : decode cX12_learns 134 = .ok (.iload 5, 2) := by decide +kernel
theorem dX12_learns_136 : decode cX12_learns 136 = .ok (.iaload, 1) := by decide +kernel
theorem dX12_learns_137 : decode cX12_learns 137 = .ok (.aload_n 0, 1) := by decide +kernel
theorem dX12_learns_138 : decode cX12_learns 138 = .ok (.getfield 33, 3) := by decide +kernel
theorem dX12_learns_141 : decode cX12_learns 141 = .ok (.bipush 7, 2) := by decide +kernel
theorem dX12_learns_143 : decode cX12_learns 143 = .ok (.iaload, 1) := by decide +kernel
theorem dX12_learns_144 : decode cX12_learns 144 = .ok (.invokestatic 369, 3) := by decide +kernel
theorem dX12_learns_147 : decode cX12_learns 147 = .ok (.iastore, 1) := by decide +kernel
theorem dX12_learns_148 : decode cX12_learns 148 = .ok (.iinc 5 1, 3) := by decide +kernel
theorem dX12_learns_151 : decode cX12_learns 151 = .ok (.goto (-73), 3) := by decide +kernel
theorem dX12_learns_154 : decode cX12_learns 154 = .ok (.return_, 1) := by decide +kernel
theorem dX12_whyOf_0 : decode cX12_whyOf 0 = .ok (.aload_n 0, 1) := by decide +kernel
theorem dX12_whyOf_1 : decode cX12_whyOf 1 = .ok (.getfield 62, 3) := by decide +kernel
theorem dX12_whyOf_4 : decode cX12_whyOf 4 = .ok (.iload_n 2, 1) := by decide +kernel
theorem dX12_whyOf_5 : decode cX12_whyOf 5 = .ok (.iaload, 1) := by decide +kernel
theorem dX12_whyOf_6 : decode cX12_whyOf 6 = .ok (.iload 4, 2) := by decide +kernel
theorem dX12_whyOf_8 : decode cX12_whyOf 8 = .ok (.invokestatic 272, 3) := by decide +kernel
theorem dX12_whyOf_11 : decode cX12_whyOf 11 = .ok (.istore 6, 2) := by decide +kernel
theorem dX12_whyOf_13 : decode cX12_whyOf 13 = .ok (.iconst 0, 1) := by decide +kernel
theorem dX12_whyOf_14 : decode cX12_whyOf 14 = .ok (.istore 7, 2) := by decide +kernel
theorem dX12_whyOf_16 : decode cX12_whyOf 16 = .ok (.iload 7, 2) := by decide +kernel
theorem dX12_whyOf_18 : decode cX12_whyOf 18 = .ok (.bipush 8, 2) := by decide +kernel
theorem dX12_whyOf_20 : decode cX12_whyOf 20 = .ok (.if_icmp .ge 51, 3) := by decide +kernel
theorem dX12_whyOf_23 : decode cX12_whyOf 23 = .ok (.iload_n 1, 1) := by decide +kernel
theorem dX12_whyOf_24 : decode cX12_whyOf 24 = .ok (.iconst 1, 1) := by decide +kernel
theorem dX12_whyOf_25 : decode cX12_whyOf 25 = .ok (.if_icmp .ne 46, 3) := by decide +kernel
theorem dX12_whyOf_28 : decode cX12_whyOf 28 = .ok (.iload 6, 2) := by decide +kernel
theorem dX12_whyOf_30 : decode cX12_whyOf 30 = .ok (.ifCond .eq 32, 3) := by decide +kernel
theorem dX12_whyOf_33 : decode cX12_whyOf 33 = .ok (.iload 5, 2) := by decide +kernel
theorem dX12_whyOf_35 : decode cX12_whyOf 35 = .ok (.iload 7, 2) := by decide +kernel
theorem dX12_whyOf_37 : decode cX12_whyOf 37 = .ok (.invokestatic 272, 3) := by decide +kernel
theorem dX12_whyOf_40 : decode cX12_whyOf 40 = .ok (.ifCond .eq 18, 3) := by decide +kernel
theorem dX12_whyOf_43 : decode cX12_whyOf 43 = .ok (.aload_n 0, 1) := by decide +kernel
theorem dX12_whyOf_44 : decode cX12_whyOf 44 = .ok (.getfield 62, 3) := by decide +kernel
theorem dX12_whyOf_47 : decode cX12_whyOf 47 = .ok (.iload 7, 2) := by decide +kernel
theorem dX12_whyOf_49 : decode cX12_whyOf 49 = .ok (.iaload, 1) := by decide +kernel
theorem dX12_whyOf_50 : decode cX12_whyOf 50 = .ok (.iload 4, 2) := by decide +kernel
theorem dX12_whyOf_52 : decode cX12_whyOf 52 = .ok (.invokestatic 272, 3) := by decide +kernel
theorem dX12_whyOf_55 : decode cX12_whyOf 55 = .ok (.ifCond .eq 7, 3) := by decide +kernel
theorem dX12_whyOf_58 : decode cX12_whyOf 58 = .ok (.iconst 1, 1) := by decide +kernel
theorem dX12_whyOf_59 : decode cX12_whyOf 59 = .ok (.goto 4, 3) := by decide +kernel
theorem dX12_whyOf_62 : decode cX12_whyOf 62 = .ok (.iconst 0, 1) := by decide +kernel
theorem dX12_whyOf_63 : decode cX12_whyOf 63 = .ok (.istore 6, 2) := by decide +kernel
theorem dX12_whyOf_65 : decode cX12_whyOf 65 = .ok (.iinc 7 1, 3) := by decide +kernel
theorem dX12_whyOf_68 : decode cX12_whyOf 68 = .ok (.goto (-52), 3) := by decide +kernel
theorem dX12_whyOf_71 : decode cX12_whyOf 71 = .ok (.iload 6, 2) := by decide +kernel
theorem dX12_whyOf_73 : decode cX12_whyOf 73 = .ok (.ifCond .ne 7, 3) := by decide +kernel
theorem dX12_whyOf_76 : decode cX12_whyOf 76 = .ok (.iconst 1, 1) := by decide +kernel
theorem dX12_whyOf_77 : decode cX12_whyOf 77 = .ok (.goto 22, 3) := by decide +kernel
theorem dX12_whyOf_80 : decode cX12_whyOf 80 = .ok (.aload_n 0, 1) := by decide +kernel
theorem dX12_whyOf_81 : decode cX12_whyOf 81 = .ok (.getfield 62, 3) := by decide +kernel
theorem dX12_whyOf_84 : decode cX12_whyOf 84 = .ok (.iload_n 3, 1) := by decide +kernel
theorem dX12_whyOf_85 : decode cX12_whyOf 85 = .ok (.iaload, 1) := by decide +kernel
theorem dX12_whyOf_86 : decode cX12_whyOf 86 = .ok (.iload 4, 2) := by decide +kernel
theorem dX12_whyOf_88 : decode cX12_whyOf 88 = .ok (.invokestatic 272, 3) := by decide +kernel
theorem dX12_whyOf_91 : decode cX12_whyOf 91 = .ok (.ifCond .eq 7, 3) := by decide +kernel
theorem dX12_whyOf_94 : decode cX12_whyOf 94 = .ok (.iconst 2, 1) := by decide +kernel
theorem dX12_whyOf_95 : decode cX12_whyOf 95 = .ok (.goto 4, 3) := by decide +kernel
theorem dX12_whyOf_98 : decode cX12_whyOf 98 = .ok (.iconst 0, 1) := by decide +kernel
theorem dX12_whyOf_99 : decode cX12_whyOf 99 = .ok (.ireturn, 1) := by decide +kernel
theorem dX12_tells_0 : decode cX12_tells 0 = .ok (.aload_n 0, 1) := by decide +kernel
theorem dX12_tells_1 : decode cX12_tells 1 = .ok (.iload_n 1, 1) := by decide +kernel
theorem dX12_tells_2 : decode cX12_tells 2 = .ok (.iload_n 3, 1) := by decide +kernel
theorem dX12_tells_3 : decode cX12_tells 3 = .ok (.invokevirtual 372, 3) := by decide +kernel
theorem dX12_tells_6 : decode cX12_tells 6 = .ok (.istore 5, 2) := by decide +kernel
theorem dX12_tells_8 : decode cX12_tells 8 = .ok (.iconst 0, 1) := by decide +kernel
theorem dX12_tells_9 : decode cX12_tells 9 = .ok (.istore 6, 2) := by decide +kernel
theorem dX12_tells_11 : decode cX12_tells 11 = .ok (.iload 6, 2) := by decide +kernel
theorem dX12_tells_13 : decode cX12_tells 13 = .ok (.aload_n 0, 1) := by decide +kernel
theorem dX12_tells_14 : decode cX12_tells 14 = .ok (.getfield 357, 3) := by decide +kernel
theorem dX12_tells_17 : decode cX12_tells 17 = .ok (.if_icmp .ge 76, 3) := by decide +kernel
theorem dX12_tells_20 : decode cX12_tells 20 = .ok (.aload_n 0, 1) := by decide +kernel
theorem dX12_tells_21 : decode cX12_tells 21 = .ok (.getfield 77, 3) := by decide +kernel
theorem dX12_tells_24 : decode cX12_tells 24 = .ok (.iload 6, 2) := by decide +kernel
theorem dX12_tells_26 : decode cX12_tells 26 = .ok (.iaload, 1) := by decide +kernel
theorem dX12_tells_27 : decode cX12_tells 27 = .ok (.iload_n 1, 1) := by decide +kernel
theorem dX12_tells_28 : decode cX12_tells 28 = .ok (.if_icmp .ne 59, 3) := by decide +kernel
theorem dX12_tells_31 : decode cX12_tells 31 = .ok (.aload_n 0, 1) := by decide +kernel
theorem dX12_tells_32 : decode cX12_tells 32 = .ok (.getfield 89, 3) := by decide +kernel
theorem dX12_tells_35 : decode cX12_tells 35 = .ok (.iload 6, 2) := by decide +kernel
theorem dX12_tells_37 : decode cX12_tells 37 = .ok (.iaload, 1) := by decide +kernel
theorem dX12_tells_38 : decode cX12_tells 38 = .ok (.ifCond .eq 49, 3) := by decide +kernel
theorem dX12_tells_41 : decode cX12_tells 41 = .ok (.aload_n 0, 1) := by decide +kernel
theorem dX12_tells_42 : decode cX12_tells 42 = .ok (.getfield 89, 3) := by decide +kernel
theorem dX12_tells_45 : decode cX12_tells 45 = .ok (.iload 6, 2) := by decide +kernel
theorem dX12_tells_47 : decode cX12_tells 47 = .ok (.iaload, 1) := by decide +kernel
theorem dX12_tells_48 : decode cX12_tells 48 = .ok (.iload 5, 2) := by decide +kernel
theorem dX12_tells_50 : decode cX12_tells 50 = .ok (.if_icmp .le 6, 3) := by decide +kernel
theorem dX12_tells_53 : decode cX12_tells 53 = .ok (.goto 34, 3) := by decide +kernel
theorem dX12_tells_56 : decode cX12_tells 56 = .ok (.aload_n 0, 1) := by decide +kernel
theorem dX12_tells_57 : decode cX12_tells 57 = .ok (.getfield 89, 3) := by decide +kernel
theorem dX12_tells_60 : decode cX12_tells 60 = .ok (.iload 6, 2) := by decide +kernel
theorem dX12_tells_62 : decode cX12_tells 62 = .ok (.iconst 0, 1) := by decide +kernel
theorem dX12_tells_63 : decode cX12_tells 63 = .ok (.iastore, 1) := by decide +kernel
theorem dX12_tells_64 : decode cX12_tells 64 = .ok (.aload_n 0, 1) := by decide +kernel
theorem dX12_tells_65 : decode cX12_tells 65 = .ok (.getfield 95, 3) := by decide +kernel
theorem dX12_tells_68 : decode cX12_tells 68 = .ok (.iload 6, 2) := by decide +kernel
theorem dX12_tells_70 : decode cX12_tells 70 = .ok (.iload 4, 2) := by decide +kernel
theorem dX12_tells_72 : decode cX12_tells 72 = .ok (.iastore, 1) := by decide +kernel
theorem dX12_tells_73 : decode cX12_tells 73 = .ok (.aload_n 0, 1) := by decide +kernel
theorem dX12_tells_74 : decode cX12_tells 74 = .ok (.getfield 104, 3) := by decide +kernel
theorem dX12_tells_77 : decode cX12_tells 77 = .ok (.iload 6, 2) := by decide +kernel
theorem dX12_tells_79 : decode cX12_tells 79 = .ok (.aload_n 0, 1) := by decide +kernel
theorem dX12_tells_80 : decode cX12_tells 80 = .ok (.getfield 360, 3) := by decide +kernel
theorem dX12_tells_83 : decode cX12_tells 83 = .ok (.iastore, 1) := by decide +kernel
theorem dX12_tells_84 : decode cX12_tells 84 = .ok (.goto 9, 3) := by decide +kernel
theorem dX12_tells_87 : decode cX12_tells 87 = .ok (.iinc 6 1, 3) := by decide +kernel
theorem dX12_tells_90 : decode cX12_tells 90 = .ok (.goto (-79), 3) := by decide +kernel
theorem dX12_tells_93 : decode cX12_tells 93 = .ok (.aload_n 0, 1) := by decide +kernel
theorem dX12_tells_94 : decode cX12_tells 94 = .ok (.getfield 68, 3) := by decide +kernel
theorem dX12_tells_97 : decode cX12_tells 97 = .ok (.aload_n 0, 1) := by decide +kernel
theorem dX12_tells_98 : decode cX12_tells 98 = .ok (.getfield 33, 3) := by decide +kernel
theorem dX12_tells_101 : decode cX12_tells 101 = .ok (.bipush 8, 2) := by decide +kernel
theorem dX12_tells_103 : decode cX12_tells 103 = .ok (.iconst 3, 1) := by decide +kernel
theorem dX12_tells_104 : decode cX12_tells 104 = .ok (.iload_n 3, 1) := by decide +kernel
theorem dX12_tells_105 : decode cX12_tells 105 = .ok (.imul, 1) := by decide +kernel
theorem dX12_tells_106 : decode cX12_tells 106 = .ok (.iadd, 1) := by decide +kernel
theorem dX12_tells_107 : decode cX12_tells 107 = .ok (.iconst 2, 1) := by decide +kernel
theorem dX12_tells_108 : decode cX12_tells 108 = .ok (.iadd, 1) := by decide +kernel
theorem dX12_tells_109 : decode cX12_tells 109 = .ok (.iaload, 1) := by decide +kernel
theorem dX12_tells_110 : decode cX12_tells 110 = .ok (.dup2, 1) := by decide +kernel
theorem dX12_tells_111 : decode cX12_tells 111 = .ok (.iaload, 1) := by decide +kernel
theorem dX12_tells_112 : decode cX12_tells 112 = .ok (.aload_n 0, 1) := by decide +kernel
theorem dX12_tells_113 : decode cX12_tells 113 = .ok (.getfield 33, 3) := by decide +kernel
theorem dX12_tells_116 : decode cX12_tells 116 = .ok (.bipush 8, 2) := by decide +kernel
theorem dX12_tells_118 : decode cX12_tells 118 = .ok (.iconst 3, 1) := by decide +kernel
theorem dX12_tells_119 : decode cX12_tells 119 = .ok (.iload_n 3, 1) := by decide +kernel
theorem dX12_tells_120 : decode cX12_tells 120 = .ok (.imul, 1) := by decide +kernel
theorem dX12_tells_121 : decode cX12_tells 121 = .ok (.iadd, 1) := by decide +kernel
theorem dX12_tells_122 : decode cX12_tells 122 = .ok (.iconst 1, 1) := by decide +kernel
theorem dX12_tells_123 : decode cX12_tells 123 = .ok (.iadd, 1) := by decide +kernel
theorem dX12_tells_124 : decode cX12_tells 124 = .ok (.iaload, 1) := by decide +kernel
theorem dX12_tells_125 : decode cX12_tells 125 = .ok (.iadd, 1) := by decide +kernel
theorem dX12_tells_126 : decode cX12_tells 126 = .ok (.iastore, 1) := by decide +kernel
theorem dX12_tells_127 : decode cX12_tells 127 = .ok (.aload_n 0, 1) := by decide +kernel
theorem dX12_tells_128 : decode cX12_tells 128 = .ok (.dup, 1) := by decide +kernel
theorem dX12_tells_129 : decode cX12_tells 129 = .ok (.getfield 363, 3) := by decide +kernel
theorem dX12_tells_132 : decode cX12_tells 132 = .ok (.iconst 1, 1) := by decide +kernel
theorem dX12_tells_133 : decode cX12_tells 133 = .ok (.iload_n 3, 1) := by decide +kernel
theorem dX12_tells_134 : decode cX12_tells 134 = .ok (.ishl, 1) := by decide +kernel
theorem dX12_tells_135 : decode cX12_tells 135 = .ok (.ior, 1) := by decide +kernel
theorem dX12_tells_136 : decode cX12_tells 136 = .ok (.putfield 363, 3) := by decide +kernel
theorem dX12_tells_139 : decode cX12_tells 139 = .ok (.aload_n 0, 1) := by decide +kernel
theorem dX12_tells_140 : decode cX12_tells 140 = .ok (.iload_n 2, 1) := by decide +kernel
theorem dX12_tells_141 : decode cX12_tells 141 = .ok (.iload_n 3, 1) := by decide +kernel
theorem dX12_tells_142 : decode cX12_tells 142 = .ok (.iload 4, 2) := by decide +kernel
theorem dX12_tells_144 : decode cX12_tells 144 = .ok (.invokevirtual 375, 3) := by decide +kernel
theorem dX12_tells_147 : decode cX12_tells 147 = .ok (.return_, 1) := by decide +kernel
theorem dX12_does_0 : decode cX12_does 0 = .ok (.sipush 173, 3) := by decide +kernel
theorem dX12_does_3 : decode cX12_does 3 = .ok (.iconst 5, 1) := by decide +kernel
theorem dX12_does_4 : decode cX12_does 4 = .ok (.iload_n 1, 1) := by decide +kernel
theorem dX12_does_5 : decode cX12_does 5 = .ok (.imul, 1) := by decide +kernel
theorem dX12_does_6 : decode cX12_does 6 = .ok (.iadd, 1) := by decide +kernel
theorem dX12_does_7 : decode cX12_does 7 = .ok (.istore_n 2, 1) := by decide +kernel
theorem dX12_does_8 : decode cX12_does 8 = .ok (.aload_n 0, 1) := by decide +kernel
theorem dX12_does_9 : decode cX12_does 9 = .ok (.getfield 33, 3) := by decide +kernel
theorem dX12_does_12 : decode cX12_does 12 = .ok (.iload_n 2, 1) := by decide +kernel
theorem dX12_does_13 : decode cX12_does 13 = .ok (.iaload, 1) := by decide +kernel
theorem dX12_does_14 : decode cX12_does 14 = .ok (.istore_n 3, 1) := by decide +kernel
theorem dX12_does_15 : decode cX12_does 15 = .ok (.aload_n 0, 1) := by decide +kernel
theorem dX12_does_16 : decode cX12_does 16 = .ok (.getfield 33, 3) := by decide +kernel
theorem dX12_does_19 : decode cX12_does 19 = .ok (.iload_n 2, 1) := by decide +kernel
theorem dX12_does_20 : decode cX12_does 20 = .ok (.iconst 1, 1) := by decide +kernel
theorem dX12_does_21 : decode cX12_does 21 = .ok (.iadd, 1) := by decide +kernel
theorem dX12_does_22 : decode cX12_does 22 = .ok (.iaload, 1) := by decide +kernel
theorem dX12_does_23 : decode cX12_does 23 = .ok (.istore 4, 2) := by decide +kernel
theorem dX12_does_25 : decode cX12_does 25 = .ok (.aload_n 0, 1) := by decide +kernel
theorem dX12_does_26 : decode cX12_does 26 = .ok (.getfield 33, 3) := by decide +kernel
theorem dX12_does_29 : decode cX12_does 29 = .ok (.iload_n 2, 1) := by decide +kernel
theorem dX12_does_30 : decode cX12_does 30 = .ok (.iconst 2, 1) := by decide +kernel
theorem dX12_does_31 : decode cX12_does 31 = .ok (.iadd, 1) := by decide +kernel
theorem dX12_does_32 : decode cX12_does 32 = .ok (.iaload, 1) := by decide +kernel
theorem dX12_does_33 : decode cX12_does 33 = .ok (.istore 5, 2) := by decide +kernel
theorem dX12_does_35 : decode cX12_does 35 = .ok (.aload_n 0, 1) := by decide +kernel
theorem dX12_does_36 : decode cX12_does 36 = .ok (.getfield 33, 3) := by decide +kernel
theorem dX12_does_39 : decode cX12_does 39 = .ok (.iload_n 2, 1) := by decide +kernel
theorem dX12_does_40 : decode cX12_does 40 = .ok (.iconst 3, 1) := by decide +kernel
theorem dX12_does_41 : decode cX12_does 41 = .ok (.iadd, 1) := by decide +kernel
theorem dX12_does_42 : decode cX12_does 42 = .ok (.iaload, 1) := by decide +kernel
theorem dX12_does_43 : decode cX12_does 43 = .ok (.istore 6, 2) := by decide +kernel
theorem dX12_does_45 : decode cX12_does 45 = .ok (.aload_n 0, 1) := by decide +kernel
theorem dX12_does_46 : decode cX12_does 46 = .ok (.getfield 33, 3) := by decide +kernel
theorem dX12_does_49 : decode cX12_does 49 = .ok (.iload_n 2, 1) := by decide +kernel
theorem dX12_does_50 : decode cX12_does 50 = .ok (.iconst 4, 1) := by decide +kernel
theorem dX12_does_51 : decode cX12_does 51 = .ok (.iadd, 1) := by decide +kernel
theorem dX12_does_52 : decode cX12_does 52 = .ok (.iaload, 1) := by decide +kernel
theorem dX12_does_53 : decode cX12_does 53 = .ok (.istore 7, 2) := by decide +kernel
theorem dX12_does_55 : decode cX12_does 55 = .ok (.iload_n 3, 1) := by decide +kernel
theorem dX12_does_56 : decode cX12_does 56 = .ok (.ifCond .ne 11, 3) := by decide +kernel
theorem dX12_does_59 : decode cX12_does 59 = .ok (.aload_n 0, 1) := by decide +kernel
theorem dX12_does_60 : decode cX12_does 60 = .ok (.iload 4, 2) := by decide +kernel
theorem dX12_does_62 : decode cX12_does 62 = .ok (.putfield 360, 3) := by decide +kernel
theorem dX12_does_65 : decode cX12_does 65 = .ok (.iconst 0, 1) := by decide +kernel
theorem dX12_does_66 : decode cX12_does 66 = .ok (.ireturn, 1) := by decide +kernel
theorem dX12_does_67 : decode cX12_does 67 = .ok (.aload_n 0, 1) := by decide +kernel
theorem dX12_does_68 : decode cX12_does 68 = .ok (.iload_n 3, 1) := by decide +kernel
theorem dX12_does_69 : decode cX12_does 69 = .ok (.iload 4, 2) := by decide +kernel
theorem dX12_does_71 : decode cX12_does 71 = .ok (.iload 5, 2) := by decide +kernel
theorem dX12_does_73 : decode cX12_does 73 = .ok (.iload 6, 2) := by decide +kernel
theorem dX12_does_75 : decode cX12_does 75 = .ok (.iload 7, 2) := by decide +kernel
theorem dX12_does_77 : decode cX12_does 77 = .ok (.invokevirtual 379, 3) := by decide +kernel
theorem dX12_does_80 : decode cX12_does 80 = .ok (.istore 8, 2) := by decide +kernel
theorem dX12_does_82 : decode cX12_does 82 = .ok (.iload 8, 2) := by decide +kernel
theorem dX12_does_84 : decode cX12_does 84 = .ok (.ifCond .le 6, 3) := by decide +kernel
theorem dX12_does_87 : decode cX12_does 87 = .ok (.iload 8, 2) := by decide +kernel
theorem dX12_does_89 : decode cX12_does 89 = .ok (.ireturn, 1) := by decide +kernel
theorem dX12_does_90 : decode cX12_does 90 = .ok (.aload_n 0, 1) := by decide +kernel
theorem dX12_does_91 : decode cX12_does 91 = .ok (.getfield 33, 3) := by decide +kernel
theorem dX12_does_94 : decode cX12_does 94 = .ok (.bipush 8, 2) := by decide +kernel
theorem dX12_does_96 : decode cX12_does 96 = .ok (.iconst 3, 1) := by decide +kernel
theorem dX12_does_97 : decode cX12_does 97 = .ok (.iload 6, 2) := by decide +kernel
theorem dX12_does_99 : decode cX12_does 99 = .ok (.imul, 1) := by decide +kernel
theorem dX12_does_100 : decode cX12_does 100 = .ok (.iadd, 1) := by decide +kernel
theorem dX12_does_101 : decode cX12_does 101 = .ok (.iaload, 1) := by decide +kernel
theorem dX12_does_102 : decode cX12_does 102 = .ok (.istore 9, 2) := by decide +kernel
theorem dX12_does_104 : decode cX12_does 104 = .ok (.iload_n 3, 1) := by decide +kernel
theorem dX12_does_105 : decode cX12_does 105 = .ok (.iconst 1, 1) := by decide +kernel
theorem dX12_does_106 : decode cX12_does 106 = .ok (.if_icmp .ne 83, 3) := by decide +kernel
theorem dX12_does_109 : decode cX12_does 109 = .ok (.iconst 1, 1) := by decide +kernel
theorem dX12_does_110 : decode cX12_does 110 = .ok (.iload 7, 2) := by decide +kernel
theorem dX12_does_112 : decode cX12_does 112 = .ok (.invokestatic 333, 3) := by decide +kernel
theorem dX12_does_115 : decode cX12_does 115 = .ok (.iadd, 1) := by decide +kernel
theorem dX12_does_116 : decode cX12_does 116 = .ok (.istore 10, 2) := by decide +kernel
theorem dX12_does_118 : decode cX12_does 118 = .ok (.iload 9, 2) := by decide +kernel
theorem dX12_does_120 : decode cX12_does 120 = .ok (.iload 10, 2) := by decide +kernel
theorem dX12_does_122 : decode cX12_does 122 = .ok (.iadd, 1) := by decide +kernel
theorem dX12_does_123 : decode cX12_does 123 = .ok (.iconst 1, 1) := by decide +kernel
theorem dX12_does_124 : decode cX12_does 124 = .ok (.isub, 1) := by decide +kernel
theorem dX12_does_125 : decode cX12_does 125 = .ok (.iload 10, 2) := by decide +kernel
theorem dX12_does_127 : decode cX12_does 127 = .ok (.idiv, 1) := by decide +kernel
theorem dX12_does_128 : decode cX12_does 128 = .ok (.istore 11, 2) := by decide +kernel
theorem dX12_does_130 : decode cX12_does 130 = .ok (.aload_n 0, 1) := by decide +kernel
theorem dX12_does_131 : decode cX12_does 131 = .ok (.iload 4, 2) := by decide +kernel
theorem dX12_does_133 : decode cX12_does 133 = .ok (.iload 5, 2) := by decide +kernel
theorem dX12_does_135 : decode cX12_does 135 = .ok (.iload 6, 2) := by decide +kernel
theorem dX12_does_137 : decode cX12_does 137 = .ok (.iload 11, 2) := by decide +kernel
theorem dX12_does_139 : decode cX12_does 139 = .ok (.iload_n 1, 1) := by decide +kernel
theorem dX12_does_140 : decode cX12_does 140 = .ok (.invokevirtual 383, 3) := by decide +kernel
theorem dX12_does_143 : decode cX12_does 143 = .ok (.iconst 0, 1) := by decide +kernel
theorem dX12_does_144 : decode cX12_does 144 = .ok (.istore 12, 2) := by decide +kernel
theorem dX12_does_146 : decode cX12_does 146 = .ok (.iload 12, 2) := by decide +kernel
theorem dX12_does_148 : decode cX12_does 148 = .ok (.iconst 1, 1) := by decide +kernel
theorem dX12_does_149 : decode cX12_does 149 = .ok (.iadd, 1) := by decide +kernel
theorem dX12_does_150 : decode cX12_does 150 = .ok (.iload 10, 2) := by decide +kernel
theorem dX12_does_152 : decode cX12_does 152 = .ok (.if_icmp .ge 34, 3) := by decide +kernel
theorem dX12_does_155 : decode cX12_does 155 = .ok (.aload_n 0, 1) := by decide +kernel
theorem dX12_does_156 : decode cX12_does 156 = .ok (.aload_n 0, 1) := by decide +kernel
theorem dX12_does_157 : decode cX12_does 157 = .ok (.getfield 56, 3) := by decide +kernel
theorem dX12_does_160 : decode cX12_does 160 = .ok (.iload_n 1, 1) := by decide +kernel
theorem dX12_does_161 : decode cX12_does 161 = .ok (.iaload, 1) := by decide +kernel
theorem dX12_does_162 : decode cX12_does 162 = .ok (.iconst 3, 1) := by decide +kernel
theorem dX12_does_163 : decode cX12_does 163 = .ok (.iload 12, 2) := by decide +kernel
theorem dX12_does_165 : decode cX12_does 165 = .ok (.imul, 1) := by decide +kernel
theorem dX12_does_166 : decode cX12_does 166 = .ok (.ishr, 1) := by decide +kernel
theorem dX12_does_167 : decode cX12_does 167 = .ok (.bipush 7, 2) := by decide +kernel
theorem dX12_does_169 : decode cX12_does 169 = .ok (.iand, 1) := by decide +kernel
theorem dX12_does_170 : decode cX12_does 170 = .ok (.iload 5, 2) := by decide +kernel
theorem dX12_does_172 : decode cX12_does 172 = .ok (.iload 6, 2) := by decide +kernel
theorem dX12_does_174 : decode cX12_does 174 = .ok (.iload 11, 2) := by decide +kernel
theorem dX12_does_176 : decode cX12_does 176 = .ok (.iload_n 1, 1) := by decide +kernel
theorem dX12_does_177 : decode cX12_does 177 = .ok (.invokevirtual 383, 3) := by decide +kernel
theorem dX12_does_180 : decode cX12_does 180 = .ok (.iinc 12 1, 3) := by decide +kernel
theorem dX12_does_183 : decode cX12_does 183 = .ok (.goto (-37), 3) := by decide +kernel
theorem dX12_does_186 : decode cX12_does 186 = .ok (.goto 99, 3) := by decide +kernel
theorem dX12_does_189 : decode cX12_does 189 = .ok (.iload_n 3, 1) := by decide +kernel
theorem dX12_does_190 : decode cX12_does 190 = .ok (.iconst 2, 1) := by decide +kernel
theorem dX12_does_191 : decode cX12_does 191 = .ok (.if_icmp .ne 29, 3) := by decide +kernel
theorem dX12_does_194 : decode cX12_does 194 = .ok (.aload_n 0, 1) := by decide +kernel
theorem dX12_does_195 : decode cX12_does 195 = .ok (.iload 4, 2) := by decide +kernel
theorem dX12_does_197 : decode cX12_does 197 = .ok (.iload 5, 2) := by decide +kernel
theorem dX12_does_199 : decode cX12_does 199 = .ok (.iload 6, 2) := by decide +kernel
theorem dX12_does_201 : decode cX12_does 201 = .ok (.iload 9, 2) := by decide +kernel
theorem dX12_does_203 : decode cX12_does 203 = .ok (.aload_n 0, 1) := by decide +kernel
theorem dX12_does_204 : decode cX12_does 204 = .ok (.getfield 33, 3) := by decide +kernel
theorem dX12_does_207 : decode cX12_does 207 = .ok (.bipush 6, 2) := by decide +kernel
theorem dX12_does_209 : decode cX12_does 209 = .ok (.iaload, 1) := by decide +kernel
theorem dX12_does_210 : decode cX12_does 210 = .ok (.invokestatic 369, 3) := by decide +kernel
theorem dX12_does_213 : decode cX12_does 213 = .ok (.iload_n 1, 1) := by decide +kernel
theorem dX12_does_214 : decode cX12_does 214 = .ok (.invokevirtual 383, 3) := by decide +kernel
theorem dX12_does_217 : decode cX12_does 217 = .ok (.goto 68, 3) := by decide +kernel
theorem dX12_does_220 : decode cX12_does 220 = .ok (.iload_n 3, 1) := by decide +kernel
theorem dX12_does_221 : decode cX12_does 221 = .ok (.iconst 3, 1) := by decide +kernel
theorem dX12_does_222 : decode cX12_does 222 = .ok (.if_icmp .ne 17, 3) := by decide +kernel
theorem dX12_does_225 : decode cX12_does 225 = .ok (.aload_n 0, 1) := by decide +kernel
theorem dX12_does_226 : decode cX12_does 226 = .ok (.iload 4, 2) := by decide +kernel
theorem dX12_does_228 : decode cX12_does 228 = .ok (.iload 5, 2) := by decide +kernel
theorem dX12_does_230 : decode cX12_does 230 = .ok (.iload 6, 2) := by decide +kernel
theorem dX12_does_232 : decode cX12_does 232 = .ok (.iload_n 1, 1) := by decide +kernel
theorem dX12_does_233 : decode cX12_does 233 = .ok (.invokevirtual 387, 3) := by decide +kernel
theorem dX12_does_236 : decode cX12_does 236 = .ok (.goto 49, 3) := by decide +kernel
theorem dX12_does_239 : decode cX12_does 239 = .ok (.aload_n 0, 1) := by decide +kernel
theorem dX12_does_240 : decode cX12_does 240 = .ok (.getfield 71, 3) := by decide +kernel
theorem dX12_does_243 : decode cX12_does 243 = .ok (.iload 4, 2) := by decide +kernel
theorem dX12_does_245 : decode cX12_does 245 = .ok (.dup2, 1) := by decide +kernel
theorem dX12_does_246 : decode cX12_does 246 = .ok (.iaload, 1) := by decide +kernel
theorem dX12_does_247 : decode cX12_does 247 = .ok (.iload 7, 2) := by decide +kernel
theorem dX12_does_249 : decode cX12_does 249 = .ok (.iadd, 1) := by decide +kernel
theorem dX12_does_250 : decode cX12_does 250 = .ok (.iastore, 1) := by decide +kernel
theorem dX12_does_251 : decode cX12_does 251 = .ok (.aload_n 0, 1) := by decide +kernel
theorem dX12_does_252 : decode cX12_does 252 = .ok (.getfield 71, 3) := by decide +kernel
theorem dX12_does_255 : decode cX12_does 255 = .ok (.iload 5, 2) := by decide +kernel
theorem dX12_does_257 : decode cX12_does 257 = .ok (.dup2, 1) := by decide +kernel
theorem dX12_does_258 : decode cX12_does 258 = .ok (.iaload, 1) := by decide +kernel
theorem dX12_does_259 : decode cX12_does 259 = .ok (.iload 7, 2) := by decide +kernel
theorem dX12_does_261 : decode cX12_does 261 = .ok (.isub, 1) := by decide +kernel
theorem dX12_does_262 : decode cX12_does 262 = .ok (.iastore, 1) := by decide +kernel
theorem dX12_does_263 : decode cX12_does 263 = .ok (.aload_n 0, 1) := by decide +kernel
theorem dX12_does_264 : decode cX12_does 264 = .ok (.dup, 1) := by decide +kernel
theorem dX12_does_265 : decode cX12_does 265 = .ok (.getfield 363, 3) := by decide +kernel
theorem dX12_does_268 : decode cX12_does 268 = .ok (.iconst 1, 1) := by decide +kernel
theorem dX12_does_269 : decode cX12_does 269 = .ok (.iload 6, 2) := by decide +kernel
theorem dX12_does_271 : decode cX12_does 271 = .ok (.ishl, 1) := by decide +kernel
theorem dX12_does_272 : decode cX12_does 272 = .ok (.ior, 1) := by decide +kernel
theorem dX12_does_273 : decode cX12_does 273 = .ok (.putfield 363, 3) := by decide +kernel
theorem dX12_does_276 : decode cX12_does 276 = .ok (.aload_n 0, 1) := by decide +kernel
theorem dX12_does_277 : decode cX12_does 277 = .ok (.iload 5, 2) := by decide +kernel
theorem dX12_does_279 : decode cX12_does 279 = .ok (.iload 6, 2) := by decide +kernel
theorem dX12_does_281 : decode cX12_does 281 = .ok (.iload_n 1, 1) := by decide +kernel
theorem dX12_does_282 : decode cX12_does 282 = .ok (.invokevirtual 375, 3) := by decide +kernel
theorem dX12_does_285 : decode cX12_does 285 = .ok (.iconst 0, 1) := by decide +kernel
theorem dX12_does_286 : decode cX12_does 286 = .ok (.ireturn, 1) := by decide +kernel
theorem dX12_run_0 : decode cX12_run 0 = .ok (.aload_n 0, 1) := by decide +kernel
theorem dX12_run_1 : decode cX12_run 1 = .ok (.invokevirtual 391, 3) := by decide +kernel
theorem dX12_run_4 : decode cX12_run 4 = .ok (.iconst 0, 1) := by decide +kernel
theorem dX12_run_5 : decode cX12_run 5 = .ok (.istore_n 2, 1) := by decide +kernel
theorem dX12_run_6 : decode cX12_run 6 = .ok (.iload_n 2, 1) := by decide +kernel
theorem dX12_run_7 : decode cX12_run 7 = .ok (.aload_n 0, 1) := by decide +kernel
theorem dX12_run_8 : decode cX12_run 8 = .ok (.getfield 33, 3) := by decide +kernel
theorem dX12_run_11 : decode cX12_run 11 = .ok (.sipush 172, 3) := by decide +kernel
theorem dX12_run_14 : decode cX12_run 14 = .ok (.iaload, 1) := by decide +kernel
theorem dX12_run_15 : decode cX12_run 15 = .ok (.if_icmp .ge 51, 3) := by decide +kernel
theorem dX12_run_18 : decode cX12_run 18 = .ok (.iload_n 2, 1) := by decide +kernel
theorem dX12_run_19 : decode cX12_run 19 = .ok (.iload_n 1, 1) := by decide +kernel
theorem dX12_run_20 : decode cX12_run 20 = .ok (.if_icmp .ne 6, 3) := by decide +kernel
theorem dX12_run_23 : decode cX12_run 23 = .ok (.goto 37, 3) := by decide +kernel
theorem dX12_run_26 : decode cX12_run 26 = .ok (.aload_n 0, 1) := by decide +kernel
theorem dX12_run_27 : decode cX12_run 27 = .ok (.getfield 74, 3) := by decide +kernel
theorem dX12_run_30 : decode cX12_run 30 = .ok (.iload_n 2, 1) := by decide +kernel
theorem dX12_run_31 : decode cX12_run 31 = .ok (.aload_n 0, 1) := by decide +kernel
theorem dX12_run_32 : decode cX12_run 32 = .ok (.iload_n 2, 1) := by decide +kernel
theorem dX12_run_33 : decode cX12_run 33 = .ok (.invokevirtual 394, 3) := by decide +kernel
theorem dX12_run_36 : decode cX12_run 36 = .ok (.iastore, 1) := by decide +kernel
theorem dX12_run_37 : decode cX12_run 37 = .ok (.aload_n 0, 1) := by decide +kernel
theorem dX12_run_38 : decode cX12_run 38 = .ok (.dup, 1) := by decide +kernel
theorem dX12_run_39 : decode cX12_run 39 = .ok (.getfield 366, 3) := by decide +kernel
theorem dX12_run_42 : decode cX12_run 42 = .ok (.aload_n 0, 1) := by decide +kernel
theorem dX12_run_43 : decode cX12_run 43 = .ok (.getfield 74, 3) := by decide +kernel
theorem dX12_run_46 : decode cX12_run 46 = .ok (.iload_n 2, 1) := by decide +kernel
theorem dX12_run_47 : decode cX12_run 47 = .ok (.iaload, 1) := by decide +kernel
theorem dX12_run_48 : decode cX12_run 48 = .ok (.ifCond .le 7, 3) := by decide +kernel
theorem dX12_run_51 : decode cX12_run 51 = .ok (.iconst 1, 1) := by decide +kernel
theorem dX12_run_52 : decode cX12_run 52 = .ok (.goto 4, 3) := by decide +kernel
theorem dX12_run_55 : decode cX12_run 55 = .ok (.iconst 0, 1) := by decide +kernel
theorem dX12_run_56 : decode cX12_run 56 = .ok (.iadd, 1) := by decide +kernel
theorem dX12_run_57 : decode cX12_run 57 = .ok (.putfield 366, 3) := by decide +kernel
theorem dX12_run_60 : decode cX12_run 60 = .ok (.iinc 2 1, 3) := by decide +kernel
theorem dX12_run_63 : decode cX12_run 63 = .ok (.goto (-57), 3) := by decide +kernel
theorem dX12_run_66 : decode cX12_run 66 = .ok (.return_, 1) := by decide +kernel
theorem dX12_owedAll_0 : decode cX12_owedAll 0 = .ok (.iconst 0, 1) := by decide +kernel
theorem dX12_owedAll_1 : decode cX12_owedAll 1 = .ok (.istore_n 1, 1) := by decide +kernel
theorem dX12_owedAll_2 : decode cX12_owedAll 2 = .ok (.iconst 0, 1) := by decide +kernel
theorem dX12_owedAll_3 : decode cX12_owedAll 3 = .ok (.istore_n 2, 1) := by decide +kernel
theorem dX12_owedAll_4 : decode cX12_owedAll 4 = .ok (.iload_n 2, 1) := by decide +kernel
theorem dX12_owedAll_5 : decode cX12_owedAll 5 = .ok (.aload_n 0, 1) := by decide +kernel
theorem dX12_owedAll_6 : decode cX12_owedAll 6 = .ok (.getfield 357, 3) := by decide +kernel
theorem dX12_owedAll_9 : decode cX12_owedAll 9 = .ok (.if_icmp .ge 18, 3) := by decide +kernel
theorem dX12_owedAll_12 : decode cX12_owedAll 12 = .ok (.iload_n 1, 1) := by decide +kernel
theorem dX12_owedAll_13 : decode cX12_owedAll 13 = .ok (.aload_n 0, 1) := by decide +kernel
theorem dX12_owedAll_14 : decode cX12_owedAll 14 = .ok (.getfield 89, 3) := by decide +kernel
theorem dX12_owedAll_17 : decode cX12_owedAll 17 = .ok (.iload_n 2, 1) := by decide +kernel
theorem dX12_owedAll_18 : decode cX12_owedAll 18 = .ok (.iaload, 1) := by decide +kernel
theorem dX12_owedAll_19 : decode cX12_owedAll 19 = .ok (.iadd, 1) := by decide +kernel
theorem dX12_owedAll_20 : decode cX12_owedAll 20 = .ok (.istore_n 1, 1) := by decide +kernel
theorem dX12_owedAll_21 : decode cX12_owedAll 21 = .ok (.iinc 2 1, 3) := by decide +kernel
theorem dX12_owedAll_24 : decode cX12_owedAll 24 = .ok (.goto (-20), 3) := by decide +kernel
theorem dX12_owedAll_27 : decode cX12_owedAll 27 = .ok (.iload_n 1, 1) := by decide +kernel
theorem dX12_owedAll_28 : decode cX12_owedAll 28 = .ok (.ireturn, 1) := by decide +kernel
theorem dX12_isLate_0 : decode cX12_isLate 0 = .ok (.aload_n 0, 1) := by decide +kernel
theorem dX12_isLate_1 : decode cX12_isLate 1 = .ok (.getfield 89, 3) := by decide +kernel
theorem dX12_isLate_4 : decode cX12_isLate 4 = .ok (.iload_n 1, 1) := by decide +kernel
theorem dX12_isLate_5 : decode cX12_isLate 5 = .ok (.iaload, 1) := by decide +kernel
theorem dX12_isLate_6 : decode cX12_isLate 6 = .ok (.ifCond .ne 12, 3) := by decide +kernel
theorem dX12_isLate_9 : decode cX12_isLate 9 = .ok (.aload_n 0, 1) := by decide +kernel
theorem dX12_isLate_10 : decode cX12_isLate 10 = .ok (.getfield 104, 3) := by decide +kernel
theorem dX12_isLate_13 : decode cX12_isLate 13 = .ok (.iload_n 1, 1) := by decide +kernel
theorem dX12_isLate_14 : decode cX12_isLate 14 = .ok (.iaload, 1) := by decide +kernel
theorem dX12_isLate_15 : decode cX12_isLate 15 = .ok (.goto 7, 3) := by decide +kernel
theorem dX12_isLate_18 : decode cX12_isLate 18 = .ok (.aload_n 0, 1) := by decide +kernel
theorem dX12_isLate_19 : decode cX12_isLate 19 = .ok (.getfield 360, 3) := by decide +kernel
theorem dX12_isLate_22 : decode cX12_isLate 22 = .ok (.aload_n 0, 1) := by decide +kernel
theorem dX12_isLate_23 : decode cX12_isLate 23 = .ok (.getfield 101, 3) := by decide +kernel
theorem dX12_isLate_26 : decode cX12_isLate 26 = .ok (.iload_n 1, 1) := by decide +kernel
theorem dX12_isLate_27 : decode cX12_isLate 27 = .ok (.iaload, 1) := by decide +kernel
theorem dX12_isLate_28 : decode cX12_isLate 28 = .ok (.isub, 1) := by decide +kernel
theorem dX12_isLate_29 : decode cX12_isLate 29 = .ok (.aload_n 0, 1) := by decide +kernel
theorem dX12_isLate_30 : decode cX12_isLate 30 = .ok (.getfield 33, 3) := by decide +kernel
theorem dX12_isLate_33 : decode cX12_isLate 33 = .ok (.iconst 3, 1) := by decide +kernel
theorem dX12_isLate_34 : decode cX12_isLate 34 = .ok (.iaload, 1) := by decide +kernel
theorem dX12_isLate_35 : decode cX12_isLate 35 = .ok (.if_icmp .le 7, 3) := by decide +kernel
theorem dX12_isLate_38 : decode cX12_isLate 38 = .ok (.iconst 1, 1) := by decide +kernel
theorem dX12_isLate_39 : decode cX12_isLate 39 = .ok (.goto 4, 3) := by decide +kernel
theorem dX12_isLate_42 : decode cX12_isLate 42 = .ok (.iconst 0, 1) := by decide +kernel
theorem dX12_isLate_43 : decode cX12_isLate 43 = .ok (.ireturn, 1) := by decide +kernel
theorem dX12_knows_0 : decode cX12_knows 0 = .ok (.aload_n 0, 1) := by decide +kernel
theorem dX12_knows_1 : decode cX12_knows 1 = .ok (.iconst 0, 1) := by decide +kernel
theorem dX12_knows_2 : decode cX12_knows 2 = .ok (.putfield 1, 3) := by decide +kernel
theorem dX12_knows_5 : decode cX12_knows 5 = .ok (.aload_n 0, 1) := by decide +kernel
theorem dX12_knows_6 : decode cX12_knows 6 = .ok (.iload_n 1, 1) := by decide +kernel
theorem dX12_knows_7 : decode cX12_knows 7 = .ok (.invokevirtual 397, 3) := by decide +kernel
theorem dX12_knows_10 : decode cX12_knows 10 = .ok (.ifCond .eq 12, 3) := by decide +kernel
theorem dX12_knows_13 : decode cX12_knows 13 = .ok (.iload_n 2, 1) := by decide +kernel
theorem dX12_knows_14 : decode cX12_knows 14 = .ok (.iconst 0, 1) := by decide +kernel
theorem dX12_knows_15 : decode cX12_knows 15 = .ok (.iconst 1, 1) := by decide +kernel
theorem dX12_knows_16 : decode cX12_knows 16 = .ok (.invokestatic 254, 3) := by decide +kernel
theorem dX12_knows_19 : decode cX12_knows 19 = .ok (.ifCond .ne 5, 3) := by decide +kernel
theorem dX12_knows_22 : decode cX12_knows 22 = .ok (.iconst (-1), 1) := by decide +kernel
theorem dX12_knows_23 : decode cX12_knows 23 = .ok (.ireturn, 1) := by decide +kernel
theorem dX12_knows_24 : decode cX12_knows 24 = .ok (.aload_n 0, 1) := by decide +kernel
theorem dX12_knows_25 : decode cX12_knows 25 = .ok (.iconst (-1), 1) := by decide +kernel
theorem dX12_knows_26 : decode cX12_knows 26 = .ok (.invokevirtual 400, 3) := by decide +kernel
theorem dX12_knows_29 : decode cX12_knows 29 = .ok (.iload_n 2, 1) := by decide +kernel
theorem dX12_knows_30 : decode cX12_knows 30 = .ok (.ifCond .ne 19, 3) := by decide +kernel
theorem dX12_knows_33 : decode cX12_knows 33 = .ok (.aload_n 0, 1) := by decide +kernel
theorem dX12_knows_34 : decode cX12_knows 34 = .ok (.aload_n 0, 1) := by decide +kernel
theorem dX12_knows_35 : decode cX12_knows 35 = .ok (.getfield 33, 3) := by decide +kernel
theorem dX12_knows_38 : decode cX12_knows 38 = .ok (.bipush 44, 2) := by decide +kernel
theorem dX12_knows_40 : decode cX12_knows 40 = .ok (.iload_n 1, 1) := by decide +kernel
theorem dX12_knows_41 : decode cX12_knows 41 = .ok (.iadd, 1) := by decide +kernel
theorem dX12_knows_42 : decode cX12_knows 42 = .ok (.iaload, 1) := by decide +kernel
theorem dX12_knows_43 : decode cX12_knows 43 = .ok (.invokevirtual 354, 3) := by decide +kernel
theorem dX12_knows_46 : decode cX12_knows 46 = .ok (.goto 9, 3) := by decide +kernel
theorem dX12_knows_49 : decode cX12_knows 49 = .ok (.aload_n 0, 1) := by decide +kernel
theorem dX12_knows_50 : decode cX12_knows 50 = .ok (.getfield 62, 3) := by decide +kernel
theorem dX12_knows_53 : decode cX12_knows 53 = .ok (.iload_n 1, 1) := by decide +kernel
theorem dX12_knows_54 : decode cX12_knows 54 = .ok (.iaload, 1) := by decide +kernel
theorem dX12_knows_55 : decode cX12_knows 55 = .ok (.ireturn, 1) := by decide +kernel
theorem dX12_wrong_0 : decode cX12_wrong 0 = .ok (.aload_n 0, 1) := by decide +kernel
theorem dX12_wrong_1 : decode cX12_wrong 1 = .ok (.iconst 0, 1) := by decide +kernel
theorem dX12_wrong_2 : decode cX12_wrong 2 = .ok (.putfield 1, 3) := by decide +kernel
theorem dX12_wrong_5 : decode cX12_wrong 5 = .ok (.iload_n 1, 1) := by decide +kernel
theorem dX12_wrong_6 : decode cX12_wrong 6 = .ok (.iconst 0, 1) := by decide +kernel
theorem dX12_wrong_7 : decode cX12_wrong 7 = .ok (.aload_n 0, 1) := by decide +kernel
theorem dX12_wrong_8 : decode cX12_wrong 8 = .ok (.getfield 33, 3) := by decide +kernel
theorem dX12_wrong_11 : decode cX12_wrong 11 = .ok (.sipush 172, 3) := by decide +kernel
theorem dX12_wrong_14 : decode cX12_wrong 14 = .ok (.iaload, 1) := by decide +kernel
theorem dX12_wrong_15 : decode cX12_wrong 15 = .ok (.iconst 1, 1) := by decide +kernel
