theorem dX11_init_0 : decode cX11_init 0 = .ok (.aload_n 0, 1) := by decide +kernel
theorem dX11_init_1 : decode cX11_init 1 = .ok (.invokespecial 3, 3) := by decide +kernel
theorem dX11_init_4 : decode cX11_init 4 = .ok (.aload_n 0, 1) := by decide +kernel
theorem dX11_init_5 : decode cX11_init 5 = .ok (.new 9, 3) := by decide +kernel
theorem dX11_init_8 : decode cX11_init 8 = .ok (.dup, 1) := by decide +kernel
theorem dX11_init_9 : decode cX11_init 9 = .ok (.invokespecial 11, 3) := by decide +kernel
theorem dX11_init_12 : decode cX11_init 12 = .ok (.putfield 12, 3) := by decide +kernel
theorem dX11_init_15 : decode cX11_init 15 = .ok (.aload_n 0, 1) := by decide +kernel
theorem dX11_init_16 : decode cX11_init 16 = .ok (.new 16, 3) := by decide +kernel
theorem dX11_init_19 : decode cX11_init 19 = .ok (.dup, 1) := by decide +kernel
theorem dX11_init_20 : decode cX11_init 20 = .ok (.aload_n 0, 1) := by decide +kernel
theorem dX11_init_21 : decode cX11_init 21 = .ok (.getfield 12, 3) := by decide +kernel
theorem dX11_init_24 : decode cX11_init 24 = .ok (.invokespecial 18, 3) := by decide +kernel
theorem dX11_init_27 : decode cX11_init 27 = .ok (.putfield 21, 3) := by decide +kernel
theorem dX11_init_30 : decode cX11_init 30 = .ok (.aload_n 0, 1) := by decide +kernel
theorem dX11_init_31 : decode cX11_init 31 = .ok (.new 25, 3) := by decide +kernel
theorem dX11_init_34 : decode cX11_init 34 = .ok (.dup, 1) := by decide +kernel
theorem dX11_init_35 : decode cX11_init 35 = .ok (.invokespecial 27, 3) := by decide +kernel
theorem dX11_init_38 : decode cX11_init 38 = .ok (.putfield 28, 3) := by decide +kernel
theorem dX11_init_41 : decode cX11_init 41 = .ok (.aload_n 0, 1) := by decide +kernel
theorem dX11_init_42 : decode cX11_init 42 = .ok (.new 25, 3) := by decide +kernel
theorem dX11_init_45 : decode cX11_init 45 = .ok (.dup, 1) := by decide +kernel
theorem dX11_init_46 : decode cX11_init 46 = .ok (.invokespecial 27, 3) := by decide +kernel
theorem dX11_init_49 : decode cX11_init 49 = .ok (.putfield 32, 3) := by decide +kernel
theorem dX11_init_52 : decode cX11_init 52 = .ok (.aload_n 0, 1) := by decide +kernel
theorem dX11_init_53 : decode cX11_init 53 = .ok (.new 35, 3) := by decide +kernel
theorem dX11_init_56 : decode cX11_init 56 = .ok (.dup, 1) := by decide +kernel
theorem dX11_init_57 : decode cX11_init 57 = .ok (.invokespecial 37, 3) := by decide +kernel
theorem dX11_init_60 : decode cX11_init 60 = .ok (.putfield 38, 3) := by decide +kernel
theorem dX11_init_63 : decode cX11_init 63 = .ok (.aload_n 0, 1) := by decide +kernel
theorem dX11_init_64 : decode cX11_init 64 = .ok (.new 35, 3) := by decide +kernel
theorem dX11_init_67 : decode cX11_init 67 = .ok (.dup, 1) := by decide +kernel
theorem dX11_init_68 : decode cX11_init 68 = .ok (.invokespecial 37, 3) := by decide +kernel
theorem dX11_init_71 : decode cX11_init 71 = .ok (.putfield 42, 3) := by decide +kernel
theorem dX11_init_74 : decode cX11_init 74 = .ok (.aload_n 0, 1) := by decide +kernel
theorem dX11_init_75 : decode cX11_init 75 = .ok (.new 45, 3) := by decide +kernel
theorem dX11_init_78 : decode cX11_init 78 = .ok (.dup, 1) := by decide +kernel
theorem dX11_init_79 : decode cX11_init 79 = .ok (.invokespecial 47, 3) := by decide +kernel
theorem dX11_init_82 : decode cX11_init 82 = .ok (.putfield 48, 3) := by decide +kernel
theorem dX11_init_85 : decode cX11_init 85 = .ok (.aload_n 0, 1) := by decide +kernel
theorem dX11_init_86 : decode cX11_init 86 = .ok (.new 45, 3) := by decide +kernel
theorem dX11_init_89 : decode cX11_init 89 = .ok (.dup, 1) := by decide +kernel
theorem dX11_init_90 : decode cX11_init 90 = .ok (.invokespecial 47, 3) := by decide +kernel
theorem dX11_init_93 : decode cX11_init 93 = .ok (.putfield 52, 3) := by decide +kernel
theorem dX11_init_96 : decode cX11_init 96 = .ok (.aload_n 0, 1) := by decide +kernel
theorem dX11_init_97 : decode cX11_init 97 = .ok (.new 55, 3) := by decide +kernel
theorem dX11_init_100 : decode cX11_init 100 = .ok (.dup, 1) := by decide +kernel
theorem dX11_init_101 : decode cX11_init 101 = .ok (.aload_n 0, 1) := by decide +kernel
theorem dX11_init_102 : decode cX11_init 102 = .ok (.getfield 28, 3) := by decide +kernel
theorem dX11_init_105 : decode cX11_init 105 = .ok (.aload_n 0, 1) := by decide +kernel
theorem dX11_init_106 : decode cX11_init 106 = .ok (.getfield 38, 3) := by decide +kernel
theorem dX11_init_109 : decode cX11_init 109 = .ok (.invokespecial 57, 3) := by decide +kernel
theorem dX11_init_112 : decode cX11_init 112 = .ok (.putfield 60, 3) := by decide +kernel
theorem dX11_init_115 : decode cX11_init 115 = .ok (.aload_n 0, 1) := by decide +kernel
theorem dX11_init_116 : decode cX11_init 116 = .ok (.new 55, 3) := by decide +kernel
theorem dX11_init_119 : decode cX11_init 119 = .ok (.dup, 1) := by decide +kernel
theorem dX11_init_120 : decode cX11_init 120 = .ok (.aload_n 0, 1) := by decide +kernel
theorem dX11_init_121 : decode cX11_init 121 = .ok (.getfield 28, 3) := by decide +kernel
theorem dX11_init_124 : decode cX11_init 124 = .ok (.aload_n 0, 1) := by decide +kernel
theorem dX11_init_125 : decode cX11_init 125 = .ok (.getfield 38, 3) := by decide +kernel
theorem dX11_init_128 : decode cX11_init 128 = .ok (.invokespecial 57, 3) := by decide +kernel
theorem dX11_init_131 : decode cX11_init 131 = .ok (.putfield 64, 3) := by decide +kernel
theorem dX11_init_134 : decode cX11_init 134 = .ok (.aload_n 0, 1) := by decide +kernel
theorem dX11_init_135 : decode cX11_init 135 = .ok (.new 67, 3) := by decide +kernel
theorem dX11_init_138 : decode cX11_init 138 = .ok (.dup, 1) := by decide +kernel
theorem dX11_init_139 : decode cX11_init 139 = .ok (.invokespecial 69, 3) := by decide +kernel
theorem dX11_init_142 : decode cX11_init 142 = .ok (.putfield 70, 3) := by decide +kernel
theorem dX11_init_145 : decode cX11_init 145 = .ok (.aload_n 0, 1) := by decide +kernel
theorem dX11_init_146 : decode cX11_init 146 = .ok (.new 74, 3) := by decide +kernel
theorem dX11_init_149 : decode cX11_init 149 = .ok (.dup, 1) := by decide +kernel
theorem dX11_init_150 : decode cX11_init 150 = .ok (.invokespecial 76, 3) := by decide +kernel
theorem dX11_init_153 : decode cX11_init 153 = .ok (.putfield 77, 3) := by decide +kernel
theorem dX11_init_156 : decode cX11_init 156 = .ok (.aload_n 0, 1) := by decide +kernel
theorem dX11_init_157 : decode cX11_init 157 = .ok (.new 81, 3) := by decide +kernel
theorem dX11_init_160 : decode cX11_init 160 = .ok (.dup, 1) := by decide +kernel
theorem dX11_init_161 : decode cX11_init 161 = .ok (.invokespecial 83, 3) := by decide +kernel
theorem dX11_init_164 : decode cX11_init 164 = .ok (.putfield 84, 3) := by decide +kernel
theorem dX11_init_167 : decode cX11_init 167 = .ok (.aload_n 0, 1) := by decide +kernel
theorem dX11_init_168 : decode cX11_init 168 = .ok (.new 88, 3) := by decide +kernel
theorem dX11_init_171 : decode cX11_init 171 = .ok (.dup, 1) := by decide +kernel
theorem dX11_init_172 : decode cX11_init 172 = .ok (.invokespecial 90, 3) := by decide +kernel
theorem dX11_init_175 : decode cX11_init 175 = .ok (.putfield 91, 3) := by decide +kernel
theorem dX11_init_178 : decode cX11_init 178 = .ok (.aload_n 0, 1) := by decide +kernel
theorem dX11_init_179 : decode cX11_init 179 = .ok (.iconst 4, 1) := by decide +kernel
theorem dX11_init_180 : decode cX11_init 180 = .ok (.newarray .int, 2) := by decide +kernel
theorem dX11_init_182 : decode cX11_init 182 = .ok (.putfield 95, 3) := by decide +kernel
theorem dX11_init_185 : decode cX11_init 185 = .ok (.aload_n 0, 1) := by decide +kernel
theorem dX11_init_186 : decode cX11_init 186 = .ok (.iconst 2, 1) := by decide +kernel
theorem dX11_init_187 : decode cX11_init 187 = .ok (.anewarray 99, 3) := by decide +kernel
theorem dX11_init_190 : decode cX11_init 190 = .ok (.dup, 1) := by decide +kernel
theorem dX11_init_191 : decode cX11_init 191 = .ok (.iconst 0, 1) := by decide +kernel
theorem dX11_init_192 : decode cX11_init 192 = .ok (.new 99, 3) := by decide +kernel
theorem dX11_init_195 : decode cX11_init 195 = .ok (.dup, 1) := by decide +kernel
theorem dX11_init_196 : decode cX11_init 196 = .ok (.invokespecial 101, 3) := by decide +kernel
theorem dX11_init_199 : decode cX11_init 199 = .ok (.aastore, 1) := by decide +kernel
theorem dX11_init_200 : decode cX11_init 200 = .ok (.dup, 1) := by decide +kernel
theorem dX11_init_201 : decode cX11_init 201 = .ok (.iconst 1, 1) := by decide +kernel
theorem dX11_init_202 : decode cX11_init 202 = .ok (.new 99, 3) := by decide +kernel
theorem dX11_init_205 : decode cX11_init 205 = .ok (.dup, 1) := by decide +kernel
theorem dX11_init_206 : decode cX11_init 206 = .ok (.invokespecial 101, 3) := by decide +kernel
theorem dX11_init_209 : decode cX11_init 209 = .ok (.aastore, 1) := by decide +kernel
theorem dX11_init_210 : decode cX11_init 210 = .ok (.putfield 102, 3) := by decide +kernel
theorem dX11_init_213 : decode cX11_init 213 = .ok (.aload_n 0, 1) := by decide +kernel
theorem dX11_init_214 : decode cX11_init 214 = .ok (.iconst 0, 1) := by decide +kernel
theorem dX11_init_215 : decode cX11_init 215 = .ok (.putfield 106, 3) := by decide +kernel
theorem dX11_init_218 : decode cX11_init 218 = .ok (.return_, 1) := by decide +kernel
theorem dX11_feed_0 : decode cX11_feed 0 = .ok (.aload_n 0, 1) := by decide +kernel
theorem dX11_feed_1 : decode cX11_feed 1 = .ok (.getfield 12, 3) := by decide +kernel
theorem dX11_feed_4 : decode cX11_feed 4 = .ok (.getfield 110, 3) := by decide +kernel
theorem dX11_feed_7 : decode cX11_feed 7 = .ok (.bipush 20, 2) := by decide +kernel
theorem dX11_feed_9 : decode cX11_feed 9 = .ok (.iadd, 1) := by decide +kernel
theorem dX11_feed_10 : decode cX11_feed 10 = .ok (.sipush 940, 3) := by decide +kernel
theorem dX11_feed_13 : decode cX11_feed 13 = .ok (.if_icmp .le 5, 3) := by decide +kernel
theorem dX11_feed_16 : decode cX11_feed 16 = .ok (.iconst (-1), 1) := by decide +kernel
theorem dX11_feed_17 : decode cX11_feed 17 = .ok (.ireturn, 1) := by decide +kernel
theorem dX11_feed_18 : decode cX11_feed 18 = .ok (.aload_n 0, 1) := by decide +kernel
theorem dX11_feed_19 : decode cX11_feed 19 = .ok (.getfield 12, 3) := by decide +kernel
theorem dX11_feed_22 : decode cX11_feed 22 = .ok (.iload_n 1, 1) := by decide +kernel
theorem dX11_feed_23 : decode cX11_feed 23 = .ok (.invokevirtual 113, 3) := by decide +kernel
theorem dX11_feed_26 : decode cX11_feed 26 = .ok (.aload_n 0, 1) := by decide +kernel
theorem dX11_feed_27 : decode cX11_feed 27 = .ok (.getfield 12, 3) := by decide +kernel
theorem dX11_feed_30 : decode cX11_feed 30 = .ok (.iload_n 2, 1) := by decide +kernel
theorem dX11_feed_31 : decode cX11_feed 31 = .ok (.invokevirtual 113, 3) := by decide +kernel
theorem dX11_feed_34 : decode cX11_feed 34 = .ok (.aload_n 0, 1) := by decide +kernel
theorem dX11_feed_35 : decode cX11_feed 35 = .ok (.getfield 12, 3) := by decide +kernel
theorem dX11_feed_38 : decode cX11_feed 38 = .ok (.iload_n 3, 1) := by decide +kernel
theorem dX11_feed_39 : decode cX11_feed 39 = .ok (.invokevirtual 113, 3) := by decide +kernel
theorem dX11_feed_42 : decode cX11_feed 42 = .ok (.aload_n 0, 1) := by decide +kernel
theorem dX11_feed_43 : decode cX11_feed 43 = .ok (.getfield 12, 3) := by decide +kernel
theorem dX11_feed_46 : decode cX11_feed 46 = .ok (.iload 4, 2) := by decide +kernel
theorem dX11_feed_48 : decode cX11_feed 48 = .ok (.invokevirtual 113, 3) := by decide +kernel
theorem dX11_feed_51 : decode cX11_feed 51 = .ok (.aload_n 0, 1) := by decide +kernel
theorem dX11_feed_52 : decode cX11_feed 52 = .ok (.getfield 12, 3) := by decide +kernel
theorem dX11_feed_55 : decode cX11_feed 55 = .ok (.iload 5, 2) := by decide +kernel
theorem dX11_feed_57 : decode cX11_feed 57 = .ok (.invokevirtual 113, 3) := by decide +kernel
theorem dX11_feed_60 : decode cX11_feed 60 = .ok (.aload_n 0, 1) := by decide +kernel
theorem dX11_feed_61 : decode cX11_feed 61 = .ok (.getfield 12, 3) := by decide +kernel
theorem dX11_feed_64 : decode cX11_feed 64 = .ok (.getfield 110, 3) := by decide +kernel
theorem dX11_feed_67 : decode cX11_feed 67 = .ok (.ireturn, 1) := by decide +kernel
theorem dX11_end_0 : decode cX11_end 0 = .ok (.iload_n 1, 1) := by decide +kernel
theorem dX11_end_1 : decode cX11_end 1 = .ok (.ifCond .lt 14, 3) := by decide +kernel
theorem dX11_end_4 : decode cX11_end 4 = .ok (.iload_n 1, 1) := by decide +kernel
theorem dX11_end_5 : decode cX11_end 5 = .ok (.aload_n 0, 1) := by decide +kernel
theorem dX11_end_6 : decode cX11_end 6 = .ok (.getfield 12, 3) := by decide +kernel
theorem dX11_end_9 : decode cX11_end 9 = .ok (.getfield 110, 3) := by decide +kernel
theorem dX11_end_12 : decode cX11_end 12 = .ok (.if_icmp .le 5, 3) := by decide +kernel
theorem dX11_end_15 : decode cX11_end 15 = .ok (.iconst 0, 1) := by decide +kernel
theorem dX11_end_16 : decode cX11_end 16 = .ok (.ireturn, 1) := by decide +kernel
theorem dX11_end_17 : decode cX11_end 17 = .ok (.aload_n 0, 1) := by decide +kernel
theorem dX11_end_18 : decode cX11_end 18 = .ok (.getfield 12, 3) := by decide +kernel
theorem dX11_end_21 : decode cX11_end 21 = .ok (.iload_n 1, 1) := by decide +kernel
theorem dX11_end_22 : decode cX11_end 22 = .ok (.putfield 110, 3) := by decide +kernel
theorem dX11_end_25 : decode cX11_end 25 = .ok (.iconst 1, 1) := by decide +kernel
theorem dX11_end_26 : decode cX11_end 26 = .ok (.ireturn, 1) := by decide +kernel
theorem dX11_valley_0 : decode cX11_valley 0 = .ok (.aload_n 0, 1) := by decide +kernel
theorem dX11_valley_1 : decode cX11_valley 1 = .ok (.getfield 21, 3) := by decide +kernel
theorem dX11_valley_4 : decode cX11_valley 4 = .ok (.sipush 900, 3) := by decide +kernel
theorem dX11_valley_7 : decode cX11_valley 7 = .ok (.invokevirtual 117, 3) := by decide +kernel
theorem dX11_valley_10 : decode cX11_valley 10 = .ok (.aload_n 0, 1) := by decide +kernel
theorem dX11_valley_11 : decode cX11_valley 11 = .ok (.getfield 32, 3) := by decide +kernel
theorem dX11_valley_14 : decode cX11_valley 14 = .ok (.aload_n 0, 1) := by decide +kernel
theorem dX11_valley_15 : decode cX11_valley 15 = .ok (.getfield 21, 3) := by decide +kernel
theorem dX11_valley_18 : decode cX11_valley 18 = .ok (.invokevirtual 120, 3) := by decide +kernel
theorem dX11_valley_21 : decode cX11_valley 21 = .ok (.istore_n 1, 1) := by decide +kernel
theorem dX11_valley_22 : decode cX11_valley 22 = .ok (.aload_n 0, 1) := by decide +kernel
theorem dX11_valley_23 : decode cX11_valley 23 = .ok (.invokevirtual 124, 3) := by decide +kernel
theorem dX11_valley_26 : decode cX11_valley 26 = .ok (.iload_n 1, 1) := by decide +kernel
theorem dX11_valley_27 : decode cX11_valley 27 = .ok (.ifCond .ge 8, 3) := by decide +kernel
theorem dX11_valley_30 : decode cX11_valley 30 = .ok (.aload_n 0, 1) := by decide +kernel
theorem dX11_valley_31 : decode cX11_valley 31 = .ok (.invokevirtual 127, 3) := by decide +kernel
theorem dX11_valley_34 : decode cX11_valley 34 = .ok (.ireturn, 1) := by decide +kernel
theorem dX11_valley_35 : decode cX11_valley 35 = .ok (.aload_n 0, 1) := by decide +kernel
theorem dX11_valley_36 : decode cX11_valley 36 = .ok (.getfield 28, 3) := by decide +kernel
theorem dX11_valley_39 : decode cX11_valley 39 = .ok (.aload_n 0, 1) := by decide +kernel
theorem dX11_valley_40 : decode cX11_valley 40 = .ok (.getfield 32, 3) := by decide +kernel
theorem dX11_valley_43 : decode cX11_valley 43 = .ok (.invokevirtual 131, 3) := by decide +kernel
theorem dX11_valley_46 : decode cX11_valley 46 = .ok (.aload_n 0, 1) := by decide +kernel
theorem dX11_valley_47 : decode cX11_valley 47 = .ok (.getfield 38, 3) := by decide +kernel
theorem dX11_valley_50 : decode cX11_valley 50 = .ok (.invokevirtual 135, 3) := by decide +kernel
theorem dX11_valley_53 : decode cX11_valley 53 = .ok (.aload_n 0, 1) := by decide +kernel
theorem dX11_valley_54 : decode cX11_valley 54 = .ok (.getfield 48, 3) := by decide +kernel
theorem dX11_valley_57 : decode cX11_valley 57 = .ok (.invokevirtual 138, 3) := by decide +kernel
theorem dX11_valley_60 : decode cX11_valley 60 = .ok (.aload_n 0, 1) := by decide +kernel
theorem dX11_valley_61 : decode cX11_valley 61 = .ok (.invokevirtual 139, 3) := by decide +kernel
theorem dX11_valley_64 : decode cX11_valley 64 = .ok (.iload_n 1, 1) := by decide +kernel
theorem dX11_valley_65 : decode cX11_valley 65 = .ok (.ireturn, 1) := by decide +kernel
theorem dX11_fault_0 : decode cX11_fault 0 = .ok (.aload_n 0, 1) := by decide +kernel
theorem dX11_fault_1 : decode cX11_fault 1 = .ok (.getfield 106, 3) := by decide +kernel
theorem dX11_fault_4 : decode cX11_fault 4 = .ok (.ireturn, 1) := by decide +kernel
theorem dX11_fact_0 : decode cX11_fact 0 = .ok (.aload_n 0, 1) := by decide +kernel
theorem dX11_fact_1 : decode cX11_fact 1 = .ok (.getfield 28, 3) := by decide +kernel
theorem dX11_fact_4 : decode cX11_fact 4 = .ok (.iload_n 1, 1) := by decide +kernel
theorem dX11_fact_5 : decode cX11_fact 5 = .ok (.invokevirtual 142, 3) := by decide +kernel
theorem dX11_fact_8 : decode cX11_fact 8 = .ok (.ifCond .ne 11, 3) := by decide +kernel
theorem dX11_fact_11 : decode cX11_fact 11 = .ok (.new 146, 3) := by decide +kernel
theorem dX11_fact_14 : decode cX11_fact 14 = .ok (.dup, 1) := by decide +kernel
theorem dX11_fact_15 : decode cX11_fact 15 = .ok (.invokespecial 148, 3) := by decide +kernel
theorem dX11_fact_18 : decode cX11_fact 18 = .ok (.athrow, 1) := by decide +kernel
theorem dX11_fact_19 : decode cX11_fact 19 = .ok (.iload_n 2, 1) := by decide +kernel
theorem dX11_fact_20 : decode cX11_fact 20 = .ok (.tableswitch 58 0 2 #[28, 38, 48], 28) := by decide +kernel
theorem dX11_fact_48 : decode cX11_fact 48 = .ok (.aload_n 0, 1) := by decide +kernel
theorem dX11_fact_49 : decode cX11_fact 49 = .ok (.getfield 28, 3) := by decide +kernel
theorem dX11_fact_52 : decode cX11_fact 52 = .ok (.getfield 149, 3) := by decide +kernel
theorem dX11_fact_55 : decode cX11_fact 55 = .ok (.iload_n 1, 1) := by decide +kernel
theorem dX11_fact_56 : decode cX11_fact 56 = .ok (.iaload, 1) := by decide +kernel
theorem dX11_fact_57 : decode cX11_fact 57 = .ok (.ireturn, 1) := by decide +kernel
theorem dX11_fact_58 : decode cX11_fact 58 = .ok (.aload_n 0, 1) := by decide +kernel
theorem dX11_fact_59 : decode cX11_fact 59 = .ok (.getfield 28, 3) := by decide +kernel
theorem dX11_fact_62 : decode cX11_fact 62 = .ok (.getfield 152, 3) := by decide +kernel
theorem dX11_fact_65 : decode cX11_fact 65 = .ok (.iload_n 1, 1) := by decide +kernel
theorem dX11_fact_66 : decode cX11_fact 66 = .ok (.iaload, 1) := by decide +kernel
theorem dX11_fact_67 : decode cX11_fact 67 = .ok (.ireturn, 1) := by decide +kernel
theorem dX11_fact_68 : decode cX11_fact 68 = .ok (.aload_n 0, 1) := by decide +kernel
theorem dX11_fact_69 : decode cX11_fact 69 = .ok (.getfield 28, 3) := by decide +kernel
theorem dX11_fact_72 : decode cX11_fact 72 = .ok (.getfield 155, 3) := by decide +kernel
theorem dX11_fact_75 : decode cX11_fact 75 = .ok (.iload_n 1, 1) := by decide +kernel
theorem dX11_fact_76 : decode cX11_fact 76 = .ok (.iaload, 1) := by decide +kernel
theorem dX11_fact_77 : decode cX11_fact 77 = .ok (.ireturn, 1) := by decide +kernel
theorem dX11_fact_78 : decode cX11_fact 78 = .ok (.new 146, 3) := by decide +kernel
theorem dX11_fact_81 : decode cX11_fact 81 = .ok (.dup, 1) := by decide +kernel
theorem dX11_fact_82 : decode cX11_fact 82 = .ok (.invokespecial 148, 3) := by decide +kernel
theorem dX11_fact_85 : decode cX11_fact 85 = .ok (.athrow, 1) := by decide +kernel
theorem dX11_knows_0 : decode cX11_knows 0 = .ok (.aload_n 0, 1) := by decide +kernel
theorem dX11_knows_1 : decode cX11_knows 1 = .ok (.getfield 28, 3) := by decide +kernel
theorem dX11_knows_4 : decode cX11_knows 4 = .ok (.iload_n 1, 1) := by decide +kernel
theorem dX11_knows_5 : decode cX11_knows 5 = .ok (.invokevirtual 158, 3) := by decide +kernel
theorem dX11_knows_8 : decode cX11_knows 8 = .ok (.ifCond .ne 5, 3) := by decide +kernel
theorem dX11_knows_11 : decode cX11_knows 11 = .ok (.iconst (-1), 1) := by decide +kernel
theorem dX11_knows_12 : decode cX11_knows 12 = .ok (.ireturn, 1) := by decide +kernel
theorem dX11_knows_13 : decode cX11_knows 13 = .ok (.iload_n 2, 1) := by decide +kernel
theorem dX11_knows_14 : decode cX11_knows 14 = .ok (.lookupswitch 53 #[(0, 26), (1, 43)], 26) := by decide +kernel
theorem dX11_knows_40 : decode cX11_knows 40 = .ok (.aload_n 0, 1) := by decide +kernel
theorem dX11_knows_41 : decode cX11_knows 41 = .ok (.getfield 28, 3) := by decide +kernel
theorem dX11_knows_44 : decode cX11_knows 44 = .ok (.aload_n 0, 1) := by decide +kernel
theorem dX11_knows_45 : decode cX11_knows 45 = .ok (.getfield 28, 3) := by decide +kernel
theorem dX11_knows_48 : decode cX11_knows 48 = .ok (.getfield 161, 3) := by decide +kernel
theorem dX11_knows_51 : decode cX11_knows 51 = .ok (.iload_n 1, 1) := by decide +kernel
theorem dX11_knows_52 : decode cX11_knows 52 = .ok (.iaload, 1) := by decide +kernel
theorem dX11_knows_53 : decode cX11_knows 53 = .ok (.invokevirtual 164, 3) := by decide +kernel
theorem dX11_knows_56 : decode cX11_knows 56 = .ok (.ireturn, 1) := by decide +kernel
theorem dX11_knows_57 : decode cX11_knows 57 = .ok (.aload_n 0, 1) := by decide +kernel
theorem dX11_knows_58 : decode cX11_knows 58 = .ok (.getfield 60, 3) := by decide +kernel
theorem dX11_knows_61 : decode cX11_knows 61 = .ok (.getfield 168, 3) := by decide +kernel
theorem dX11_knows_64 : decode cX11_knows 64 = .ok (.iload_n 1, 1) := by decide +kernel
theorem dX11_knows_65 : decode cX11_knows 65 = .ok (.iaload, 1) := by decide +kernel
theorem dX11_knows_66 : decode cX11_knows 66 = .ok (.ireturn, 1) := by decide +kernel
theorem dX11_knows_67 : decode cX11_knows 67 = .ok (.iconst (-1), 1) := by decide +kernel
theorem dX11_knows_68 : decode cX11_knows 68 = .ok (.ireturn, 1) := by decide +kernel
theorem dX11_book_0 : decode cX11_book 0 = .ok (.aload_n 0, 1) := by decide +kernel
theorem dX11_book_1 : decode cX11_book 1 = .ok (.getfield 21, 3) := by decide +kernel
theorem dX11_book_4 : decode cX11_book 4 = .ok (.sipush 900, 3) := by decide +kernel
theorem dX11_book_7 : decode cX11_book 7 = .ok (.invokevirtual 117, 3) := by decide +kernel
theorem dX11_book_10 : decode cX11_book 10 = .ok (.aload_n 0, 1) := by decide +kernel
theorem dX11_book_11 : decode cX11_book 11 = .ok (.getfield 42, 3) := by decide +kernel
theorem dX11_book_14 : decode cX11_book 14 = .ok (.aload_n 0, 1) := by decide +kernel
theorem dX11_book_15 : decode cX11_book 15 = .ok (.getfield 21, 3) := by decide +kernel
theorem dX11_book_18 : decode cX11_book 18 = .ok (.aload_n 0, 1) := by decide +kernel
theorem dX11_book_19 : decode cX11_book 19 = .ok (.getfield 28, 3) := by decide +kernel
theorem dX11_book_22 : decode cX11_book 22 = .ok (.invokevirtual 171, 3) := by decide +kernel
theorem dX11_book_25 : decode cX11_book 25 = .ok (.istore_n 1, 1) := by decide +kernel
theorem dX11_book_26 : decode cX11_book 26 = .ok (.aload_n 0, 1) := by decide +kernel
theorem dX11_book_27 : decode cX11_book 27 = .ok (.invokevirtual 124, 3) := by decide +kernel
theorem dX11_book_30 : decode cX11_book 30 = .ok (.iload_n 1, 1) := by decide +kernel
theorem dX11_book_31 : decode cX11_book 31 = .ok (.ifCond .ne 8, 3) := by decide +kernel
theorem dX11_book_34 : decode cX11_book 34 = .ok (.aload_n 0, 1) := by decide +kernel
theorem dX11_book_35 : decode cX11_book 35 = .ok (.invokevirtual 127, 3) := by decide +kernel
theorem dX11_book_38 : decode cX11_book 38 = .ok (.ireturn, 1) := by decide +kernel
theorem dX11_book_39 : decode cX11_book 39 = .ok (.aload_n 0, 1) := by decide +kernel
theorem dX11_book_40 : decode cX11_book 40 = .ok (.getfield 38, 3) := by decide +kernel
theorem dX11_book_43 : decode cX11_book 43 = .ok (.aload_n 0, 1) := by decide +kernel
theorem dX11_book_44 : decode cX11_book 44 = .ok (.getfield 42, 3) := by decide +kernel
theorem dX11_book_47 : decode cX11_book 47 = .ok (.invokevirtual 174, 3) := by decide +kernel
theorem dX11_book_50 : decode cX11_book 50 = .ok (.aload_n 0, 1) := by decide +kernel
theorem dX11_book_51 : decode cX11_book 51 = .ok (.invokevirtual 139, 3) := by decide +kernel
theorem dX11_book_54 : decode cX11_book 54 = .ok (.aload_n 0, 1) := by decide +kernel
theorem dX11_book_55 : decode cX11_book 55 = .ok (.getfield 38, 3) := by decide +kernel
theorem dX11_book_58 : decode cX11_book 58 = .ok (.getfield 177, 3) := by decide +kernel
theorem dX11_book_61 : decode cX11_book 61 = .ok (.ireturn, 1) := by decide +kernel
theorem dX11_drawn_0 : decode cX11_drawn 0 = .ok (.iload_n 1, 1) := by decide +kernel
theorem dX11_drawn_1 : decode cX11_drawn 1 = .ok (.iconst 1, 1) := by decide +kernel
theorem dX11_drawn_2 : decode cX11_drawn 2 = .ok (.if_icmp .lt 31, 3) := by decide +kernel
theorem dX11_drawn_5 : decode cX11_drawn 5 = .ok (.iload_n 1, 1) := by decide +kernel
theorem dX11_drawn_6 : decode cX11_drawn 6 = .ok (.bipush 60, 2) := by decide +kernel
theorem dX11_drawn_8 : decode cX11_drawn 8 = .ok (.if_icmp .gt 25, 3) := by decide +kernel
theorem dX11_drawn_11 : decode cX11_drawn 11 = .ok (.aload_n 0, 1) := by decide +kernel
theorem dX11_drawn_12 : decode cX11_drawn 12 = .ok (.getfield 28, 3) := by decide +kernel
theorem dX11_drawn_15 : decode cX11_drawn 15 = .ok (.getfield 180, 3) := by decide +kernel
theorem dX11_drawn_18 : decode cX11_drawn 18 = .ok (.iconst 2, 1) := by decide +kernel
theorem dX11_drawn_19 : decode cX11_drawn 19 = .ok (.if_icmp .lt 14, 3) := by decide +kernel
theorem dX11_drawn_22 : decode cX11_drawn 22 = .ok (.aload_n 0, 1) := by decide +kernel
theorem dX11_drawn_23 : decode cX11_drawn 23 = .ok (.getfield 28, 3) := by decide +kernel
theorem dX11_drawn_26 : decode cX11_drawn 26 = .ok (.getfield 183, 3) := by decide +kernel
theorem dX11_drawn_29 : decode cX11_drawn 29 = .ok (.iconst 1, 1) := by decide +kernel
theorem dX11_drawn_30 : decode cX11_drawn 30 = .ok (.if_icmp .ge 5, 3) := by decide +kernel
theorem dX11_drawn_33 : decode cX11_drawn 33 = .ok (.iconst (-1), 1) := by decide +kernel
theorem dX11_drawn_34 : decode cX11_drawn 34 = .ok (.ireturn, 1) := by decide +kernel
theorem dX11_drawn_35 : decode cX11_drawn 35 = .ok (.aload_n 0, 1) := by decide +kernel
theorem dX11_drawn_36 : decode cX11_drawn 36 = .ok (.getfield 91, 3) := by decide +kernel
theorem dX11_drawn_39 : decode cX11_drawn 39 = .ok (.iload_n 2, 1) := by decide +kernel
theorem dX11_drawn_40 : decode cX11_drawn 40 = .ok (.putfield 186, 3) := by decide +kernel
theorem dX11_drawn_43 : decode cX11_drawn 43 = .ok (.aload_n 0, 1) := by decide +kernel
theorem dX11_drawn_44 : decode cX11_drawn 44 = .ok (.getfield 38, 3) := by decide +kernel
theorem dX11_drawn_47 : decode cX11_drawn 47 = .ok (.iload_n 1, 1) := by decide +kernel
theorem dX11_drawn_48 : decode cX11_drawn 48 = .ok (.aload_n 0, 1) := by decide +kernel
theorem dX11_drawn_49 : decode cX11_drawn 49 = .ok (.getfield 91, 3) := by decide +kernel
theorem dX11_drawn_52 : decode cX11_drawn 52 = .ok (.aload_n 0, 1) := by decide +kernel
theorem dX11_drawn_53 : decode cX11_drawn 53 = .ok (.getfield 28, 3) := by decide +kernel
theorem dX11_drawn_56 : decode cX11_drawn 56 = .ok (.invokevirtual 189, 3) := by decide +kernel
theorem dX11_drawn_59 : decode cX11_drawn 59 = .ok (.aload_n 0, 1) := by decide +kernel
theorem dX11_drawn_60 : decode cX11_drawn 60 = .ok (.invokevirtual 139, 3) := by decide +kernel
theorem dX11_drawn_63 : decode cX11_drawn 63 = .ok (.aload_n 0, 1) := by decide +kernel
theorem dX11_drawn_64 : decode cX11_drawn 64 = .ok (.getfield 38, 3) := by decide +kernel
theorem dX11_drawn_67 : decode cX11_drawn 67 = .ok (.getfield 177, 3) := by decide +kernel
theorem dX11_drawn_70 : decode cX11_drawn 70 = .ok (.ireturn, 1) := by decide +kernel
theorem dX11_line_0 : decode cX11_line 0 = .ok (.aload_n 0, 1) := by decide +kernel
theorem dX11_line_1 : decode cX11_line 1 = .ok (.getfield 38, 3) := by decide +kernel
theorem dX11_line_4 : decode cX11_line 4 = .ok (.iload_n 1, 1) := by decide +kernel
theorem dX11_line_5 : decode cX11_line 5 = .ok (.invokevirtual 193, 3) := by decide +kernel
theorem dX11_line_8 : decode cX11_line 8 = .ok (.ifCond .ne 11, 3) := by decide +kernel
theorem dX11_line_11 : decode cX11_line 11 = .ok (.new 146, 3) := by decide +kernel
theorem dX11_line_14 : decode cX11_line 14 = .ok (.dup, 1) := by decide +kernel
theorem dX11_line_15 : decode cX11_line 15 = .ok (.invokespecial 148, 3) := by decide +kernel
theorem dX11_line_18 : decode cX11_line 18 = .ok (.athrow, 1) := by decide +kernel
theorem dX11_line_19 : decode cX11_line 19 = .ok (.iload_n 2, 1) := by decide +kernel
theorem dX11_line_20 : decode cX11_line 20 = .ok (.tableswitch 86 0 4 #[36, 46, 56, 66, 76], 36) := by decide +kernel
theorem dX11_line_56 : decode cX11_line 56 = .ok (.aload_n 0, 1) := by decide +kernel
theorem dX11_line_57 : decode cX11_line 57 = .ok (.getfield 38, 3) := by decide +kernel
theorem dX11_line_60 : decode cX11_line 60 = .ok (.getfield 196, 3) := by decide +kernel
theorem dX11_line_63 : decode cX11_line 63 = .ok (.iload_n 1, 1) := by decide +kernel
theorem dX11_line_64 : decode cX11_line 64 = .ok (.iaload, 1) := by decide +kernel
theorem dX11_line_65 : decode cX11_line 65 = .ok (.ireturn, 1) := by decide +kernel
theorem dX11_line_66 : decode cX11_line 66 = .ok (.aload_n 0, 1) := by decide +kernel
theorem dX11_line_67 : decode cX11_line 67 = .ok (.getfield 38, 3) := by decide +kernel
theorem dX11_line_70 : decode cX11_line 70 = .ok (.getfield 199, 3) := by decide +kernel
theorem dX11_line_73 : decode cX11_line 73 = .ok (.iload_n 1, 1) := by decide +kernel
theorem dX11_line_74 : decode cX11_line 74 = .ok (.iaload, 1) := by decide +kernel
theorem dX11_line_75 : decode cX11_line 75 = .ok (.ireturn, 1) := by decide +kernel
theorem dX11_line_76 : decode cX11_line 76 = .ok (.aload_n 0, 1) := by decide +kernel
theorem dX11_line_77 : decode cX11_line 77 = .ok (.getfield 38, 3) := by decide +kernel
theorem dX11_line_80 : decode cX11_line 80 = .ok (.getfield 202, 3) := by decide +kernel
theorem dX11_line_83 : decode cX11_line 83 = .ok (.iload_n 1, 1) := by decide +kernel
theorem dX11_line_84 : decode cX11_line 84 = .ok (.iaload, 1) := by decide +kernel
theorem dX11_line_85 : decode cX11_line 85 = .ok (.ireturn, 1) := by decide +kernel
theorem dX11_line_86 : decode cX11_line 86 = .ok (.aload_n 0, 1) := by decide +kernel
theorem dX11_line_87 : decode cX11_line 87 = .ok (.getfield 38, 3) := by decide +kernel
theorem dX11_line_90 : decode cX11_line 90 = .ok (.getfield 205, 3) := by decide +kernel
theorem dX11_line_93 : decode cX11_line 93 = .ok (.iload_n 1, 1) := by decide +kernel
theorem dX11_line_94 : decode cX11_line 94 = .ok (.iaload, 1) := by decide +kernel
theorem dX11_line_95 : decode cX11_line 95 = .ok (.ireturn, 1) := by decide +kernel
theorem dX11_line_96 : decode cX11_line 96 = .ok (.aload_n 0, 1) := by decide +kernel
theorem dX11_line_97 : decode cX11_line 97 = .ok (.getfield 38, 3) := by decide +kernel
theorem dX11_line_100 : decode cX11_line 100 = .ok (.getfield 206, 3) := by decide +kernel
theorem dX11_line_103 : decode cX11_line 103 = .ok (.iload_n 1, 1) := by decide +kernel
theorem dX11_line_104 : decode cX11_line 104 = .ok (.iaload, 1) := by decide +kernel
theorem dX11_line_105 : decode cX11_line 105 = .ok (.ireturn, 1) := by decide +kernel
theorem dX11_line_106 : decode cX11_line 106 = .ok (.new 146, 3) := by decide +kernel
theorem dX11_line_109 : decode cX11_line 109 = .ok (.dup, 1) := by decide +kernel
theorem dX11_line_110 : decode cX11_line 110 = .ok (.invokespecial 148, 3) := by decide +kernel
theorem dX11_line_113 : decode cX11_line 113 = .ok (.athrow, 1) := by decide +kernel
theorem dX11_wrong_0 : decode cX11_wrong 0 = .ok (.aload_n 0, 1) := by decide +kernel
theorem dX11_wrong_1 : decode cX11_wrong 1 = .ok (.getfield 38, 3) := by decide +kernel
theorem dX11_wrong_4 : decode cX11_wrong 4 = .ok (.iload_n 1, 1) := by decide +kernel
theorem dX11_wrong_5 : decode cX11_wrong 5 = .ok (.invokevirtual 193, 3) := by decide +kernel
theorem dX11_wrong_8 : decode cX11_wrong 8 = .ok (.ifCond .eq 15, 3) := by decide +kernel
theorem dX11_wrong_11 : decode cX11_wrong 11 = .ok (.aload_n 0, 1) := by decide +kernel
theorem dX11_wrong_12 : decode cX11_wrong 12 = .ok (.getfield 60, 3) := by decide +kernel
theorem dX11_wrong_15 : decode cX11_wrong 15 = .ok (.getfield 209, 3) := by decide +kernel
theorem dX11_wrong_18 : decode cX11_wrong 18 = .ok (.iload_n 1, 1) := by decide +kernel
theorem dX11_wrong_19 : decode cX11_wrong 19 = .ok (.iaload, 1) := by decide +kernel
theorem dX11_wrong_20 : decode cX11_wrong 20 = .ok (.goto 4, 3) := by decide +kernel
theorem dX11_wrong_23 : decode cX11_wrong 23 = .ok (.iconst (-1), 1) := by decide +kernel
theorem dX11_wrong_24 : decode cX11_wrong 24 = .ok (.ireturn, 1) := by decide +kernel
theorem dX11_debts_0 : decode cX11_debts 0 = .ok (.aload_n 0, 1) := by decide +kernel
theorem dX11_debts_1 : decode cX11_debts 1 = .ok (.getfield 60, 3) := by decide +kernel
theorem dX11_debts_4 : decode cX11_debts 4 = .ok (.getfield 212, 3) := by decide +kernel
theorem dX11_debts_7 : decode cX11_debts 7 = .ok (.ireturn, 1) := by decide +kernel
theorem dX11_debt_0 : decode cX11_debt 0 = .ok (.aload_n 0, 1) := by decide +kernel
theorem dX11_debt_1 : decode cX11_debt 1 = .ok (.getfield 60, 3) := by decide +kernel
theorem dX11_debt_4 : decode cX11_debt 4 = .ok (.iload_n 1, 1) := by decide +kernel
theorem dX11_debt_5 : decode cX11_debt 5 = .ok (.invokevirtual 215, 3) := by decide +kernel
theorem dX11_debt_8 : decode cX11_debt 8 = .ok (.ifCond .ne 11, 3) := by decide +kernel
theorem dX11_debt_11 : decode cX11_debt 11 = .ok (.new 146, 3) := by decide +kernel
theorem dX11_debt_14 : decode cX11_debt 14 = .ok (.dup, 1) := by decide +kernel
theorem dX11_debt_15 : decode cX11_debt 15 = .ok (.invokespecial 148, 3) := by decide +kernel
theorem dX11_debt_18 : decode cX11_debt 18 = .ok (.athrow, 1) := by decide +kernel
theorem dX11_debt_19 : decode cX11_debt 19 = .ok (.iload_n 2, 1) := by decide +kernel
theorem dX11_debt_20 : decode cX11_debt 20 = .ok (.tableswitch 149 0 8 #[52, 62, 72, 82, 92, 102, 112, 122, 132], 52) := by decide +kernel
theorem dX11_debt_72 : decode cX11_debt 72 = .ok (.aload_n 0, 1) := by decide +kernel
theorem dX11_debt_73 : decode cX11_debt 73 = .ok (.getfield 60, 3) := by decide +kernel
theorem dX11_debt_76 : decode cX11_debt 76 = .ok (.getfield 218, 3) := by decide +kernel
theorem dX11_debt_79 : decode cX11_debt 79 = .ok (.iload_n 1, 1) := by decide +kernel
theorem dX11_debt_80 : decode cX11_debt 80 = .ok (.iaload, 1) := by decide +kernel
theorem dX11_debt_81 : decode cX11_debt 81 = .ok (.ireturn, 1) := by decide +kernel
theorem dX11_debt_82 : decode cX11_debt 82 = .ok (.aload_n 0, 1) := by decide +kernel
theorem dX11_debt_83 : decode cX11_debt 83 = .ok (.getfield 60, 3) := by decide +kernel
theorem dX11_debt_86 : decode cX11_debt 86 = .ok (.getfield 221, 3) := by decide +kernel
theorem dX11_debt_89 : decode cX11_debt 89 = .ok (.iload_n 1, 1) := by decide +kernel
theorem dX11_debt_90 : decode cX11_debt 90 = .ok (.iaload, 1) := by decide +kernel
theorem dX11_debt_91 : decode cX11_debt 91 = .ok (.ireturn, 1) := by decide +kernel
theorem dX11_debt_92 : decode cX11_debt 92 = .ok (.aload_n 0, 1) := by decide +kernel
theorem dX11_debt_93 : decode cX11_debt 93 = .ok (.getfield 60, 3) := by decide +kernel
theorem dX11_debt_96 : decode cX11_debt 96 = .ok (.getfield 222, 3) := by decide +kernel
theorem dX11_debt_99 : decode cX11_debt 99 = .ok (.iload_n 1, 1) := by decide +kernel
theorem dX11_debt_100 : decode cX11_debt 100 = .ok (.iaload, 1) := by decide +kernel
theorem dX11_debt_101 : decode cX11_debt 101 = .ok (.ireturn, 1) := by decide +kernel
theorem dX11_debt_102 : decode cX11_debt 102 = .ok (.aload_n 0, 1) := by decide +kernel
theorem dX11_debt_103 : decode cX11_debt 103 = .ok (.getfield 60, 3) := by decide +kernel
theorem dX11_debt_106 : decode cX11_debt 106 = .ok (.getfield 223, 3) := by decide +kernel
theorem dX11_debt_109 : decode cX11_debt 109 = .ok (.iload_n 1, 1) := by decide +kernel
theorem dX11_debt_110 : decode cX11_debt 110 = .ok (.iaload, 1) := by decide +kernel
theorem dX11_debt_111 : decode cX11_debt 111 = .ok (.ireturn, 1) := by decide +kernel
theorem dX11_debt_112 : decode cX11_debt 112 = .ok (.aload_n 0, 1) := by decide +kernel
theorem dX11_debt_113 : decode cX11_debt 113 = .ok (.getfield 60, 3) := by decide +kernel
theorem dX11_debt_116 : decode cX11_debt 116 = .ok (.getfield 226, 3) := by decide +kernel
theorem dX11_debt_119 : decode cX11_debt 119 = .ok (.iload_n 1, 1) := by decide +kernel
theorem dX11_debt_120 : decode cX11_debt 120 = .ok (.iaload, 1) := by decide +kernel
theorem dX11_debt_121 : decode cX11_debt 121 = .ok (.ireturn, 1) := by decide +kernel
theorem dX11_debt_122 : decode cX11_debt 122 = .ok (.aload_n 0, 1) := by decide +kernel
theorem dX11_debt_123 : decode cX11_debt 123 = .ok (.getfield 60, 3) := by decide +kernel
theorem dX11_debt_126 : decode cX11_debt 126 = .ok (.getfield 228, 3) := by decide +kernel
theorem dX11_debt_129 : decode cX11_debt 129 = .ok (.iload_n 1, 1) := by decide +kernel
theorem dX11_debt_130 : decode cX11_debt 130 = .ok (.iaload, 1) := by decide +kernel
theorem dX11_debt_131 : decode cX11_debt 131 = .ok (.ireturn, 1) := by decide +kernel
theorem dX11_debt_132 : decode cX11_debt 132 = .ok (.aload_n 0, 1) := by decide +kernel
theorem dX11_debt_133 : decode cX11_debt 133 = .ok (.getfield 60, 3) := by decide +kernel
theorem dX11_debt_136 : decode cX11_debt 136 = .ok (.getfield 231, 3) := by decide +kernel
theorem dX11_debt_139 : decode cX11_debt 139 = .ok (.iload_n 1, 1) := by decide +kernel
theorem dX11_debt_140 : decode cX11_debt 140 = .ok (.iaload, 1) := by decide +kernel
theorem dX11_debt_141 : decode cX11_debt 141 = .ok (.ireturn, 1) := by decide +kernel
theorem dX11_debt_142 : decode cX11_debt 142 = .ok (.aload_n 0, 1) := by decide +kernel
theorem dX11_debt_143 : decode cX11_debt 143 = .ok (.getfield 60, 3) := by decide +kernel
theorem dX11_debt_146 : decode cX11_debt 146 = .ok (.getfield 234, 3) := by decide +kernel
theorem dX11_debt_149 : decode cX11_debt 149 = .ok (.iload_n 1, 1) := by decide +kernel
theorem dX11_debt_150 : decode cX11_debt 150 = .ok (.iaload, 1) := by decide +kernel
theorem dX11_debt_151 : decode cX11_debt 151 = .ok (.ireturn, 1) := by decide +kernel
theorem dX11_debt_152 : decode cX11_debt 152 = .ok (.aload_n 0, 1) := by decide +kernel
theorem dX11_debt_153 : decode cX11_debt 153 = .ok (.getfield 60, 3) := by decide +kernel
theorem dX11_debt_156 : decode cX11_debt 156 = .ok (.iload_n 1, 1) := by decide +kernel
theorem dX11_debt_157 : decode cX11_debt 157 = .ok (.invokevirtual 237, 3) := by decide +kernel
theorem dX11_debt_160 : decode cX11_debt 160 = .ok (.ifCond .eq 7, 3) := by decide +kernel
theorem dX11_debt_163 : decode cX11_debt 163 = .ok (.iconst 1, 1) := by decide +kernel
theorem dX11_debt_164 : decode cX11_debt 164 = .ok (.goto 4, 3) := by decide +kernel
theorem dX11_debt_167 : decode cX11_debt 167 = .ok (.iconst 0, 1) := by decide +kernel
theorem dX11_debt_168 : decode cX11_debt 168 = .ok (.ireturn, 1) := by decide +kernel
theorem dX11_debt_169 : decode cX11_debt 169 = .ok (.new 146, 3) := by decide +kernel
theorem dX11_debt_172 : decode cX11_debt 172 = .ok (.dup, 1) := by decide +kernel
theorem dX11_debt_173 : decode cX11_debt 173 = .ok (.invokespecial 148, 3) := by decide +kernel
theorem dX11_debt_176 : decode cX11_debt 176 = .ok (.athrow, 1) := by decide +kernel
theorem dX11_worth_0 : decode cX11_worth 0 = .ok (.aload_n 0, 1) := by decide +kernel
theorem dX11_worth_1 : decode cX11_worth 1 = .ok (.getfield 28, 3) := by decide +kernel
theorem dX11_worth_4 : decode cX11_worth 4 = .ok (.iload_n 1, 1) := by decide +kernel
theorem dX11_worth_5 : decode cX11_worth 5 = .ok (.invokevirtual 158, 3) := by decide +kernel
theorem dX11_worth_8 : decode cX11_worth 8 = .ok (.ifCond .eq 26, 3) := by decide +kernel
theorem dX11_worth_11 : decode cX11_worth 11 = .ok (.aload_n 0, 1) := by decide +kernel
theorem dX11_worth_12 : decode cX11_worth 12 = .ok (.getfield 28, 3) := by decide +kernel
theorem dX11_worth_15 : decode cX11_worth 15 = .ok (.iload_n 2, 1) := by decide +kernel
theorem dX11_worth_16 : decode cX11_worth 16 = .ok (.invokevirtual 142, 3) := by decide +kernel
theorem dX11_worth_19 : decode cX11_worth 19 = .ok (.ifCond .eq 15, 3) := by decide +kernel
theorem dX11_worth_22 : decode cX11_worth 22 = .ok (.aload_n 0, 1) := by decide +kernel
theorem dX11_worth_23 : decode cX11_worth 23 = .ok (.getfield 60, 3) := by decide +kernel
theorem dX11_worth_26 : decode cX11_worth 26 = .ok (.iload_n 1, 1) := by decide +kernel
theorem dX11_worth_27 : decode cX11_worth 27 = .ok (.iload_n 2, 1) := by decide +kernel
theorem dX11_worth_28 : decode cX11_worth 28 = .ok (.invokevirtual 240, 3) := by decide +kernel
theorem dX11_worth_31 : decode cX11_worth 31 = .ok (.ifCond .ne 5, 3) := by decide +kernel
theorem dX11_worth_34 : decode cX11_worth 34 = .ok (.iconst (-1), 1) := by decide +kernel
theorem dX11_worth_35 : decode cX11_worth 35 = .ok (.ireturn, 1) := by decide +kernel
theorem dX11_worth_36 : decode cX11_worth 36 = .ok (.aload_n 0, 1) := by decide +kernel
theorem dX11_worth_37 : decode cX11_worth 37 = .ok (.getfield 60, 3) := by decide +kernel
theorem dX11_worth_40 : decode cX11_worth 40 = .ok (.iload_n 1, 1) := by decide +kernel
theorem dX11_worth_41 : decode cX11_worth 41 = .ok (.iload_n 2, 1) := by decide +kernel
theorem dX11_worth_42 : decode cX11_worth 42 = .ok (.invokevirtual 244, 3) := by decide +kernel
theorem dX11_worth_45 : decode cX11_worth 45 = .ok (.ireturn, 1) := by decide +kernel
theorem dX11_came_0 : decode cX11_came 0 = .ok (.aload_n 0, 1) := by decide +kernel
theorem dX11_came_1 : decode cX11_came 1 = .ok (.getfield 28, 3) := by decide +kernel
theorem dX11_came_4 : decode cX11_came 4 = .ok (.iload_n 1, 1) := by decide +kernel
theorem dX11_came_5 : decode cX11_came 5 = .ok (.invokevirtual 158, 3) := by decide +kernel
theorem dX11_came_8 : decode cX11_came 8 = .ok (.ifCond .eq 12, 3) := by decide +kernel
theorem dX11_came_11 : decode cX11_came 11 = .ok (.iload_n 2, 1) := by decide +kernel
theorem dX11_came_12 : decode cX11_came 12 = .ok (.ifCond .lt 8, 3) := by decide +kernel
theorem dX11_came_15 : decode cX11_came 15 = .ok (.iload_n 2, 1) := by decide +kernel
theorem dX11_came_16 : decode cX11_came 16 = .ok (.iconst 4, 1) := by decide +kernel
theorem dX11_came_17 : decode cX11_came 17 = .ok (.if_icmp .le 11, 3) := by decide +kernel
theorem dX11_came_20 : decode cX11_came 20 = .ok (.new 146, 3) := by decide +kernel
theorem dX11_came_23 : decode cX11_came 23 = .ok (.dup, 1) := by decide +kernel
theorem dX11_came_24 : decode cX11_came 24 = .ok (.invokespecial 148, 3) := by decide +kernel
theorem dX11_came_27 : decode cX11_came 27 = .ok (.athrow, 1) := by decide +kernel
theorem dX11_came_28 : decode cX11_came 28 = .ok (.aload_n 0, 1) := by decide +kernel
theorem dX11_came_29 : decode cX11_came 29 = .ok (.getfield 60, 3) := by decide +kernel
theorem dX11_came_32 : decode cX11_came 32 = .ok (.iload_n 1, 1) := by decide +kernel
theorem dX11_came_33 : decode cX11_came 33 = .ok (.iload_n 2, 1) := by decide +kernel
theorem dX11_came_34 : decode cX11_came 34 = .ok (.invokevirtual 248, 3) := by decide +kernel
theorem dX11_came_37 : decode cX11_came 37 = .ok (.ireturn, 1) := by decide +kernel
theorem dX11_autumn_0 : decode cX11_autumn 0 = .ok (.iload_n 1, 1) := by decide +kernel
theorem dX11_autumn_1 : decode cX11_autumn 1 = .ok (.tableswitch 76 0 6 #[43, 43, 43, 43, 52, 60, 68], 43) := by decide +kernel
theorem dX11_autumn_44 : decode cX11_autumn 44 = .ok (.aload_n 0, 1) := by decide +kernel
theorem dX11_autumn_45 : decode cX11_autumn 45 = .ok (.getfield 60, 3) := by decide +kernel
theorem dX11_autumn_48 : decode cX11_autumn 48 = .ok (.iload_n 1, 1) := by decide +kernel
theorem dX11_autumn_49 : decode cX11_autumn 49 = .ok (.invokevirtual 251, 3) := by decide +kernel
theorem dX11_autumn_52 : decode cX11_autumn 52 = .ok (.ireturn, 1) := by decide +kernel
theorem dX11_autumn_53 : decode cX11_autumn 53 = .ok (.aload_n 0, 1) := by decide +kernel
theorem dX11_autumn_54 : decode cX11_autumn 54 = .ok (.getfield 60, 3) := by decide +kernel
theorem dX11_autumn_57 : decode cX11_autumn 57 = .ok (.invokevirtual 254, 3) := by decide +kernel
theorem dX11_autumn_60 : decode cX11_autumn 60 = .ok (.ireturn, 1) := by decide +kernel
theorem dX11_autumn_61 : decode cX11_autumn 61 = .ok (.aload_n 0, 1) := by decide +kernel
theorem dX11_autumn_62 : decode cX11_autumn 62 = .ok (.getfield 60, 3) := by decide +kernel
theorem dX11_autumn_65 : decode cX11_autumn 65 = .ok (.invokevirtual 257, 3) := by decide +kernel
theorem dX11_autumn_68 : decode cX11_autumn 68 = .ok (.ireturn, 1) := by decide +kernel
theorem dX11_autumn_69 : decode cX11_autumn 69 = .ok (.aload_n 0, 1) := by decide +kernel
theorem dX11_autumn_70 : decode cX11_autumn 70 = .ok (.getfield 38, 3) := by decide +kernel
theorem dX11_autumn_73 : decode cX11_autumn 73 = .ok (.getfield 260, 3) := by decide +kernel
theorem dX11_autumn_76 : decode cX11_autumn 76 = .ok (.ireturn, 1) := by decide +kernel
theorem dX11_autumn_77 : decode cX11_autumn 77 = .ok (.iconst (-1), 1) := by decide +kernel
theorem dX11_autumn_78 : decode cX11_autumn 78 = .ok (.ireturn, 1) := by decide +kernel
theorem dX11_feast_0 : decode cX11_feast 0 = .ok (.aload_n 0, 1) := by decide +kernel
theorem dX11_feast_1 : decode cX11_feast 1 = .ok (.getfield 70, 3) := by decide +kernel
theorem dX11_feast_4 : decode cX11_feast 4 = .ok (.aload_n 0, 1) := by decide +kernel
theorem dX11_feast_5 : decode cX11_feast 5 = .ok (.getfield 60, 3) := by decide +kernel
theorem dX11_feast_8 : decode cX11_feast 8 = .ok (.invokevirtual 263, 3) := by decide +kernel
theorem dX11_feast_11 : decode cX11_feast 11 = .ok (.iload_n 1, 1) := by decide +kernel
theorem dX11_feast_12 : decode cX11_feast 12 = .ok (.lookupswitch 44 #[(0, 28), (1, 36)], 28) := by decide +kernel
theorem dX11_feast_40 : decode cX11_feast 40 = .ok (.aload_n 0, 1) := by decide +kernel
theorem dX11_feast_41 : decode cX11_feast 41 = .ok (.getfield 70, 3) := by decide +kernel
theorem dX11_feast_44 : decode cX11_feast 44 = .ok (.getfield 267, 3) := by decide +kernel
theorem dX11_feast_47 : decode cX11_feast 47 = .ok (.ireturn, 1) := by decide +kernel
theorem dX11_feast_48 : decode cX11_feast 48 = .ok (.aload_n 0, 1) := by decide +kernel
theorem dX11_feast_49 : decode cX11_feast 49 = .ok (.getfield 70, 3) := by decide +kernel
theorem dX11_feast_52 : decode cX11_feast 52 = .ok (.getfield 270, 3) := by decide +kernel
theorem dX11_feast_55 : decode cX11_feast 55 = .ok (.ireturn, 1) := by decide +kernel
theorem dX11_feast_56 : decode cX11_feast 56 = .ok (.iconst (-1), 1) := by decide +kernel
theorem dX11_feast_57 : decode cX11_feast 57 = .ok (.ireturn, 1) := by decide +kernel
theorem dX11_feastAt_0 : decode cX11_feastAt 0 = .ok (.aload_n 0, 1) := by decide +kernel
theorem dX11_feastAt_1 : decode cX11_feastAt 1 = .ok (.getfield 70, 3) := by decide +kernel
theorem dX11_feastAt_4 : decode cX11_feastAt 4 = .ok (.aload_n 0, 1) := by decide +kernel
theorem dX11_feastAt_5 : decode cX11_feastAt 5 = .ok (.getfield 60, 3) := by decide +kernel
theorem dX11_feastAt_8 : decode cX11_feastAt 8 = .ok (.invokevirtual 263, 3) := by decide +kernel
theorem dX11_feastAt_11 : decode cX11_feastAt 11 = .ok (.iload_n 1, 1) := by decide +kernel
theorem dX11_feastAt_12 : decode cX11_feastAt 12 = .ok (.ifCond .lt 26, 3) := by decide +kernel
theorem dX11_feastAt_15 : decode cX11_feastAt 15 = .ok (.iload_n 1, 1) := by decide +kernel
theorem dX11_feastAt_16 : decode cX11_feastAt 16 = .ok (.aload_n 0, 1) := by decide +kernel
theorem dX11_feastAt_17 : decode cX11_feastAt 17 = .ok (.getfield 70, 3) := by decide +kernel
theorem dX11_feastAt_20 : decode cX11_feastAt 20 = .ok (.getfield 273, 3) := by decide +kernel
theorem dX11_feastAt_23 : decode cX11_feastAt 23 = .ok (.if_icmp .ge 15, 3) := by decide +kernel
theorem dX11_feastAt_26 : decode cX11_feastAt 26 = .ok (.aload_n 0, 1) := by decide +kernel
theorem dX11_feastAt_27 : decode cX11_feastAt 27 = .ok (.getfield 70, 3) := by decide +kernel
theorem dX11_feastAt_30 : decode cX11_feastAt 30 = .ok (.getfield 274, 3) := by decide +kernel
theorem dX11_feastAt_33 : decode cX11_feastAt 33 = .ok (.iload_n 1, 1) := by decide +kernel
theorem dX11_feastAt_34 : decode cX11_feastAt 34 = .ok (.iaload, 1) := by decide +kernel
theorem dX11_feastAt_35 : decode cX11_feastAt 35 = .ok (.goto 4, 3) := by decide +kernel
theorem dX11_feastAt_38 : decode cX11_feastAt 38 = .ok (.iconst (-1), 1) := by decide +kernel
theorem dX11_feastAt_39 : decode cX11_feastAt 39 = .ok (.ireturn, 1) := by decide +kernel
theorem dX11_needs_0 : decode cX11_needs 0 = .ok (.aload_n 0, 1) := by decide +kernel
theorem dX11_needs_1 : decode cX11_needs 1 = .ok (.getfield 28, 3) := by decide +kernel
theorem dX11_needs_4 : decode cX11_needs 4 = .ok (.iload_n 1, 1) := by decide +kernel
theorem dX11_needs_5 : decode cX11_needs 5 = .ok (.invokevirtual 158, 3) := by decide +kernel
theorem dX11_needs_8 : decode cX11_needs 8 = .ok (.ifCond .eq 12, 3) := by decide +kernel
theorem dX11_needs_11 : decode cX11_needs 11 = .ok (.iload_n 2, 1) := by decide +kernel
theorem dX11_needs_12 : decode cX11_needs 12 = .ok (.ifCond .lt 8, 3) := by decide +kernel
theorem dX11_needs_15 : decode cX11_needs 15 = .ok (.iload_n 2, 1) := by decide +kernel
theorem dX11_needs_16 : decode cX11_needs 16 = .ok (.iconst 1, 1) := by decide +kernel
theorem dX11_needs_17 : decode cX11_needs 17 = .ok (.if_icmp .le 5, 3) := by decide +kernel
theorem dX11_needs_20 : decode cX11_needs 20 = .ok (.iconst (-1), 1) := by decide +kernel
theorem dX11_needs_21 : decode cX11_needs 21 = .ok (.ireturn, 1) := by decide +kernel
theorem dX11_needs_22 : decode cX11_needs 22 = .ok (.aload_n 0, 1) := by decide +kernel
theorem dX11_needs_23 : decode cX11_needs 23 = .ok (.getfield 77, 3) := by decide +kernel
theorem dX11_needs_26 : decode cX11_needs 26 = .ok (.aload_n 0, 1) := by decide +kernel
theorem dX11_needs_27 : decode cX11_needs 27 = .ok (.getfield 60, 3) := by decide +kernel
theorem dX11_needs_30 : decode cX11_needs 30 = .ok (.iload_n 1, 1) := by decide +kernel
theorem dX11_needs_31 : decode cX11_needs 31 = .ok (.iconst 0, 1) := by decide +kernel
theorem dX11_needs_32 : decode cX11_needs 32 = .ok (.invokevirtual 277, 3) := by decide +kernel
theorem dX11_needs_35 : decode cX11_needs 35 = .ok (.istore_n 3, 1) := by decide +kernel
theorem dX11_needs_36 : decode cX11_needs 36 = .ok (.iload_n 3, 1) := by decide +kernel
theorem dX11_needs_37 : decode cX11_needs 37 = .ok (.ldc_w 281, 3) := by decide +kernel
theorem dX11_needs_40 : decode cX11_needs 40 = .ok (.if_icmp .ne 5, 3) := by decide +kernel
theorem dX11_needs_43 : decode cX11_needs 43 = .ok (.iconst (-1), 1) := by decide +kernel
theorem dX11_needs_44 : decode cX11_needs 44 = .ok (.ireturn, 1) := by decide +kernel
theorem dX11_needs_45 : decode cX11_needs 45 = .ok (.iload_n 2, 1) := by decide +kernel
theorem dX11_needs_46 : decode cX11_needs 46 = .ok (.ifCond .ne 10, 3) := by decide +kernel
theorem dX11_needs_49 : decode cX11_needs 49 = .ok (.iload_n 3, 1) := by decide +kernel
theorem dX11_needs_50 : decode cX11_needs 50 = .ok (.invokestatic 282, 3) := by decide +kernel
theorem dX11_needs_53 : decode cX11_needs 53 = .ok (.goto 7, 3) := by decide +kernel
theorem dX11_needs_56 : decode cX11_needs 56 = .ok (.iload_n 3, 1) := by decide +kernel
theorem dX11_needs_57 : decode cX11_needs 57 = .ok (.invokestatic 285, 3) := by decide +kernel
theorem dX11_needs_60 : decode cX11_needs 60 = .ok (.ireturn, 1) := by decide +kernel
theorem dX11_buys_0 : decode cX11_buys 0 = .ok (.aload_n 0, 1) := by decide +kernel
theorem dX11_buys_1 : decode cX11_buys 1 = .ok (.getfield 28, 3) := by decide +kernel
theorem dX11_buys_4 : decode cX11_buys 4 = .ok (.iload_n 1, 1) := by decide +kernel
theorem dX11_buys_5 : decode cX11_buys 5 = .ok (.invokevirtual 158, 3) := by decide +kernel
theorem dX11_buys_8 : decode cX11_buys 8 = .ok (.ifCond .eq 12, 3) := by decide +kernel
theorem dX11_buys_11 : decode cX11_buys 11 = .ok (.iload_n 2, 1) := by decide +kernel
theorem dX11_buys_12 : decode cX11_buys 12 = .ok (.ifCond .lt 8, 3) := by decide +kernel
theorem dX11_buys_15 : decode cX11_buys 15 = .ok (.iload_n 2, 1) := by decide +kernel
theorem dX11_buys_16 : decode cX11_buys 16 = .ok (.iconst 1, 1) := by decide +kernel
theorem dX11_buys_17 : decode cX11_buys 17 = .ok (.if_icmp .le 5, 3) := by decide +kernel
theorem dX11_buys_20 : decode cX11_buys 20 = .ok (.iconst (-1), 1) := by decide +kernel
theorem dX11_buys_21 : decode cX11_buys 21 = .ok (.ireturn, 1) := by decide +kernel
theorem dX11_buys_22 : decode cX11_buys 22 = .ok (.aload_n 0, 1) := by decide +kernel
theorem dX11_buys_23 : decode cX11_buys 23 = .ok (.getfield 77, 3) := by decide +kernel
theorem dX11_buys_26 : decode cX11_buys 26 = .ok (.aload_n 0, 1) := by decide +kernel
theorem dX11_buys_27 : decode cX11_buys 27 = .ok (.getfield 60, 3) := by decide +kernel
theorem dX11_buys_30 : decode cX11_buys 30 = .ok (.iload_n 1, 1) := by decide +kernel
theorem dX11_buys_31 : decode cX11_buys 31 = .ok (.iconst 1, 1) := by decide +kernel
theorem dX11_buys_32 : decode cX11_buys 32 = .ok (.invokevirtual 277, 3) := by decide +kernel
theorem dX11_buys_35 : decode cX11_buys 35 = .ok (.istore_n 3, 1) := by decide +kernel
theorem dX11_buys_36 : decode cX11_buys 36 = .ok (.iload_n 3, 1) := by decide +kernel
theorem dX11_buys_37 : decode cX11_buys 37 = .ok (.ldc_w 281, 3) := by decide +kernel
theorem dX11_buys_40 : decode cX11_buys 40 = .ok (.if_icmp .ne 5, 3) := by decide +kernel
theorem dX11_buys_43 : decode cX11_buys 43 = .ok (.iconst (-1), 1) := by decide +kernel
theorem dX11_buys_44 : decode cX11_buys 44 = .ok (.ireturn, 1) := by decide +kernel
theorem dX11_buys_45 : decode cX11_buys 45 = .ok (.iload_n 2, 1) := by decide +kernel
theorem dX11_buys_46 : decode cX11_buys 46 = .ok (.ifCond .ne 10, 3) := by decide +kernel
theorem dX11_buys_49 : decode cX11_buys 49 = .ok (.iload_n 3, 1) := by decide +kernel
theorem dX11_buys_50 : decode cX11_buys 50 = .ok (.invokestatic 288, 3) := by decide +kernel
theorem dX11_buys_53 : decode cX11_buys 53 = .ok (.goto 7, 3) := by decide +kernel
theorem dX11_buys_56 : decode cX11_buys 56 = .ok (.iload_n 3, 1) := by decide +kernel
theorem dX11_buys_57 : decode cX11_buys 57 = .ok (.invokestatic 285, 3) := by decide +kernel
theorem dX11_buys_60 : decode cX11_buys 60 = .ok (.ireturn, 1) := by decide +kernel
theorem dX11_terms_0 : decode cX11_terms 0 = .ok (.aload_n 0, 1) := by decide +kernel
theorem dX11_terms_1 : decode cX11_terms 1 = .ok (.getfield 28, 3) := by decide +kernel
theorem dX11_terms_4 : decode cX11_terms 4 = .ok (.iload_n 1, 1) := by decide +kernel
theorem dX11_terms_5 : decode cX11_terms 5 = .ok (.invokevirtual 158, 3) := by decide +kernel
theorem dX11_terms_8 : decode cX11_terms 8 = .ok (.ifCond .eq 14, 3) := by decide +kernel
theorem dX11_terms_11 : decode cX11_terms 11 = .ok (.aload_n 0, 1) := by decide +kernel
theorem dX11_terms_12 : decode cX11_terms 12 = .ok (.getfield 60, 3) := by decide +kernel
theorem dX11_terms_15 : decode cX11_terms 15 = .ok (.iload_n 1, 1) := by decide +kernel
theorem dX11_terms_16 : decode cX11_terms 16 = .ok (.invokevirtual 291, 3) := by decide +kernel
theorem dX11_terms_19 : decode cX11_terms 19 = .ok (.goto 4, 3) := by decide +kernel
theorem dX11_terms_22 : decode cX11_terms 22 = .ok (.iconst (-1), 1) := by decide +kernel
theorem dX11_terms_23 : decode cX11_terms 23 = .ok (.istore_n 2, 1) := by decide +kernel
theorem dX11_terms_24 : decode cX11_terms 24 = .ok (.iload_n 2, 1) := by decide +kernel
theorem dX11_terms_25 : decode cX11_terms 25 = .ok (.iconst (-1), 1) := by decide +kernel
theorem dX11_terms_26 : decode cX11_terms 26 = .ok (.if_icmp .ne 7, 3) := by decide +kernel
theorem dX11_terms_29 : decode cX11_terms 29 = .ok (.sipush (-10000), 3) := by decide +kernel
theorem dX11_terms_32 : decode cX11_terms 32 = .ok (.ireturn, 1) := by decide +kernel
theorem dX11_terms_33 : decode cX11_terms 33 = .ok (.aload_n 0, 1) := by decide +kernel
theorem dX11_terms_34 : decode cX11_terms 34 = .ok (.getfield 60, 3) := by decide +kernel
theorem dX11_terms_37 : decode cX11_terms 37 = .ok (.iload_n 2, 1) := by decide +kernel
theorem dX11_terms_38 : decode cX11_terms 38 = .ok (.invokevirtual 294, 3) := by decide +kernel
theorem dX11_terms_41 : decode cX11_terms 41 = .ok (.aload_n 0, 1) := by decide +kernel
theorem dX11_terms_42 : decode cX11_terms 42 = .ok (.getfield 28, 3) := by decide +kernel
theorem dX11_terms_45 : decode cX11_terms 45 = .ok (.getfield 297, 3) := by decide +kernel
theorem dX11_terms_48 : decode cX11_terms 48 = .ok (.iconst 0, 1) := by decide +kernel
theorem dX11_terms_49 : decode cX11_terms 49 = .ok (.iaload, 1) := by decide +kernel
theorem dX11_terms_50 : decode cX11_terms 50 = .ok (.iadd, 1) := by decide +kernel
theorem dX11_terms_51 : decode cX11_terms 51 = .ok (.iconst 1, 1) := by decide +kernel
theorem dX11_terms_52 : decode cX11_terms 52 = .ok (.iadd, 1) := by decide +kernel
theorem dX11_terms_53 : decode cX11_terms 53 = .ok (.aload_n 0, 1) := by decide +kernel
theorem dX11_terms_54 : decode cX11_terms 54 = .ok (.getfield 38, 3) := by decide +kernel
theorem dX11_terms_57 : decode cX11_terms 57 = .ok (.getfield 260, 3) := by decide +kernel
theorem dX11_terms_60 : decode cX11_terms 60 = .ok (.isub, 1) := by decide +kernel
theorem dX11_terms_61 : decode cX11_terms 61 = .ok (.ireturn, 1) := by decide +kernel
theorem dX11_source_0 : decode cX11_source 0 = .ok (.aload_n 0, 1) := by decide +kernel
theorem dX11_source_1 : decode cX11_source 1 = .ok (.getfield 28, 3) := by decide +kernel
theorem dX11_source_4 : decode cX11_source 4 = .ok (.iload_n 1, 1) := by decide +kernel
theorem dX11_source_5 : decode cX11_source 5 = .ok (.invokevirtual 158, 3) := by decide +kernel
theorem dX11_source_8 : decode cX11_source 8 = .ok (.ifCond .eq 31, 3) := by decide +kernel
theorem dX11_source_11 : decode cX11_source 11 = .ok (.aload_n 0, 1) := by decide +kernel
theorem dX11_source_12 : decode cX11_source 12 = .ok (.getfield 28, 3) := by decide +kernel
theorem dX11_source_15 : decode cX11_source 15 = .ok (.iload_n 2, 1) := by decide +kernel
theorem dX11_source_16 : decode cX11_source 16 = .ok (.invokevirtual 142, 3) := by decide +kernel
theorem dX11_source_19 : decode cX11_source 19 = .ok (.ifCond .eq 20, 3) := by decide +kernel
theorem dX11_source_22 : decode cX11_source 22 = .ok (.aload_n 0, 1) := by decide +kernel
theorem dX11_source_23 : decode cX11_source 23 = .ok (.getfield 60, 3) := by decide +kernel
theorem dX11_source_26 : decode cX11_source 26 = .ok (.getfield 300, 3) := by decide +kernel
theorem dX11_source_29 : decode cX11_source 29 = .ok (.iload_n 1, 1) := by decide +kernel
theorem dX11_source_30 : decode cX11_source 30 = .ok (.bipush 12, 2) := by decide +kernel
theorem dX11_source_32 : decode cX11_source 32 = .ok (.imul, 1) := by decide +kernel
theorem dX11_source_33 : decode cX11_source 33 = .ok (.iload_n 2, 1) := by decide +kernel
theorem dX11_source_34 : decode cX11_source 34 = .ok (.iadd, 1) := by decide +kernel
theorem dX11_source_35 : decode cX11_source 35 = .ok (.iaload, 1) := by decide +kernel
theorem dX11_source_36 : decode cX11_source 36 = .ok (.goto 4, 3) := by decide +kernel
theorem dX11_source_39 : decode cX11_source 39 = .ok (.iconst (-1), 1) := by decide +kernel
theorem dX11_source_40 : decode cX11_source 40 = .ok (.ireturn, 1) := by decide +kernel
theorem dX11_led_0 : decode cX11_led 0 = .ok (.aload_n 0, 1) := by decide +kernel
theorem dX11_led_1 : decode cX11_led 1 = .ok (.getfield 28, 3) := by decide +kernel
theorem dX11_led_4 : decode cX11_led 4 = .ok (.iload_n 1, 1) := by decide +kernel
theorem dX11_led_5 : decode cX11_led 5 = .ok (.invokevirtual 142, 3) := by decide +kernel
theorem dX11_led_8 : decode cX11_led 8 = .ok (.ifCond .eq 15, 3) := by decide +kernel
theorem dX11_led_11 : decode cX11_led 11 = .ok (.aload_n 0, 1) := by decide +kernel
theorem dX11_led_12 : decode cX11_led 12 = .ok (.getfield 60, 3) := by decide +kernel
theorem dX11_led_15 : decode cX11_led 15 = .ok (.iload_n 1, 1) := by decide +kernel
theorem dX11_led_16 : decode cX11_led 16 = .ok (.iload_n 2, 1) := by decide +kernel
theorem dX11_led_17 : decode cX11_led 17 = .ok (.invokevirtual 303, 3) := by decide +kernel
theorem dX11_led_20 : decode cX11_led 20 = .ok (.goto 4, 3) := by decide +kernel
theorem dX11_led_23 : decode cX11_led 23 = .ok (.iconst (-1), 1) := by decide +kernel
theorem dX11_led_24 : decode cX11_led 24 = .ok (.ireturn, 1) := by decide +kernel
theorem dX11_order_0 : decode cX11_order 0 = .ok (.aload_n 0, 1) := by decide +kernel
theorem dX11_order_1 : decode cX11_order 1 = .ok (.getfield 84, 3) := by decide +kernel
theorem dX11_order_4 : decode cX11_order 4 = .ok (.aload_n 0, 1) := by decide +kernel
theorem dX11_order_5 : decode cX11_order 5 = .ok (.getfield 12, 3) := by decide +kernel
theorem dX11_order_8 : decode cX11_order 8 = .ok (.aload_n 0, 1) := by decide +kernel
theorem dX11_order_9 : decode cX11_order 9 = .ok (.getfield 28, 3) := by decide +kernel
theorem dX11_order_12 : decode cX11_order 12 = .ok (.invokevirtual 306, 3) := by decide +kernel
theorem dX11_order_15 : decode cX11_order 15 = .ok (.istore_n 1, 1) := by decide +kernel
theorem dX11_order_16 : decode cX11_order 16 = .ok (.aload_n 0, 1) := by decide +kernel
theorem dX11_order_17 : decode cX11_order 17 = .ok (.getfield 12, 3) := by decide +kernel
theorem dX11_order_20 : decode cX11_order 20 = .ok (.iconst 0, 1) := by decide +kernel
theorem dX11_order_21 : decode cX11_order 21 = .ok (.putfield 110, 3) := by decide +kernel
theorem dX11_order_24 : decode cX11_order 24 = .ok (.iload_n 1, 1) := by decide +kernel
theorem dX11_order_25 : decode cX11_order 25 = .ok (.ifCond .eq 21, 3) := by decide +kernel
theorem dX11_order_28 : decode cX11_order 28 = .ok (.aload_n 0, 1) := by decide +kernel
theorem dX11_order_29 : decode cX11_order 29 = .ok (.getfield 84, 3) := by decide +kernel
theorem dX11_order_32 : decode cX11_order 32 = .ok (.aload_n 0, 1) := by decide +kernel
theorem dX11_order_33 : decode cX11_order 33 = .ok (.getfield 60, 3) := by decide +kernel
theorem dX11_order_36 : decode cX11_order 36 = .ok (.aload_n 0, 1) := by decide +kernel
theorem dX11_order_37 : decode cX11_order 37 = .ok (.getfield 64, 3) := by decide +kernel
theorem dX11_order_40 : decode cX11_order 40 = .ok (.invokevirtual 309, 3) := by decide +kernel
theorem dX11_order_43 : decode cX11_order 43 = .ok (.goto 4, 3) := by decide +kernel
theorem dX11_order_46 : decode cX11_order 46 = .ok (.iconst (-1), 1) := by decide +kernel
theorem dX11_order_47 : decode cX11_order 47 = .ok (.ireturn, 1) := by decide +kernel
theorem dX11_orderAt_0 : decode cX11_orderAt 0 = .ok (.iload_n 1, 1) := by decide +kernel
theorem dX11_orderAt_1 : decode cX11_orderAt 1 = .ok (.ifCond .lt 26, 3) := by decide +kernel
theorem dX11_orderAt_4 : decode cX11_orderAt 4 = .ok (.iload_n 1, 1) := by decide +kernel
theorem dX11_orderAt_5 : decode cX11_orderAt 5 = .ok (.aload_n 0, 1) := by decide +kernel
theorem dX11_orderAt_6 : decode cX11_orderAt 6 = .ok (.getfield 84, 3) := by decide +kernel
theorem dX11_orderAt_9 : decode cX11_orderAt 9 = .ok (.getfield 312, 3) := by decide +kernel
theorem dX11_orderAt_12 : decode cX11_orderAt 12 = .ok (.if_icmp .ge 15, 3) := by decide +kernel
theorem dX11_orderAt_15 : decode cX11_orderAt 15 = .ok (.aload_n 0, 1) := by decide +kernel
theorem dX11_orderAt_16 : decode cX11_orderAt 16 = .ok (.getfield 84, 3) := by decide +kernel
theorem dX11_orderAt_19 : decode cX11_orderAt 19 = .ok (.getfield 315, 3) := by decide +kernel
theorem dX11_orderAt_22 : decode cX11_orderAt 22 = .ok (.iload_n 1, 1) := by decide +kernel
theorem dX11_orderAt_23 : decode cX11_orderAt 23 = .ok (.iaload, 1) := by decide +kernel
theorem dX11_orderAt_24 : decode cX11_orderAt 24 = .ok (.goto 4, 3) := by decide +kernel
theorem dX11_orderAt_27 : decode cX11_orderAt 27 = .ok (.iconst (-1), 1) := by decide +kernel
theorem dX11_orderAt_28 : decode cX11_orderAt 28 = .ok (.ireturn, 1) := by decide +kernel
theorem dX11_ripple_0 : decode cX11_ripple 0 = .ok (.aload_n 0, 1) := by decide +kernel
theorem dX11_ripple_1 : decode cX11_ripple 1 = .ok (.getfield 28, 3) := by decide +kernel
theorem dX11_ripple_4 : decode cX11_ripple 4 = .ok (.iload_n 1, 1) := by decide +kernel
theorem dX11_ripple_5 : decode cX11_ripple 5 = .ok (.invokevirtual 158, 3) := by decide +kernel
theorem dX11_ripple_8 : decode cX11_ripple 8 = .ok (.ifCond .eq 25, 3) := by decide +kernel
theorem dX11_ripple_11 : decode cX11_ripple 11 = .ok (.aload_n 0, 1) := by decide +kernel
theorem dX11_ripple_12 : decode cX11_ripple 12 = .ok (.getfield 28, 3) := by decide +kernel
theorem dX11_ripple_15 : decode cX11_ripple 15 = .ok (.iload_n 2, 1) := by decide +kernel
theorem dX11_ripple_16 : decode cX11_ripple 16 = .ok (.invokevirtual 158, 3) := by decide +kernel
theorem dX11_ripple_19 : decode cX11_ripple 19 = .ok (.ifCond .eq 14, 3) := by decide +kernel
theorem dX11_ripple_22 : decode cX11_ripple 22 = .ok (.aload_n 0, 1) := by decide +kernel
theorem dX11_ripple_23 : decode cX11_ripple 23 = .ok (.getfield 28, 3) := by decide +kernel
theorem dX11_ripple_26 : decode cX11_ripple 26 = .ok (.iload_n 3, 1) := by decide +kernel
theorem dX11_ripple_27 : decode cX11_ripple 27 = .ok (.invokevirtual 142, 3) := by decide +kernel
theorem dX11_ripple_30 : decode cX11_ripple 30 = .ok (.ifCond .ne 5, 3) := by decide +kernel
theorem dX11_ripple_33 : decode cX11_ripple 33 = .ok (.iconst (-1), 1) := by decide +kernel
theorem dX11_ripple_34 : decode cX11_ripple 34 = .ok (.ireturn, 1) := by decide +kernel
theorem dX11_ripple_35 : decode cX11_ripple 35 = .ok (.aload_n 0, 1) := by decide +kernel
theorem dX11_ripple_36 : decode cX11_ripple 36 = .ok (.getfield 60, 3) := by decide +kernel
theorem dX11_ripple_39 : decode cX11_ripple 39 = .ok (.iload_n 1, 1) := by decide +kernel
theorem dX11_ripple_40 : decode cX11_ripple 40 = .ok (.iload_n 3, 1) := by decide +kernel
theorem dX11_ripple_41 : decode cX11_ripple 41 = .ok (.invokevirtual 240, 3) := by decide +kernel
theorem dX11_ripple_44 : decode cX11_ripple 44 = .ok (.ifCond .eq 15, 3) := by decide +kernel
theorem dX11_ripple_47 : decode cX11_ripple 47 = .ok (.aload_n 0, 1) := by decide +kernel
theorem dX11_ripple_48 : decode cX11_ripple 48 = .ok (.getfield 60, 3) := by decide +kernel
theorem dX11_ripple_51 : decode cX11_ripple 51 = .ok (.iload_n 2, 1) := by decide +kernel
theorem dX11_ripple_52 : decode cX11_ripple 52 = .ok (.iload_n 3, 1) := by decide +kernel
theorem dX11_ripple_53 : decode cX11_ripple 53 = .ok (.invokevirtual 240, 3) := by decide +kernel
theorem dX11_ripple_56 : decode cX11_ripple 56 = .ok (.ifCond .eq 5, 3) := by decide +kernel
theorem dX11_ripple_59 : decode cX11_ripple 59 = .ok (.iconst (-1), 1) := by decide +kernel
theorem dX11_ripple_60 : decode cX11_ripple 60 = .ok (.ireturn, 1) := by decide +kernel
theorem dX11_ripple_61 : decode cX11_ripple 61 = .ok (.aload_n 0, 1) := by decide +kernel
theorem dX11_ripple_62 : decode cX11_ripple 62 = .ok (.getfield 60, 3) := by decide +kernel
theorem dX11_ripple_65 : decode cX11_ripple 65 = .ok (.iload_n 2, 1) := by decide +kernel
theorem dX11_ripple_66 : decode cX11_ripple 66 = .ok (.iload_n 3, 1) := by decide +kernel
theorem dX11_ripple_67 : decode cX11_ripple 67 = .ok (.invokevirtual 318, 3) := by decide +kernel
theorem dX11_ripple_70 : decode cX11_ripple 70 = .ok (.istore 5, 2) := by decide +kernel
theorem dX11_ripple_72 : decode cX11_ripple 72 = .ok (.iload 4, 2) := by decide +kernel
theorem dX11_ripple_74 : decode cX11_ripple 74 = .ok (.tableswitch 59 0 2 #[26, 29, 40], 26) := by decide +kernel
theorem dX11_ripple_100 : decode cX11_ripple 100 = .ok (.iload 5, 2) := by decide +kernel
theorem dX11_ripple_102 : decode cX11_ripple 102 = .ok (.ireturn, 1) := by decide +kernel
theorem dX11_ripple_103 : decode cX11_ripple 103 = .ok (.aload_n 0, 1) := by decide +kernel
theorem dX11_ripple_104 : decode cX11_ripple 104 = .ok (.getfield 60, 3) := by decide +kernel
theorem dX11_ripple_107 : decode cX11_ripple 107 = .ok (.iload_n 2, 1) := by decide +kernel
theorem dX11_ripple_108 : decode cX11_ripple 108 = .ok (.iload 5, 2) := by decide +kernel
theorem dX11_ripple_110 : decode cX11_ripple 110 = .ok (.invokevirtual 321, 3) := by decide +kernel
theorem dX11_ripple_113 : decode cX11_ripple 113 = .ok (.ireturn, 1) := by decide +kernel
theorem dX11_ripple_114 : decode cX11_ripple 114 = .ok (.aload_n 0, 1) := by decide +kernel
theorem dX11_ripple_115 : decode cX11_ripple 115 = .ok (.getfield 60, 3) := by decide +kernel
theorem dX11_ripple_118 : decode cX11_ripple 118 = .ok (.invokevirtual 324, 3) := by decide +kernel
theorem dX11_ripple_121 : decode cX11_ripple 121 = .ok (.aload_n 0, 1) := by decide +kernel
theorem dX11_ripple_122 : decode cX11_ripple 122 = .ok (.getfield 60, 3) := by decide +kernel
theorem dX11_ripple_125 : decode cX11_ripple 125 = .ok (.iload_n 2, 1) := by decide +kernel
theorem dX11_ripple_126 : decode cX11_ripple 126 = .ok (.iload 5, 2) := by decide +kernel
theorem dX11_ripple_128 : decode cX11_ripple 128 = .ok (.invokevirtual 327, 3) := by decide +kernel
theorem dX11_ripple_131 : decode cX11_ripple 131 = .ok (.iadd, 1) := by decide +kernel
theorem dX11_ripple_132 : decode cX11_ripple 132 = .ok (.ireturn, 1) := by decide +kernel
theorem dX11_ripple_133 : decode cX11_ripple 133 = .ok (.iconst (-1), 1) := by decide +kernel
theorem dX11_ripple_134 : decode cX11_ripple 134 = .ok (.ireturn, 1) := by decide +kernel
theorem dX11_unsaid_0 : decode cX11_unsaid 0 = .ok (.aload_n 0, 1) := by decide +kernel
theorem dX11_unsaid_1 : decode cX11_unsaid 1 = .ok (.getfield 38, 3) := by decide +kernel
theorem dX11_unsaid_4 : decode cX11_unsaid 4 = .ok (.iload_n 1, 1) := by decide +kernel
theorem dX11_unsaid_5 : decode cX11_unsaid 5 = .ok (.invokevirtual 193, 3) := by decide +kernel
theorem dX11_unsaid_8 : decode cX11_unsaid 8 = .ok (.ifCond .ne 5, 3) := by decide +kernel
theorem dX11_unsaid_11 : decode cX11_unsaid 11 = .ok (.iconst (-1), 1) := by decide +kernel
theorem dX11_unsaid_12 : decode cX11_unsaid 12 = .ok (.ireturn, 1) := by decide +kernel
theorem dX11_unsaid_13 : decode cX11_unsaid 13 = .ok (.aload_n 0, 1) := by decide +kernel
theorem dX11_unsaid_14 : decode cX11_unsaid 14 = .ok (.getfield 64, 3) := by decide +kernel
theorem dX11_unsaid_17 : decode cX11_unsaid 17 = .ok (.iload_n 1, 1) := by decide +kernel
theorem dX11_unsaid_18 : decode cX11_unsaid 18 = .ok (.invokevirtual 330, 3) := by decide +kernel
theorem dX11_unsaid_21 : decode cX11_unsaid 21 = .ok (.aload_n 0, 1) := by decide +kernel
theorem dX11_unsaid_22 : decode cX11_unsaid 22 = .ok (.getfield 64, 3) := by decide +kernel
theorem dX11_unsaid_25 : decode cX11_unsaid 25 = .ok (.invokevirtual 324, 3) := by decide +kernel
theorem dX11_unsaid_28 : decode cX11_unsaid 28 = .ok (.ireturn, 1) := by decide +kernel
theorem dX11_cord_0 : decode cX11_cord 0 = .ok (.iload_n 1, 1) := by decide +kernel
theorem dX11_cord_1 : decode cX11_cord 1 = .ok (.invokestatic 333, 3) := by decide +kernel
theorem dX11_cord_4 : decode cX11_cord 4 = .ok (.ifCond .eq 20, 3) := by decide +kernel
theorem dX11_cord_7 : decode cX11_cord 7 = .ok (.iload_n 2, 1) := by decide +kernel
theorem dX11_cord_8 : decode cX11_cord 8 = .ok (.ifCond .lt 16, 3) := by decide +kernel
theorem dX11_cord_11 : decode cX11_cord 11 = .ok (.iload_n 2, 1) := by decide +kernel
theorem dX11_cord_12 : decode cX11_cord 12 = .ok (.iconst 4, 1) := by decide +kernel
theorem dX11_cord_13 : decode cX11_cord 13 = .ok (.if_icmp .ge 11, 3) := by decide +kernel
theorem dX11_cord_16 : decode cX11_cord 16 = .ok (.iload_n 1, 1) := by decide +kernel
theorem dX11_cord_17 : decode cX11_cord 17 = .ok (.iload_n 2, 1) := by decide +kernel
theorem dX11_cord_18 : decode cX11_cord 18 = .ok (.invokestatic 336, 3) := by decide +kernel
theorem dX11_cord_21 : decode cX11_cord 21 = .ok (.goto 4, 3) := by decide +kernel
theorem dX11_cord_24 : decode cX11_cord 24 = .ok (.iconst (-1), 1) := by decide +kernel
theorem dX11_cord_25 : decode cX11_cord 25 = .ok (.ireturn, 1) := by decide +kernel
theorem dX11_read_0 : decode cX11_read 0 = .ok (.aload_n 0, 1) := by decide +kernel
theorem dX11_read_1 : decode cX11_read 1 = .ok (.invokevirtual 339, 3) := by decide +kernel
theorem dX11_read_4 : decode cX11_read 4 = .ok (.ifCond .eq 13, 3) := by decide +kernel
theorem dX11_read_7 : decode cX11_read 7 = .ok (.aload_n 0, 1) := by decide +kernel
theorem dX11_read_8 : decode cX11_read 8 = .ok (.getfield 95, 3) := by decide +kernel
theorem dX11_read_11 : decode cX11_read 11 = .ok (.invokestatic 343, 3) := by decide +kernel
theorem dX11_read_14 : decode cX11_read 14 = .ok (.goto 5, 3) := by decide +kernel
theorem dX11_read_17 : decode cX11_read 17 = .ok (.bipush (-2), 2) := by decide +kernel
theorem dX11_read_19 : decode cX11_read 19 = .ok (.ireturn, 1) := by decide +kernel
theorem dX11_near_0 : decode cX11_near 0 = .ok (.aload_n 0, 1) := by decide +kernel
theorem dX11_near_1 : decode cX11_near 1 = .ok (.invokevirtual 339, 3) := by decide +kernel
theorem dX11_near_4 : decode cX11_near 4 = .ok (.ifCond .ne 6, 3) := by decide +kernel
theorem dX11_near_7 : decode cX11_near 7 = .ok (.bipush (-2), 2) := by decide +kernel
theorem dX11_near_9 : decode cX11_near 9 = .ok (.ireturn, 1) := by decide +kernel
theorem dX11_near_10 : decode cX11_near 10 = .ok (.iconst 0, 1) := by decide +kernel
theorem dX11_near_11 : decode cX11_near 11 = .ok (.istore_n 2, 1) := by decide +kernel
theorem dX11_near_12 : decode cX11_near 12 = .ok (.iconst 0, 1) := by decide +kernel
theorem dX11_near_13 : decode cX11_near 13 = .ok (.istore_n 3, 1) := by decide +kernel
theorem dX11_near_14 : decode cX11_near 14 = .ok (.iload_n 3, 1) := by decide +kernel
theorem dX11_near_15 : decode cX11_near 15 = .ok (.bipush 125, 2) := by decide +kernel
theorem dX11_near_17 : decode cX11_near 17 = .ok (.if_icmp .ge 30, 3) := by decide +kernel
theorem dX11_near_20 : decode cX11_near 20 = .ok (.iload_n 3, 1) := by decide +kernel
theorem dX11_near_21 : decode cX11_near 21 = .ok (.aload_n 0, 1) := by decide +kernel
theorem dX11_near_22 : decode cX11_near 22 = .ok (.getfield 95, 3) := by decide +kernel
theorem dX11_near_25 : decode cX11_near 25 = .ok (.invokestatic 346, 3) := by decide +kernel
theorem dX11_near_28 : decode cX11_near 28 = .ok (.ifCond .eq 13, 3) := by decide +kernel
theorem dX11_near_31 : decode cX11_near 31 = .ok (.iload_n 2, 1) := by decide +kernel
theorem dX11_near_32 : decode cX11_near 32 = .ok (.iload_n 1, 1) := by decide +kernel
theorem dX11_near_33 : decode cX11_near 33 = .ok (.if_icmp .ne 5, 3) := by decide +kernel
theorem dX11_near_36 : decode cX11_near 36 = .ok (.iload_n 3, 1) := by decide +kernel
theorem dX11_near_37 : decode cX11_near 37 = .ok (.ireturn, 1) := by decide +kernel
theorem dX11_near_38 : decode cX11_near 38 = .ok (.iinc 2 1, 3) := by decide +kernel
theorem dX11_near_41 : decode cX11_near 41 = .ok (.iinc 3 1, 3) := by decide +kernel
theorem dX11_near_44 : decode cX11_near 44 = .ok (.goto (-30), 3) := by decide +kernel
theorem dX11_near_47 : decode cX11_near 47 = .ok (.iload_n 1, 1) := by decide +kernel
theorem dX11_near_48 : decode cX11_near 48 = .ok (.iconst (-1), 1) := by decide +kernel
theorem dX11_near_49 : decode cX11_near 49 = .ok (.if_icmp .ne 7, 3) := by decide +kernel
theorem dX11_near_52 : decode cX11_near 52 = .ok (.iload_n 2, 1) := by decide +kernel
theorem dX11_near_53 : decode cX11_near 53 = .ok (.goto 4, 3) := by decide +kernel
theorem dX11_near_56 : decode cX11_near 56 = .ok (.iconst (-1), 1) := by decide +kernel
theorem dX11_near_57 : decode cX11_near 57 = .ok (.ireturn, 1) := by decide +kernel
theorem dX11_measured_0 : decode cX11_measured 0 = .ok (.iload_n 1, 1) := by decide +kernel
theorem dX11_measured_1 : decode cX11_measured 1 = .ok (.invokestatic 333, 3) := by decide +kernel
theorem dX11_measured_4 : decode cX11_measured 4 = .ok (.ifCond .ne 5, 3) := by decide +kernel
theorem dX11_measured_7 : decode cX11_measured 7 = .ok (.iconst (-1), 1) := by decide +kernel
theorem dX11_measured_8 : decode cX11_measured 8 = .ok (.ireturn, 1) := by decide +kernel
theorem dX11_measured_9 : decode cX11_measured 9 = .ok (.aload_n 0, 1) := by decide +kernel
theorem dX11_measured_10 : decode cX11_measured 10 = .ok (.getfield 91, 3) := by decide +kernel
theorem dX11_measured_13 : decode cX11_measured 13 = .ok (.iload_n 2, 1) := by decide +kernel
theorem dX11_measured_14 : decode cX11_measured 14 = .ok (.putfield 186, 3) := by decide +kernel
theorem dX11_measured_17 : decode cX11_measured 17 = .ok (.iload_n 1, 1) := by decide +kernel
theorem dX11_measured_18 : decode cX11_measured 18 = .ok (.aload_n 0, 1) := by decide +kernel
theorem dX11_measured_19 : decode cX11_measured 19 = .ok (.getfield 91, 3) := by decide +kernel
theorem dX11_measured_22 : decode cX11_measured 22 = .ok (.aload_n 0, 1) := by decide +kernel
theorem dX11_measured_23 : decode cX11_measured 23 = .ok (.getfield 95, 3) := by decide +kernel
theorem dX11_measured_26 : decode cX11_measured 26 = .ok (.invokestatic 350, 3) := by decide +kernel
theorem dX11_measured_29 : decode cX11_measured 29 = .ok (.iconst 0, 1) := by decide +kernel
theorem dX11_measured_30 : decode cX11_measured 30 = .ok (.istore_n 3, 1) := by decide +kernel
theorem dX11_measured_31 : decode cX11_measured 31 = .ok (.iconst 0, 1) := by decide +kernel
theorem dX11_measured_32 : decode cX11_measured 32 = .ok (.istore 4, 2) := by decide +kernel
theorem dX11_measured_34 : decode cX11_measured 34 = .ok (.iload 4, 2) := by decide +kernel
theorem dX11_measured_36 : decode cX11_measured 36 = .ok (.iconst 4, 1) := by decide +kernel
theorem dX11_measured_37 : decode cX11_measured 37 = .ok (.if_icmp .ge 22, 3) := by decide +kernel
theorem dX11_measured_40 : decode cX11_measured 40 = .ok (.iload_n 3, 1) := by decide +kernel
theorem dX11_measured_41 : decode cX11_measured 41 = .ok (.bipush 10, 2) := by decide +kernel
theorem dX11_measured_43 : decode cX11_measured 43 = .ok (.imul, 1) := by decide +kernel
theorem dX11_measured_44 : decode cX11_measured 44 = .ok (.aload_n 0, 1) := by decide +kernel
theorem dX11_measured_45 : decode cX11_measured 45 = .ok (.getfield 95, 3) := by decide +kernel
theorem dX11_measured_48 : decode cX11_measured 48 = .ok (.iload 4, 2) := by decide +kernel
theorem dX11_measured_50 : decode cX11_measured 50 = .ok (.iaload, 1) := by decide +kernel
theorem dX11_measured_51 : decode cX11_measured 51 = .ok (.iadd, 1) := by decide +kernel
theorem dX11_measured_52 : decode cX11_measured 52 = .ok (.istore_n 3, 1) := by decide +kernel
theorem dX11_measured_53 : decode cX11_measured 53 = .ok (.iinc 4 1, 3) := by decide +kernel
theorem dX11_measured_56 : decode cX11_measured 56 = .ok (.goto (-22), 3) := by decide +kernel
theorem dX11_measured_59 : decode cX11_measured 59 = .ok (.iload_n 3, 1) := by decide +kernel
theorem dX11_measured_60 : decode cX11_measured 60 = .ok (.ireturn, 1) := by decide +kernel
theorem dX11_slips_0 : decode cX11_slips 0 = .ok (.iload_n 1, 1) := by decide +kernel
theorem dX11_slips_1 : decode cX11_slips 1 = .ok (.invokestatic 333, 3) := by decide +kernel
theorem dX11_slips_4 : decode cX11_slips 4 = .ok (.ifCond .eq 15, 3) := by decide +kernel
theorem dX11_slips_7 : decode cX11_slips 7 = .ok (.iload_n 2, 1) := by decide +kernel
theorem dX11_slips_8 : decode cX11_slips 8 = .ok (.iconst 1, 1) := by decide +kernel
theorem dX11_slips_9 : decode cX11_slips 9 = .ok (.if_icmp .lt 10, 3) := by decide +kernel
theorem dX11_slips_12 : decode cX11_slips 12 = .ok (.iload_n 2, 1) := by decide +kernel
theorem dX11_slips_13 : decode cX11_slips 13 = .ok (.sipush 1000, 3) := by decide +kernel
theorem dX11_slips_16 : decode cX11_slips 16 = .ok (.if_icmp .le 5, 3) := by decide +kernel
theorem dX11_slips_19 : decode cX11_slips 19 = .ok (.iconst (-1), 1) := by decide +kernel
theorem dX11_slips_20 : decode cX11_slips 20 = .ok (.ireturn, 1) := by decide +kernel
theorem dX11_slips_21 : decode cX11_slips 21 = .ok (.aload_n 0, 1) := by decide +kernel
theorem dX11_slips_22 : decode cX11_slips 22 = .ok (.getfield 91, 3) := by decide +kernel
theorem dX11_slips_25 : decode cX11_slips 25 = .ok (.iload_n 3, 1) := by decide +kernel
theorem dX11_slips_26 : decode cX11_slips 26 = .ok (.putfield 186, 3) := by decide +kernel
theorem dX11_slips_29 : decode cX11_slips 29 = .ok (.iconst 0, 1) := by decide +kernel
theorem dX11_slips_30 : decode cX11_slips 30 = .ok (.istore 4, 2) := by decide +kernel
theorem dX11_slips_32 : decode cX11_slips 32 = .ok (.iconst 0, 1) := by decide +kernel
theorem dX11_slips_33 : decode cX11_slips 33 = .ok (.istore 5, 2) := by decide +kernel
theorem dX11_slips_35 : decode cX11_slips 35 = .ok (.iload 5, 2) := by decide +kernel
theorem dX11_slips_37 : decode cX11_slips 37 = .ok (.iload_n 2, 1) := by decide +kernel
theorem dX11_slips_38 : decode cX11_slips 38 = .ok (.if_icmp .ge 45, 3) := by decide +kernel
theorem dX11_slips_41 : decode cX11_slips 41 = .ok (.iload_n 1, 1) := by decide +kernel
theorem dX11_slips_42 : decode cX11_slips 42 = .ok (.aload_n 0, 1) := by decide +kernel
theorem dX11_slips_43 : decode cX11_slips 43 = .ok (.getfield 91, 3) := by decide +kernel
theorem dX11_slips_46 : decode cX11_slips 46 = .ok (.aload_n 0, 1) := by decide +kernel
theorem dX11_slips_47 : decode cX11_slips 47 = .ok (.getfield 95, 3) := by decide +kernel
theorem dX11_slips_50 : decode cX11_slips 50 = .ok (.invokestatic 350, 3) := by decide +kernel
theorem dX11_slips_53 : decode cX11_slips 53 = .ok (.aload_n 0, 1) := by decide +kernel
theorem dX11_slips_54 : decode cX11_slips 54 = .ok (.getfield 95, 3) := by decide +kernel
theorem dX11_slips_57 : decode cX11_slips 57 = .ok (.invokestatic 343, 3) := by decide +kernel
theorem dX11_slips_60 : decode cX11_slips 60 = .ok (.istore 6, 2) := by decide +kernel
theorem dX11_slips_62 : decode cX11_slips 62 = .ok (.iload 6, 2) := by decide +kernel
theorem dX11_slips_64 : decode cX11_slips 64 = .ok (.iconst (-1), 1) := by decide +kernel
theorem dX11_slips_65 : decode cX11_slips 65 = .ok (.if_icmp .eq 12, 3) := by decide +kernel
theorem dX11_slips_68 : decode cX11_slips 68 = .ok (.iload 6, 2) := by decide +kernel
theorem dX11_slips_70 : decode cX11_slips 70 = .ok (.iload_n 1, 1) := by decide +kernel
theorem dX11_slips_71 : decode cX11_slips 71 = .ok (.if_icmp .eq 6, 3) := by decide +kernel
theorem dX11_slips_74 : decode cX11_slips 74 = .ok (.iinc 4 1, 3) := by decide +kernel
theorem dX11_slips_77 : decode cX11_slips 77 = .ok (.iinc 5 1, 3) := by decide +kernel
theorem dX11_slips_80 : decode cX11_slips 80 = .ok (.goto (-45), 3) := by decide +kernel
theorem dX11_slips_83 : decode cX11_slips 83 = .ok (.iload 4, 2) := by decide +kernel
theorem dX11_slips_85 : decode cX11_slips 85 = .ok (.ireturn, 1) := by decide +kernel
theorem dX11_sentence_0 : decode cX11_sentence 0 = .ok (.aload_n 0, 1) := by decide +kernel
theorem dX11_sentence_1 : decode cX11_sentence 1 = .ok (.getfield 21, 3) := by decide +kernel
theorem dX11_sentence_4 : decode cX11_sentence 4 = .ok (.sipush 200, 3) := by decide +kernel
theorem dX11_sentence_7 : decode cX11_sentence 7 = .ok (.invokevirtual 117, 3) := by decide +kernel
theorem dX11_sentence_10 : decode cX11_sentence 10 = .ok (.aload_n 0, 1) := by decide +kernel
theorem dX11_sentence_11 : decode cX11_sentence 11 = .ok (.getfield 52, 3) := by decide +kernel
theorem dX11_sentence_14 : decode cX11_sentence 14 = .ok (.aload_n 0, 1) := by decide +kernel
theorem dX11_sentence_15 : decode cX11_sentence 15 = .ok (.getfield 21, 3) := by decide +kernel
theorem dX11_sentence_18 : decode cX11_sentence 18 = .ok (.aload_n 0, 1) := by decide +kernel
theorem dX11_sentence_19 : decode cX11_sentence 19 = .ok (.getfield 28, 3) := by decide +kernel
theorem dX11_sentence_22 : decode cX11_sentence 22 = .ok (.invokevirtual 354, 3) := by decide +kernel
theorem dX11_sentence_25 : decode cX11_sentence 25 = .ok (.istore_n 1, 1) := by decide +kernel
theorem dX11_sentence_26 : decode cX11_sentence 26 = .ok (.aload_n 0, 1) := by decide +kernel
theorem dX11_sentence_27 : decode cX11_sentence 27 = .ok (.invokevirtual 124, 3) := by decide +kernel
theorem dX11_sentence_30 : decode cX11_sentence 30 = .ok (.iload_n 1, 1) := by decide +kernel
theorem dX11_sentence_31 : decode cX11_sentence 31 = .ok (.ifCond .ne 8, 3) := by decide +kernel
theorem dX11_sentence_34 : decode cX11_sentence 34 = .ok (.aload_n 0, 1) := by decide +kernel
theorem dX11_sentence_35 : decode cX11_sentence 35 = .ok (.invokevirtual 127, 3) := by decide +kernel
theorem dX11_sentence_38 : decode cX11_sentence 38 = .ok (.ireturn, 1) := by decide +kernel
theorem dX11_sentence_39 : decode cX11_sentence 39 = .ok (.aload_n 0, 1) := by decide +kernel
theorem dX11_sentence_40 : decode cX11_sentence 40 = .ok (.getfield 48, 3) := by decide +kernel
theorem dX11_sentence_43 : decode cX11_sentence 43 = .ok (.aload_n 0, 1) := by decide +kernel
theorem dX11_sentence_44 : decode cX11_sentence 44 = .ok (.getfield 52, 3) := by decide +kernel
theorem dX11_sentence_47 : decode cX11_sentence 47 = .ok (.invokevirtual 355, 3) := by decide +kernel
theorem dX11_sentence_50 : decode cX11_sentence 50 = .ok (.aload_n 0, 1) := by decide +kernel
theorem dX11_sentence_51 : decode cX11_sentence 51 = .ok (.getfield 48, 3) := by decide +kernel
theorem dX11_sentence_54 : decode cX11_sentence 54 = .ok (.getfield 358, 3) := by decide +kernel
theorem dX11_sentence_57 : decode cX11_sentence 57 = .ok (.ireturn, 1) := by decide +kernel
theorem dX11_said_0 : decode cX11_said 0 = .ok (.aload_n 0, 1) := by decide +kernel
theorem dX11_said_1 : decode cX11_said 1 = .ok (.getfield 48, 3) := by decide +kernel
theorem dX11_said_4 : decode cX11_said 4 = .ok (.getfield 358, 3) := by decide +kernel
theorem dX11_said_7 : decode cX11_said 7 = .ok (.ifCond .le 17, 3) := by decide +kernel
theorem dX11_said_10 : decode cX11_said 10 = .ok (.aload_n 0, 1) := by decide +kernel
theorem dX11_said_11 : decode cX11_said 11 = .ok (.getfield 48, 3) := by decide +kernel
theorem dX11_said_14 : decode cX11_said 14 = .ok (.aload_n 0, 1) := by decide +kernel
theorem dX11_said_15 : decode cX11_said 15 = .ok (.getfield 60, 3) := by decide +kernel
theorem dX11_said_18 : decode cX11_said 18 = .ok (.invokevirtual 361, 3) := by decide +kernel
theorem dX11_said_21 : decode cX11_said 21 = .ok (.goto 4, 3) := by decide +kernel
theorem dX11_said_24 : decode cX11_said 24 = .ok (.iconst (-1), 1) := by decide +kernel
theorem dX11_said_25 : decode cX11_said 25 = .ok (.ireturn, 1) := by decide +kernel
theorem dX11_image_0 : decode cX11_image 0 = .ok (.iload_n 1, 1) := by decide +kernel
theorem dX11_image_1 : decode cX11_image 1 = .ok (.ifCond .lt 12, 3) := by decide +kernel
theorem dX11_image_4 : decode cX11_image 4 = .ok (.iload_n 1, 1) := by decide +kernel
theorem dX11_image_5 : decode cX11_image 5 = .ok (.aload_n 0, 1) := by decide +kernel
theorem dX11_image_6 : decode cX11_image 6 = .ok (.getfield 102, 3) := by decide +kernel
theorem dX11_image_9 : decode cX11_image 9 = .ok (.arraylength, 1) := by decide +kernel
theorem dX11_image_10 : decode cX11_image 10 = .ok (.if_icmp .lt 5, 3) := by decide +kernel
theorem dX11_image_13 : decode cX11_image 13 = .ok (.iconst 0, 1) := by decide +kernel
theorem dX11_image_14 : decode cX11_image 14 = .ok (.ireturn, 1) := by decide +kernel
theorem dX11_image_15 : decode cX11_image 15 = .ok (.aload_n 0, 1) := by decide +kernel
theorem dX11_image_16 : decode cX11_image 16 = .ok (.getfield 102, 3) := by decide +kernel
theorem dX11_image_19 : decode cX11_image 19 = .ok (.iload_n 1, 1) := by decide +kernel
theorem dX11_image_20 : decode cX11_image 20 = .ok (.aaload, 1) := by decide +kernel
theorem dX11_image_21 : decode cX11_image 21 = .ok (.aload_n 0, 1) := by decide +kernel
theorem dX11_image_22 : decode cX11_image 22 = .ok (.getfield 28, 3) := by decide +kernel
theorem dX11_image_25 : decode cX11_image 25 = .ok (.aload_n 0, 1) := by decide +kernel
theorem dX11_image_26 : decode cX11_image 26 = .ok (.getfield 38, 3) := by decide +kernel
theorem dX11_image_29 : decode cX11_image 29 = .ok (.aload_n 0, 1) := by decide +kernel
theorem dX11_image_30 : decode cX11_image 30 = .ok (.getfield 48, 3) := by decide +kernel
theorem dX11_image_33 : decode cX11_image 33 = .ok (.invokevirtual 365, 3) := by decide +kernel
theorem dX11_image_36 : decode cX11_image 36 = .ok (.iconst 1, 1) := by decide +kernel
theorem dX11_image_37 : decode cX11_image 37 = .ok (.ireturn, 1) := by decide +kernel
theorem dX11_restore_0 : decode cX11_restore 0 = .ok (.iload_n 1, 1) := by decide +kernel
theorem dX11_restore_1 : decode cX11_restore 1 = .ok (.ifCond .lt 24, 3) := by decide +kernel
theorem dX11_restore_4 : decode cX11_restore 4 = .ok (.iload_n 1, 1) := by decide +kernel
theorem dX11_restore_5 : decode cX11_restore 5 = .ok (.aload_n 0, 1) := by decide +kernel
theorem dX11_restore_6 : decode cX11_restore 6 = .ok (.getfield 102, 3) := by decide +kernel
theorem dX11_restore_9 : decode cX11_restore 9 = .ok (.arraylength, 1) := by decide +kernel
theorem dX11_restore_10 : decode cX11_restore 10 = .ok (.if_icmp .ge 15, 3) := by decide +kernel
theorem dX11_restore_13 : decode cX11_restore 13 = .ok (.aload_n 0, 1) := by decide +kernel
theorem dX11_restore_14 : decode cX11_restore 14 = .ok (.getfield 102, 3) := by decide +kernel
theorem dX11_restore_17 : decode cX11_restore 17 = .ok (.iload_n 1, 1) := by decide +kernel
theorem dX11_restore_18 : decode cX11_restore 18 = .ok (.aaload, 1) := by decide +kernel
theorem dX11_restore_19 : decode cX11_restore 19 = .ok (.getfield 369, 3) := by decide +kernel
theorem dX11_restore_22 : decode cX11_restore 22 = .ok (.ifCond .ne 5, 3) := by decide +kernel
theorem dX11_restore_25 : decode cX11_restore 25 = .ok (.iconst 0, 1) := by decide +kernel
theorem dX11_restore_26 : decode cX11_restore 26 = .ok (.ireturn, 1) := by decide +kernel
theorem dX11_restore_27 : decode cX11_restore 27 = .ok (.aload_n 0, 1) := by decide +kernel
theorem dX11_restore_28 : decode cX11_restore 28 = .ok (.getfield 28, 3) := by decide +kernel
theorem dX11_restore_31 : decode cX11_restore 31 = .ok (.aload_n 0, 1) := by decide +kernel
theorem dX11_restore_32 : decode cX11_restore 32 = .ok (.getfield 102, 3) := by decide +kernel
theorem dX11_restore_35 : decode cX11_restore 35 = .ok (.iload_n 1, 1) := by decide +kernel
theorem dX11_restore_36 : decode cX11_restore 36 = .ok (.aaload, 1) := by decide +kernel
theorem dX11_restore_37 : decode cX11_restore 37 = .ok (.getfield 373, 3) := by decide +kernel
theorem dX11_restore_40 : decode cX11_restore 40 = .ok (.invokevirtual 131, 3) := by decide +kernel
theorem dX11_restore_43 : decode cX11_restore 43 = .ok (.aload_n 0, 1) := by decide +kernel
theorem dX11_restore_44 : decode cX11_restore 44 = .ok (.getfield 38, 3) := by decide +kernel
theorem dX11_restore_47 : decode cX11_restore 47 = .ok (.aload_n 0, 1) := by decide +kernel
theorem dX11_restore_48 : decode cX11_restore 48 = .ok (.getfield 102, 3) := by decide +kernel
theorem dX11_restore_51 : decode cX11_restore 51 = .ok (.iload_n 1, 1) := by decide +kernel
theorem dX11_restore_52 : decode cX11_restore 52 = .ok (.aaload, 1) := by decide +kernel
theorem dX11_restore_53 : decode cX11_restore 53 = .ok (.getfield 374, 3) := by decide +kernel
theorem dX11_restore_56 : decode cX11_restore 56 = .ok (.invokevirtual 174, 3) := by decide +kernel
theorem dX11_restore_59 : decode cX11_restore 59 = .ok (.aload_n 0, 1) := by decide +kernel
theorem dX11_restore_60 : decode cX11_restore 60 = .ok (.getfield 48, 3) := by decide +kernel
theorem dX11_restore_63 : decode cX11_restore 63 = .ok (.aload_n 0, 1) := by decide +kernel
theorem dX11_restore_64 : decode cX11_restore 64 = .ok (.getfield 102, 3) := by decide +kernel
theorem dX11_restore_67 : decode cX11_restore 67 = .ok (.iload_n 1, 1) := by decide +kernel
theorem dX11_restore_68 : decode cX11_restore 68 = .ok (.aaload, 1) := by decide +kernel
theorem dX11_restore_69 : decode cX11_restore 69 = .ok (.getfield 375, 3) := by decide +kernel
theorem dX11_restore_72 : decode cX11_restore 72 = .ok (.invokevirtual 355, 3) := by decide +kernel
theorem dX11_restore_75 : decode cX11_restore 75 = .ok (.aload_n 0, 1) := by decide +kernel
theorem dX11_restore_76 : decode cX11_restore 76 = .ok (.invokevirtual 139, 3) := by decide +kernel
theorem dX11_restore_79 : decode cX11_restore 79 = .ok (.iconst 1, 1) := by decide +kernel
theorem dX11_restore_80 : decode cX11_restore 80 = .ok (.ireturn, 1) := by decide +kernel
theorem dX11_count_0 : decode cX11_count 0 = .ok (.iload_n 1, 1) := by decide +kernel
theorem dX11_count_1 : decode cX11_count 1 = .ok (.tableswitch 95 0 9 #[55, 63, 71, 79, 95, 95, 95, 95, 95, 87], 55) := by decide +kernel
theorem dX11_count_56 : decode cX11_count 56 = .ok (.aload_n 0, 1) := by decide +kernel
theorem dX11_count_57 : decode cX11_count 57 = .ok (.getfield 28, 3) := by decide +kernel
theorem dX11_count_60 : decode cX11_count 60 = .ok (.getfield 180, 3) := by decide +kernel
theorem dX11_count_63 : decode cX11_count 63 = .ok (.ireturn, 1) := by decide +kernel
theorem dX11_count_64 : decode cX11_count 64 = .ok (.aload_n 0, 1) := by decide +kernel
theorem dX11_count_65 : decode cX11_count 65 = .ok (.getfield 28, 3) := by decide +kernel
theorem dX11_count_68 : decode cX11_count 68 = .ok (.getfield 183, 3) := by decide +kernel
theorem dX11_count_71 : decode cX11_count 71 = .ok (.ireturn, 1) := by decide +kernel
theorem dX11_count_72 : decode cX11_count 72 = .ok (.aload_n 0, 1) := by decide +kernel
theorem dX11_count_73 : decode cX11_count 73 = .ok (.getfield 28, 3) := by decide +kernel
theorem dX11_count_76 : decode cX11_count 76 = .ok (.getfield 376, 3) := by decide +kernel
theorem dX11_count_79 : decode cX11_count 79 = .ok (.ireturn, 1) := by decide +kernel
theorem dX11_count_80 : decode cX11_count 80 = .ok (.aload_n 0, 1) := by decide +kernel
theorem dX11_count_81 : decode cX11_count 81 = .ok (.getfield 38, 3) := by decide +kernel
theorem dX11_count_84 : decode cX11_count 84 = .ok (.getfield 177, 3) := by decide +kernel
theorem dX11_count_87 : decode cX11_count 87 = .ok (.ireturn, 1) := by decide +kernel
theorem dX11_count_88 : decode cX11_count 88 = .ok (.aload_n 0, 1) := by decide +kernel
theorem dX11_count_89 : decode cX11_count 89 = .ok (.getfield 12, 3) := by decide +kernel
theorem dX11_count_92 : decode cX11_count 92 = .ok (.getfield 110, 3) := by decide +kernel
theorem dX11_count_95 : decode cX11_count 95 = .ok (.ireturn, 1) := by decide +kernel
theorem dX11_count_96 : decode cX11_count 96 = .ok (.iload_n 1, 1) := by decide +kernel
theorem dX11_count_97 : decode cX11_count 97 = .ok (.iconst 4, 1) := by decide +kernel
theorem dX11_count_98 : decode cX11_count 98 = .ok (.if_icmp .lt 23, 3) := by decide +kernel
theorem dX11_count_101 : decode cX11_count 101 = .ok (.iload_n 1, 1) := by decide +kernel
theorem dX11_count_102 : decode cX11_count 102 = .ok (.bipush 9, 2) := by decide +kernel
theorem dX11_count_104 : decode cX11_count 104 = .ok (.if_icmp .ge 17, 3) := by decide +kernel
theorem dX11_count_107 : decode cX11_count 107 = .ok (.aload_n 0, 1) := by decide +kernel
theorem dX11_count_108 : decode cX11_count 108 = .ok (.getfield 28, 3) := by decide +kernel
theorem dX11_count_111 : decode cX11_count 111 = .ok (.getfield 297, 3) := by decide +kernel
theorem dX11_count_114 : decode cX11_count 114 = .ok (.iload_n 1, 1) := by decide +kernel
theorem dX11_count_115 : decode cX11_count 115 = .ok (.iconst 4, 1) := by decide +kernel
theorem dX11_count_116 : decode cX11_count 116 = .ok (.isub, 1) := by decide +kernel
theorem dX11_count_117 : decode cX11_count 117 = .ok (.iaload, 1) := by decide +kernel
theorem dX11_count_118 : decode cX11_count 118 = .ok (.goto 4, 3) := by decide +kernel
theorem dX11_count_121 : decode cX11_count 121 = .ok (.iconst (-1), 1) := by decide +kernel
theorem dX11_count_122 : decode cX11_count 122 = .ok (.ireturn, 1) := by decide +kernel
theorem dX11_noteReading_0 : decode cX11_noteReading 0 = .ok (.aload_n 0, 1) := by decide +kernel
theorem dX11_noteReading_1 : decode cX11_noteReading 1 = .ok (.aload_n 0, 1) := by decide +kernel
theorem dX11_noteReading_2 : decode cX11_noteReading 2 = .ok (.getfield 21, 3) := by decide +kernel
theorem dX11_noteReading_5 : decode cX11_noteReading 5 = .ok (.getfield 379, 3) := by decide +kernel
theorem dX11_noteReading_8 : decode cX11_noteReading 8 = .ok (.putfield 106, 3) := by decide +kernel
theorem dX11_noteReading_11 : decode cX11_noteReading 11 = .ok (.aload_n 0, 1) := by decide +kernel
theorem dX11_noteReading_12 : decode cX11_noteReading 12 = .ok (.getfield 12, 3) := by decide +kernel
theorem dX11_noteReading_15 : decode cX11_noteReading 15 = .ok (.iconst 0, 1) := by decide +kernel
theorem dX11_noteReading_16 : decode cX11_noteReading 16 = .ok (.putfield 110, 3) := by decide +kernel
theorem dX11_noteReading_19 : decode cX11_noteReading 19 = .ok (.return_, 1) := by decide +kernel
theorem dX11_refusedAt_0 : decode cX11_refusedAt 0 = .ok (.iconst (-1), 1) := by decide +kernel
theorem dX11_refusedAt_1 : decode cX11_refusedAt 1 = .ok (.aload_n 0, 1) := by decide +kernel
theorem dX11_refusedAt_2 : decode cX11_refusedAt 2 = .ok (.getfield 21, 3) := by decide +kernel
theorem dX11_refusedAt_5 : decode cX11_refusedAt 5 = .ok (.getfield 382, 3) := by decide +kernel
theorem dX11_refusedAt_8 : decode cX11_refusedAt 8 = .ok (.isub, 1) := by decide +kernel
theorem dX11_refusedAt_9 : decode cX11_refusedAt 9 = .ok (.ireturn, 1) := by decide +kernel
theorem dX11_judgeAnew_0 : decode cX11_judgeAnew 0 = .ok (.aload_n 0, 1) := by decide +kernel
theorem dX11_judgeAnew_1 : decode cX11_judgeAnew 1 = .ok (.getfield 60, 3) := by decide +kernel
theorem dX11_judgeAnew_4 : decode cX11_judgeAnew 4 = .ok (.iconst (-1), 1) := by decide +kernel
theorem dX11_judgeAnew_5 : decode cX11_judgeAnew 5 = .ok (.invokevirtual 330, 3) := by decide +kernel
theorem dX11_judgeAnew_8 : decode cX11_judgeAnew 8 = .ok (.aload_n 0, 1) := by decide +kernel
theorem dX11_judgeAnew_9 : decode cX11_judgeAnew 9 = .ok (.getfield 70, 3) := by decide +kernel
theorem dX11_judgeAnew_12 : decode cX11_judgeAnew 12 = .ok (.iconst 0, 1) := by decide +kernel
theorem dX11_judgeAnew_13 : decode cX11_judgeAnew 13 = .ok (.putfield 385, 3) := by decide +kernel
theorem dX11_judgeAnew_16 : decode cX11_judgeAnew 16 = .ok (.return_, 1) := by decide +kernel
theorem dX11_takeKnots_0 : decode cX11_takeKnots 0 = .ok (.aload_n 0, 1) := by decide +kernel
theorem dX11_takeKnots_1 : decode cX11_takeKnots 1 = .ok (.getfield 12, 3) := by decide +kernel
theorem dX11_takeKnots_4 : decode cX11_takeKnots 4 = .ok (.getfield 110, 3) := by decide +kernel
theorem dX11_takeKnots_7 : decode cX11_takeKnots 7 = .ok (.iconst 4, 1) := by decide +kernel
theorem dX11_takeKnots_8 : decode cX11_takeKnots 8 = .ok (.if_icmp .ne 7, 3) := by decide +kernel
theorem dX11_takeKnots_11 : decode cX11_takeKnots 11 = .ok (.iconst 1, 1) := by decide +kernel
theorem dX11_takeKnots_12 : decode cX11_takeKnots 12 = .ok (.goto 4, 3) := by decide +kernel
theorem dX11_takeKnots_15 : decode cX11_takeKnots 15 = .ok (.iconst 0, 1) := by decide +kernel
theorem dX11_takeKnots_16 : decode cX11_takeKnots 16 = .ok (.istore_n 1, 1) := by decide +kernel
theorem dX11_takeKnots_17 : decode cX11_takeKnots 17 = .ok (.iconst 0, 1) := by decide +kernel
theorem dX11_takeKnots_18 : decode cX11_takeKnots 18 = .ok (.istore_n 2, 1) := by decide +kernel
theorem dX11_takeKnots_19 : decode cX11_takeKnots 19 = .ok (.iload_n 2, 1) := by decide +kernel
theorem dX11_takeKnots_20 : decode cX11_takeKnots 20 = .ok (.iconst 4, 1) := by decide +kernel
theorem dX11_takeKnots_21 : decode cX11_takeKnots 21 = .ok (.if_icmp .ge 44, 3) := by decide +kernel
theorem dX11_takeKnots_24 : decode cX11_takeKnots 24 = .ok (.aload_n 0, 1) := by decide +kernel
theorem dX11_takeKnots_25 : decode cX11_takeKnots 25 = .ok (.getfield 95, 3) := by decide +kernel
theorem dX11_takeKnots_28 : decode cX11_takeKnots 28 = .ok (.iload_n 2, 1) := by decide +kernel
theorem dX11_takeKnots_29 : decode cX11_takeKnots 29 = .ok (.aload_n 0, 1) := by decide +kernel
theorem dX11_takeKnots_30 : decode cX11_takeKnots 30 = .ok (.getfield 12, 3) := by decide +kernel
theorem dX11_takeKnots_33 : decode cX11_takeKnots 33 = .ok (.getfield 388, 3) := by decide +kernel
theorem dX11_takeKnots_36 : decode cX11_takeKnots 36 = .ok (.iload_n 2, 1) := by decide +kernel
theorem dX11_takeKnots_37 : decode cX11_takeKnots 37 = .ok (.iaload, 1) := by decide +kernel
theorem dX11_takeKnots_38 : decode cX11_takeKnots 38 = .ok (.iastore, 1) := by decide +kernel
theorem dX11_takeKnots_39 : decode cX11_takeKnots 39 = .ok (.iload_n 1, 1) := by decide +kernel
theorem dX11_takeKnots_40 : decode cX11_takeKnots 40 = .ok (.ifCond .eq 17, 3) := by decide +kernel
theorem dX11_takeKnots_43 : decode cX11_takeKnots 43 = .ok (.aload_n 0, 1) := by decide +kernel
theorem dX11_takeKnots_44 : decode cX11_takeKnots 44 = .ok (.getfield 95, 3) := by decide +kernel
theorem dX11_takeKnots_47 : decode cX11_takeKnots 47 = .ok (.iload_n 2, 1) := by decide +kernel
theorem dX11_takeKnots_48 : decode cX11_takeKnots 48 = .ok (.iaload, 1) := by decide +kernel
theorem dX11_takeKnots_49 : decode cX11_takeKnots 49 = .ok (.iconst 4, 1) := by decide +kernel
theorem dX11_takeKnots_50 : decode cX11_takeKnots 50 = .ok (.if_icmp .gt 7, 3) := by decide +kernel
theorem dX11_takeKnots_53 : decode cX11_takeKnots 53 = .ok (.iconst 1, 1) := by decide +kernel
theorem dX11_takeKnots_54 : decode cX11_takeKnots 54 = .ok (.goto 4, 3) := by decide +kernel
theorem dX11_takeKnots_57 : decode cX11_takeKnots 57 = .ok (.iconst 0, 1) := by decide +kernel
theorem dX11_takeKnots_58 : decode cX11_takeKnots 58 = .ok (.istore_n 1, 1) := by decide +kernel
theorem dX11_takeKnots_59 : decode cX11_takeKnots 59 = .ok (.iinc 2 1, 3) := by decide +kernel
theorem dX11_takeKnots_62 : decode cX11_takeKnots 62 = .ok (.goto (-43), 3) := by decide +kernel
theorem dX11_takeKnots_65 : decode cX11_takeKnots 65 = .ok (.aload_n 0, 1) := by decide +kernel
theorem dX11_takeKnots_66 : decode cX11_takeKnots 66 = .ok (.getfield 12, 3) := by decide +kernel
theorem dX11_takeKnots_69 : decode cX11_takeKnots 69 = .ok (.iconst 0, 1) := by decide +kernel
theorem dX11_takeKnots_70 : decode cX11_takeKnots 70 = .ok (.putfield 110, 3) := by decide +kernel
theorem dX11_takeKnots_73 : decode cX11_takeKnots 73 = .ok (.iload_n 1, 1) := by decide +kernel
theorem dX11_takeKnots_74 : decode cX11_takeKnots 74 = .ok (.ireturn, 1) := by decide +kernel
theorem dX11_isLength_0 : decode cX11_isLength 0 = .ok (.iload_n 0, 1) := by decide +kernel
theorem dX11_isLength_1 : decode cX11_isLength 1 = .ok (.ifCond .lt 13, 3) := by decide +kernel
theorem dX11_isLength_4 : decode cX11_isLength 4 = .ok (.iload_n 0, 1) := by decide +kernel
theorem dX11_isLength_5 : decode cX11_isLength 5 = .ok (.bipush 125, 2) := by decide +kernel
theorem dX11_isLength_7 : decode cX11_isLength 7 = .ok (.if_icmp .ge 7, 3) := by decide +kernel
theorem dX11_isLength_10 : decode cX11_isLength 10 = .ok (.iconst 1, 1) := by decide +kernel
theorem dX11_isLength_11 : decode cX11_isLength 11 = .ok (.goto 4, 3) := by decide +kernel
theorem dX11_isLength_14 : decode cX11_isLength 14 = .ok (.iconst 0, 1) := by decide +kernel
theorem dX11_isLength_15 : decode cX11_isLength 15 = .ok (.ireturn, 1) := by decide +kernel
theorem dX11_knotsAt_0 : decode cX11_knotsAt 0 = .ok (.iload_n 0, 1) := by decide +kernel
theorem dX11_knotsAt_1 : decode cX11_knotsAt 1 = .ok (.bipush 25, 2) := by decide +kernel
theorem dX11_knotsAt_3 : decode cX11_knotsAt 3 = .ok (.idiv, 1) := by decide +kernel
theorem dX11_knotsAt_4 : decode cX11_knotsAt 4 = .ok (.istore_n 2, 1) := by decide +kernel
theorem dX11_knotsAt_5 : decode cX11_knotsAt 5 = .ok (.iload_n 0, 1) := by decide +kernel
theorem dX11_knotsAt_6 : decode cX11_knotsAt 6 = .ok (.iconst 5, 1) := by decide +kernel
theorem dX11_knotsAt_7 : decode cX11_knotsAt 7 = .ok (.idiv, 1) := by decide +kernel
theorem dX11_knotsAt_8 : decode cX11_knotsAt 8 = .ok (.iconst 5, 1) := by decide +kernel
theorem dX11_knotsAt_9 : decode cX11_knotsAt 9 = .ok (.irem, 1) := by decide +kernel
theorem dX11_knotsAt_10 : decode cX11_knotsAt 10 = .ok (.istore_n 3, 1) := by decide +kernel
theorem dX11_knotsAt_11 : decode cX11_knotsAt 11 = .ok (.iload_n 0, 1) := by decide +kernel
theorem dX11_knotsAt_12 : decode cX11_knotsAt 12 = .ok (.iconst 5, 1) := by decide +kernel
theorem dX11_knotsAt_13 : decode cX11_knotsAt 13 = .ok (.irem, 1) := by decide +kernel
theorem dX11_knotsAt_14 : decode cX11_knotsAt 14 = .ok (.istore 4, 2) := by decide +kernel
theorem dX11_knotsAt_16 : decode cX11_knotsAt 16 = .ok (.iload_n 1, 1) := by decide +kernel
theorem dX11_knotsAt_17 : decode cX11_knotsAt 17 = .ok (.tableswitch 34 0 2 #[27, 29, 31], 27) := by decide +kernel
theorem dX11_knotsAt_44 : decode cX11_knotsAt 44 = .ok (.iload_n 2, 1) := by decide +kernel
theorem dX11_knotsAt_45 : decode cX11_knotsAt 45 = .ok (.ireturn, 1) := by decide +kernel
theorem dX11_knotsAt_46 : decode cX11_knotsAt 46 = .ok (.iload_n 3, 1) := by decide +kernel
theorem dX11_knotsAt_47 : decode cX11_knotsAt 47 = .ok (.ireturn, 1) := by decide +kernel
theorem dX11_knotsAt_48 : decode cX11_knotsAt 48 = .ok (.iload 4, 2) := by decide +kernel
theorem dX11_knotsAt_50 : decode cX11_knotsAt 50 = .ok (.ireturn, 1) := by decide +kernel
theorem dX11_knotsAt_51 : decode cX11_knotsAt 51 = .ok (.iload_n 2, 1) := by decide +kernel
theorem dX11_knotsAt_52 : decode cX11_knotsAt 52 = .ok (.iconst 2, 1) := by decide +kernel
theorem dX11_knotsAt_53 : decode cX11_knotsAt 53 = .ok (.iload_n 3, 1) := by decide +kernel
theorem dX11_knotsAt_54 : decode cX11_knotsAt 54 = .ok (.imul, 1) := by decide +kernel
theorem dX11_knotsAt_55 : decode cX11_knotsAt 55 = .ok (.iadd, 1) := by decide +kernel
theorem dX11_knotsAt_56 : decode cX11_knotsAt 56 = .ok (.iconst 3, 1) := by decide +kernel
theorem dX11_knotsAt_57 : decode cX11_knotsAt 57 = .ok (.iload 4, 2) := by decide +kernel
theorem dX11_knotsAt_59 : decode cX11_knotsAt 59 = .ok (.imul, 1) := by decide +kernel
theorem dX11_knotsAt_60 : decode cX11_knotsAt 60 = .ok (.iadd, 1) := by decide +kernel
theorem dX11_knotsAt_61 : decode cX11_knotsAt 61 = .ok (.iconst 5, 1) := by decide +kernel
theorem dX11_knotsAt_62 : decode cX11_knotsAt 62 = .ok (.irem, 1) := by decide +kernel
theorem dX11_knotsAt_63 : decode cX11_knotsAt 63 = .ok (.ireturn, 1) := by decide +kernel
theorem dX11_lengthOf_0 : decode cX11_lengthOf 0 = .ok (.aload_n 0, 1) := by decide +kernel
theorem dX11_lengthOf_1 : decode cX11_lengthOf 1 = .ok (.iconst 0, 1) := by decide +kernel
theorem dX11_lengthOf_2 : decode cX11_lengthOf 2 = .ok (.iaload, 1) := by decide +kernel
theorem dX11_lengthOf_3 : decode cX11_lengthOf 3 = .ok (.bipush 25, 2) := by decide +kernel
theorem dX11_lengthOf_5 : decode cX11_lengthOf 5 = .ok (.imul, 1) := by decide +kernel
theorem dX11_lengthOf_6 : decode cX11_lengthOf 6 = .ok (.aload_n 0, 1) := by decide +kernel
theorem dX11_lengthOf_7 : decode cX11_lengthOf 7 = .ok (.iconst 1, 1) := by decide +kernel
theorem dX11_lengthOf_8 : decode cX11_lengthOf 8 = .ok (.iaload, 1) := by decide +kernel
theorem dX11_lengthOf_9 : decode cX11_lengthOf 9 = .ok (.iconst 5, 1) := by decide +kernel
theorem dX11_lengthOf_10 : decode cX11_lengthOf 10 = .ok (.imul, 1) := by decide +kernel
theorem dX11_lengthOf_11 : decode cX11_lengthOf 11 = .ok (.iadd, 1) := by decide +kernel
theorem dX11_lengthOf_12 : decode cX11_lengthOf 12 = .ok (.aload_n 0, 1) := by decide +kernel
theorem dX11_lengthOf_13 : decode cX11_lengthOf 13 = .ok (.iconst 2, 1) := by decide +kernel
theorem dX11_lengthOf_14 : decode cX11_lengthOf 14 = .ok (.iaload, 1) := by decide +kernel
theorem dX11_lengthOf_15 : decode cX11_lengthOf 15 = .ok (.iadd, 1) := by decide +kernel
theorem dX11_lengthOf_16 : decode cX11_lengthOf 16 = .ok (.istore_n 1, 1) := by decide +kernel
theorem dX11_lengthOf_17 : decode cX11_lengthOf 17 = .ok (.iload_n 1, 1) := by decide +kernel
theorem dX11_lengthOf_18 : decode cX11_lengthOf 18 = .ok (.iconst 3, 1) := by decide +kernel
theorem dX11_lengthOf_19 : decode cX11_lengthOf 19 = .ok (.invokestatic 336, 3) := by decide +kernel
theorem dX11_lengthOf_22 : decode cX11_lengthOf 22 = .ok (.aload_n 0, 1) := by decide +kernel
theorem dX11_lengthOf_23 : decode cX11_lengthOf 23 = .ok (.iconst 3, 1) := by decide +kernel
theorem dX11_lengthOf_24 : decode cX11_lengthOf 24 = .ok (.iaload, 1) := by decide +kernel
theorem dX11_lengthOf_25 : decode cX11_lengthOf 25 = .ok (.if_icmp .ne 7, 3) := by decide +kernel
theorem dX11_lengthOf_28 : decode cX11_lengthOf 28 = .ok (.iload_n 1, 1) := by decide +kernel
theorem dX11_lengthOf_29 : decode cX11_lengthOf 29 = .ok (.goto 4, 3) := by decide +kernel
theorem dX11_lengthOf_32 : decode cX11_lengthOf 32 = .ok (.iconst (-1), 1) := by decide +kernel
theorem dX11_lengthOf_33 : decode cX11_lengthOf 33 = .ok (.ireturn, 1) := by decide +kernel
theorem dX11_isNear_0 : decode cX11_isNear 0 = .ok (.iconst 0, 1) := by decide +kernel
theorem dX11_isNear_1 : decode cX11_isNear 1 = .ok (.istore_n 2, 1) := by decide +kernel
theorem dX11_isNear_2 : decode cX11_isNear 2 = .ok (.iconst 0, 1) := by decide +kernel
theorem dX11_isNear_3 : decode cX11_isNear 3 = .ok (.istore_n 3, 1) := by decide +kernel
theorem dX11_isNear_4 : decode cX11_isNear 4 = .ok (.iload_n 3, 1) := by decide +kernel
theorem dX11_isNear_5 : decode cX11_isNear 5 = .ok (.iconst 4, 1) := by decide +kernel
theorem dX11_isNear_6 : decode cX11_isNear 6 = .ok (.if_icmp .ge 28, 3) := by decide +kernel
theorem dX11_isNear_9 : decode cX11_isNear 9 = .ok (.iload_n 0, 1) := by decide +kernel
theorem dX11_isNear_10 : decode cX11_isNear 10 = .ok (.iload_n 3, 1) := by decide +kernel
theorem dX11_isNear_11 : decode cX11_isNear 11 = .ok (.invokestatic 336, 3) := by decide +kernel
theorem dX11_isNear_14 : decode cX11_isNear 14 = .ok (.aload_n 1, 1) := by decide +kernel
theorem dX11_isNear_15 : decode cX11_isNear 15 = .ok (.iload_n 3, 1) := by decide +kernel
theorem dX11_isNear_16 : decode cX11_isNear 16 = .ok (.iaload, 1) := by decide +kernel
theorem dX11_isNear_17 : decode cX11_isNear 17 = .ok (.isub, 1) := by decide +kernel
theorem dX11_isNear_18 : decode cX11_isNear 18 = .ok (.istore 4, 2) := by decide +kernel
theorem dX11_isNear_20 : decode cX11_isNear 20 = .ok (.iload_n 2, 1) := by decide +kernel
theorem dX11_isNear_21 : decode cX11_isNear 21 = .ok (.iload 4, 2) := by decide +kernel
theorem dX11_isNear_23 : decode cX11_isNear 23 = .ok (.iload 4, 2) := by decide +kernel
theorem dX11_isNear_25 : decode cX11_isNear 25 = .ok (.imul, 1) := by decide +kernel
theorem dX11_isNear_26 : decode cX11_isNear 26 = .ok (.iadd, 1) := by decide +kernel
theorem dX11_isNear_27 : decode cX11_isNear 27 = .ok (.istore_n 2, 1) := by decide +kernel
theorem dX11_isNear_28 : decode cX11_isNear 28 = .ok (.iinc 3 1, 3) := by decide +kernel
theorem dX11_isNear_31 : decode cX11_isNear 31 = .ok (.goto (-27), 3) := by decide +kernel
theorem dX11_isNear_34 : decode cX11_isNear 34 = .ok (.iload_n 2, 1) := by decide +kernel
theorem dX11_isNear_35 : decode cX11_isNear 35 = .ok (.iconst 1, 1) := by decide +kernel
theorem dX11_isNear_36 : decode cX11_isNear 36 = .ok (.if_icmp .ne 7, 3) := by decide +kernel
theorem dX11_isNear_39 : decode cX11_isNear 39 = .ok (.iconst 1, 1) := by decide +kernel
theorem dX11_isNear_40 : decode cX11_isNear 40 = .ok (.goto 4, 3) := by decide +kernel
theorem dX11_isNear_43 : decode cX11_isNear 43 = .ok (.iconst 0, 1) := by decide +kernel
theorem dX11_isNear_44 : decode cX11_isNear 44 = .ok (.ireturn, 1) := by decide +kernel
theorem dX11_measure_0 : decode cX11_measure 0 = .ok (.iconst 0, 1) := by decide +kernel
theorem dX11_measure_1 : decode cX11_measure 1 = .ok (.istore_n 3, 1) := by decide +kernel
theorem dX11_measure_2 : decode cX11_measure 2 = .ok (.iload_n 3, 1) := by decide +kernel
theorem dX11_measure_3 : decode cX11_measure 3 = .ok (.iconst 4, 1) := by decide +kernel
theorem dX11_measure_4 : decode cX11_measure 4 = .ok (.if_icmp .ge 63, 3) := by decide +kernel
theorem dX11_measure_7 : decode cX11_measure 7 = .ok (.iload_n 0, 1) := by decide +kernel
theorem dX11_measure_8 : decode cX11_measure 8 = .ok (.iload_n 3, 1) := by decide +kernel
theorem dX11_measure_9 : decode cX11_measure 9 = .ok (.invokestatic 336, 3) := by decide +kernel
theorem dX11_measure_12 : decode cX11_measure 12 = .ok (.istore 4, 2) := by decide +kernel
theorem dX11_measure_14 : decode cX11_measure 14 = .ok (.aload_n 1, 1) := by decide +kernel
theorem dX11_measure_15 : decode cX11_measure 15 = .ok (.bipush 10, 2) := by decide +kernel
theorem dX11_measure_17 : decode cX11_measure 17 = .ok (.invokevirtual 391, 3) := by decide +kernel
theorem dX11_measure_20 : decode cX11_measure 20 = .ok (.istore 5, 2) := by decide +kernel
theorem dX11_measure_22 : decode cX11_measure 22 = .ok (.iload 5, 2) := by decide +kernel
theorem dX11_measure_24 : decode cX11_measure 24 = .ok (.ifCond .ne 16, 3) := by decide +kernel
theorem dX11_measure_27 : decode cX11_measure 27 = .ok (.iload 4, 2) := by decide +kernel
theorem dX11_measure_29 : decode cX11_measure 29 = .ok (.iconst 1, 1) := by decide +kernel
theorem dX11_measure_30 : decode cX11_measure 30 = .ok (.iadd, 1) := by decide +kernel
theorem dX11_measure_31 : decode cX11_measure 31 = .ok (.iconst 4, 1) := by decide +kernel
theorem dX11_measure_32 : decode cX11_measure 32 = .ok (.invokestatic 393, 3) := by decide +kernel
theorem dX11_measure_35 : decode cX11_measure 35 = .ok (.istore 4, 2) := by decide +kernel
theorem dX11_measure_37 : decode cX11_measure 37 = .ok (.goto 19, 3) := by decide +kernel
theorem dX11_measure_40 : decode cX11_measure 40 = .ok (.iload 5, 2) := by decide +kernel
theorem dX11_measure_42 : decode cX11_measure 42 = .ok (.iconst 1, 1) := by decide +kernel
theorem dX11_measure_43 : decode cX11_measure 43 = .ok (.if_icmp .ne 13, 3) := by decide +kernel
theorem dX11_measure_46 : decode cX11_measure 46 = .ok (.iload 4, 2) := by decide +kernel
theorem dX11_measure_48 : decode cX11_measure 48 = .ok (.iconst 1, 1) := by decide +kernel
theorem dX11_measure_49 : decode cX11_measure 49 = .ok (.isub, 1) := by decide +kernel
theorem dX11_measure_50 : decode cX11_measure 50 = .ok (.iconst 0, 1) := by decide +kernel
theorem dX11_measure_51 : decode cX11_measure 51 = .ok (.invokestatic 398, 3) := by decide +kernel
theorem dX11_measure_54 : decode cX11_measure 54 = .ok (.istore 4, 2) := by decide +kernel
theorem dX11_measure_56 : decode cX11_measure 56 = .ok (.aload_n 2, 1) := by decide +kernel
theorem dX11_measure_57 : decode cX11_measure 57 = .ok (.iload_n 3, 1) := by decide +kernel
theorem dX11_measure_58 : decode cX11_measure 58 = .ok (.iload 4, 2) := by decide +kernel
theorem dX11_measure_60 : decode cX11_measure 60 = .ok (.iastore, 1) := by decide +kernel
theorem dX11_measure_61 : decode cX11_measure 61 = .ok (.iinc 3 1, 3) := by decide +kernel
theorem dX11_measure_64 : decode cX11_measure 64 = .ok (.goto (-62), 3) := by decide +kernel
theorem dX11_measure_67 : decode cX11_measure 67 = .ok (.return_, 1) := by decide +kernel
theorem dX11_cutUp_0 : decode cX11_cutUp 0 = .ok (.iload_n 1, 1) := by decide +kernel
theorem dX11_cutUp_1 : decode cX11_cutUp 1 = .ok (.ifCond .le 13, 3) := by decide +kernel
theorem dX11_cutUp_4 : decode cX11_cutUp 4 = .ok (.iload_n 0, 1) := by decide +kernel
theorem dX11_cutUp_5 : decode cX11_cutUp 5 = .ok (.iload_n 1, 1) := by decide +kernel
theorem dX11_cutUp_6 : decode cX11_cutUp 6 = .ok (.iadd, 1) := by decide +kernel
theorem dX11_cutUp_7 : decode cX11_cutUp 7 = .ok (.iconst 1, 1) := by decide +kernel
theorem dX11_cutUp_8 : decode cX11_cutUp 8 = .ok (.isub, 1) := by decide +kernel
theorem dX11_cutUp_9 : decode cX11_cutUp 9 = .ok (.iload_n 1, 1) := by decide +kernel
theorem dX11_cutUp_10 : decode cX11_cutUp 10 = .ok (.idiv, 1) := by decide +kernel
theorem dX11_cutUp_11 : decode cX11_cutUp 11 = .ok (.goto 4, 3) := by decide +kernel
theorem dX11_cutUp_14 : decode cX11_cutUp 14 = .ok (.iconst 0, 1) := by decide +kernel
theorem dX11_cutUp_15 : decode cX11_cutUp 15 = .ok (.ireturn, 1) := by decide +kernel
theorem dX11_hasBit_0 : decode cX11_hasBit 0 = .ok (.iload_n 0, 1) := by decide +kernel
theorem dX11_hasBit_1 : decode cX11_hasBit 1 = .ok (.iload_n 1, 1) := by decide +kernel
theorem dX11_hasBit_2 : decode cX11_hasBit 2 = .ok (.ishr, 1) := by decide +kernel
theorem dX11_hasBit_3 : decode cX11_hasBit 3 = .ok (.iconst 1, 1) := by decide +kernel
theorem dX11_hasBit_4 : decode cX11_hasBit 4 = .ok (.iand, 1) := by decide +kernel
theorem dX11_hasBit_5 : decode cX11_hasBit 5 = .ok (.ifCond .eq 7, 3) := by decide +kernel
theorem dX11_hasBit_8 : decode cX11_hasBit 8 = .ok (.iconst 1, 1) := by decide +kernel
theorem dX11_hasBit_9 : decode cX11_hasBit 9 = .ok (.goto 4, 3) := by decide +kernel
theorem dX11_hasBit_12 : decode cX11_hasBit 12 = .ok (.iconst 0, 1) := by decide +kernel
theorem dX11_hasBit_13 : decode cX11_hasBit 13 = .ok (.ireturn, 1) := by decide +kernel
theorem dX11_placeOf_0 : decode cX11_placeOf 0 = .ok (.iconst 0, 1) := by decide +kernel
theorem dX11_placeOf_1 : decode cX11_placeOf 1 = .ok (.istore_n 3, 1) := by decide +kernel
theorem dX11_placeOf_2 : decode cX11_placeOf 2 = .ok (.iload_n 3, 1) := by decide +kernel
theorem dX11_placeOf_3 : decode cX11_placeOf 3 = .ok (.iload_n 2, 1) := by decide +kernel
theorem dX11_placeOf_4 : decode cX11_placeOf 4 = .ok (.if_icmp .ge 24, 3) := by decide +kernel
theorem dX11_placeOf_7 : decode cX11_placeOf 7 = .ok (.iload_n 3, 1) := by decide +kernel
theorem dX11_placeOf_8 : decode cX11_placeOf 8 = .ok (.aload_n 1, 1) := by decide +kernel
theorem dX11_placeOf_9 : decode cX11_placeOf 9 = .ok (.arraylength, 1) := by decide +kernel
theorem dX11_placeOf_10 : decode cX11_placeOf 10 = .ok (.if_icmp .ge 18, 3) := by decide +kernel
theorem dX11_placeOf_13 : decode cX11_placeOf 13 = .ok (.aload_n 1, 1) := by decide +kernel
theorem dX11_placeOf_14 : decode cX11_placeOf 14 = .ok (.iload_n 3, 1) := by decide +kernel
theorem dX11_placeOf_15 : decode cX11_placeOf 15 = .ok (.iaload, 1) := by decide +kernel
theorem dX11_placeOf_16 : decode cX11_placeOf 16 = .ok (.iload_n 0, 1) := by decide +kernel
theorem dX11_placeOf_17 : decode cX11_placeOf 17 = .ok (.if_icmp .ne 5, 3) := by decide +kernel
theorem dX11_placeOf_20 : decode cX11_placeOf 20 = .ok (.iload_n 3, 1) := by decide +kernel
theorem dX11_placeOf_21 : decode cX11_placeOf 21 = .ok (.ireturn, 1) := by decide +kernel
theorem dX11_placeOf_22 : decode cX11_placeOf 22 = .ok (.iinc 3 1, 3) := by decide +kernel
theorem dX11_placeOf_25 : decode cX11_placeOf 25 = .ok (.goto (-23), 3) := by decide +kernel
theorem dX11_placeOf_28 : decode cX11_placeOf 28 = .ok (.iconst (-1), 1) := by decide +kernel
theorem dX11_placeOf_29 : decode cX11_placeOf 29 = .ok (.ireturn, 1) := by decide +kernel
