def yJ6_bitCount_0f7a4 : MethodName := ⟨"java/lang/Integer", "bitCount", "(I)I"⟩
abbrev cJ6_bitCount_0f7a4 : ByteArray := prog_19_method_49_code
def yJ7_fill_d0a16 : MethodName := ⟨"java/util/Arrays", "fill", "([JJ)V"⟩
abbrev cJ7_fill_d0a16 : ByteArray := prog_29_method_101_code
def yJ7_fill_53178 : MethodName := ⟨"java/util/Arrays", "fill", "([II)V"⟩
abbrev cJ7_fill_53178 : ByteArray := prog_29_method_103_code
theorem dX7_init_0 : decode cX7_init 0 = .ok (.aload_n 0, 1) := by decide +kernel
theorem dX7_init_1 : decode cX7_init 1 = .ok (.invokespecial 3, 3) := by decide +kernel
theorem dX7_init_4 : decode cX7_init 4 = .ok (.aload_n 0, 1) := by decide +kernel
theorem dX7_init_5 : decode cX7_init 5 = .ok (.sipush 940, 3) := by decide +kernel
theorem dX7_init_8 : decode cX7_init 8 = .ok (.newarray .int, 2) := by decide +kernel
theorem dX7_init_10 : decode cX7_init 10 = .ok (.putfield 9, 3) := by decide +kernel
theorem dX7_init_13 : decode cX7_init 13 = .ok (.return_, 1) := by decide +kernel
theorem dX7_put_0 : decode cX7_put 0 = .ok (.bipush 24, 2) := by decide +kernel
theorem dX7_put_2 : decode cX7_put 2 = .ok (.istore_n 2, 1) := by decide +kernel
theorem dX7_put_3 : decode cX7_put 3 = .ok (.iload_n 2, 1) := by decide +kernel
theorem dX7_put_4 : decode cX7_put 4 = .ok (.ifCond .lt 47, 3) := by decide +kernel
theorem dX7_put_7 : decode cX7_put 7 = .ok (.aload_n 0, 1) := by decide +kernel
theorem dX7_put_8 : decode cX7_put 8 = .ok (.getfield 15, 3) := by decide +kernel
theorem dX7_put_11 : decode cX7_put 11 = .ok (.aload_n 0, 1) := by decide +kernel
theorem dX7_put_12 : decode cX7_put 12 = .ok (.getfield 9, 3) := by decide +kernel
theorem dX7_put_15 : decode cX7_put 15 = .ok (.arraylength, 1) := by decide +kernel
theorem dX7_put_16 : decode cX7_put 16 = .ok (.if_icmp .ge 35, 3) := by decide +kernel
theorem dX7_put_19 : decode cX7_put 19 = .ok (.aload_n 0, 1) := by decide +kernel
theorem dX7_put_20 : decode cX7_put 20 = .ok (.getfield 9, 3) := by decide +kernel
theorem dX7_put_23 : decode cX7_put 23 = .ok (.aload_n 0, 1) := by decide +kernel
theorem dX7_put_24 : decode cX7_put 24 = .ok (.getfield 15, 3) := by decide +kernel
theorem dX7_put_27 : decode cX7_put 27 = .ok (.iload_n 1, 1) := by decide +kernel
theorem dX7_put_28 : decode cX7_put 28 = .ok (.iload_n 2, 1) := by decide +kernel
theorem dX7_put_29 : decode cX7_put 29 = .ok (.iushr, 1) := by decide +kernel
theorem dX7_put_30 : decode cX7_put 30 = .ok (.sipush 255, 3) := by decide +kernel
theorem dX7_put_33 : decode cX7_put 33 = .ok (.iand, 1) := by decide +kernel
theorem dX7_put_34 : decode cX7_put 34 = .ok (.iastore, 1) := by decide +kernel
theorem dX7_put_35 : decode cX7_put 35 = .ok (.aload_n 0, 1) := by decide +kernel
theorem dX7_put_36 : decode cX7_put 36 = .ok (.dup, 1) := by decide +kernel
theorem dX7_put_37 : decode cX7_put 37 = .ok (.getfield 15, 3) := by decide +kernel
theorem dX7_put_40 : decode cX7_put 40 = .ok (.iconst 1, 1) := by decide +kernel
theorem dX7_put_41 : decode cX7_put 41 = .ok (.iadd, 1) := by decide +kernel
theorem dX7_put_42 : decode cX7_put 42 = .ok (.putfield 15, 3) := by decide +kernel
theorem dX7_put_45 : decode cX7_put 45 = .ok (.iinc 2 (-8), 3) := by decide +kernel
theorem dX7_put_48 : decode cX7_put 48 = .ok (.goto (-45), 3) := by decide +kernel
theorem dX7_put_51 : decode cX7_put 51 = .ok (.return_, 1) := by decide +kernel
theorem dX1_init_0 : decode cX1_init 0 = .ok (.aload_n 0, 1) := by decide +kernel
theorem dX1_init_1 : decode cX1_init 1 = .ok (.invokespecial 1, 3) := by decide +kernel
theorem dX1_init_4 : decode cX1_init 4 = .ok (.return_, 1) := by decide +kernel
theorem dX1_draw_0 : decode cX1_draw 0 = .ok (.aload_n 0, 1) := by decide +kernel
theorem dX1_draw_1 : decode cX1_draw 1 = .ok (.aload_n 0, 1) := by decide +kernel
theorem dX1_draw_2 : decode cX1_draw 2 = .ok (.getfield 7, 3) := by decide +kernel
theorem dX1_draw_5 : decode cX1_draw 5 = .ok (.ldc 13, 2) := by decide +kernel
theorem dX1_draw_7 : decode cX1_draw 7 = .ok (.imul, 1) := by decide +kernel
theorem dX1_draw_8 : decode cX1_draw 8 = .ok (.sipush 12345, 3) := by decide +kernel
theorem dX1_draw_11 : decode cX1_draw 11 = .ok (.iadd, 1) := by decide +kernel
theorem dX1_draw_12 : decode cX1_draw 12 = .ok (.putfield 7, 3) := by decide +kernel
theorem dX1_draw_15 : decode cX1_draw 15 = .ok (.iload_n 1, 1) := by decide +kernel
theorem dX1_draw_16 : decode cX1_draw 16 = .ok (.ifCond .le 15, 3) := by decide +kernel
theorem dX1_draw_19 : decode cX1_draw 19 = .ok (.aload_n 0, 1) := by decide +kernel
theorem dX1_draw_20 : decode cX1_draw 20 = .ok (.getfield 7, 3) := by decide +kernel
theorem dX1_draw_23 : decode cX1_draw 23 = .ok (.bipush 8, 2) := by decide +kernel
theorem dX1_draw_25 : decode cX1_draw 25 = .ok (.iushr, 1) := by decide +kernel
theorem dX1_draw_26 : decode cX1_draw 26 = .ok (.iload_n 1, 1) := by decide +kernel
theorem dX1_draw_27 : decode cX1_draw 27 = .ok (.irem, 1) := by decide +kernel
theorem dX1_draw_28 : decode cX1_draw 28 = .ok (.goto 4, 3) := by decide +kernel
theorem dX1_draw_31 : decode cX1_draw 31 = .ok (.iconst 0, 1) := by decide +kernel
theorem dX1_draw_32 : decode cX1_draw 32 = .ok (.ireturn, 1) := by decide +kernel
theorem dX5_init_0 : decode cX5_init 0 = .ok (.aload_n 0, 1) := by decide +kernel
theorem dX5_init_1 : decode cX5_init 1 = .ok (.invokespecial 3, 3) := by decide +kernel
theorem dX5_init_4 : decode cX5_init 4 = .ok (.aload_n 0, 1) := by decide +kernel
theorem dX5_init_5 : decode cX5_init 5 = .ok (.bipush 26, 2) := by decide +kernel
theorem dX5_init_7 : decode cX5_init 7 = .ok (.newarray .int, 2) := by decide +kernel
theorem dX5_init_9 : decode cX5_init 9 = .ok (.putfield 9, 3) := by decide +kernel
theorem dX5_init_12 : decode cX5_init 12 = .ok (.aload_n 0, 1) := by decide +kernel
theorem dX5_init_13 : decode cX5_init 13 = .ok (.aload_n 1, 1) := by decide +kernel
theorem dX5_init_14 : decode cX5_init 14 = .ok (.putfield 15, 3) := by decide +kernel
theorem dX5_init_17 : decode cX5_init 17 = .ok (.iconst 0, 1) := by decide +kernel
theorem dX5_init_18 : decode cX5_init 18 = .ok (.istore_n 2, 1) := by decide +kernel
theorem dX5_init_19 : decode cX5_init 19 = .ok (.iconst 0, 1) := by decide +kernel
theorem dX5_init_20 : decode cX5_init 20 = .ok (.istore_n 3, 1) := by decide +kernel
theorem dX5_init_21 : decode cX5_init 21 = .ok (.iconst 0, 1) := by decide +kernel
theorem dX5_init_22 : decode cX5_init 22 = .ok (.istore 4, 2) := by decide +kernel
theorem dX5_init_24 : decode cX5_init 24 = .ok (.iload 4, 2) := by decide +kernel
theorem dX5_init_26 : decode cX5_init 26 = .ok (.ldc 19, 2) := by decide +kernel
theorem dX5_init_28 : decode cX5_init 28 = .ok (.invokevirtual 21, 3) := by decide +kernel
theorem dX5_init_31 : decode cX5_init 31 = .ok (.if_icmp .ge 59, 3) := by decide +kernel
theorem dX5_init_34 : decode cX5_init 34 = .ok (.ldc 19, 2) := by decide +kernel
theorem dX5_init_36 : decode cX5_init 36 = .ok (.iload 4, 2) := by decide +kernel
theorem dX5_init_38 : decode cX5_init 38 = .ok (.invokevirtual 27, 3) := by decide +kernel
theorem dX5_init_41 : decode cX5_init 41 = .ok (.istore 5, 2) := by decide +kernel
theorem dX5_init_43 : decode cX5_init 43 = .ok (.iload 5, 2) := by decide +kernel
theorem dX5_init_45 : decode cX5_init 45 = .ok (.bipush 32, 2) := by decide +kernel
theorem dX5_init_47 : decode cX5_init 47 = .ok (.if_icmp .eq 16, 3) := by decide +kernel
theorem dX5_init_50 : decode cX5_init 50 = .ok (.iload_n 3, 1) := by decide +kernel
theorem dX5_init_51 : decode cX5_init 51 = .ok (.iconst 5, 1) := by decide +kernel
theorem dX5_init_52 : decode cX5_init 52 = .ok (.ishl, 1) := by decide +kernel
theorem dX5_init_53 : decode cX5_init 53 = .ok (.iload 5, 2) := by decide +kernel
theorem dX5_init_55 : decode cX5_init 55 = .ok (.bipush 96, 2) := by decide +kernel
theorem dX5_init_57 : decode cX5_init 57 = .ok (.isub, 1) := by decide +kernel
theorem dX5_init_58 : decode cX5_init 58 = .ok (.ior, 1) := by decide +kernel
theorem dX5_init_59 : decode cX5_init 59 = .ok (.istore_n 3, 1) := by decide +kernel
theorem dX5_init_60 : decode cX5_init 60 = .ok (.goto 24, 3) := by decide +kernel
theorem dX5_init_63 : decode cX5_init 63 = .ok (.iload_n 2, 1) := by decide +kernel
theorem dX5_init_64 : decode cX5_init 64 = .ok (.aload_n 0, 1) := by decide +kernel
theorem dX5_init_65 : decode cX5_init 65 = .ok (.getfield 9, 3) := by decide +kernel
theorem dX5_init_68 : decode cX5_init 68 = .ok (.arraylength, 1) := by decide +kernel
theorem dX5_init_69 : decode cX5_init 69 = .ok (.if_icmp .ge 15, 3) := by decide +kernel
theorem dX5_init_72 : decode cX5_init 72 = .ok (.aload_n 0, 1) := by decide +kernel
theorem dX5_init_73 : decode cX5_init 73 = .ok (.getfield 9, 3) := by decide +kernel
theorem dX5_init_76 : decode cX5_init 76 = .ok (.iload_n 2, 1) := by decide +kernel
theorem dX5_init_77 : decode cX5_init 77 = .ok (.iload_n 3, 1) := by decide +kernel
theorem dX5_init_78 : decode cX5_init 78 = .ok (.iastore, 1) := by decide +kernel
theorem dX5_init_79 : decode cX5_init 79 = .ok (.iinc 2 1, 3) := by decide +kernel
theorem dX5_init_82 : decode cX5_init 82 = .ok (.iconst 0, 1) := by decide +kernel
theorem dX5_init_83 : decode cX5_init 83 = .ok (.istore_n 3, 1) := by decide +kernel
theorem dX5_init_84 : decode cX5_init 84 = .ok (.iinc 4 1, 3) := by decide +kernel
theorem dX5_init_87 : decode cX5_init 87 = .ok (.goto (-63), 3) := by decide +kernel
theorem dX5_init_90 : decode cX5_init 90 = .ok (.return_, 1) := by decide +kernel
theorem dX5_open_0 : decode cX5_open 0 = .ok (.aload_n 0, 1) := by decide +kernel
theorem dX5_open_1 : decode cX5_open 1 = .ok (.aload_n 0, 1) := by decide +kernel
theorem dX5_open_2 : decode cX5_open 2 = .ok (.getfield 15, 3) := by decide +kernel
theorem dX5_open_5 : decode cX5_open 5 = .ok (.getfield 31, 3) := by decide +kernel
theorem dX5_open_8 : decode cX5_open 8 = .ok (.iload_n 1, 1) := by decide +kernel
theorem dX5_open_9 : decode cX5_open 9 = .ok (.invokestatic 36, 3) := by decide +kernel
theorem dX5_open_12 : decode cX5_open 12 = .ok (.putfield 42, 3) := by decide +kernel
theorem dX5_open_15 : decode cX5_open 15 = .ok (.aload_n 0, 1) := by decide +kernel
theorem dX5_open_16 : decode cX5_open 16 = .ok (.iconst 0, 1) := by decide +kernel
theorem dX5_open_17 : decode cX5_open 17 = .ok (.putfield 45, 3) := by decide +kernel
theorem dX5_open_20 : decode cX5_open 20 = .ok (.aload_n 0, 1) := by decide +kernel
theorem dX5_open_21 : decode cX5_open 21 = .ok (.iconst 0, 1) := by decide +kernel
theorem dX5_open_22 : decode cX5_open 22 = .ok (.putfield 48, 3) := by decide +kernel
theorem dX5_open_25 : decode cX5_open 25 = .ok (.aload_n 0, 1) := by decide +kernel
theorem dX5_open_26 : decode cX5_open 26 = .ok (.iconst 0, 1) := by decide +kernel
theorem dX5_open_27 : decode cX5_open 27 = .ok (.putfield 51, 3) := by decide +kernel
theorem dX5_open_30 : decode cX5_open 30 = .ok (.aload_n 0, 1) := by decide +kernel
theorem dX5_open_31 : decode cX5_open 31 = .ok (.iconst 0, 1) := by decide +kernel
theorem dX5_open_32 : decode cX5_open 32 = .ok (.putfield 54, 3) := by decide +kernel
theorem dX5_open_35 : decode cX5_open 35 = .ok (.aload_n 0, 1) := by decide +kernel
theorem dX5_open_36 : decode cX5_open 36 = .ok (.iconst 0, 1) := by decide +kernel
theorem dX5_open_37 : decode cX5_open 37 = .ok (.putfield 57, 3) := by decide +kernel
theorem dX5_open_40 : decode cX5_open 40 = .ok (.return_, 1) := by decide +kernel
theorem dX5_step_0 : decode cX5_step 0 = .ok (.aload_n 0, 1) := by decide +kernel
theorem dX5_step_1 : decode cX5_step 1 = .ok (.getfield 45, 3) := by decide +kernel
theorem dX5_step_4 : decode cX5_step 4 = .ok (.aload_n 0, 1) := by decide +kernel
theorem dX5_step_5 : decode cX5_step 5 = .ok (.getfield 42, 3) := by decide +kernel
theorem dX5_step_8 : decode cX5_step 8 = .ok (.if_icmp .ge 50, 3) := by decide +kernel
theorem dX5_step_11 : decode cX5_step 11 = .ok (.aload_n 0, 1) := by decide +kernel
theorem dX5_step_12 : decode cX5_step 12 = .ok (.getfield 15, 3) := by decide +kernel
theorem dX5_step_15 : decode cX5_step 15 = .ok (.getfield 60, 3) := by decide +kernel
theorem dX5_step_18 : decode cX5_step 18 = .ok (.aload_n 0, 1) := by decide +kernel
theorem dX5_step_19 : decode cX5_step 19 = .ok (.getfield 45, 3) := by decide +kernel
theorem dX5_step_22 : decode cX5_step 22 = .ok (.iaload, 1) := by decide +kernel
theorem dX5_step_23 : decode cX5_step 23 = .ok (.bipush 32, 2) := by decide +kernel
theorem dX5_step_25 : decode cX5_step 25 = .ok (.if_icmp .eq 20, 3) := by decide +kernel
theorem dX5_step_28 : decode cX5_step 28 = .ok (.aload_n 0, 1) := by decide +kernel
theorem dX5_step_29 : decode cX5_step 29 = .ok (.getfield 15, 3) := by decide +kernel
theorem dX5_step_32 : decode cX5_step 32 = .ok (.getfield 60, 3) := by decide +kernel
theorem dX5_step_35 : decode cX5_step 35 = .ok (.aload_n 0, 1) := by decide +kernel
theorem dX5_step_36 : decode cX5_step 36 = .ok (.getfield 45, 3) := by decide +kernel
theorem dX5_step_39 : decode cX5_step 39 = .ok (.iaload, 1) := by decide +kernel
theorem dX5_step_40 : decode cX5_step 40 = .ok (.bipush 10, 2) := by decide +kernel
theorem dX5_step_42 : decode cX5_step 42 = .ok (.if_icmp .ne 16, 3) := by decide +kernel
theorem dX5_step_45 : decode cX5_step 45 = .ok (.aload_n 0, 1) := by decide +kernel
theorem dX5_step_46 : decode cX5_step 46 = .ok (.dup, 1) := by decide +kernel
theorem dX5_step_47 : decode cX5_step 47 = .ok (.getfield 45, 3) := by decide +kernel
theorem dX5_step_50 : decode cX5_step 50 = .ok (.iconst 1, 1) := by decide +kernel
theorem dX5_step_51 : decode cX5_step 51 = .ok (.iadd, 1) := by decide +kernel
theorem dX5_step_52 : decode cX5_step 52 = .ok (.putfield 45, 3) := by decide +kernel
theorem dX5_step_55 : decode cX5_step 55 = .ok (.goto (-55), 3) := by decide +kernel
theorem dX5_step_58 : decode cX5_step 58 = .ok (.aload_n 0, 1) := by decide +kernel
theorem dX5_step_59 : decode cX5_step 59 = .ok (.iconst 0, 1) := by decide +kernel
theorem dX5_step_60 : decode cX5_step 60 = .ok (.putfield 54, 3) := by decide +kernel
theorem dX5_step_63 : decode cX5_step 63 = .ok (.aload_n 0, 1) := by decide +kernel
theorem dX5_step_64 : decode cX5_step 64 = .ok (.getfield 45, 3) := by decide +kernel
theorem dX5_step_67 : decode cX5_step 67 = .ok (.aload_n 0, 1) := by decide +kernel
theorem dX5_step_68 : decode cX5_step 68 = .ok (.getfield 42, 3) := by decide +kernel
theorem dX5_step_71 : decode cX5_step 71 = .ok (.if_icmp .lt 35, 3) := by decide +kernel
theorem dX5_step_74 : decode cX5_step 74 = .ok (.aload_n 0, 1) := by decide +kernel
theorem dX5_step_75 : decode cX5_step 75 = .ok (.aload_n 0, 1) := by decide +kernel
theorem dX5_step_76 : decode cX5_step 76 = .ok (.getfield 42, 3) := by decide +kernel
theorem dX5_step_79 : decode cX5_step 79 = .ok (.putfield 48, 3) := by decide +kernel
theorem dX5_step_82 : decode cX5_step 82 = .ok (.aload_n 0, 1) := by decide +kernel
theorem dX5_step_83 : decode cX5_step 83 = .ok (.aload_n 0, 1) := by decide +kernel
theorem dX5_step_84 : decode cX5_step 84 = .ok (.getfield 15, 3) := by decide +kernel
theorem dX5_step_87 : decode cX5_step 87 = .ok (.getfield 31, 3) := by decide +kernel
theorem dX5_step_90 : decode cX5_step 90 = .ok (.aload_n 0, 1) := by decide +kernel
theorem dX5_step_91 : decode cX5_step 91 = .ok (.getfield 42, 3) := by decide +kernel
theorem dX5_step_94 : decode cX5_step 94 = .ok (.if_icmp .le 7, 3) := by decide +kernel
theorem dX5_step_97 : decode cX5_step 97 = .ok (.iconst 1, 1) := by decide +kernel
theorem dX5_step_98 : decode cX5_step 98 = .ok (.goto 4, 3) := by decide +kernel
theorem dX5_step_101 : decode cX5_step 101 = .ok (.iconst 0, 1) := by decide +kernel
theorem dX5_step_102 : decode cX5_step 102 = .ok (.putfield 51, 3) := by decide +kernel
theorem dX5_step_105 : decode cX5_step 105 = .ok (.return_, 1) := by decide +kernel
theorem dX5_step_106 : decode cX5_step 106 = .ok (.aload_n 0, 1) := by decide +kernel
theorem dX5_step_107 : decode cX5_step 107 = .ok (.aload_n 0, 1) := by decide +kernel
theorem dX5_step_108 : decode cX5_step 108 = .ok (.getfield 45, 3) := by decide +kernel
theorem dX5_step_111 : decode cX5_step 111 = .ok (.putfield 48, 3) := by decide +kernel
theorem dX5_step_114 : decode cX5_step 114 = .ok (.aload_n 0, 1) := by decide +kernel
theorem dX5_step_115 : decode cX5_step 115 = .ok (.invokevirtual 63, 3) := by decide +kernel
theorem dX5_step_118 : decode cX5_step 118 = .ok (.ifCond .eq 4, 3) := by decide +kernel
theorem dX5_step_121 : decode cX5_step 121 = .ok (.return_, 1) := by decide +kernel
theorem dX5_step_122 : decode cX5_step 122 = .ok (.aload_n 0, 1) := by decide +kernel
theorem dX5_step_123 : decode cX5_step 123 = .ok (.aload_n 0, 1) := by decide +kernel
theorem dX5_step_124 : decode cX5_step 124 = .ok (.getfield 15, 3) := by decide +kernel
theorem dX5_step_127 : decode cX5_step 127 = .ok (.getfield 60, 3) := by decide +kernel
theorem dX5_step_130 : decode cX5_step 130 = .ok (.aload_n 0, 1) := by decide +kernel
theorem dX5_step_131 : decode cX5_step 131 = .ok (.getfield 45, 3) := by decide +kernel
theorem dX5_step_134 : decode cX5_step 134 = .ok (.iaload, 1) := by decide +kernel
theorem dX5_step_135 : decode cX5_step 135 = .ok (.putfield 54, 3) := by decide +kernel
theorem dX5_step_138 : decode cX5_step 138 = .ok (.aload_n 0, 1) := by decide +kernel
theorem dX5_step_139 : decode cX5_step 139 = .ok (.dup, 1) := by decide +kernel
theorem dX5_step_140 : decode cX5_step 140 = .ok (.getfield 45, 3) := by decide +kernel
theorem dX5_step_143 : decode cX5_step 143 = .ok (.iconst 1, 1) := by decide +kernel
theorem dX5_step_144 : decode cX5_step 144 = .ok (.iadd, 1) := by decide +kernel
theorem dX5_step_145 : decode cX5_step 145 = .ok (.putfield 45, 3) := by decide +kernel
theorem dX5_step_148 : decode cX5_step 148 = .ok (.aload_n 0, 1) := by decide +kernel
theorem dX5_step_149 : decode cX5_step 149 = .ok (.aload_n 0, 1) := by decide +kernel
theorem dX5_step_150 : decode cX5_step 150 = .ok (.getfield 54, 3) := by decide +kernel
theorem dX5_step_153 : decode cX5_step 153 = .ok (.bipush 59, 2) := by decide +kernel
theorem dX5_step_155 : decode cX5_step 155 = .ok (.if_icmp .eq 39, 3) := by decide +kernel
theorem dX5_step_158 : decode cX5_step 158 = .ok (.aload_n 0, 1) := by decide +kernel
theorem dX5_step_159 : decode cX5_step 159 = .ok (.getfield 54, 3) := by decide +kernel
theorem dX5_step_162 : decode cX5_step 162 = .ok (.bipush 40, 2) := by decide +kernel
theorem dX5_step_164 : decode cX5_step 164 = .ok (.if_icmp .eq 30, 3) := by decide +kernel
theorem dX5_step_167 : decode cX5_step 167 = .ok (.aload_n 0, 1) := by decide +kernel
theorem dX5_step_168 : decode cX5_step 168 = .ok (.getfield 54, 3) := by decide +kernel
theorem dX5_step_171 : decode cX5_step 171 = .ok (.bipush 41, 2) := by decide +kernel
theorem dX5_step_173 : decode cX5_step 173 = .ok (.if_icmp .eq 21, 3) := by decide +kernel
theorem dX5_step_176 : decode cX5_step 176 = .ok (.aload_n 0, 1) := by decide +kernel
theorem dX5_step_177 : decode cX5_step 177 = .ok (.getfield 54, 3) := by decide +kernel
theorem dX5_step_180 : decode cX5_step 180 = .ok (.bipush 60, 2) := by decide +kernel
theorem dX5_step_182 : decode cX5_step 182 = .ok (.if_icmp .lt 16, 3) := by decide +kernel
theorem dX5_step_185 : decode cX5_step 185 = .ok (.aload_n 0, 1) := by decide +kernel
theorem dX5_step_186 : decode cX5_step 186 = .ok (.getfield 54, 3) := by decide +kernel
theorem dX5_step_189 : decode cX5_step 189 = .ok (.bipush 62, 2) := by decide +kernel
theorem dX5_step_191 : decode cX5_step 191 = .ok (.if_icmp .gt 7, 3) := by decide +kernel
theorem dX5_step_194 : decode cX5_step 194 = .ok (.iconst 4, 1) := by decide +kernel
theorem dX5_step_195 : decode cX5_step 195 = .ok (.goto 4, 3) := by decide +kernel
theorem dX5_step_198 : decode cX5_step 198 = .ok (.iconst 1, 1) := by decide +kernel
theorem dX5_step_199 : decode cX5_step 199 = .ok (.putfield 51, 3) := by decide +kernel
theorem dX5_step_202 : decode cX5_step 202 = .ok (.return_, 1) := by decide +kernel
theorem dX5_takeRun_0 : decode cX5_takeRun 0 = .ok (.iconst 0, 1) := by decide +kernel
theorem dX5_takeRun_1 : decode cX5_takeRun 1 = .ok (.istore_n 1, 1) := by decide +kernel
theorem dX5_takeRun_2 : decode cX5_takeRun 2 = .ok (.iconst 0, 1) := by decide +kernel
theorem dX5_takeRun_3 : decode cX5_takeRun 3 = .ok (.istore_n 2, 1) := by decide +kernel
theorem dX5_takeRun_4 : decode cX5_takeRun 4 = .ok (.iconst 0, 1) := by decide +kernel
theorem dX5_takeRun_5 : decode cX5_takeRun 5 = .ok (.istore_n 3, 1) := by decide +kernel
theorem dX5_takeRun_6 : decode cX5_takeRun 6 = .ok (.iconst 0, 1) := by decide +kernel
theorem dX5_takeRun_7 : decode cX5_takeRun 7 = .ok (.istore 4, 2) := by decide +kernel
theorem dX5_takeRun_9 : decode cX5_takeRun 9 = .ok (.aload_n 0, 1) := by decide +kernel
theorem dX5_takeRun_10 : decode cX5_takeRun 10 = .ok (.getfield 45, 3) := by decide +kernel
theorem dX5_takeRun_13 : decode cX5_takeRun 13 = .ok (.aload_n 0, 1) := by decide +kernel
theorem dX5_takeRun_14 : decode cX5_takeRun 14 = .ok (.getfield 15, 3) := by decide +kernel
theorem dX5_takeRun_17 : decode cX5_takeRun 17 = .ok (.getfield 31, 3) := by decide +kernel
theorem dX5_takeRun_20 : decode cX5_takeRun 20 = .ok (.if_icmp .ge 90, 3) := by decide +kernel
theorem dX5_takeRun_23 : decode cX5_takeRun 23 = .ok (.aload_n 0, 1) := by decide +kernel
theorem dX5_takeRun_24 : decode cX5_takeRun 24 = .ok (.getfield 15, 3) := by decide +kernel
theorem dX5_takeRun_27 : decode cX5_takeRun 27 = .ok (.getfield 60, 3) := by decide +kernel
theorem dX5_takeRun_30 : decode cX5_takeRun 30 = .ok (.aload_n 0, 1) := by decide +kernel
theorem dX5_takeRun_31 : decode cX5_takeRun 31 = .ok (.getfield 45, 3) := by decide +kernel
theorem dX5_takeRun_34 : decode cX5_takeRun 34 = .ok (.iaload, 1) := by decide +kernel
theorem dX5_takeRun_35 : decode cX5_takeRun 35 = .ok (.istore 5, 2) := by decide +kernel
theorem dX5_takeRun_37 : decode cX5_takeRun 37 = .ok (.iload 5, 2) := by decide +kernel
theorem dX5_takeRun_39 : decode cX5_takeRun 39 = .ok (.bipush 97, 2) := by decide +kernel
theorem dX5_takeRun_41 : decode cX5_takeRun 41 = .ok (.if_icmp .lt 26, 3) := by decide +kernel
theorem dX5_takeRun_44 : decode cX5_takeRun 44 = .ok (.iload 5, 2) := by decide +kernel
theorem dX5_takeRun_46 : decode cX5_takeRun 46 = .ok (.bipush 122, 2) := by decide +kernel
theorem dX5_takeRun_48 : decode cX5_takeRun 48 = .ok (.if_icmp .gt 19, 3) := by decide +kernel
theorem dX5_takeRun_51 : decode cX5_takeRun 51 = .ok (.iinc 1 1, 3) := by decide +kernel
theorem dX5_takeRun_54 : decode cX5_takeRun 54 = .ok (.iload_n 3, 1) := by decide +kernel
theorem dX5_takeRun_55 : decode cX5_takeRun 55 = .ok (.iconst 5, 1) := by decide +kernel
theorem dX5_takeRun_56 : decode cX5_takeRun 56 = .ok (.ishl, 1) := by decide +kernel
theorem dX5_takeRun_57 : decode cX5_takeRun 57 = .ok (.iload 5, 2) := by decide +kernel
theorem dX5_takeRun_59 : decode cX5_takeRun 59 = .ok (.bipush 96, 2) := by decide +kernel
theorem dX5_takeRun_61 : decode cX5_takeRun 61 = .ok (.isub, 1) := by decide +kernel
theorem dX5_takeRun_62 : decode cX5_takeRun 62 = .ok (.ior, 1) := by decide +kernel
theorem dX5_takeRun_63 : decode cX5_takeRun 63 = .ok (.istore_n 3, 1) := by decide +kernel
theorem dX5_takeRun_64 : decode cX5_takeRun 64 = .ok (.goto 33, 3) := by decide +kernel
theorem dX5_takeRun_67 : decode cX5_takeRun 67 = .ok (.iload 5, 2) := by decide +kernel
theorem dX5_takeRun_69 : decode cX5_takeRun 69 = .ok (.bipush 48, 2) := by decide +kernel
theorem dX5_takeRun_71 : decode cX5_takeRun 71 = .ok (.if_icmp .lt 39, 3) := by decide +kernel
theorem dX5_takeRun_74 : decode cX5_takeRun 74 = .ok (.iload 5, 2) := by decide +kernel
theorem dX5_takeRun_76 : decode cX5_takeRun 76 = .ok (.bipush 57, 2) := by decide +kernel
theorem dX5_takeRun_78 : decode cX5_takeRun 78 = .ok (.if_icmp .gt 32, 3) := by decide +kernel
theorem dX5_takeRun_81 : decode cX5_takeRun 81 = .ok (.iinc 2 1, 3) := by decide +kernel
theorem dX5_takeRun_84 : decode cX5_takeRun 84 = .ok (.iload 4, 2) := by decide +kernel
theorem dX5_takeRun_86 : decode cX5_takeRun 86 = .ok (.bipush 10, 2) := by decide +kernel
theorem dX5_takeRun_88 : decode cX5_takeRun 88 = .ok (.imul, 1) := by decide +kernel
theorem dX5_takeRun_89 : decode cX5_takeRun 89 = .ok (.iload 5, 2) := by decide +kernel
theorem dX5_takeRun_91 : decode cX5_takeRun 91 = .ok (.iadd, 1) := by decide +kernel
theorem dX5_takeRun_92 : decode cX5_takeRun 92 = .ok (.bipush 48, 2) := by decide +kernel
theorem dX5_takeRun_94 : decode cX5_takeRun 94 = .ok (.isub, 1) := by decide +kernel
theorem dX5_takeRun_95 : decode cX5_takeRun 95 = .ok (.istore 4, 2) := by decide +kernel
theorem dX5_takeRun_97 : decode cX5_takeRun 97 = .ok (.aload_n 0, 1) := by decide +kernel
theorem dX5_takeRun_98 : decode cX5_takeRun 98 = .ok (.dup, 1) := by decide +kernel
theorem dX5_takeRun_99 : decode cX5_takeRun 99 = .ok (.getfield 45, 3) := by decide +kernel
theorem dX5_takeRun_102 : decode cX5_takeRun 102 = .ok (.iconst 1, 1) := by decide +kernel
theorem dX5_takeRun_103 : decode cX5_takeRun 103 = .ok (.iadd, 1) := by decide +kernel
theorem dX5_takeRun_104 : decode cX5_takeRun 104 = .ok (.putfield 45, 3) := by decide +kernel
theorem dX5_takeRun_107 : decode cX5_takeRun 107 = .ok (.goto (-98), 3) := by decide +kernel
theorem dX5_takeRun_110 : decode cX5_takeRun 110 = .ok (.iload_n 2, 1) := by decide +kernel
theorem dX5_takeRun_111 : decode cX5_takeRun 111 = .ok (.ifCond .ne 22, 3) := by decide +kernel
theorem dX5_takeRun_114 : decode cX5_takeRun 114 = .ok (.iload_n 1, 1) := by decide +kernel
theorem dX5_takeRun_115 : decode cX5_takeRun 115 = .ok (.bipush 6, 2) := by decide +kernel
theorem dX5_takeRun_117 : decode cX5_takeRun 117 = .ok (.if_icmp .gt 16, 3) := by decide +kernel
theorem dX5_takeRun_120 : decode cX5_takeRun 120 = .ok (.aload_n 0, 1) := by decide +kernel
theorem dX5_takeRun_121 : decode cX5_takeRun 121 = .ok (.iconst 2, 1) := by decide +kernel
theorem dX5_takeRun_122 : decode cX5_takeRun 122 = .ok (.putfield 51, 3) := by decide +kernel
theorem dX5_takeRun_125 : decode cX5_takeRun 125 = .ok (.aload_n 0, 1) := by decide +kernel
theorem dX5_takeRun_126 : decode cX5_takeRun 126 = .ok (.iload_n 3, 1) := by decide +kernel
theorem dX5_takeRun_127 : decode cX5_takeRun 127 = .ok (.putfield 54, 3) := by decide +kernel
theorem dX5_takeRun_130 : decode cX5_takeRun 130 = .ok (.goto 31, 3) := by decide +kernel
theorem dX5_takeRun_133 : decode cX5_takeRun 133 = .ok (.iload_n 1, 1) := by decide +kernel
theorem dX5_takeRun_134 : decode cX5_takeRun 134 = .ok (.ifCond .ne 22, 3) := by decide +kernel
theorem dX5_takeRun_137 : decode cX5_takeRun 137 = .ok (.iload_n 2, 1) := by decide +kernel
theorem dX5_takeRun_138 : decode cX5_takeRun 138 = .ok (.iconst 3, 1) := by decide +kernel
theorem dX5_takeRun_139 : decode cX5_takeRun 139 = .ok (.if_icmp .gt 17, 3) := by decide +kernel
theorem dX5_takeRun_142 : decode cX5_takeRun 142 = .ok (.aload_n 0, 1) := by decide +kernel
theorem dX5_takeRun_143 : decode cX5_takeRun 143 = .ok (.iconst 3, 1) := by decide +kernel
theorem dX5_takeRun_144 : decode cX5_takeRun 144 = .ok (.putfield 51, 3) := by decide +kernel
theorem dX5_takeRun_147 : decode cX5_takeRun 147 = .ok (.aload_n 0, 1) := by decide +kernel
theorem dX5_takeRun_148 : decode cX5_takeRun 148 = .ok (.iload 4, 2) := by decide +kernel
theorem dX5_takeRun_150 : decode cX5_takeRun 150 = .ok (.putfield 54, 3) := by decide +kernel
theorem dX5_takeRun_153 : decode cX5_takeRun 153 = .ok (.goto 8, 3) := by decide +kernel
theorem dX5_takeRun_156 : decode cX5_takeRun 156 = .ok (.aload_n 0, 1) := by decide +kernel
theorem dX5_takeRun_157 : decode cX5_takeRun 157 = .ok (.iconst 1, 1) := by decide +kernel
theorem dX5_takeRun_158 : decode cX5_takeRun 158 = .ok (.putfield 51, 3) := by decide +kernel
theorem dX5_takeRun_161 : decode cX5_takeRun 161 = .ok (.iload_n 1, 1) := by decide +kernel
theorem dX5_takeRun_162 : decode cX5_takeRun 162 = .ok (.iload_n 2, 1) := by decide +kernel
theorem dX5_takeRun_163 : decode cX5_takeRun 163 = .ok (.iadd, 1) := by decide +kernel
theorem dX5_takeRun_164 : decode cX5_takeRun 164 = .ok (.ifCond .le 7, 3) := by decide +kernel
theorem dX5_takeRun_167 : decode cX5_takeRun 167 = .ok (.iconst 1, 1) := by decide +kernel
theorem dX5_takeRun_168 : decode cX5_takeRun 168 = .ok (.goto 4, 3) := by decide +kernel
theorem dX5_takeRun_171 : decode cX5_takeRun 171 = .ok (.iconst 0, 1) := by decide +kernel
theorem dX5_takeRun_172 : decode cX5_takeRun 172 = .ok (.ireturn, 1) := by decide +kernel
theorem dX5_refuse_0 : decode cX5_refuse 0 = .ok (.aload_n 0, 1) := by decide +kernel
theorem dX5_refuse_1 : decode cX5_refuse 1 = .ok (.iload_n 1, 1) := by decide +kernel
theorem dX5_refuse_2 : decode cX5_refuse 2 = .ok (.putfield 57, 3) := by decide +kernel
theorem dX5_refuse_5 : decode cX5_refuse 5 = .ok (.iconst 0, 1) := by decide +kernel
theorem dX5_refuse_6 : decode cX5_refuse 6 = .ok (.ireturn, 1) := by decide +kernel
theorem dX5_isSign_0 : decode cX5_isSign 0 = .ok (.aload_n 0, 1) := by decide +kernel
theorem dX5_isSign_1 : decode cX5_isSign 1 = .ok (.getfield 51, 3) := by decide +kernel
theorem dX5_isSign_4 : decode cX5_isSign 4 = .ok (.iconst 4, 1) := by decide +kernel
theorem dX5_isSign_5 : decode cX5_isSign 5 = .ok (.if_icmp .ne 15, 3) := by decide +kernel
theorem dX5_isSign_8 : decode cX5_isSign 8 = .ok (.aload_n 0, 1) := by decide +kernel
theorem dX5_isSign_9 : decode cX5_isSign 9 = .ok (.getfield 54, 3) := by decide +kernel
theorem dX5_isSign_12 : decode cX5_isSign 12 = .ok (.iload_n 1, 1) := by decide +kernel
theorem dX5_isSign_13 : decode cX5_isSign 13 = .ok (.if_icmp .ne 7, 3) := by decide +kernel
theorem dX5_isSign_16 : decode cX5_isSign 16 = .ok (.iconst 1, 1) := by decide +kernel
theorem dX5_isSign_17 : decode cX5_isSign 17 = .ok (.goto 4, 3) := by decide +kernel
theorem dX5_isSign_20 : decode cX5_isSign 20 = .ok (.iconst 0, 1) := by decide +kernel
theorem dX5_isSign_21 : decode cX5_isSign 21 = .ok (.ireturn, 1) := by decide +kernel
theorem dX5_keyword_0 : decode cX5_keyword 0 = .ok (.aload_n 0, 1) := by decide +kernel
theorem dX5_keyword_1 : decode cX5_keyword 1 = .ok (.getfield 51, 3) := by decide +kernel
theorem dX5_keyword_4 : decode cX5_keyword 4 = .ok (.iconst 2, 1) := by decide +kernel
theorem dX5_keyword_5 : decode cX5_keyword 5 = .ok (.if_icmp .ne 22, 3) := by decide +kernel
theorem dX5_keyword_8 : decode cX5_keyword 8 = .ok (.aload_n 0, 1) := by decide +kernel
theorem dX5_keyword_9 : decode cX5_keyword 9 = .ok (.getfield 54, 3) := by decide +kernel
theorem dX5_keyword_12 : decode cX5_keyword 12 = .ok (.aload_n 0, 1) := by decide +kernel
theorem dX5_keyword_13 : decode cX5_keyword 13 = .ok (.getfield 9, 3) := by decide +kernel
theorem dX5_keyword_16 : decode cX5_keyword 16 = .ok (.aload_n 0, 1) := by decide +kernel
theorem dX5_keyword_17 : decode cX5_keyword 17 = .ok (.getfield 9, 3) := by decide +kernel
theorem dX5_keyword_20 : decode cX5_keyword 20 = .ok (.arraylength, 1) := by decide +kernel
theorem dX5_keyword_21 : decode cX5_keyword 21 = .ok (.invokestatic 67, 3) := by decide +kernel
theorem dX5_keyword_24 : decode cX5_keyword 24 = .ok (.goto 4, 3) := by decide +kernel
theorem dX5_keyword_27 : decode cX5_keyword 27 = .ok (.iconst (-1), 1) := by decide +kernel
theorem dX5_keyword_28 : decode cX5_keyword 28 = .ok (.ireturn, 1) := by decide +kernel
theorem dX5_isName_0 : decode cX5_isName 0 = .ok (.aload_n 0, 1) := by decide +kernel
theorem dX5_isName_1 : decode cX5_isName 1 = .ok (.getfield 51, 3) := by decide +kernel
theorem dX5_isName_4 : decode cX5_isName 4 = .ok (.iconst 2, 1) := by decide +kernel
theorem dX5_isName_5 : decode cX5_isName 5 = .ok (.if_icmp .ne 27, 3) := by decide +kernel
theorem dX5_isName_8 : decode cX5_isName 8 = .ok (.aload_n 0, 1) := by decide +kernel
theorem dX5_isName_9 : decode cX5_isName 9 = .ok (.getfield 54, 3) := by decide +kernel
theorem dX5_isName_12 : decode cX5_isName 12 = .ok (.aload_n 0, 1) := by decide +kernel
theorem dX5_isName_13 : decode cX5_isName 13 = .ok (.getfield 9, 3) := by decide +kernel
theorem dX5_isName_16 : decode cX5_isName 16 = .ok (.aload_n 0, 1) := by decide +kernel
theorem dX5_isName_17 : decode cX5_isName 17 = .ok (.getfield 9, 3) := by decide +kernel
theorem dX5_isName_20 : decode cX5_isName 20 = .ok (.arraylength, 1) := by decide +kernel
theorem dX5_isName_21 : decode cX5_isName 21 = .ok (.invokestatic 67, 3) := by decide +kernel
theorem dX5_isName_24 : decode cX5_isName 24 = .ok (.iconst (-1), 1) := by decide +kernel
theorem dX5_isName_25 : decode cX5_isName 25 = .ok (.if_icmp .ne 7, 3) := by decide +kernel
theorem dX5_isName_28 : decode cX5_isName 28 = .ok (.iconst 1, 1) := by decide +kernel
theorem dX5_isName_29 : decode cX5_isName 29 = .ok (.goto 4, 3) := by decide +kernel
theorem dX5_isName_32 : decode cX5_isName 32 = .ok (.iconst 0, 1) := by decide +kernel
theorem dX5_isName_33 : decode cX5_isName 33 = .ok (.ireturn, 1) := by decide +kernel
theorem dX5_stepSign_0 : decode cX5_stepSign 0 = .ok (.aload_n 0, 1) := by decide +kernel
theorem dX5_stepSign_1 : decode cX5_stepSign 1 = .ok (.invokevirtual 71, 3) := by decide +kernel
theorem dX5_stepSign_4 : decode cX5_stepSign 4 = .ok (.aload_n 0, 1) := by decide +kernel
theorem dX5_stepSign_5 : decode cX5_stepSign 5 = .ok (.iload_n 1, 1) := by decide +kernel
theorem dX5_stepSign_6 : decode cX5_stepSign 6 = .ok (.invokevirtual 74, 3) := by decide +kernel
theorem dX5_stepSign_9 : decode cX5_stepSign 9 = .ok (.ifCond .ne 11, 3) := by decide +kernel
theorem dX5_stepSign_12 : decode cX5_stepSign 12 = .ok (.aload_n 0, 1) := by decide +kernel
theorem dX5_stepSign_13 : decode cX5_stepSign 13 = .ok (.iconst 1, 1) := by decide +kernel
theorem dX5_stepSign_14 : decode cX5_stepSign 14 = .ok (.invokevirtual 78, 3) := by decide +kernel
theorem dX5_stepSign_17 : decode cX5_stepSign 17 = .ok (.ifCond .eq 7, 3) := by decide +kernel
theorem dX5_stepSign_20 : decode cX5_stepSign 20 = .ok (.iconst 1, 1) := by decide +kernel
theorem dX5_stepSign_21 : decode cX5_stepSign 21 = .ok (.goto 4, 3) := by decide +kernel
theorem dX5_stepSign_24 : decode cX5_stepSign 24 = .ok (.iconst 0, 1) := by decide +kernel
theorem dX5_stepSign_25 : decode cX5_stepSign 25 = .ok (.ireturn, 1) := by decide +kernel
theorem dX5_stepNumber_0 : decode cX5_stepNumber 0 = .ok (.aload_n 0, 1) := by decide +kernel
theorem dX5_stepNumber_1 : decode cX5_stepNumber 1 = .ok (.invokevirtual 71, 3) := by decide +kernel
theorem dX5_stepNumber_4 : decode cX5_stepNumber 4 = .ok (.aload_n 0, 1) := by decide +kernel
theorem dX5_stepNumber_5 : decode cX5_stepNumber 5 = .ok (.getfield 51, 3) := by decide +kernel
theorem dX5_stepNumber_8 : decode cX5_stepNumber 8 = .ok (.iconst 3, 1) := by decide +kernel
theorem dX5_stepNumber_9 : decode cX5_stepNumber 9 = .ok (.if_icmp .eq 11, 3) := by decide +kernel
theorem dX5_stepNumber_12 : decode cX5_stepNumber 12 = .ok (.aload_n 0, 1) := by decide +kernel
theorem dX5_stepNumber_13 : decode cX5_stepNumber 13 = .ok (.iconst 1, 1) := by decide +kernel
theorem dX5_stepNumber_14 : decode cX5_stepNumber 14 = .ok (.invokevirtual 78, 3) := by decide +kernel
theorem dX5_stepNumber_17 : decode cX5_stepNumber 17 = .ok (.pop, 1) := by decide +kernel
theorem dX5_stepNumber_18 : decode cX5_stepNumber 18 = .ok (.iconst (-1), 1) := by decide +kernel
theorem dX5_stepNumber_19 : decode cX5_stepNumber 19 = .ok (.ireturn, 1) := by decide +kernel
theorem dX5_stepNumber_20 : decode cX5_stepNumber 20 = .ok (.aload_n 0, 1) := by decide +kernel
theorem dX5_stepNumber_21 : decode cX5_stepNumber 21 = .ok (.getfield 54, 3) := by decide +kernel
theorem dX5_stepNumber_24 : decode cX5_stepNumber 24 = .ok (.iload_n 1, 1) := by decide +kernel
theorem dX5_stepNumber_25 : decode cX5_stepNumber 25 = .ok (.if_icmp .lt 11, 3) := by decide +kernel
theorem dX5_stepNumber_28 : decode cX5_stepNumber 28 = .ok (.aload_n 0, 1) := by decide +kernel
theorem dX5_stepNumber_29 : decode cX5_stepNumber 29 = .ok (.getfield 54, 3) := by decide +kernel
theorem dX5_stepNumber_32 : decode cX5_stepNumber 32 = .ok (.iload_n 2, 1) := by decide +kernel
theorem dX5_stepNumber_33 : decode cX5_stepNumber 33 = .ok (.if_icmp .le 11, 3) := by decide +kernel
theorem dX5_stepNumber_36 : decode cX5_stepNumber 36 = .ok (.aload_n 0, 1) := by decide +kernel
theorem dX5_stepNumber_37 : decode cX5_stepNumber 37 = .ok (.iconst 2, 1) := by decide +kernel
theorem dX5_stepNumber_38 : decode cX5_stepNumber 38 = .ok (.invokevirtual 78, 3) := by decide +kernel
theorem dX5_stepNumber_41 : decode cX5_stepNumber 41 = .ok (.pop, 1) := by decide +kernel
theorem dX5_stepNumber_42 : decode cX5_stepNumber 42 = .ok (.iconst (-1), 1) := by decide +kernel
theorem dX5_stepNumber_43 : decode cX5_stepNumber 43 = .ok (.ireturn, 1) := by decide +kernel
theorem dX5_stepNumber_44 : decode cX5_stepNumber 44 = .ok (.aload_n 0, 1) := by decide +kernel
theorem dX5_stepNumber_45 : decode cX5_stepNumber 45 = .ok (.getfield 54, 3) := by decide +kernel
theorem dX5_stepNumber_48 : decode cX5_stepNumber 48 = .ok (.ireturn, 1) := by decide +kernel
theorem dX5_stepName_0 : decode cX5_stepName 0 = .ok (.aload_n 0, 1) := by decide +kernel
theorem dX5_stepName_1 : decode cX5_stepName 1 = .ok (.invokevirtual 71, 3) := by decide +kernel
theorem dX5_stepName_4 : decode cX5_stepName 4 = .ok (.aload_n 0, 1) := by decide +kernel
theorem dX5_stepName_5 : decode cX5_stepName 5 = .ok (.invokevirtual 82, 3) := by decide +kernel
theorem dX5_stepName_8 : decode cX5_stepName 8 = .ok (.ifCond .ne 11, 3) := by decide +kernel
theorem dX5_stepName_11 : decode cX5_stepName 11 = .ok (.aload_n 0, 1) := by decide +kernel
theorem dX5_stepName_12 : decode cX5_stepName 12 = .ok (.iconst 1, 1) := by decide +kernel
theorem dX5_stepName_13 : decode cX5_stepName 13 = .ok (.invokevirtual 78, 3) := by decide +kernel
theorem dX5_stepName_16 : decode cX5_stepName 16 = .ok (.pop, 1) := by decide +kernel
theorem dX5_stepName_17 : decode cX5_stepName 17 = .ok (.iconst (-1), 1) := by decide +kernel
theorem dX5_stepName_18 : decode cX5_stepName 18 = .ok (.ireturn, 1) := by decide +kernel
theorem dX5_stepName_19 : decode cX5_stepName 19 = .ok (.aload_n 0, 1) := by decide +kernel
theorem dX5_stepName_20 : decode cX5_stepName 20 = .ok (.getfield 54, 3) := by decide +kernel
theorem dX5_stepName_23 : decode cX5_stepName 23 = .ok (.aload_n 1, 1) := by decide +kernel
theorem dX5_stepName_24 : decode cX5_stepName 24 = .ok (.iload_n 2, 1) := by decide +kernel
theorem dX5_stepName_25 : decode cX5_stepName 25 = .ok (.invokestatic 67, 3) := by decide +kernel
theorem dX5_stepName_28 : decode cX5_stepName 28 = .ok (.istore_n 3, 1) := by decide +kernel
theorem dX5_stepName_29 : decode cX5_stepName 29 = .ok (.iload_n 3, 1) := by decide +kernel
theorem dX5_stepName_30 : decode cX5_stepName 30 = .ok (.iconst (-1), 1) := by decide +kernel
theorem dX5_stepName_31 : decode cX5_stepName 31 = .ok (.if_icmp .ne 9, 3) := by decide +kernel
theorem dX5_stepName_34 : decode cX5_stepName 34 = .ok (.aload_n 0, 1) := by decide +kernel
theorem dX5_stepName_35 : decode cX5_stepName 35 = .ok (.iconst 3, 1) := by decide +kernel
theorem dX5_stepName_36 : decode cX5_stepName 36 = .ok (.invokevirtual 78, 3) := by decide +kernel
theorem dX5_stepName_39 : decode cX5_stepName 39 = .ok (.pop, 1) := by decide +kernel
theorem dX5_stepName_40 : decode cX5_stepName 40 = .ok (.iload_n 3, 1) := by decide +kernel
theorem dX5_stepName_41 : decode cX5_stepName 41 = .ok (.ireturn, 1) := by decide +kernel
theorem dJ6_bitCount_0f7a4_0 : decode cJ6_bitCount_0f7a4 0 = .ok (.iload_n 0, 1) := by decide +kernel
theorem dJ6_bitCount_0f7a4_1 : decode cJ6_bitCount_0f7a4 1 = .ok (.iload_n 0, 1) := by decide +kernel
theorem dJ6_bitCount_0f7a4_2 : decode cJ6_bitCount_0f7a4 2 = .ok (.iconst 1, 1) := by decide +kernel
theorem dJ6_bitCount_0f7a4_3 : decode cJ6_bitCount_0f7a4 3 = .ok (.iushr, 1) := by decide +kernel
theorem dJ6_bitCount_0f7a4_4 : decode cJ6_bitCount_0f7a4 4 = .ok (.ldc_w 265, 3) := by decide +kernel
theorem dJ6_bitCount_0f7a4_7 : decode cJ6_bitCount_0f7a4 7 = .ok (.iand, 1) := by decide +kernel
theorem dJ6_bitCount_0f7a4_8 : decode cJ6_bitCount_0f7a4 8 = .ok (.isub, 1) := by decide +kernel
theorem dJ6_bitCount_0f7a4_9 : decode cJ6_bitCount_0f7a4 9 = .ok (.istore_n 0, 1) := by decide +kernel
theorem dJ6_bitCount_0f7a4_10 : decode cJ6_bitCount_0f7a4 10 = .ok (.iload_n 0, 1) := by decide +kernel
theorem dJ6_bitCount_0f7a4_11 : decode cJ6_bitCount_0f7a4 11 = .ok (.ldc_w 266, 3) := by decide +kernel
theorem dJ6_bitCount_0f7a4_14 : decode cJ6_bitCount_0f7a4 14 = .ok (.iand, 1) := by decide +kernel
theorem dJ6_bitCount_0f7a4_15 : decode cJ6_bitCount_0f7a4 15 = .ok (.iload_n 0, 1) := by decide +kernel
theorem dJ6_bitCount_0f7a4_16 : decode cJ6_bitCount_0f7a4 16 = .ok (.iconst 2, 1) := by decide +kernel
theorem dJ6_bitCount_0f7a4_17 : decode cJ6_bitCount_0f7a4 17 = .ok (.iushr, 1) := by decide +kernel
theorem dJ6_bitCount_0f7a4_18 : decode cJ6_bitCount_0f7a4 18 = .ok (.ldc_w 266, 3) := by decide +kernel
theorem dJ6_bitCount_0f7a4_21 : decode cJ6_bitCount_0f7a4 21 = .ok (.iand, 1) := by decide +kernel
theorem dJ6_bitCount_0f7a4_22 : decode cJ6_bitCount_0f7a4 22 = .ok (.iadd, 1) := by decide +kernel
theorem dJ6_bitCount_0f7a4_23 : decode cJ6_bitCount_0f7a4 23 = .ok (.istore_n 0, 1) := by decide +kernel
theorem dJ6_bitCount_0f7a4_24 : decode cJ6_bitCount_0f7a4 24 = .ok (.iload_n 0, 1) := by decide +kernel
theorem dJ6_bitCount_0f7a4_25 : decode cJ6_bitCount_0f7a4 25 = .ok (.iload_n 0, 1) := by decide +kernel
theorem dJ6_bitCount_0f7a4_26 : decode cJ6_bitCount_0f7a4 26 = .ok (.iconst 4, 1) := by decide +kernel
theorem dJ6_bitCount_0f7a4_27 : decode cJ6_bitCount_0f7a4 27 = .ok (.iushr, 1) := by decide +kernel
theorem dJ6_bitCount_0f7a4_28 : decode cJ6_bitCount_0f7a4 28 = .ok (.iadd, 1) := by decide +kernel
theorem dJ6_bitCount_0f7a4_29 : decode cJ6_bitCount_0f7a4 29 = .ok (.ldc_w 267, 3) := by decide +kernel
theorem dJ6_bitCount_0f7a4_32 : decode cJ6_bitCount_0f7a4 32 = .ok (.iand, 1) := by decide +kernel
theorem dJ6_bitCount_0f7a4_33 : decode cJ6_bitCount_0f7a4 33 = .ok (.istore_n 0, 1) := by decide +kernel
theorem dJ6_bitCount_0f7a4_34 : decode cJ6_bitCount_0f7a4 34 = .ok (.iload_n 0, 1) := by decide +kernel
theorem dJ6_bitCount_0f7a4_35 : decode cJ6_bitCount_0f7a4 35 = .ok (.iload_n 0, 1) := by decide +kernel
theorem dJ6_bitCount_0f7a4_36 : decode cJ6_bitCount_0f7a4 36 = .ok (.bipush 8, 2) := by decide +kernel
theorem dJ6_bitCount_0f7a4_38 : decode cJ6_bitCount_0f7a4 38 = .ok (.iushr, 1) := by decide +kernel
theorem dJ6_bitCount_0f7a4_39 : decode cJ6_bitCount_0f7a4 39 = .ok (.iadd, 1) := by decide +kernel
theorem dJ6_bitCount_0f7a4_40 : decode cJ6_bitCount_0f7a4 40 = .ok (.istore_n 0, 1) := by decide +kernel
theorem dJ6_bitCount_0f7a4_41 : decode cJ6_bitCount_0f7a4 41 = .ok (.iload_n 0, 1) := by decide +kernel
theorem dJ6_bitCount_0f7a4_42 : decode cJ6_bitCount_0f7a4 42 = .ok (.iload_n 0, 1) := by decide +kernel
theorem dJ6_bitCount_0f7a4_43 : decode cJ6_bitCount_0f7a4 43 = .ok (.bipush 16, 2) := by decide +kernel
theorem dJ6_bitCount_0f7a4_45 : decode cJ6_bitCount_0f7a4 45 = .ok (.iushr, 1) := by decide +kernel
theorem dJ6_bitCount_0f7a4_46 : decode cJ6_bitCount_0f7a4 46 = .ok (.iadd, 1) := by decide +kernel
theorem dJ6_bitCount_0f7a4_47 : decode cJ6_bitCount_0f7a4 47 = .ok (.istore_n 0, 1) := by decide +kernel
theorem dJ6_bitCount_0f7a4_48 : decode cJ6_bitCount_0f7a4 48 = .ok (.iload_n 0, 1) := by decide +kernel
theorem dJ6_bitCount_0f7a4_49 : decode cJ6_bitCount_0f7a4 49 = .ok (.bipush 63, 2) := by decide +kernel
theorem dJ6_bitCount_0f7a4_51 : decode cJ6_bitCount_0f7a4 51 = .ok (.iand, 1) := by decide +kernel
theorem dJ6_bitCount_0f7a4_52 : decode cJ6_bitCount_0f7a4 52 = .ok (.ireturn, 1) := by decide +kernel
theorem dJ7_fill_d0a16_0 : decode cJ7_fill_d0a16 0 = .ok (.iconst 0, 1) := by decide +kernel
theorem dJ7_fill_d0a16_1 : decode cJ7_fill_d0a16 1 = .ok (.istore_n 3, 1) := by decide +kernel
theorem dJ7_fill_d0a16_2 : decode cJ7_fill_d0a16 2 = .ok (.aload_n 0, 1) := by decide +kernel
theorem dJ7_fill_d0a16_3 : decode cJ7_fill_d0a16 3 = .ok (.arraylength, 1) := by decide +kernel
theorem dJ7_fill_d0a16_4 : decode cJ7_fill_d0a16 4 = .ok (.istore 4, 2) := by decide +kernel
theorem dJ7_fill_d0a16_6 : decode cJ7_fill_d0a16 6 = .ok (.iload_n 3, 1) := by decide +kernel
theorem dJ7_fill_d0a16_7 : decode cJ7_fill_d0a16 7 = .ok (.iload 4, 2) := by decide +kernel
theorem dJ7_fill_d0a16_9 : decode cJ7_fill_d0a16 9 = .ok (.if_icmp .ge 13, 3) := by decide +kernel
theorem dJ7_fill_d0a16_12 : decode cJ7_fill_d0a16 12 = .ok (.aload_n 0, 1) := by decide +kernel
theorem dJ7_fill_d0a16_13 : decode cJ7_fill_d0a16 13 = .ok (.iload_n 3, 1) := by decide +kernel
theorem dJ7_fill_d0a16_14 : decode cJ7_fill_d0a16 14 = .ok (.lload_n 1, 1) := by decide +kernel
theorem dJ7_fill_d0a16_15 : decode cJ7_fill_d0a16 15 = .ok (.lastore, 1) := by decide +kernel
theorem dJ7_fill_d0a16_16 : decode cJ7_fill_d0a16 16 = .ok (.iinc 3 1, 3) := by decide +kernel
theorem dJ7_fill_d0a16_19 : decode cJ7_fill_d0a16 19 = .ok (.goto (-13), 3) := by decide +kernel
theorem dJ7_fill_d0a16_22 : decode cJ7_fill_d0a16 22 = .ok (.return_, 1) := by decide +kernel
theorem dJ7_fill_53178_0 : decode cJ7_fill_53178 0 = .ok (.iconst 0, 1) := by decide +kernel
theorem dJ7_fill_53178_1 : decode cJ7_fill_53178 1 = .ok (.istore_n 2, 1) := by decide +kernel
theorem dJ7_fill_53178_2 : decode cJ7_fill_53178 2 = .ok (.aload_n 0, 1) := by decide +kernel
theorem dJ7_fill_53178_3 : decode cJ7_fill_53178 3 = .ok (.arraylength, 1) := by decide +kernel
theorem dJ7_fill_53178_4 : decode cJ7_fill_53178 4 = .ok (.istore_n 3, 1) := by decide +kernel
theorem dJ7_fill_53178_5 : decode cJ7_fill_53178 5 = .ok (.iload_n 2, 1) := by decide +kernel
theorem dJ7_fill_53178_6 : decode cJ7_fill_53178 6 = .ok (.iload_n 3, 1) := by decide +kernel
theorem dJ7_fill_53178_7 : decode cJ7_fill_53178 7 = .ok (.if_icmp .ge 13, 3) := by decide +kernel
theorem dJ7_fill_53178_10 : decode cJ7_fill_53178 10 = .ok (.aload_n 0, 1) := by decide +kernel
theorem dJ7_fill_53178_11 : decode cJ7_fill_53178 11 = .ok (.iload_n 2, 1) := by decide +kernel
theorem dJ7_fill_53178_12 : decode cJ7_fill_53178 12 = .ok (.iload_n 1, 1) := by decide +kernel
theorem dJ7_fill_53178_13 : decode cJ7_fill_53178 13 = .ok (.iastore, 1) := by decide +kernel
theorem dJ7_fill_53178_14 : decode cJ7_fill_53178 14 = .ok (.iinc 2 1, 3) := by decide +kernel
theorem dJ7_fill_53178_17 : decode cJ7_fill_53178 17 = .ok (.goto (-12), 3) := by decide +kernel
theorem dJ7_fill_53178_20 : decode cJ7_fill_53178 20 = .ok (.return_, 1) := by decide +kernel
theorem dX8_init_0 : decode cX8_init 0 = .ok (.aload_n 0, 1) := by decide +kernel
theorem dX8_init_1 : decode cX8_init 1 = .ok (.invokespecial 3, 3) := by decide +kernel
theorem dX8_init_4 : decode cX8_init 4 = .ok (.aload_n 0, 1) := by decide +kernel
theorem dX8_init_5 : decode cX8_init 5 = .ok (.iconst 5, 1) := by decide +kernel
theorem dX8_init_6 : decode cX8_init 6 = .ok (.newarray .int, 2) := by decide +kernel
theorem dX8_init_8 : decode cX8_init 8 = .ok (.putfield 9, 3) := by decide +kernel
theorem dX8_init_11 : decode cX8_init 11 = .ok (.aload_n 0, 1) := by decide +kernel
theorem dX8_init_12 : decode cX8_init 12 = .ok (.iconst 5, 1) := by decide +kernel
theorem dX8_init_13 : decode cX8_init 13 = .ok (.newarray .int, 2) := by decide +kernel
theorem dX8_init_15 : decode cX8_init 15 = .ok (.putfield 15, 3) := by decide +kernel
theorem dX8_init_18 : decode cX8_init 18 = .ok (.aload_n 0, 1) := by decide +kernel
theorem dX8_init_19 : decode cX8_init 19 = .ok (.iconst 5, 1) := by decide +kernel
theorem dX8_init_20 : decode cX8_init 20 = .ok (.newarray .int, 2) := by decide +kernel
theorem dX8_init_22 : decode cX8_init 22 = .ok (.putfield 18, 3) := by decide +kernel
theorem dX8_init_25 : decode cX8_init 25 = .ok (.aload_n 0, 1) := by decide +kernel
theorem dX8_init_26 : decode cX8_init 26 = .ok (.iconst 5, 1) := by decide +kernel
theorem dX8_init_27 : decode cX8_init 27 = .ok (.newarray .int, 2) := by decide +kernel
theorem dX8_init_29 : decode cX8_init 29 = .ok (.putfield 21, 3) := by decide +kernel
theorem dX8_init_32 : decode cX8_init 32 = .ok (.aload_n 0, 1) := by decide +kernel
theorem dX8_init_33 : decode cX8_init 33 = .ok (.iconst 5, 1) := by decide +kernel
theorem dX8_init_34 : decode cX8_init 34 = .ok (.newarray .int, 2) := by decide +kernel
theorem dX8_init_36 : decode cX8_init 36 = .ok (.putfield 24, 3) := by decide +kernel
theorem dX8_init_39 : decode cX8_init 39 = .ok (.return_, 1) := by decide +kernel
theorem dX8_take_0 : decode cX8_take 0 = .ok (.aload_n 1, 1) := by decide +kernel
theorem dX8_take_1 : decode cX8_take 1 = .ok (.getfield 27, 3) := by decide +kernel
theorem dX8_take_4 : decode cX8_take 4 = .ok (.iconst 3, 1) := by decide +kernel
theorem dX8_take_5 : decode cX8_take 5 = .ok (.if_icmp .lt 21, 3) := by decide +kernel
theorem dX8_take_8 : decode cX8_take 8 = .ok (.aload_n 1, 1) := by decide +kernel
theorem dX8_take_9 : decode cX8_take 9 = .ok (.getfield 27, 3) := by decide +kernel
theorem dX8_take_12 : decode cX8_take 12 = .ok (.bipush 15, 2) := by decide +kernel
theorem dX8_take_14 : decode cX8_take 14 = .ok (.if_icmp .gt 12, 3) := by decide +kernel
theorem dX8_take_17 : decode cX8_take 17 = .ok (.aload_n 1, 1) := by decide +kernel
theorem dX8_take_18 : decode cX8_take 18 = .ok (.getfield 27, 3) := by decide +kernel
theorem dX8_take_21 : decode cX8_take 21 = .ok (.iconst 3, 1) := by decide +kernel
theorem dX8_take_22 : decode cX8_take 22 = .ok (.irem, 1) := by decide +kernel
theorem dX8_take_23 : decode cX8_take 23 = .ok (.ifCond .eq 5, 3) := by decide +kernel
theorem dX8_take_26 : decode cX8_take 26 = .ok (.iconst 0, 1) := by decide +kernel
theorem dX8_take_27 : decode cX8_take 27 = .ok (.ireturn, 1) := by decide +kernel
theorem dX8_take_28 : decode cX8_take 28 = .ok (.aload_n 0, 1) := by decide +kernel
theorem dX8_take_29 : decode cX8_take 29 = .ok (.aload_n 1, 1) := by decide +kernel
theorem dX8_take_30 : decode cX8_take 30 = .ok (.getfield 27, 3) := by decide +kernel
theorem dX8_take_33 : decode cX8_take 33 = .ok (.iconst 3, 1) := by decide +kernel
theorem dX8_take_34 : decode cX8_take 34 = .ok (.idiv, 1) := by decide +kernel
theorem dX8_take_35 : decode cX8_take 35 = .ok (.putfield 33, 3) := by decide +kernel
theorem dX8_take_38 : decode cX8_take 38 = .ok (.iconst 0, 1) := by decide +kernel
theorem dX8_take_39 : decode cX8_take 39 = .ok (.istore_n 3, 1) := by decide +kernel
theorem dX8_take_40 : decode cX8_take 40 = .ok (.iload_n 3, 1) := by decide +kernel
theorem dX8_take_41 : decode cX8_take 41 = .ok (.aload_n 0, 1) := by decide +kernel
theorem dX8_take_42 : decode cX8_take 42 = .ok (.getfield 33, 3) := by decide +kernel
theorem dX8_take_45 : decode cX8_take 45 = .ok (.if_icmp .ge 123, 3) := by decide +kernel
theorem dX8_take_48 : decode cX8_take 48 = .ok (.aload_n 0, 1) := by decide +kernel
theorem dX8_take_49 : decode cX8_take 49 = .ok (.getfield 9, 3) := by decide +kernel
theorem dX8_take_52 : decode cX8_take 52 = .ok (.iload_n 3, 1) := by decide +kernel
theorem dX8_take_53 : decode cX8_take 53 = .ok (.aload_n 1, 1) := by decide +kernel
theorem dX8_take_54 : decode cX8_take 54 = .ok (.getfield 36, 3) := by decide +kernel
theorem dX8_take_57 : decode cX8_take 57 = .ok (.iconst 3, 1) := by decide +kernel
theorem dX8_take_58 : decode cX8_take 58 = .ok (.iload_n 3, 1) := by decide +kernel
theorem dX8_take_59 : decode cX8_take 59 = .ok (.imul, 1) := by decide +kernel
theorem dX8_take_60 : decode cX8_take 60 = .ok (.iaload, 1) := by decide +kernel
theorem dX8_take_61 : decode cX8_take 61 = .ok (.iastore, 1) := by decide +kernel
theorem dX8_take_62 : decode cX8_take 62 = .ok (.aload_n 0, 1) := by decide +kernel
theorem dX8_take_63 : decode cX8_take 63 = .ok (.getfield 15, 3) := by decide +kernel
theorem dX8_take_66 : decode cX8_take 66 = .ok (.iload_n 3, 1) := by decide +kernel
theorem dX8_take_67 : decode cX8_take 67 = .ok (.aload_n 1, 1) := by decide +kernel
theorem dX8_take_68 : decode cX8_take 68 = .ok (.getfield 36, 3) := by decide +kernel
theorem dX8_take_71 : decode cX8_take 71 = .ok (.iconst 3, 1) := by decide +kernel
theorem dX8_take_72 : decode cX8_take 72 = .ok (.iload_n 3, 1) := by decide +kernel
theorem dX8_take_73 : decode cX8_take 73 = .ok (.imul, 1) := by decide +kernel
theorem dX8_take_74 : decode cX8_take 74 = .ok (.iconst 1, 1) := by decide +kernel
theorem dX8_take_75 : decode cX8_take 75 = .ok (.iadd, 1) := by decide +kernel
theorem dX8_take_76 : decode cX8_take 76 = .ok (.iaload, 1) := by decide +kernel
theorem dX8_take_77 : decode cX8_take 77 = .ok (.iastore, 1) := by decide +kernel
theorem dX8_take_78 : decode cX8_take 78 = .ok (.aload_n 0, 1) := by decide +kernel
theorem dX8_take_79 : decode cX8_take 79 = .ok (.getfield 18, 3) := by decide +kernel
theorem dX8_take_82 : decode cX8_take 82 = .ok (.iload_n 3, 1) := by decide +kernel
theorem dX8_take_83 : decode cX8_take 83 = .ok (.aload_n 1, 1) := by decide +kernel
theorem dX8_take_84 : decode cX8_take 84 = .ok (.getfield 36, 3) := by decide +kernel
theorem dX8_take_87 : decode cX8_take 87 = .ok (.iconst 3, 1) := by decide +kernel
theorem dX8_take_88 : decode cX8_take 88 = .ok (.iload_n 3, 1) := by decide +kernel
theorem dX8_take_89 : decode cX8_take 89 = .ok (.imul, 1) := by decide +kernel
theorem dX8_take_90 : decode cX8_take 90 = .ok (.iconst 2, 1) := by decide +kernel
theorem dX8_take_91 : decode cX8_take 91 = .ok (.iadd, 1) := by decide +kernel
theorem dX8_take_92 : decode cX8_take 92 = .ok (.iaload, 1) := by decide +kernel
theorem dX8_take_93 : decode cX8_take 93 = .ok (.iastore, 1) := by decide +kernel
theorem dX8_take_94 : decode cX8_take 94 = .ok (.aload_n 2, 1) := by decide +kernel
theorem dX8_take_95 : decode cX8_take 95 = .ok (.aload_n 0, 1) := by decide +kernel
theorem dX8_take_96 : decode cX8_take 96 = .ok (.getfield 9, 3) := by decide +kernel
theorem dX8_take_99 : decode cX8_take 99 = .ok (.iload_n 3, 1) := by decide +kernel
theorem dX8_take_100 : decode cX8_take 100 = .ok (.iaload, 1) := by decide +kernel
theorem dX8_take_101 : decode cX8_take 101 = .ok (.invokevirtual 39, 3) := by decide +kernel
theorem dX8_take_104 : decode cX8_take 104 = .ok (.ifCond .eq 33, 3) := by decide +kernel
theorem dX8_take_107 : decode cX8_take 107 = .ok (.aload_n 2, 1) := by decide +kernel
theorem dX8_take_108 : decode cX8_take 108 = .ok (.aload_n 0, 1) := by decide +kernel
theorem dX8_take_109 : decode cX8_take 109 = .ok (.getfield 15, 3) := by decide +kernel
theorem dX8_take_112 : decode cX8_take 112 = .ok (.iload_n 3, 1) := by decide +kernel
theorem dX8_take_113 : decode cX8_take 113 = .ok (.iaload, 1) := by decide +kernel
theorem dX8_take_114 : decode cX8_take 114 = .ok (.invokevirtual 39, 3) := by decide +kernel
theorem dX8_take_117 : decode cX8_take 117 = .ok (.ifCond .eq 20, 3) := by decide +kernel
theorem dX8_take_120 : decode cX8_take 120 = .ok (.aload_n 2, 1) := by decide +kernel
theorem dX8_take_121 : decode cX8_take 121 = .ok (.aload_n 0, 1) := by decide +kernel
theorem dX8_take_122 : decode cX8_take 122 = .ok (.getfield 18, 3) := by decide +kernel
theorem dX8_take_125 : decode cX8_take 125 = .ok (.iload_n 3, 1) := by decide +kernel
theorem dX8_take_126 : decode cX8_take 126 = .ok (.iaload, 1) := by decide +kernel
theorem dX8_take_127 : decode cX8_take 127 = .ok (.invokevirtual 45, 3) := by decide +kernel
theorem dX8_take_130 : decode cX8_take 130 = .ok (.ifCond .eq 7, 3) := by decide +kernel
theorem dX8_take_133 : decode cX8_take 133 = .ok (.iconst 1, 1) := by decide +kernel
theorem dX8_take_134 : decode cX8_take 134 = .ok (.goto 4, 3) := by decide +kernel
theorem dX8_take_137 : decode cX8_take 137 = .ok (.iconst 0, 1) := by decide +kernel
theorem dX8_take_138 : decode cX8_take 138 = .ok (.istore 4, 2) := by decide +kernel
theorem dX8_take_140 : decode cX8_take 140 = .ok (.iload 4, 2) := by decide +kernel
theorem dX8_take_142 : decode cX8_take 142 = .ok (.ifCond .eq 18, 3) := by decide +kernel
theorem dX8_take_145 : decode cX8_take 145 = .ok (.aload_n 0, 1) := by decide +kernel
theorem dX8_take_146 : decode cX8_take 146 = .ok (.getfield 9, 3) := by decide +kernel
theorem dX8_take_149 : decode cX8_take 149 = .ok (.iload_n 3, 1) := by decide +kernel
theorem dX8_take_150 : decode cX8_take 150 = .ok (.iaload, 1) := by decide +kernel
theorem dX8_take_151 : decode cX8_take 151 = .ok (.aload_n 0, 1) := by decide +kernel
theorem dX8_take_152 : decode cX8_take 152 = .ok (.getfield 15, 3) := by decide +kernel
theorem dX8_take_155 : decode cX8_take 155 = .ok (.iload_n 3, 1) := by decide +kernel
theorem dX8_take_156 : decode cX8_take 156 = .ok (.iaload, 1) := by decide +kernel
theorem dX8_take_157 : decode cX8_take 157 = .ok (.if_icmp .ne 5, 3) := by decide +kernel
theorem dX8_take_160 : decode cX8_take 160 = .ok (.iconst 0, 1) := by decide +kernel
theorem dX8_take_161 : decode cX8_take 161 = .ok (.ireturn, 1) := by decide +kernel
theorem dX8_take_162 : decode cX8_take 162 = .ok (.iinc 3 1, 3) := by decide +kernel
theorem dX8_take_165 : decode cX8_take 165 = .ok (.goto (-125), 3) := by decide +kernel
theorem dX8_take_168 : decode cX8_take 168 = .ok (.iconst 1, 1) := by decide +kernel
theorem dX8_take_169 : decode cX8_take 169 = .ok (.ireturn, 1) := by decide +kernel
theorem dX8_settle_0 : decode cX8_settle 0 = .ok (.aload_n 2, 1) := by decide +kernel
theorem dX8_settle_1 : decode cX8_settle 1 = .ok (.aload_n 1, 1) := by decide +kernel
theorem dX8_settle_2 : decode cX8_settle 2 = .ok (.invokevirtual 48, 3) := by decide +kernel
theorem dX8_settle_5 : decode cX8_settle 5 = .ok (.iconst 0, 1) := by decide +kernel
theorem dX8_settle_6 : decode cX8_settle 6 = .ok (.istore_n 3, 1) := by decide +kernel
theorem dX8_settle_7 : decode cX8_settle 7 = .ok (.iload_n 3, 1) := by decide +kernel
theorem dX8_settle_8 : decode cX8_settle 8 = .ok (.aload_n 0, 1) := by decide +kernel
theorem dX8_settle_9 : decode cX8_settle 9 = .ok (.getfield 33, 3) := by decide +kernel
theorem dX8_settle_12 : decode cX8_settle 12 = .ok (.if_icmp .ge 16, 3) := by decide +kernel
theorem dX8_settle_15 : decode cX8_settle 15 = .ok (.aload_n 0, 1) := by decide +kernel
theorem dX8_settle_16 : decode cX8_settle 16 = .ok (.getfield 21, 3) := by decide +kernel
theorem dX8_settle_19 : decode cX8_settle 19 = .ok (.iload_n 3, 1) := by decide +kernel
theorem dX8_settle_20 : decode cX8_settle 20 = .ok (.iload_n 3, 1) := by decide +kernel
theorem dX8_settle_21 : decode cX8_settle 21 = .ok (.iastore, 1) := by decide +kernel
theorem dX8_settle_22 : decode cX8_settle 22 = .ok (.iinc 3 1, 3) := by decide +kernel
theorem dX8_settle_25 : decode cX8_settle 25 = .ok (.goto (-18), 3) := by decide +kernel
theorem dX8_settle_28 : decode cX8_settle 28 = .ok (.ldc 54, 2) := by decide +kernel
theorem dX8_settle_30 : decode cX8_settle 30 = .ok (.istore_n 3, 1) := by decide +kernel
theorem dX8_settle_31 : decode cX8_settle 31 = .ok (.ldc 54, 2) := by decide +kernel
theorem dX8_settle_33 : decode cX8_settle 33 = .ok (.istore 4, 2) := by decide +kernel
theorem dX8_settle_35 : decode cX8_settle 35 = .ok (.iconst 1, 1) := by decide +kernel
theorem dX8_settle_36 : decode cX8_settle 36 = .ok (.istore 5, 2) := by decide +kernel
theorem dX8_settle_38 : decode cX8_settle 38 = .ok (.iconst 0, 1) := by decide +kernel
theorem dX8_settle_39 : decode cX8_settle 39 = .ok (.istore 6, 2) := by decide +kernel
theorem dX8_settle_41 : decode cX8_settle 41 = .ok (.iload 6, 2) := by decide +kernel
theorem dX8_settle_43 : decode cX8_settle 43 = .ok (.bipush 120, 2) := by decide +kernel
theorem dX8_settle_45 : decode cX8_settle 45 = .ok (.if_icmp .ge 81, 3) := by decide +kernel
theorem dX8_settle_48 : decode cX8_settle 48 = .ok (.iload 5, 2) := by decide +kernel
theorem dX8_settle_50 : decode cX8_settle 50 = .ok (.ifCond .eq 76, 3) := by decide +kernel
theorem dX8_settle_53 : decode cX8_settle 53 = .ok (.aload_n 2, 1) := by decide +kernel
theorem dX8_settle_54 : decode cX8_settle 54 = .ok (.aload_n 1, 1) := by decide +kernel
theorem dX8_settle_55 : decode cX8_settle 55 = .ok (.invokevirtual 55, 3) := by decide +kernel
theorem dX8_settle_58 : decode cX8_settle 58 = .ok (.aload_n 0, 1) := by decide +kernel
theorem dX8_settle_59 : decode cX8_settle 59 = .ok (.aload_n 2, 1) := by decide +kernel
theorem dX8_settle_60 : decode cX8_settle 60 = .ok (.invokevirtual 58, 3) := by decide +kernel
theorem dX8_settle_63 : decode cX8_settle 63 = .ok (.istore 7, 2) := by decide +kernel
theorem dX8_settle_65 : decode cX8_settle 65 = .ok (.aload_n 2, 1) := by decide +kernel
theorem dX8_settle_66 : decode cX8_settle 66 = .ok (.invokevirtual 62, 3) := by decide +kernel
theorem dX8_settle_69 : decode cX8_settle 69 = .ok (.istore 8, 2) := by decide +kernel
theorem dX8_settle_71 : decode cX8_settle 71 = .ok (.iload 8, 2) := by decide +kernel
theorem dX8_settle_73 : decode cX8_settle 73 = .ok (.iload_n 3, 1) := by decide +kernel
theorem dX8_settle_74 : decode cX8_settle 74 = .ok (.if_icmp .lt 16, 3) := by decide +kernel
theorem dX8_settle_77 : decode cX8_settle 77 = .ok (.iload 8, 2) := by decide +kernel
theorem dX8_settle_79 : decode cX8_settle 79 = .ok (.iload_n 3, 1) := by decide +kernel
theorem dX8_settle_80 : decode cX8_settle 80 = .ok (.if_icmp .ne 34, 3) := by decide +kernel
theorem dX8_settle_83 : decode cX8_settle 83 = .ok (.iload 7, 2) := by decide +kernel
theorem dX8_settle_85 : decode cX8_settle 85 = .ok (.iload 4, 2) := by decide +kernel
theorem dX8_settle_87 : decode cX8_settle 87 = .ok (.if_icmp .ge 27, 3) := by decide +kernel
theorem dX8_settle_90 : decode cX8_settle 90 = .ok (.iload 8, 2) := by decide +kernel
theorem dX8_settle_92 : decode cX8_settle 92 = .ok (.istore_n 3, 1) := by decide +kernel
theorem dX8_settle_93 : decode cX8_settle 93 = .ok (.iload 7, 2) := by decide +kernel
theorem dX8_settle_95 : decode cX8_settle 95 = .ok (.istore 4, 2) := by decide +kernel
theorem dX8_settle_97 : decode cX8_settle 97 = .ok (.aload_n 0, 1) := by decide +kernel
theorem dX8_settle_98 : decode cX8_settle 98 = .ok (.getfield 21, 3) := by decide +kernel
theorem dX8_settle_101 : decode cX8_settle 101 = .ok (.iconst 0, 1) := by decide +kernel
theorem dX8_settle_102 : decode cX8_settle 102 = .ok (.aload_n 0, 1) := by decide +kernel
theorem dX8_settle_103 : decode cX8_settle 103 = .ok (.getfield 24, 3) := by decide +kernel
theorem dX8_settle_106 : decode cX8_settle 106 = .ok (.iconst 0, 1) := by decide +kernel
theorem dX8_settle_107 : decode cX8_settle 107 = .ok (.aload_n 0, 1) := by decide +kernel
theorem dX8_settle_108 : decode cX8_settle 108 = .ok (.getfield 33, 3) := by decide +kernel
theorem dX8_settle_111 : decode cX8_settle 111 = .ok (.invokestatic 66, 3) := by decide +kernel
theorem dX8_settle_114 : decode cX8_settle 114 = .ok (.aload_n 0, 1) := by decide +kernel
theorem dX8_settle_115 : decode cX8_settle 115 = .ok (.invokevirtual 72, 3) := by decide +kernel
theorem dX8_settle_118 : decode cX8_settle 118 = .ok (.istore 5, 2) := by decide +kernel
theorem dX8_settle_120 : decode cX8_settle 120 = .ok (.iinc 6 1, 3) := by decide +kernel
theorem dX8_settle_123 : decode cX8_settle 123 = .ok (.goto (-82), 3) := by decide +kernel
theorem dX8_settle_126 : decode cX8_settle 126 = .ok (.aload_n 0, 1) := by decide +kernel
theorem dX8_settle_127 : decode cX8_settle 127 = .ok (.aload_n 0, 1) := by decide +kernel
theorem dX8_settle_128 : decode cX8_settle 128 = .ok (.getfield 33, 3) := by decide +kernel
theorem dX8_settle_131 : decode cX8_settle 131 = .ok (.putfield 76, 3) := by decide +kernel
theorem dX8_settle_134 : decode cX8_settle 134 = .ok (.iload_n 3, 1) := by decide +kernel
theorem dX8_settle_135 : decode cX8_settle 135 = .ok (.ireturn, 1) := by decide +kernel
theorem dX8_tryTurns_0 : decode cX8_tryTurns 0 = .ok (.iconst 0, 1) := by decide +kernel
theorem dX8_tryTurns_1 : decode cX8_tryTurns 1 = .ok (.istore_n 2, 1) := by decide +kernel
theorem dX8_tryTurns_2 : decode cX8_tryTurns 2 = .ok (.iconst 0, 1) := by decide +kernel
theorem dX8_tryTurns_3 : decode cX8_tryTurns 3 = .ok (.istore_n 3, 1) := by decide +kernel
theorem dX8_tryTurns_4 : decode cX8_tryTurns 4 = .ok (.iload_n 3, 1) := by decide +kernel
theorem dX8_tryTurns_5 : decode cX8_tryTurns 5 = .ok (.aload_n 0, 1) := by decide +kernel
theorem dX8_tryTurns_6 : decode cX8_tryTurns 6 = .ok (.getfield 33, 3) := by decide +kernel
theorem dX8_tryTurns_9 : decode cX8_tryTurns 9 = .ok (.if_icmp .ge 53, 3) := by decide +kernel
theorem dX8_tryTurns_12 : decode cX8_tryTurns 12 = .ok (.aload_n 0, 1) := by decide +kernel
theorem dX8_tryTurns_13 : decode cX8_tryTurns 13 = .ok (.getfield 21, 3) := by decide +kernel
theorem dX8_tryTurns_16 : decode cX8_tryTurns 16 = .ok (.iload_n 3, 1) := by decide +kernel
theorem dX8_tryTurns_17 : decode cX8_tryTurns 17 = .ok (.iaload, 1) := by decide +kernel
theorem dX8_tryTurns_18 : decode cX8_tryTurns 18 = .ok (.istore 4, 2) := by decide +kernel
theorem dX8_tryTurns_20 : decode cX8_tryTurns 20 = .ok (.iload_n 2, 1) := by decide +kernel
theorem dX8_tryTurns_21 : decode cX8_tryTurns 21 = .ok (.aload_n 1, 1) := by decide +kernel
theorem dX8_tryTurns_22 : decode cX8_tryTurns 22 = .ok (.aload_n 0, 1) := by decide +kernel
theorem dX8_tryTurns_23 : decode cX8_tryTurns 23 = .ok (.getfield 9, 3) := by decide +kernel
theorem dX8_tryTurns_26 : decode cX8_tryTurns 26 = .ok (.iload 4, 2) := by decide +kernel
theorem dX8_tryTurns_28 : decode cX8_tryTurns 28 = .ok (.iaload, 1) := by decide +kernel
theorem dX8_tryTurns_29 : decode cX8_tryTurns 29 = .ok (.aload_n 0, 1) := by decide +kernel
theorem dX8_tryTurns_30 : decode cX8_tryTurns 30 = .ok (.getfield 15, 3) := by decide +kernel
theorem dX8_tryTurns_33 : decode cX8_tryTurns 33 = .ok (.iload 4, 2) := by decide +kernel
theorem dX8_tryTurns_35 : decode cX8_tryTurns 35 = .ok (.iaload, 1) := by decide +kernel
theorem dX8_tryTurns_36 : decode cX8_tryTurns 36 = .ok (.aload_n 0, 1) := by decide +kernel
theorem dX8_tryTurns_37 : decode cX8_tryTurns 37 = .ok (.getfield 18, 3) := by decide +kernel
theorem dX8_tryTurns_40 : decode cX8_tryTurns 40 = .ok (.iload 4, 2) := by decide +kernel
theorem dX8_tryTurns_42 : decode cX8_tryTurns 42 = .ok (.iaload, 1) := by decide +kernel
theorem dX8_tryTurns_43 : decode cX8_tryTurns 43 = .ok (.invokevirtual 79, 3) := by decide +kernel
theorem dX8_tryTurns_46 : decode cX8_tryTurns 46 = .ok (.ifCond .eq 7, 3) := by decide +kernel
theorem dX8_tryTurns_49 : decode cX8_tryTurns 49 = .ok (.iconst 1, 1) := by decide +kernel
theorem dX8_tryTurns_50 : decode cX8_tryTurns 50 = .ok (.goto 4, 3) := by decide +kernel
theorem dX8_tryTurns_53 : decode cX8_tryTurns 53 = .ok (.iconst 0, 1) := by decide +kernel
theorem dX8_tryTurns_54 : decode cX8_tryTurns 54 = .ok (.iadd, 1) := by decide +kernel
theorem dX8_tryTurns_55 : decode cX8_tryTurns 55 = .ok (.istore_n 2, 1) := by decide +kernel
theorem dX8_tryTurns_56 : decode cX8_tryTurns 56 = .ok (.iinc 3 1, 3) := by decide +kernel
theorem dX8_tryTurns_59 : decode cX8_tryTurns 59 = .ok (.goto (-55), 3) := by decide +kernel
theorem dX8_tryTurns_62 : decode cX8_tryTurns 62 = .ok (.iload_n 2, 1) := by decide +kernel
theorem dX8_tryTurns_63 : decode cX8_tryTurns 63 = .ok (.ireturn, 1) := by decide +kernel
theorem dX8_nextTurns_0 : decode cX8_nextTurns 0 = .ok (.aload_n 0, 1) := by decide +kernel
theorem dX8_nextTurns_1 : decode cX8_nextTurns 1 = .ok (.getfield 33, 3) := by decide +kernel
theorem dX8_nextTurns_4 : decode cX8_nextTurns 4 = .ok (.iconst 2, 1) := by decide +kernel
theorem dX8_nextTurns_5 : decode cX8_nextTurns 5 = .ok (.isub, 1) := by decide +kernel
theorem dX8_nextTurns_6 : decode cX8_nextTurns 6 = .ok (.istore_n 1, 1) := by decide +kernel
theorem dX8_nextTurns_7 : decode cX8_nextTurns 7 = .ok (.iload_n 1, 1) := by decide +kernel
theorem dX8_nextTurns_8 : decode cX8_nextTurns 8 = .ok (.ifCond .lt 26, 3) := by decide +kernel
theorem dX8_nextTurns_11 : decode cX8_nextTurns 11 = .ok (.aload_n 0, 1) := by decide +kernel
theorem dX8_nextTurns_12 : decode cX8_nextTurns 12 = .ok (.getfield 21, 3) := by decide +kernel
theorem dX8_nextTurns_15 : decode cX8_nextTurns 15 = .ok (.iload_n 1, 1) := by decide +kernel
theorem dX8_nextTurns_16 : decode cX8_nextTurns 16 = .ok (.iaload, 1) := by decide +kernel
theorem dX8_nextTurns_17 : decode cX8_nextTurns 17 = .ok (.aload_n 0, 1) := by decide +kernel
theorem dX8_nextTurns_18 : decode cX8_nextTurns 18 = .ok (.getfield 21, 3) := by decide +kernel
theorem dX8_nextTurns_21 : decode cX8_nextTurns 21 = .ok (.iload_n 1, 1) := by decide +kernel
theorem dX8_nextTurns_22 : decode cX8_nextTurns 22 = .ok (.iconst 1, 1) := by decide +kernel
theorem dX8_nextTurns_23 : decode cX8_nextTurns 23 = .ok (.iadd, 1) := by decide +kernel
theorem dX8_nextTurns_24 : decode cX8_nextTurns 24 = .ok (.iaload, 1) := by decide +kernel
theorem dX8_nextTurns_25 : decode cX8_nextTurns 25 = .ok (.if_icmp .le 9, 3) := by decide +kernel
theorem dX8_nextTurns_28 : decode cX8_nextTurns 28 = .ok (.iinc 1 (-1), 3) := by decide +kernel
theorem dX8_nextTurns_31 : decode cX8_nextTurns 31 = .ok (.goto (-24), 3) := by decide +kernel
theorem dX8_nextTurns_34 : decode cX8_nextTurns 34 = .ok (.iload_n 1, 1) := by decide +kernel
theorem dX8_nextTurns_35 : decode cX8_nextTurns 35 = .ok (.ifCond .ge 5, 3) := by decide +kernel
theorem dX8_nextTurns_38 : decode cX8_nextTurns 38 = .ok (.iconst 0, 1) := by decide +kernel
theorem dX8_nextTurns_39 : decode cX8_nextTurns 39 = .ok (.ireturn, 1) := by decide +kernel
theorem dX8_nextTurns_40 : decode cX8_nextTurns 40 = .ok (.aload_n 0, 1) := by decide +kernel
theorem dX8_nextTurns_41 : decode cX8_nextTurns 41 = .ok (.getfield 33, 3) := by decide +kernel
theorem dX8_nextTurns_44 : decode cX8_nextTurns 44 = .ok (.iconst 1, 1) := by decide +kernel
theorem dX8_nextTurns_45 : decode cX8_nextTurns 45 = .ok (.isub, 1) := by decide +kernel
theorem dX8_nextTurns_46 : decode cX8_nextTurns 46 = .ok (.istore_n 2, 1) := by decide +kernel
theorem dX8_nextTurns_47 : decode cX8_nextTurns 47 = .ok (.iload_n 2, 1) := by decide +kernel
theorem dX8_nextTurns_48 : decode cX8_nextTurns 48 = .ok (.iload_n 1, 1) := by decide +kernel
theorem dX8_nextTurns_49 : decode cX8_nextTurns 49 = .ok (.if_icmp .le 24, 3) := by decide +kernel
theorem dX8_nextTurns_52 : decode cX8_nextTurns 52 = .ok (.aload_n 0, 1) := by decide +kernel
theorem dX8_nextTurns_53 : decode cX8_nextTurns 53 = .ok (.getfield 21, 3) := by decide +kernel
theorem dX8_nextTurns_56 : decode cX8_nextTurns 56 = .ok (.iload_n 2, 1) := by decide +kernel
theorem dX8_nextTurns_57 : decode cX8_nextTurns 57 = .ok (.iaload, 1) := by decide +kernel
theorem dX8_nextTurns_58 : decode cX8_nextTurns 58 = .ok (.aload_n 0, 1) := by decide +kernel
theorem dX8_nextTurns_59 : decode cX8_nextTurns 59 = .ok (.getfield 21, 3) := by decide +kernel
theorem dX8_nextTurns_62 : decode cX8_nextTurns 62 = .ok (.iload_n 1, 1) := by decide +kernel
theorem dX8_nextTurns_63 : decode cX8_nextTurns 63 = .ok (.iaload, 1) := by decide +kernel
theorem dX8_nextTurns_64 : decode cX8_nextTurns 64 = .ok (.if_icmp .ge 9, 3) := by decide +kernel
theorem dX8_nextTurns_67 : decode cX8_nextTurns 67 = .ok (.iinc 2 (-1), 3) := by decide +kernel
theorem dX8_nextTurns_70 : decode cX8_nextTurns 70 = .ok (.goto (-23), 3) := by decide +kernel
theorem dX8_nextTurns_73 : decode cX8_nextTurns 73 = .ok (.aload_n 0, 1) := by decide +kernel
theorem dX8_nextTurns_74 : decode cX8_nextTurns 74 = .ok (.iload_n 1, 1) := by decide +kernel
theorem dX8_nextTurns_75 : decode cX8_nextTurns 75 = .ok (.iload_n 2, 1) := by decide +kernel
theorem dX8_nextTurns_76 : decode cX8_nextTurns 76 = .ok (.invokevirtual 83, 3) := by decide +kernel
theorem dX8_nextTurns_79 : decode cX8_nextTurns 79 = .ok (.iload_n 1, 1) := by decide +kernel
theorem dX8_nextTurns_80 : decode cX8_nextTurns 80 = .ok (.iconst 1, 1) := by decide +kernel
theorem dX8_nextTurns_81 : decode cX8_nextTurns 81 = .ok (.iadd, 1) := by decide +kernel
theorem dX8_nextTurns_82 : decode cX8_nextTurns 82 = .ok (.istore_n 3, 1) := by decide +kernel
theorem dX8_nextTurns_83 : decode cX8_nextTurns 83 = .ok (.aload_n 0, 1) := by decide +kernel
theorem dX8_nextTurns_84 : decode cX8_nextTurns 84 = .ok (.getfield 33, 3) := by decide +kernel
theorem dX8_nextTurns_87 : decode cX8_nextTurns 87 = .ok (.iconst 1, 1) := by decide +kernel
theorem dX8_nextTurns_88 : decode cX8_nextTurns 88 = .ok (.isub, 1) := by decide +kernel
theorem dX8_nextTurns_89 : decode cX8_nextTurns 89 = .ok (.istore 4, 2) := by decide +kernel
theorem dX8_nextTurns_91 : decode cX8_nextTurns 91 = .ok (.iload_n 3, 1) := by decide +kernel
theorem dX8_nextTurns_92 : decode cX8_nextTurns 92 = .ok (.iload 4, 2) := by decide +kernel
theorem dX8_nextTurns_94 : decode cX8_nextTurns 94 = .ok (.if_icmp .ge 19, 3) := by decide +kernel
theorem dX8_nextTurns_97 : decode cX8_nextTurns 97 = .ok (.aload_n 0, 1) := by decide +kernel
theorem dX8_nextTurns_98 : decode cX8_nextTurns 98 = .ok (.iload_n 3, 1) := by decide +kernel
theorem dX8_nextTurns_99 : decode cX8_nextTurns 99 = .ok (.iload 4, 2) := by decide +kernel
theorem dX8_nextTurns_101 : decode cX8_nextTurns 101 = .ok (.invokevirtual 83, 3) := by decide +kernel
theorem dX8_nextTurns_104 : decode cX8_nextTurns 104 = .ok (.iinc 3 1, 3) := by decide +kernel
theorem dX8_nextTurns_107 : decode cX8_nextTurns 107 = .ok (.iinc 4 (-1), 3) := by decide +kernel
theorem dX8_nextTurns_110 : decode cX8_nextTurns 110 = .ok (.goto (-19), 3) := by decide +kernel
theorem dX8_nextTurns_113 : decode cX8_nextTurns 113 = .ok (.iconst 1, 1) := by decide +kernel
theorem dX8_nextTurns_114 : decode cX8_nextTurns 114 = .ok (.ireturn, 1) := by decide +kernel
theorem dX8_swap_0 : decode cX8_swap 0 = .ok (.aload_n 0, 1) := by decide +kernel
theorem dX8_swap_1 : decode cX8_swap 1 = .ok (.getfield 21, 3) := by decide +kernel
theorem dX8_swap_4 : decode cX8_swap 4 = .ok (.iload_n 1, 1) := by decide +kernel
theorem dX8_swap_5 : decode cX8_swap 5 = .ok (.iaload, 1) := by decide +kernel
theorem dX8_swap_6 : decode cX8_swap 6 = .ok (.istore_n 3, 1) := by decide +kernel
theorem dX8_swap_7 : decode cX8_swap 7 = .ok (.aload_n 0, 1) := by decide +kernel
theorem dX8_swap_8 : decode cX8_swap 8 = .ok (.getfield 21, 3) := by decide +kernel
theorem dX8_swap_11 : decode cX8_swap 11 = .ok (.iload_n 1, 1) := by decide +kernel
theorem dX8_swap_12 : decode cX8_swap 12 = .ok (.aload_n 0, 1) := by decide +kernel
theorem dX8_swap_13 : decode cX8_swap 13 = .ok (.getfield 21, 3) := by decide +kernel
theorem dX8_swap_16 : decode cX8_swap 16 = .ok (.iload_n 2, 1) := by decide +kernel
theorem dX8_swap_17 : decode cX8_swap 17 = .ok (.iaload, 1) := by decide +kernel
theorem dX8_swap_18 : decode cX8_swap 18 = .ok (.iastore, 1) := by decide +kernel
theorem dX8_swap_19 : decode cX8_swap 19 = .ok (.aload_n 0, 1) := by decide +kernel
theorem dX8_swap_20 : decode cX8_swap 20 = .ok (.getfield 21, 3) := by decide +kernel
theorem dX8_swap_23 : decode cX8_swap 23 = .ok (.iload_n 2, 1) := by decide +kernel
theorem dX8_swap_24 : decode cX8_swap 24 = .ok (.iload_n 3, 1) := by decide +kernel
theorem dX8_swap_25 : decode cX8_swap 25 = .ok (.iastore, 1) := by decide +kernel
theorem dX8_swap_26 : decode cX8_swap 26 = .ok (.return_, 1) := by decide +kernel
