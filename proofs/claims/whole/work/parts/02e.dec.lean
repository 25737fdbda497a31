theorem dX4_init_0 : decode cX4_init 0 = .ok (.aload_n 0, 1) := by decide +kernel
theorem dX4_init_1 : decode cX4_init 1 = .ok (.invokespecial 3, 3) := by decide +kernel
theorem dX4_init_4 : decode cX4_init 4 = .ok (.aload_n 0, 1) := by decide +kernel
theorem dX4_init_5 : decode cX4_init 5 = .ok (.bipush 8, 2) := by decide +kernel
theorem dX4_init_7 : decode cX4_init 7 = .ok (.newarray .int, 2) := by decide +kernel
theorem dX4_init_9 : decode cX4_init 9 = .ok (.putfield 9, 3) := by decide +kernel
theorem dX4_init_12 : decode cX4_init 12 = .ok (.aload_n 0, 1) := by decide +kernel
theorem dX4_init_13 : decode cX4_init 13 = .ok (.bipush 8, 2) := by decide +kernel
theorem dX4_init_15 : decode cX4_init 15 = .ok (.newarray .int, 2) := by decide +kernel
theorem dX4_init_17 : decode cX4_init 17 = .ok (.putfield 15, 3) := by decide +kernel
theorem dX4_init_20 : decode cX4_init 20 = .ok (.aload_n 0, 1) := by decide +kernel
theorem dX4_init_21 : decode cX4_init 21 = .ok (.bipush 8, 2) := by decide +kernel
theorem dX4_init_23 : decode cX4_init 23 = .ok (.newarray .int, 2) := by decide +kernel
theorem dX4_init_25 : decode cX4_init 25 = .ok (.putfield 18, 3) := by decide +kernel
theorem dX4_init_28 : decode cX4_init 28 = .ok (.aload_n 0, 1) := by decide +kernel
theorem dX4_init_29 : decode cX4_init 29 = .ok (.bipush 96, 2) := by decide +kernel
theorem dX4_init_31 : decode cX4_init 31 = .ok (.newarray .int, 2) := by decide +kernel
theorem dX4_init_33 : decode cX4_init 33 = .ok (.putfield 21, 3) := by decide +kernel
theorem dX4_init_36 : decode cX4_init 36 = .ok (.aload_n 0, 1) := by decide +kernel
theorem dX4_init_37 : decode cX4_init 37 = .ok (.bipush 60, 2) := by decide +kernel
theorem dX4_init_39 : decode cX4_init 39 = .ok (.newarray .int, 2) := by decide +kernel
theorem dX4_init_41 : decode cX4_init 41 = .ok (.putfield 24, 3) := by decide +kernel
theorem dX4_init_44 : decode cX4_init 44 = .ok (.aload_n 0, 1) := by decide +kernel
theorem dX4_init_45 : decode cX4_init 45 = .ok (.sipush 128, 3) := by decide +kernel
theorem dX4_init_48 : decode cX4_init 48 = .ok (.newarray .int, 2) := by decide +kernel
theorem dX4_init_50 : decode cX4_init 50 = .ok (.putfield 27, 3) := by decide +kernel
theorem dX4_init_53 : decode cX4_init 53 = .ok (.aload_n 0, 1) := by decide +kernel
theorem dX4_init_54 : decode cX4_init 54 = .ok (.sipush 128, 3) := by decide +kernel
theorem dX4_init_57 : decode cX4_init 57 = .ok (.newarray .int, 2) := by decide +kernel
theorem dX4_init_59 : decode cX4_init 59 = .ok (.putfield 30, 3) := by decide +kernel
theorem dX4_init_62 : decode cX4_init 62 = .ok (.aload_n 0, 1) := by decide +kernel
theorem dX4_init_63 : decode cX4_init 63 = .ok (.sipush 128, 3) := by decide +kernel
theorem dX4_init_66 : decode cX4_init 66 = .ok (.newarray .int, 2) := by decide +kernel
theorem dX4_init_68 : decode cX4_init 68 = .ok (.putfield 33, 3) := by decide +kernel
theorem dX4_init_71 : decode cX4_init 71 = .ok (.aload_n 0, 1) := by decide +kernel
theorem dX4_init_72 : decode cX4_init 72 = .ok (.sipush 128, 3) := by decide +kernel
theorem dX4_init_75 : decode cX4_init 75 = .ok (.newarray .int, 2) := by decide +kernel
theorem dX4_init_77 : decode cX4_init 77 = .ok (.putfield 36, 3) := by decide +kernel
theorem dX4_init_80 : decode cX4_init 80 = .ok (.aload_n 0, 1) := by decide +kernel
theorem dX4_init_81 : decode cX4_init 81 = .ok (.sipush 128, 3) := by decide +kernel
theorem dX4_init_84 : decode cX4_init 84 = .ok (.newarray .int, 2) := by decide +kernel
theorem dX4_init_86 : decode cX4_init 86 = .ok (.putfield 39, 3) := by decide +kernel
theorem dX4_init_89 : decode cX4_init 89 = .ok (.aload_n 0, 1) := by decide +kernel
theorem dX4_init_90 : decode cX4_init 90 = .ok (.sipush 128, 3) := by decide +kernel
theorem dX4_init_93 : decode cX4_init 93 = .ok (.newarray .int, 2) := by decide +kernel
theorem dX4_init_95 : decode cX4_init 95 = .ok (.putfield 42, 3) := by decide +kernel
theorem dX4_init_98 : decode cX4_init 98 = .ok (.aload_n 0, 1) := by decide +kernel
theorem dX4_init_99 : decode cX4_init 99 = .ok (.sipush 128, 3) := by decide +kernel
theorem dX4_init_102 : decode cX4_init 102 = .ok (.newarray .int, 2) := by decide +kernel
theorem dX4_init_104 : decode cX4_init 104 = .ok (.putfield 45, 3) := by decide +kernel
theorem dX4_init_107 : decode cX4_init 107 = .ok (.aload_n 0, 1) := by decide +kernel
theorem dX4_init_108 : decode cX4_init 108 = .ok (.sipush 128, 3) := by decide +kernel
theorem dX4_init_111 : decode cX4_init 111 = .ok (.newarray .int, 2) := by decide +kernel
theorem dX4_init_113 : decode cX4_init 113 = .ok (.putfield 48, 3) := by decide +kernel
theorem dX4_init_116 : decode cX4_init 116 = .ok (.aload_n 0, 1) := by decide +kernel
theorem dX4_init_117 : decode cX4_init 117 = .ok (.aload_n 1, 1) := by decide +kernel
theorem dX4_init_118 : decode cX4_init 118 = .ok (.putfield 51, 3) := by decide +kernel
theorem dX4_init_121 : decode cX4_init 121 = .ok (.aload_n 0, 1) := by decide +kernel
theorem dX4_init_122 : decode cX4_init 122 = .ok (.aload_n 2, 1) := by decide +kernel
theorem dX4_init_123 : decode cX4_init 123 = .ok (.putfield 55, 3) := by decide +kernel
theorem dX4_init_126 : decode cX4_init 126 = .ok (.aload_n 0, 1) := by decide +kernel
theorem dX4_init_127 : decode cX4_init 127 = .ok (.getfield 21, 3) := by decide +kernel
theorem dX4_init_130 : decode cX4_init 130 = .ok (.iconst (-1), 1) := by decide +kernel
theorem dX4_init_131 : decode cX4_init 131 = .ok (.invokestatic 59, 3) := by decide +kernel
theorem dX4_init_134 : decode cX4_init 134 = .ok (.return_, 1) := by decide +kernel
theorem dX4_clear_0 : decode cX4_clear 0 = .ok (.iconst 0, 1) := by decide +kernel
theorem dX4_clear_1 : decode cX4_clear 1 = .ok (.istore_n 1, 1) := by decide +kernel
theorem dX4_clear_2 : decode cX4_clear 2 = .ok (.iload_n 1, 1) := by decide +kernel
theorem dX4_clear_3 : decode cX4_clear 3 = .ok (.bipush 8, 2) := by decide +kernel
theorem dX4_clear_5 : decode cX4_clear 5 = .ok (.if_icmp .ge 46, 3) := by decide +kernel
theorem dX4_clear_8 : decode cX4_clear 8 = .ok (.aload_n 0, 1) := by decide +kernel
theorem dX4_clear_9 : decode cX4_clear 9 = .ok (.getfield 9, 3) := by decide +kernel
theorem dX4_clear_12 : decode cX4_clear 12 = .ok (.iload_n 1, 1) := by decide +kernel
theorem dX4_clear_13 : decode cX4_clear 13 = .ok (.iload_n 1, 1) := by decide +kernel
theorem dX4_clear_14 : decode cX4_clear 14 = .ok (.aload_n 0, 1) := by decide +kernel
theorem dX4_clear_15 : decode cX4_clear 15 = .ok (.getfield 51, 3) := by decide +kernel
theorem dX4_clear_18 : decode cX4_clear 18 = .ok (.getfield 65, 3) := by decide +kernel
theorem dX4_clear_21 : decode cX4_clear 21 = .ok (.if_icmp .ge 22, 3) := by decide +kernel
theorem dX4_clear_24 : decode cX4_clear 24 = .ok (.aload_n 0, 1) := by decide +kernel
theorem dX4_clear_25 : decode cX4_clear 25 = .ok (.getfield 51, 3) := by decide +kernel
theorem dX4_clear_28 : decode cX4_clear 28 = .ok (.aload_n 0, 1) := by decide +kernel
theorem dX4_clear_29 : decode cX4_clear 29 = .ok (.getfield 51, 3) := by decide +kernel
theorem dX4_clear_32 : decode cX4_clear 32 = .ok (.getfield 71, 3) := by decide +kernel
theorem dX4_clear_35 : decode cX4_clear 35 = .ok (.iload_n 1, 1) := by decide +kernel
theorem dX4_clear_36 : decode cX4_clear 36 = .ok (.iaload, 1) := by decide +kernel
theorem dX4_clear_37 : decode cX4_clear 37 = .ok (.invokevirtual 74, 3) := by decide +kernel
theorem dX4_clear_40 : decode cX4_clear 40 = .ok (.goto 4, 3) := by decide +kernel
theorem dX4_clear_43 : decode cX4_clear 43 = .ok (.iconst 0, 1) := by decide +kernel
theorem dX4_clear_44 : decode cX4_clear 44 = .ok (.iastore, 1) := by decide +kernel
theorem dX4_clear_45 : decode cX4_clear 45 = .ok (.iinc 1 1, 3) := by decide +kernel
theorem dX4_clear_48 : decode cX4_clear 48 = .ok (.goto (-46), 3) := by decide +kernel
theorem dX4_clear_51 : decode cX4_clear 51 = .ok (.aload_n 0, 1) := by decide +kernel
theorem dX4_clear_52 : decode cX4_clear 52 = .ok (.getfield 15, 3) := by decide +kernel
theorem dX4_clear_55 : decode cX4_clear 55 = .ok (.iconst 0, 1) := by decide +kernel
theorem dX4_clear_56 : decode cX4_clear 56 = .ok (.invokestatic 59, 3) := by decide +kernel
theorem dX4_clear_59 : decode cX4_clear 59 = .ok (.aload_n 0, 1) := by decide +kernel
theorem dX4_clear_60 : decode cX4_clear 60 = .ok (.getfield 18, 3) := by decide +kernel
theorem dX4_clear_63 : decode cX4_clear 63 = .ok (.iconst 0, 1) := by decide +kernel
theorem dX4_clear_64 : decode cX4_clear 64 = .ok (.invokestatic 59, 3) := by decide +kernel
theorem dX4_clear_67 : decode cX4_clear 67 = .ok (.aload_n 0, 1) := by decide +kernel
theorem dX4_clear_68 : decode cX4_clear 68 = .ok (.getfield 21, 3) := by decide +kernel
theorem dX4_clear_71 : decode cX4_clear 71 = .ok (.iconst (-1), 1) := by decide +kernel
theorem dX4_clear_72 : decode cX4_clear 72 = .ok (.invokestatic 59, 3) := by decide +kernel
theorem dX4_clear_75 : decode cX4_clear 75 = .ok (.aload_n 0, 1) := by decide +kernel
theorem dX4_clear_76 : decode cX4_clear 76 = .ok (.iconst 0, 1) := by decide +kernel
theorem dX4_clear_77 : decode cX4_clear 77 = .ok (.putfield 78, 3) := by decide +kernel
theorem dX4_clear_80 : decode cX4_clear 80 = .ok (.aload_n 0, 1) := by decide +kernel
theorem dX4_clear_81 : decode cX4_clear 81 = .ok (.iconst 0, 1) := by decide +kernel
theorem dX4_clear_82 : decode cX4_clear 82 = .ok (.putfield 81, 3) := by decide +kernel
theorem dX4_clear_85 : decode cX4_clear 85 = .ok (.return_, 1) := by decide +kernel
theorem dX4_judge_0 : decode cX4_judge 0 = .ok (.aload_n 0, 1) := by decide +kernel
theorem dX4_judge_1 : decode cX4_judge 1 = .ok (.invokevirtual 84, 3) := by decide +kernel
theorem dX4_judge_4 : decode cX4_judge 4 = .ok (.iconst 0, 1) := by decide +kernel
theorem dX4_judge_5 : decode cX4_judge 5 = .ok (.istore_n 2, 1) := by decide +kernel
theorem dX4_judge_6 : decode cX4_judge 6 = .ok (.iload_n 2, 1) := by decide +kernel
theorem dX4_judge_7 : decode cX4_judge 7 = .ok (.aload_n 0, 1) := by decide +kernel
theorem dX4_judge_8 : decode cX4_judge 8 = .ok (.getfield 55, 3) := by decide +kernel
theorem dX4_judge_11 : decode cX4_judge 11 = .ok (.getfield 87, 3) := by decide +kernel
theorem dX4_judge_14 : decode cX4_judge 14 = .ok (.if_icmp .ge 29, 3) := by decide +kernel
theorem dX4_judge_17 : decode cX4_judge 17 = .ok (.aload_n 0, 1) := by decide +kernel
theorem dX4_judge_18 : decode cX4_judge 18 = .ok (.getfield 24, 3) := by decide +kernel
theorem dX4_judge_21 : decode cX4_judge 21 = .ok (.iload_n 2, 1) := by decide +kernel
theorem dX4_judge_22 : decode cX4_judge 22 = .ok (.iload_n 2, 1) := by decide +kernel
theorem dX4_judge_23 : decode cX4_judge 23 = .ok (.iload_n 1, 1) := by decide +kernel
theorem dX4_judge_24 : decode cX4_judge 24 = .ok (.if_icmp .ne 7, 3) := by decide +kernel
theorem dX4_judge_27 : decode cX4_judge 27 = .ok (.iconst 0, 1) := by decide +kernel
theorem dX4_judge_28 : decode cX4_judge 28 = .ok (.goto 8, 3) := by decide +kernel
theorem dX4_judge_31 : decode cX4_judge 31 = .ok (.aload_n 0, 1) := by decide +kernel
theorem dX4_judge_32 : decode cX4_judge 32 = .ok (.iload_n 2, 1) := by decide +kernel
theorem dX4_judge_33 : decode cX4_judge 33 = .ok (.invokevirtual 92, 3) := by decide +kernel
theorem dX4_judge_36 : decode cX4_judge 36 = .ok (.iastore, 1) := by decide +kernel
theorem dX4_judge_37 : decode cX4_judge 37 = .ok (.iinc 2 1, 3) := by decide +kernel
theorem dX4_judge_40 : decode cX4_judge 40 = .ok (.goto (-34), 3) := by decide +kernel
theorem dX4_judge_43 : decode cX4_judge 43 = .ok (.return_, 1) := by decide +kernel
theorem dX4_judgeLine_0 : decode cX4_judgeLine 0 = .ok (.aload_n 0, 1) := by decide +kernel
theorem dX4_judgeLine_1 : decode cX4_judgeLine 1 = .ok (.getfield 55, 3) := by decide +kernel
theorem dX4_judgeLine_4 : decode cX4_judgeLine 4 = .ok (.getfield 95, 3) := by decide +kernel
theorem dX4_judgeLine_7 : decode cX4_judgeLine 7 = .ok (.iload_n 1, 1) := by decide +kernel
theorem dX4_judgeLine_8 : decode cX4_judgeLine 8 = .ok (.iaload, 1) := by decide +kernel
theorem dX4_judgeLine_9 : decode cX4_judgeLine 9 = .ok (.istore_n 2, 1) := by decide +kernel
theorem dX4_judgeLine_10 : decode cX4_judgeLine 10 = .ok (.iload_n 2, 1) := by decide +kernel
theorem dX4_judgeLine_11 : decode cX4_judgeLine 11 = .ok (.ifCond .ne 5, 3) := by decide +kernel
theorem dX4_judgeLine_14 : decode cX4_judgeLine 14 = .ok (.iconst 0, 1) := by decide +kernel
theorem dX4_judgeLine_15 : decode cX4_judgeLine 15 = .ok (.ireturn, 1) := by decide +kernel
theorem dX4_judgeLine_16 : decode cX4_judgeLine 16 = .ok (.aload_n 0, 1) := by decide +kernel
theorem dX4_judgeLine_17 : decode cX4_judgeLine 17 = .ok (.getfield 55, 3) := by decide +kernel
theorem dX4_judgeLine_20 : decode cX4_judgeLine 20 = .ok (.getfield 98, 3) := by decide +kernel
theorem dX4_judgeLine_23 : decode cX4_judgeLine 23 = .ok (.iload_n 1, 1) := by decide +kernel
theorem dX4_judgeLine_24 : decode cX4_judgeLine 24 = .ok (.iaload, 1) := by decide +kernel
theorem dX4_judgeLine_25 : decode cX4_judgeLine 25 = .ok (.istore_n 3, 1) := by decide +kernel
theorem dX4_judgeLine_26 : decode cX4_judgeLine 26 = .ok (.aload_n 0, 1) := by decide +kernel
theorem dX4_judgeLine_27 : decode cX4_judgeLine 27 = .ok (.getfield 55, 3) := by decide +kernel
theorem dX4_judgeLine_30 : decode cX4_judgeLine 30 = .ok (.getfield 101, 3) := by decide +kernel
theorem dX4_judgeLine_33 : decode cX4_judgeLine 33 = .ok (.iload_n 1, 1) := by decide +kernel
theorem dX4_judgeLine_34 : decode cX4_judgeLine 34 = .ok (.iaload, 1) := by decide +kernel
theorem dX4_judgeLine_35 : decode cX4_judgeLine 35 = .ok (.istore 4, 2) := by decide +kernel
theorem dX4_judgeLine_37 : decode cX4_judgeLine 37 = .ok (.aload_n 0, 1) := by decide +kernel
theorem dX4_judgeLine_38 : decode cX4_judgeLine 38 = .ok (.getfield 55, 3) := by decide +kernel
theorem dX4_judgeLine_41 : decode cX4_judgeLine 41 = .ok (.getfield 102, 3) := by decide +kernel
theorem dX4_judgeLine_44 : decode cX4_judgeLine 44 = .ok (.iload_n 1, 1) := by decide +kernel
theorem dX4_judgeLine_45 : decode cX4_judgeLine 45 = .ok (.iaload, 1) := by decide +kernel
theorem dX4_judgeLine_46 : decode cX4_judgeLine 46 = .ok (.istore 5, 2) := by decide +kernel
theorem dX4_judgeLine_48 : decode cX4_judgeLine 48 = .ok (.iload_n 2, 1) := by decide +kernel
theorem dX4_judgeLine_49 : decode cX4_judgeLine 49 = .ok (.iconst 1, 1) := by decide +kernel
theorem dX4_judgeLine_50 : decode cX4_judgeLine 50 = .ok (.if_icmp .ne 15, 3) := by decide +kernel
theorem dX4_judgeLine_53 : decode cX4_judgeLine 53 = .ok (.aload_n 0, 1) := by decide +kernel
theorem dX4_judgeLine_54 : decode cX4_judgeLine 54 = .ok (.getfield 55, 3) := by decide +kernel
theorem dX4_judgeLine_57 : decode cX4_judgeLine 57 = .ok (.getfield 103, 3) := by decide +kernel
theorem dX4_judgeLine_60 : decode cX4_judgeLine 60 = .ok (.iload_n 1, 1) := by decide +kernel
theorem dX4_judgeLine_61 : decode cX4_judgeLine 61 = .ok (.iaload, 1) := by decide +kernel
theorem dX4_judgeLine_62 : decode cX4_judgeLine 62 = .ok (.goto 4, 3) := by decide +kernel
theorem dX4_judgeLine_65 : decode cX4_judgeLine 65 = .ok (.iconst 0, 1) := by decide +kernel
theorem dX4_judgeLine_66 : decode cX4_judgeLine 66 = .ok (.istore 6, 2) := by decide +kernel
theorem dX4_judgeLine_68 : decode cX4_judgeLine 68 = .ok (.aload_n 0, 1) := by decide +kernel
theorem dX4_judgeLine_69 : decode cX4_judgeLine 69 = .ok (.iload 6, 2) := by decide +kernel
theorem dX4_judgeLine_71 : decode cX4_judgeLine 71 = .ok (.iconst 1, 1) := by decide +kernel
theorem dX4_judgeLine_72 : decode cX4_judgeLine 72 = .ok (.iload_n 3, 1) := by decide +kernel
theorem dX4_judgeLine_73 : decode cX4_judgeLine 73 = .ok (.ishl, 1) := by decide +kernel
theorem dX4_judgeLine_74 : decode cX4_judgeLine 74 = .ok (.ior, 1) := by decide +kernel
theorem dX4_judgeLine_75 : decode cX4_judgeLine 75 = .ok (.iload 4, 2) := by decide +kernel
theorem dX4_judgeLine_77 : decode cX4_judgeLine 77 = .ok (.iload 5, 2) := by decide +kernel
theorem dX4_judgeLine_79 : decode cX4_judgeLine 79 = .ok (.invokevirtual 106, 3) := by decide +kernel
theorem dX4_judgeLine_82 : decode cX4_judgeLine 82 = .ok (.istore 7, 2) := by decide +kernel
theorem dX4_judgeLine_84 : decode cX4_judgeLine 84 = .ok (.iload 7, 2) := by decide +kernel
theorem dX4_judgeLine_86 : decode cX4_judgeLine 86 = .ok (.ifCond .eq 6, 3) := by decide +kernel
theorem dX4_judgeLine_89 : decode cX4_judgeLine 89 = .ok (.iload 7, 2) := by decide +kernel
theorem dX4_judgeLine_91 : decode cX4_judgeLine 91 = .ok (.ireturn, 1) := by decide +kernel
theorem dX4_judgeLine_92 : decode cX4_judgeLine 92 = .ok (.iload_n 2, 1) := by decide +kernel
theorem dX4_judgeLine_93 : decode cX4_judgeLine 93 = .ok (.tableswitch 82 1 3 #[27, 35, 69], 27) := by decide +kernel
theorem dX4_judgeLine_120 : decode cX4_judgeLine 120 = .ok (.aload_n 0, 1) := by decide +kernel
theorem dX4_judgeLine_121 : decode cX4_judgeLine 121 = .ok (.iload_n 1, 1) := by decide +kernel
theorem dX4_judgeLine_122 : decode cX4_judgeLine 122 = .ok (.invokevirtual 110, 3) := by decide +kernel
theorem dX4_judgeLine_125 : decode cX4_judgeLine 125 = .ok (.goto 96, 3) := by decide +kernel
theorem dX4_judgeLine_128 : decode cX4_judgeLine 128 = .ok (.aload_n 0, 1) := by decide +kernel
theorem dX4_judgeLine_129 : decode cX4_judgeLine 129 = .ok (.iload_n 3, 1) := by decide +kernel
theorem dX4_judgeLine_130 : decode cX4_judgeLine 130 = .ok (.aload_n 0, 1) := by decide +kernel
theorem dX4_judgeLine_131 : decode cX4_judgeLine 131 = .ok (.getfield 51, 3) := by decide +kernel
theorem dX4_judgeLine_134 : decode cX4_judgeLine 134 = .ok (.getfield 114, 3) := by decide +kernel
theorem dX4_judgeLine_137 : decode cX4_judgeLine 137 = .ok (.iload 5, 2) := by decide +kernel
theorem dX4_judgeLine_139 : decode cX4_judgeLine 139 = .ok (.iaload, 1) := by decide +kernel
theorem dX4_judgeLine_140 : decode cX4_judgeLine 140 = .ok (.aload_n 0, 1) := by decide +kernel
theorem dX4_judgeLine_141 : decode cX4_judgeLine 141 = .ok (.getfield 51, 3) := by decide +kernel
theorem dX4_judgeLine_144 : decode cX4_judgeLine 144 = .ok (.getfield 117, 3) := by decide +kernel
theorem dX4_judgeLine_147 : decode cX4_judgeLine 147 = .ok (.iconst 3, 1) := by decide +kernel
theorem dX4_judgeLine_148 : decode cX4_judgeLine 148 = .ok (.iaload, 1) := by decide +kernel
theorem dX4_judgeLine_149 : decode cX4_judgeLine 149 = .ok (.imul, 1) := by decide +kernel
theorem dX4_judgeLine_150 : decode cX4_judgeLine 150 = .ok (.bipush 10, 2) := by decide +kernel
theorem dX4_judgeLine_152 : decode cX4_judgeLine 152 = .ok (.invokestatic 120, 3) := by decide +kernel
theorem dX4_judgeLine_155 : decode cX4_judgeLine 155 = .ok (.iload_n 1, 1) := by decide +kernel
theorem dX4_judgeLine_156 : decode cX4_judgeLine 156 = .ok (.invokevirtual 124, 3) := by decide +kernel
theorem dX4_judgeLine_159 : decode cX4_judgeLine 159 = .ok (.goto 62, 3) := by decide +kernel
theorem dX4_judgeLine_162 : decode cX4_judgeLine 162 = .ok (.aload_n 0, 1) := by decide +kernel
theorem dX4_judgeLine_163 : decode cX4_judgeLine 163 = .ok (.iload_n 3, 1) := by decide +kernel
theorem dX4_judgeLine_164 : decode cX4_judgeLine 164 = .ok (.iload 4, 2) := by decide +kernel
theorem dX4_judgeLine_166 : decode cX4_judgeLine 166 = .ok (.iload 5, 2) := by decide +kernel
theorem dX4_judgeLine_168 : decode cX4_judgeLine 168 = .ok (.iload_n 1, 1) := by decide +kernel
theorem dX4_judgeLine_169 : decode cX4_judgeLine 169 = .ok (.invokevirtual 128, 3) := by decide +kernel
theorem dX4_judgeLine_172 : decode cX4_judgeLine 172 = .ok (.goto 49, 3) := by decide +kernel
theorem dX4_judgeLine_175 : decode cX4_judgeLine 175 = .ok (.aload_n 0, 1) := by decide +kernel
theorem dX4_judgeLine_176 : decode cX4_judgeLine 176 = .ok (.getfield 18, 3) := by decide +kernel
theorem dX4_judgeLine_179 : decode cX4_judgeLine 179 = .ok (.iload_n 3, 1) := by decide +kernel
theorem dX4_judgeLine_180 : decode cX4_judgeLine 180 = .ok (.dup2, 1) := by decide +kernel
theorem dX4_judgeLine_181 : decode cX4_judgeLine 181 = .ok (.iaload, 1) := by decide +kernel
theorem dX4_judgeLine_182 : decode cX4_judgeLine 182 = .ok (.aload_n 0, 1) := by decide +kernel
theorem dX4_judgeLine_183 : decode cX4_judgeLine 183 = .ok (.getfield 55, 3) := by decide +kernel
theorem dX4_judgeLine_186 : decode cX4_judgeLine 186 = .ok (.getfield 103, 3) := by decide +kernel
theorem dX4_judgeLine_189 : decode cX4_judgeLine 189 = .ok (.iload_n 1, 1) := by decide +kernel
theorem dX4_judgeLine_190 : decode cX4_judgeLine 190 = .ok (.iaload, 1) := by decide +kernel
theorem dX4_judgeLine_191 : decode cX4_judgeLine 191 = .ok (.iadd, 1) := by decide +kernel
theorem dX4_judgeLine_192 : decode cX4_judgeLine 192 = .ok (.iastore, 1) := by decide +kernel
theorem dX4_judgeLine_193 : decode cX4_judgeLine 193 = .ok (.aload_n 0, 1) := by decide +kernel
theorem dX4_judgeLine_194 : decode cX4_judgeLine 194 = .ok (.getfield 18, 3) := by decide +kernel
theorem dX4_judgeLine_197 : decode cX4_judgeLine 197 = .ok (.iload 4, 2) := by decide +kernel
theorem dX4_judgeLine_199 : decode cX4_judgeLine 199 = .ok (.dup2, 1) := by decide +kernel
theorem dX4_judgeLine_200 : decode cX4_judgeLine 200 = .ok (.iaload, 1) := by decide +kernel
theorem dX4_judgeLine_201 : decode cX4_judgeLine 201 = .ok (.aload_n 0, 1) := by decide +kernel
theorem dX4_judgeLine_202 : decode cX4_judgeLine 202 = .ok (.getfield 55, 3) := by decide +kernel
theorem dX4_judgeLine_205 : decode cX4_judgeLine 205 = .ok (.getfield 103, 3) := by decide +kernel
theorem dX4_judgeLine_208 : decode cX4_judgeLine 208 = .ok (.iload_n 1, 1) := by decide +kernel
theorem dX4_judgeLine_209 : decode cX4_judgeLine 209 = .ok (.iaload, 1) := by decide +kernel
theorem dX4_judgeLine_210 : decode cX4_judgeLine 210 = .ok (.isub, 1) := by decide +kernel
theorem dX4_judgeLine_211 : decode cX4_judgeLine 211 = .ok (.iastore, 1) := by decide +kernel
theorem dX4_judgeLine_212 : decode cX4_judgeLine 212 = .ok (.aload_n 0, 1) := by decide +kernel
theorem dX4_judgeLine_213 : decode cX4_judgeLine 213 = .ok (.iload 4, 2) := by decide +kernel
theorem dX4_judgeLine_215 : decode cX4_judgeLine 215 = .ok (.iload 5, 2) := by decide +kernel
theorem dX4_judgeLine_217 : decode cX4_judgeLine 217 = .ok (.iload_n 1, 1) := by decide +kernel
theorem dX4_judgeLine_218 : decode cX4_judgeLine 218 = .ok (.invokevirtual 132, 3) := by decide +kernel
theorem dX4_judgeLine_221 : decode cX4_judgeLine 221 = .ok (.iconst 0, 1) := by decide +kernel
theorem dX4_judgeLine_222 : decode cX4_judgeLine 222 = .ok (.ireturn, 1) := by decide +kernel
theorem dX4_whyWrong_0 : decode cX4_whyWrong 0 = .ok (.iconst 0, 1) := by decide +kernel
theorem dX4_whyWrong_1 : decode cX4_whyWrong 1 = .ok (.istore 4, 2) := by decide +kernel
theorem dX4_whyWrong_3 : decode cX4_whyWrong 3 = .ok (.iload 4, 2) := by decide +kernel
theorem dX4_whyWrong_5 : decode cX4_whyWrong 5 = .ok (.aload_n 0, 1) := by decide +kernel
theorem dX4_whyWrong_6 : decode cX4_whyWrong 6 = .ok (.getfield 51, 3) := by decide +kernel
theorem dX4_whyWrong_9 : decode cX4_whyWrong 9 = .ok (.getfield 65, 3) := by decide +kernel
theorem dX4_whyWrong_12 : decode cX4_whyWrong 12 = .ok (.if_icmp .ge 30, 3) := by decide +kernel
theorem dX4_whyWrong_15 : decode cX4_whyWrong 15 = .ok (.iload_n 1, 1) := by decide +kernel
theorem dX4_whyWrong_16 : decode cX4_whyWrong 16 = .ok (.iload 4, 2) := by decide +kernel
theorem dX4_whyWrong_18 : decode cX4_whyWrong 18 = .ok (.invokestatic 135, 3) := by decide +kernel
theorem dX4_whyWrong_21 : decode cX4_whyWrong 21 = .ok (.ifCond .eq 15, 3) := by decide +kernel
theorem dX4_whyWrong_24 : decode cX4_whyWrong 24 = .ok (.aload_n 0, 1) := by decide +kernel
theorem dX4_whyWrong_25 : decode cX4_whyWrong 25 = .ok (.iload 4, 2) := by decide +kernel
theorem dX4_whyWrong_27 : decode cX4_whyWrong 27 = .ok (.iload_n 3, 1) := by decide +kernel
theorem dX4_whyWrong_28 : decode cX4_whyWrong 28 = .ok (.invokevirtual 139, 3) := by decide +kernel
theorem dX4_whyWrong_31 : decode cX4_whyWrong 31 = .ok (.ifCond .ne 5, 3) := by decide +kernel
theorem dX4_whyWrong_34 : decode cX4_whyWrong 34 = .ok (.iconst 1, 1) := by decide +kernel
theorem dX4_whyWrong_35 : decode cX4_whyWrong 35 = .ok (.ireturn, 1) := by decide +kernel
theorem dX4_whyWrong_36 : decode cX4_whyWrong 36 = .ok (.iinc 4 1, 3) := by decide +kernel
theorem dX4_whyWrong_39 : decode cX4_whyWrong 39 = .ok (.goto (-36), 3) := by decide +kernel
theorem dX4_whyWrong_42 : decode cX4_whyWrong 42 = .ok (.aload_n 0, 1) := by decide +kernel
theorem dX4_whyWrong_43 : decode cX4_whyWrong 43 = .ok (.iload_n 2, 1) := by decide +kernel
theorem dX4_whyWrong_44 : decode cX4_whyWrong 44 = .ok (.iload_n 3, 1) := by decide +kernel
theorem dX4_whyWrong_45 : decode cX4_whyWrong 45 = .ok (.invokevirtual 139, 3) := by decide +kernel
theorem dX4_whyWrong_48 : decode cX4_whyWrong 48 = .ok (.ifCond .eq 7, 3) := by decide +kernel
theorem dX4_whyWrong_51 : decode cX4_whyWrong 51 = .ok (.iconst 2, 1) := by decide +kernel
theorem dX4_whyWrong_52 : decode cX4_whyWrong 52 = .ok (.goto 4, 3) := by decide +kernel
theorem dX4_whyWrong_55 : decode cX4_whyWrong 55 = .ok (.iconst 0, 1) := by decide +kernel
theorem dX4_whyWrong_56 : decode cX4_whyWrong 56 = .ok (.ireturn, 1) := by decide +kernel
theorem dX4_lie_0 : decode cX4_lie 0 = .ok (.aload_n 0, 1) := by decide +kernel
theorem dX4_lie_1 : decode cX4_lie 1 = .ok (.getfield 55, 3) := by decide +kernel
theorem dX4_lie_4 : decode cX4_lie 4 = .ok (.getfield 103, 3) := by decide +kernel
theorem dX4_lie_7 : decode cX4_lie 7 = .ok (.iload_n 1, 1) := by decide +kernel
theorem dX4_lie_8 : decode cX4_lie 8 = .ok (.iaload, 1) := by decide +kernel
theorem dX4_lie_9 : decode cX4_lie 9 = .ok (.invokestatic 142, 3) := by decide +kernel
theorem dX4_lie_12 : decode cX4_lie 12 = .ok (.istore_n 2, 1) := by decide +kernel
theorem dX4_lie_13 : decode cX4_lie 13 = .ok (.aload_n 0, 1) := by decide +kernel
theorem dX4_lie_14 : decode cX4_lie 14 = .ok (.getfield 51, 3) := by decide +kernel
theorem dX4_lie_17 : decode cX4_lie 17 = .ok (.getfield 114, 3) := by decide +kernel
theorem dX4_lie_20 : decode cX4_lie 20 = .ok (.aload_n 0, 1) := by decide +kernel
theorem dX4_lie_21 : decode cX4_lie 21 = .ok (.getfield 55, 3) := by decide +kernel
theorem dX4_lie_24 : decode cX4_lie 24 = .ok (.getfield 102, 3) := by decide +kernel
theorem dX4_lie_27 : decode cX4_lie 27 = .ok (.iload_n 1, 1) := by decide +kernel
theorem dX4_lie_28 : decode cX4_lie 28 = .ok (.iaload, 1) := by decide +kernel
theorem dX4_lie_29 : decode cX4_lie 29 = .ok (.iaload, 1) := by decide +kernel
theorem dX4_lie_30 : decode cX4_lie 30 = .ok (.iload_n 2, 1) := by decide +kernel
theorem dX4_lie_31 : decode cX4_lie 31 = .ok (.iconst 1, 1) := by decide +kernel
theorem dX4_lie_32 : decode cX4_lie 32 = .ok (.iadd, 1) := by decide +kernel
theorem dX4_lie_33 : decode cX4_lie 33 = .ok (.invokestatic 120, 3) := by decide +kernel
theorem dX4_lie_36 : decode cX4_lie 36 = .ok (.istore_n 3, 1) := by decide +kernel
theorem dX4_lie_37 : decode cX4_lie 37 = .ok (.aload_n 0, 1) := by decide +kernel
theorem dX4_lie_38 : decode cX4_lie 38 = .ok (.aload_n 0, 1) := by decide +kernel
theorem dX4_lie_39 : decode cX4_lie 39 = .ok (.getfield 55, 3) := by decide +kernel
theorem dX4_lie_42 : decode cX4_lie 42 = .ok (.getfield 98, 3) := by decide +kernel
theorem dX4_lie_45 : decode cX4_lie 45 = .ok (.iload_n 1, 1) := by decide +kernel
theorem dX4_lie_46 : decode cX4_lie 46 = .ok (.iaload, 1) := by decide +kernel
theorem dX4_lie_47 : decode cX4_lie 47 = .ok (.iload_n 3, 1) := by decide +kernel
theorem dX4_lie_48 : decode cX4_lie 48 = .ok (.iload_n 1, 1) := by decide +kernel
theorem dX4_lie_49 : decode cX4_lie 49 = .ok (.invokevirtual 124, 3) := by decide +kernel
theorem dX4_lie_52 : decode cX4_lie 52 = .ok (.iconst 0, 1) := by decide +kernel
theorem dX4_lie_53 : decode cX4_lie 53 = .ok (.istore 4, 2) := by decide +kernel
theorem dX4_lie_55 : decode cX4_lie 55 = .ok (.iload 4, 2) := by decide +kernel
theorem dX4_lie_57 : decode cX4_lie 57 = .ok (.iload_n 2, 1) := by decide +kernel
theorem dX4_lie_58 : decode cX4_lie 58 = .ok (.if_icmp .ge 32, 3) := by decide +kernel
theorem dX4_lie_61 : decode cX4_lie 61 = .ok (.aload_n 0, 1) := by decide +kernel
theorem dX4_lie_62 : decode cX4_lie 62 = .ok (.aload_n 0, 1) := by decide +kernel
theorem dX4_lie_63 : decode cX4_lie 63 = .ok (.getfield 55, 3) := by decide +kernel
theorem dX4_lie_66 : decode cX4_lie 66 = .ok (.getfield 147, 3) := by decide +kernel
theorem dX4_lie_69 : decode cX4_lie 69 = .ok (.iload_n 1, 1) := by decide +kernel
theorem dX4_lie_70 : decode cX4_lie 70 = .ok (.iaload, 1) := by decide +kernel
theorem dX4_lie_71 : decode cX4_lie 71 = .ok (.iconst 3, 1) := by decide +kernel
theorem dX4_lie_72 : decode cX4_lie 72 = .ok (.iload 4, 2) := by decide +kernel
theorem dX4_lie_74 : decode cX4_lie 74 = .ok (.imul, 1) := by decide +kernel
theorem dX4_lie_75 : decode cX4_lie 75 = .ok (.ishr, 1) := by decide +kernel
theorem dX4_lie_76 : decode cX4_lie 76 = .ok (.bipush 7, 2) := by decide +kernel
theorem dX4_lie_78 : decode cX4_lie 78 = .ok (.iand, 1) := by decide +kernel
theorem dX4_lie_79 : decode cX4_lie 79 = .ok (.iload_n 3, 1) := by decide +kernel
theorem dX4_lie_80 : decode cX4_lie 80 = .ok (.iload_n 1, 1) := by decide +kernel
theorem dX4_lie_81 : decode cX4_lie 81 = .ok (.invokevirtual 124, 3) := by decide +kernel
theorem dX4_lie_84 : decode cX4_lie 84 = .ok (.iinc 4 1, 3) := by decide +kernel
theorem dX4_lie_87 : decode cX4_lie 87 = .ok (.goto (-32), 3) := by decide +kernel
theorem dX4_lie_90 : decode cX4_lie 90 = .ok (.return_, 1) := by decide +kernel
theorem dX4_owe_0 : decode cX4_owe 0 = .ok (.iload_n 2, 1) := by decide +kernel
theorem dX4_owe_1 : decode cX4_owe 1 = .ok (.ifCond .eq 13, 3) := by decide +kernel
theorem dX4_owe_4 : decode cX4_owe 4 = .ok (.aload_n 0, 1) := by decide +kernel
theorem dX4_owe_5 : decode cX4_owe 5 = .ok (.getfield 81, 3) := by decide +kernel
theorem dX4_owe_8 : decode cX4_owe 8 = .ok (.sipush 128, 3) := by decide +kernel
theorem dX4_owe_11 : decode cX4_owe 11 = .ok (.if_icmp .lt 4, 3) := by decide +kernel
theorem dX4_owe_14 : decode cX4_owe 14 = .ok (.return_, 1) := by decide +kernel
theorem dX4_owe_15 : decode cX4_owe 15 = .ok (.aload_n 0, 1) := by decide +kernel
theorem dX4_owe_16 : decode cX4_owe 16 = .ok (.getfield 27, 3) := by decide +kernel
theorem dX4_owe_19 : decode cX4_owe 19 = .ok (.aload_n 0, 1) := by decide +kernel
theorem dX4_owe_20 : decode cX4_owe 20 = .ok (.getfield 81, 3) := by decide +kernel
theorem dX4_owe_23 : decode cX4_owe 23 = .ok (.iload_n 1, 1) := by decide +kernel
theorem dX4_owe_24 : decode cX4_owe 24 = .ok (.iastore, 1) := by decide +kernel
theorem dX4_owe_25 : decode cX4_owe 25 = .ok (.aload_n 0, 1) := by decide +kernel
theorem dX4_owe_26 : decode cX4_owe 26 = .ok (.getfield 30, 3) := by decide +kernel
theorem dX4_owe_29 : decode cX4_owe 29 = .ok (.aload_n 0, 1) := by decide +kernel
theorem dX4_owe_30 : decode cX4_owe 30 = .ok (.getfield 81, 3) := by decide +kernel
theorem dX4_owe_33 : decode cX4_owe 33 = .ok (.aload_n 0, 1) := by decide +kernel
theorem dX4_owe_34 : decode cX4_owe 34 = .ok (.getfield 55, 3) := by decide +kernel
theorem dX4_owe_37 : decode cX4_owe 37 = .ok (.getfield 101, 3) := by decide +kernel
theorem dX4_owe_40 : decode cX4_owe 40 = .ok (.iload_n 3, 1) := by decide +kernel
theorem dX4_owe_41 : decode cX4_owe 41 = .ok (.iaload, 1) := by decide +kernel
theorem dX4_owe_42 : decode cX4_owe 42 = .ok (.iastore, 1) := by decide +kernel
theorem dX4_owe_43 : decode cX4_owe 43 = .ok (.aload_n 0, 1) := by decide +kernel
theorem dX4_owe_44 : decode cX4_owe 44 = .ok (.getfield 33, 3) := by decide +kernel
theorem dX4_owe_47 : decode cX4_owe 47 = .ok (.aload_n 0, 1) := by decide +kernel
theorem dX4_owe_48 : decode cX4_owe 48 = .ok (.getfield 81, 3) := by decide +kernel
theorem dX4_owe_51 : decode cX4_owe 51 = .ok (.aload_n 0, 1) := by decide +kernel
theorem dX4_owe_52 : decode cX4_owe 52 = .ok (.getfield 55, 3) := by decide +kernel
theorem dX4_owe_55 : decode cX4_owe 55 = .ok (.getfield 102, 3) := by decide +kernel
theorem dX4_owe_58 : decode cX4_owe 58 = .ok (.iload_n 3, 1) := by decide +kernel
theorem dX4_owe_59 : decode cX4_owe 59 = .ok (.iaload, 1) := by decide +kernel
theorem dX4_owe_60 : decode cX4_owe 60 = .ok (.iastore, 1) := by decide +kernel
theorem dX4_owe_61 : decode cX4_owe 61 = .ok (.aload_n 0, 1) := by decide +kernel
theorem dX4_owe_62 : decode cX4_owe 62 = .ok (.getfield 36, 3) := by decide +kernel
theorem dX4_owe_65 : decode cX4_owe 65 = .ok (.aload_n 0, 1) := by decide +kernel
theorem dX4_owe_66 : decode cX4_owe 66 = .ok (.getfield 81, 3) := by decide +kernel
theorem dX4_owe_69 : decode cX4_owe 69 = .ok (.iload_n 2, 1) := by decide +kernel
theorem dX4_owe_70 : decode cX4_owe 70 = .ok (.iastore, 1) := by decide +kernel
theorem dX4_owe_71 : decode cX4_owe 71 = .ok (.aload_n 0, 1) := by decide +kernel
theorem dX4_owe_72 : decode cX4_owe 72 = .ok (.getfield 39, 3) := by decide +kernel
theorem dX4_owe_75 : decode cX4_owe 75 = .ok (.aload_n 0, 1) := by decide +kernel
theorem dX4_owe_76 : decode cX4_owe 76 = .ok (.getfield 81, 3) := by decide +kernel
theorem dX4_owe_79 : decode cX4_owe 79 = .ok (.iload_n 2, 1) := by decide +kernel
theorem dX4_owe_80 : decode cX4_owe 80 = .ok (.iastore, 1) := by decide +kernel
theorem dX4_owe_81 : decode cX4_owe 81 = .ok (.aload_n 0, 1) := by decide +kernel
theorem dX4_owe_82 : decode cX4_owe 82 = .ok (.getfield 42, 3) := by decide +kernel
theorem dX4_owe_85 : decode cX4_owe 85 = .ok (.aload_n 0, 1) := by decide +kernel
theorem dX4_owe_86 : decode cX4_owe 86 = .ok (.getfield 81, 3) := by decide +kernel
theorem dX4_owe_89 : decode cX4_owe 89 = .ok (.iload_n 3, 1) := by decide +kernel
theorem dX4_owe_90 : decode cX4_owe 90 = .ok (.iastore, 1) := by decide +kernel
theorem dX4_owe_91 : decode cX4_owe 91 = .ok (.aload_n 0, 1) := by decide +kernel
theorem dX4_owe_92 : decode cX4_owe 92 = .ok (.getfield 45, 3) := by decide +kernel
theorem dX4_owe_95 : decode cX4_owe 95 = .ok (.aload_n 0, 1) := by decide +kernel
theorem dX4_owe_96 : decode cX4_owe 96 = .ok (.getfield 81, 3) := by decide +kernel
theorem dX4_owe_99 : decode cX4_owe 99 = .ok (.iconst (-1), 1) := by decide +kernel
theorem dX4_owe_100 : decode cX4_owe 100 = .ok (.iastore, 1) := by decide +kernel
theorem dX4_owe_101 : decode cX4_owe 101 = .ok (.aload_n 0, 1) := by decide +kernel
theorem dX4_owe_102 : decode cX4_owe 102 = .ok (.getfield 48, 3) := by decide +kernel
theorem dX4_owe_105 : decode cX4_owe 105 = .ok (.aload_n 0, 1) := by decide +kernel
theorem dX4_owe_106 : decode cX4_owe 106 = .ok (.getfield 81, 3) := by decide +kernel
theorem dX4_owe_109 : decode cX4_owe 109 = .ok (.iconst 0, 1) := by decide +kernel
theorem dX4_owe_110 : decode cX4_owe 110 = .ok (.iastore, 1) := by decide +kernel
theorem dX4_owe_111 : decode cX4_owe 111 = .ok (.aload_n 0, 1) := by decide +kernel
theorem dX4_owe_112 : decode cX4_owe 112 = .ok (.dup, 1) := by decide +kernel
theorem dX4_owe_113 : decode cX4_owe 113 = .ok (.getfield 81, 3) := by decide +kernel
theorem dX4_owe_116 : decode cX4_owe 116 = .ok (.iconst 1, 1) := by decide +kernel
theorem dX4_owe_117 : decode cX4_owe 117 = .ok (.iadd, 1) := by decide +kernel
theorem dX4_owe_118 : decode cX4_owe 118 = .ok (.putfield 81, 3) := by decide +kernel
theorem dX4_owe_121 : decode cX4_owe 121 = .ok (.return_, 1) := by decide +kernel
theorem dX4_tell_0 : decode cX4_tell 0 = .ok (.aload_n 0, 1) := by decide +kernel
theorem dX4_tell_1 : decode cX4_tell 1 = .ok (.iload_n 1, 1) := by decide +kernel
theorem dX4_tell_2 : decode cX4_tell 2 = .ok (.aload_n 0, 1) := by decide +kernel
theorem dX4_tell_3 : decode cX4_tell 3 = .ok (.iload_n 1, 1) := by decide +kernel
theorem dX4_tell_4 : decode cX4_tell 4 = .ok (.iload_n 3, 1) := by decide +kernel
theorem dX4_tell_5 : decode cX4_tell 5 = .ok (.invokevirtual 150, 3) := by decide +kernel
theorem dX4_tell_8 : decode cX4_tell 8 = .ok (.iload 4, 2) := by decide +kernel
theorem dX4_tell_10 : decode cX4_tell 10 = .ok (.invokevirtual 153, 3) := by decide +kernel
theorem dX4_tell_13 : decode cX4_tell 13 = .ok (.aload_n 0, 1) := by decide +kernel
theorem dX4_tell_14 : decode cX4_tell 14 = .ok (.getfield 15, 3) := by decide +kernel
theorem dX4_tell_17 : decode cX4_tell 17 = .ok (.aload_n 0, 1) := by decide +kernel
theorem dX4_tell_18 : decode cX4_tell 18 = .ok (.getfield 51, 3) := by decide +kernel
theorem dX4_tell_21 : decode cX4_tell 21 = .ok (.getfield 156, 3) := by decide +kernel
theorem dX4_tell_24 : decode cX4_tell 24 = .ok (.iload_n 3, 1) := by decide +kernel
theorem dX4_tell_25 : decode cX4_tell 25 = .ok (.iaload, 1) := by decide +kernel
theorem dX4_tell_26 : decode cX4_tell 26 = .ok (.dup2, 1) := by decide +kernel
theorem dX4_tell_27 : decode cX4_tell 27 = .ok (.iaload, 1) := by decide +kernel
theorem dX4_tell_28 : decode cX4_tell 28 = .ok (.aload_n 0, 1) := by decide +kernel
theorem dX4_tell_29 : decode cX4_tell 29 = .ok (.getfield 51, 3) := by decide +kernel
theorem dX4_tell_32 : decode cX4_tell 32 = .ok (.getfield 157, 3) := by decide +kernel
theorem dX4_tell_35 : decode cX4_tell 35 = .ok (.iload_n 3, 1) := by decide +kernel
theorem dX4_tell_36 : decode cX4_tell 36 = .ok (.iaload, 1) := by decide +kernel
theorem dX4_tell_37 : decode cX4_tell 37 = .ok (.iadd, 1) := by decide +kernel
theorem dX4_tell_38 : decode cX4_tell 38 = .ok (.iastore, 1) := by decide +kernel
theorem dX4_tell_39 : decode cX4_tell 39 = .ok (.aload_n 0, 1) := by decide +kernel
theorem dX4_tell_40 : decode cX4_tell 40 = .ok (.iload_n 2, 1) := by decide +kernel
theorem dX4_tell_41 : decode cX4_tell 41 = .ok (.iload_n 3, 1) := by decide +kernel
theorem dX4_tell_42 : decode cX4_tell 42 = .ok (.iload 4, 2) := by decide +kernel
theorem dX4_tell_44 : decode cX4_tell 44 = .ok (.invokevirtual 132, 3) := by decide +kernel
theorem dX4_tell_47 : decode cX4_tell 47 = .ok (.return_, 1) := by decide +kernel
theorem dX4_pay_0 : decode cX4_pay 0 = .ok (.iconst 0, 1) := by decide +kernel
theorem dX4_pay_1 : decode cX4_pay 1 = .ok (.istore 4, 2) := by decide +kernel
theorem dX4_pay_3 : decode cX4_pay 3 = .ok (.iload 4, 2) := by decide +kernel
theorem dX4_pay_5 : decode cX4_pay 5 = .ok (.aload_n 0, 1) := by decide +kernel
theorem dX4_pay_6 : decode cX4_pay 6 = .ok (.getfield 81, 3) := by decide +kernel
theorem dX4_pay_9 : decode cX4_pay 9 = .ok (.if_icmp .ge 58, 3) := by decide +kernel
theorem dX4_pay_12 : decode cX4_pay 12 = .ok (.aload_n 0, 1) := by decide +kernel
theorem dX4_pay_13 : decode cX4_pay 13 = .ok (.getfield 27, 3) := by decide +kernel
theorem dX4_pay_16 : decode cX4_pay 16 = .ok (.iload 4, 2) := by decide +kernel
theorem dX4_pay_18 : decode cX4_pay 18 = .ok (.iaload, 1) := by decide +kernel
theorem dX4_pay_19 : decode cX4_pay 19 = .ok (.iload_n 1, 1) := by decide +kernel
theorem dX4_pay_20 : decode cX4_pay 20 = .ok (.if_icmp .ne 41, 3) := by decide +kernel
theorem dX4_pay_23 : decode cX4_pay 23 = .ok (.aload_n 0, 1) := by decide +kernel
theorem dX4_pay_24 : decode cX4_pay 24 = .ok (.getfield 39, 3) := by decide +kernel
theorem dX4_pay_27 : decode cX4_pay 27 = .ok (.iload 4, 2) := by decide +kernel
theorem dX4_pay_29 : decode cX4_pay 29 = .ok (.iaload, 1) := by decide +kernel
theorem dX4_pay_30 : decode cX4_pay 30 = .ok (.ifCond .le 31, 3) := by decide +kernel
theorem dX4_pay_33 : decode cX4_pay 33 = .ok (.aload_n 0, 1) := by decide +kernel
theorem dX4_pay_34 : decode cX4_pay 34 = .ok (.getfield 39, 3) := by decide +kernel
theorem dX4_pay_37 : decode cX4_pay 37 = .ok (.iload 4, 2) := by decide +kernel
theorem dX4_pay_39 : decode cX4_pay 39 = .ok (.iaload, 1) := by decide +kernel
theorem dX4_pay_40 : decode cX4_pay 40 = .ok (.iload_n 2, 1) := by decide +kernel
theorem dX4_pay_41 : decode cX4_pay 41 = .ok (.if_icmp .gt 20, 3) := by decide +kernel
theorem dX4_pay_44 : decode cX4_pay 44 = .ok (.aload_n 0, 1) := by decide +kernel
theorem dX4_pay_45 : decode cX4_pay 45 = .ok (.getfield 39, 3) := by decide +kernel
theorem dX4_pay_48 : decode cX4_pay 48 = .ok (.iload 4, 2) := by decide +kernel
theorem dX4_pay_50 : decode cX4_pay 50 = .ok (.iconst 0, 1) := by decide +kernel
theorem dX4_pay_51 : decode cX4_pay 51 = .ok (.iastore, 1) := by decide +kernel
theorem dX4_pay_52 : decode cX4_pay 52 = .ok (.aload_n 0, 1) := by decide +kernel
theorem dX4_pay_53 : decode cX4_pay 53 = .ok (.getfield 45, 3) := by decide +kernel
theorem dX4_pay_56 : decode cX4_pay 56 = .ok (.iload 4, 2) := by decide +kernel
theorem dX4_pay_58 : decode cX4_pay 58 = .ok (.iload_n 3, 1) := by decide +kernel
theorem dX4_pay_59 : decode cX4_pay 59 = .ok (.iastore, 1) := by decide +kernel
theorem dX4_pay_60 : decode cX4_pay 60 = .ok (.return_, 1) := by decide +kernel
theorem dX4_pay_61 : decode cX4_pay 61 = .ok (.iinc 4 1, 3) := by decide +kernel
theorem dX4_pay_64 : decode cX4_pay 64 = .ok (.goto (-61), 3) := by decide +kernel
theorem dX4_pay_67 : decode cX4_pay 67 = .ok (.return_, 1) := by decide +kernel
theorem dX4_learn_0 : decode cX4_learn 0 = .ok (.aload_n 0, 1) := by decide +kernel
theorem dX4_learn_1 : decode cX4_learn 1 = .ok (.iload_n 1, 1) := by decide +kernel
theorem dX4_learn_2 : decode cX4_learn 2 = .ok (.iload_n 2, 1) := by decide +kernel
theorem dX4_learn_3 : decode cX4_learn 3 = .ok (.invokevirtual 160, 3) := by decide +kernel
theorem dX4_learn_6 : decode cX4_learn 6 = .ok (.istore 4, 2) := by decide +kernel
theorem dX4_learn_8 : decode cX4_learn 8 = .ok (.aload_n 0, 1) := by decide +kernel
theorem dX4_learn_9 : decode cX4_learn 9 = .ok (.getfield 9, 3) := by decide +kernel
theorem dX4_learn_12 : decode cX4_learn 12 = .ok (.iload_n 1, 1) := by decide +kernel
theorem dX4_learn_13 : decode cX4_learn 13 = .ok (.dup2, 1) := by decide +kernel
theorem dX4_learn_14 : decode cX4_learn 14 = .ok (.iaload, 1) := by decide +kernel
theorem dX4_learn_15 : decode cX4_learn 15 = .ok (.iload 4, 2) := by decide +kernel
theorem dX4_learn_17 : decode cX4_learn 17 = .ok (.ior, 1) := by decide +kernel
theorem dX4_learn_18 : decode cX4_learn 18 = .ok (.iastore, 1) := by decide +kernel
theorem dX4_learn_19 : decode cX4_learn 19 = .ok (.aload_n 0, 1) := by decide +kernel
theorem dX4_learn_20 : decode cX4_learn 20 = .ok (.dup, 1) := by decide +kernel
theorem dX4_learn_21 : decode cX4_learn 21 = .ok (.getfield 78, 3) := by decide +kernel
theorem dX4_learn_24 : decode cX4_learn 24 = .ok (.iconst 1, 1) := by decide +kernel
theorem dX4_learn_25 : decode cX4_learn 25 = .ok (.iload_n 2, 1) := by decide +kernel
theorem dX4_learn_26 : decode cX4_learn 26 = .ok (.ishl, 1) := by decide +kernel
theorem dX4_learn_27 : decode cX4_learn 27 = .ok (.ior, 1) := by decide +kernel
theorem dX4_learn_28 : decode cX4_learn 28 = .ok (.putfield 78, 3) := by decide +kernel
theorem dX4_learn_31 : decode cX4_learn 31 = .ok (.iconst 0, 1) := by decide +kernel
theorem dX4_learn_32 : decode cX4_learn 32 = .ok (.istore 5, 2) := by decide +kernel
theorem dX4_learn_34 : decode cX4_learn 34 = .ok (.iload 5, 2) := by decide +kernel
theorem dX4_learn_36 : decode cX4_learn 36 = .ok (.aload_n 0, 1) := by decide +kernel
theorem dX4_learn_37 : decode cX4_learn 37 = .ok (.getfield 51, 3) := by decide +kernel
theorem dX4_learn_40 : decode cX4_learn 40 = .ok (.getfield 163, 3) := by decide +kernel
theorem dX4_learn_43 : decode cX4_learn 43 = .ok (.if_icmp .ge 32, 3) := by decide +kernel
theorem dX4_learn_46 : decode cX4_learn 46 = .ok (.iload 4, 2) := by decide +kernel
theorem dX4_learn_48 : decode cX4_learn 48 = .ok (.iload 5, 2) := by decide +kernel
theorem dX4_learn_50 : decode cX4_learn 50 = .ok (.invokestatic 135, 3) := by decide +kernel
theorem dX4_learn_53 : decode cX4_learn 53 = .ok (.ifCond .eq 16, 3) := by decide +kernel
theorem dX4_learn_56 : decode cX4_learn 56 = .ok (.aload_n 0, 1) := by decide +kernel
theorem dX4_learn_57 : decode cX4_learn 57 = .ok (.getfield 21, 3) := by decide +kernel
theorem dX4_learn_60 : decode cX4_learn 60 = .ok (.iload_n 1, 1) := by decide +kernel
theorem dX4_learn_61 : decode cX4_learn 61 = .ok (.bipush 12, 2) := by decide +kernel
theorem dX4_learn_63 : decode cX4_learn 63 = .ok (.imul, 1) := by decide +kernel
theorem dX4_learn_64 : decode cX4_learn 64 = .ok (.iload 5, 2) := by decide +kernel
theorem dX4_learn_66 : decode cX4_learn 66 = .ok (.iadd, 1) := by decide +kernel
theorem dX4_learn_67 : decode cX4_learn 67 = .ok (.iload_n 3, 1) := by decide +kernel
theorem dX4_learn_68 : decode cX4_learn 68 = .ok (.iastore, 1) := by decide +kernel
theorem dX4_learn_69 : decode cX4_learn 69 = .ok (.iinc 5 1, 3) := by decide +kernel
theorem dX4_learn_72 : decode cX4_learn 72 = .ok (.goto (-38), 3) := by decide +kernel
theorem dX4_learn_75 : decode cX4_learn 75 = .ok (.iconst 0, 1) := by decide +kernel
theorem dX4_learn_76 : decode cX4_learn 76 = .ok (.istore 5, 2) := by decide +kernel
theorem dX4_learn_78 : decode cX4_learn 78 = .ok (.iload 5, 2) := by decide +kernel
theorem dX4_learn_80 : decode cX4_learn 80 = .ok (.aload_n 0, 1) := by decide +kernel
theorem dX4_learn_81 : decode cX4_learn 81 = .ok (.getfield 81, 3) := by decide +kernel
theorem dX4_learn_84 : decode cX4_learn 84 = .ok (.if_icmp .ge 61, 3) := by decide +kernel
theorem dX4_learn_87 : decode cX4_learn 87 = .ok (.aload_n 0, 1) := by decide +kernel
theorem dX4_learn_88 : decode cX4_learn 88 = .ok (.getfield 30, 3) := by decide +kernel
theorem dX4_learn_91 : decode cX4_learn 91 = .ok (.iload 5, 2) := by decide +kernel
theorem dX4_learn_93 : decode cX4_learn 93 = .ok (.iaload, 1) := by decide +kernel
theorem dX4_learn_94 : decode cX4_learn 94 = .ok (.iload_n 1, 1) := by decide +kernel
theorem dX4_learn_95 : decode cX4_learn 95 = .ok (.if_icmp .ne 44, 3) := by decide +kernel
theorem dX4_learn_98 : decode cX4_learn 98 = .ok (.iload 4, 2) := by decide +kernel
theorem dX4_learn_100 : decode cX4_learn 100 = .ok (.aload_n 0, 1) := by decide +kernel
theorem dX4_learn_101 : decode cX4_learn 101 = .ok (.getfield 33, 3) := by decide +kernel
theorem dX4_learn_104 : decode cX4_learn 104 = .ok (.iload 5, 2) := by decide +kernel
theorem dX4_learn_106 : decode cX4_learn 106 = .ok (.iaload, 1) := by decide +kernel
theorem dX4_learn_107 : decode cX4_learn 107 = .ok (.invokestatic 135, 3) := by decide +kernel
theorem dX4_learn_110 : decode cX4_learn 110 = .ok (.ifCond .eq 29, 3) := by decide +kernel
theorem dX4_learn_113 : decode cX4_learn 113 = .ok (.aload_n 0, 1) := by decide +kernel
theorem dX4_learn_114 : decode cX4_learn 114 = .ok (.getfield 48, 3) := by decide +kernel
theorem dX4_learn_117 : decode cX4_learn 117 = .ok (.iload 5, 2) := by decide +kernel
theorem dX4_learn_119 : decode cX4_learn 119 = .ok (.iconst 1, 1) := by decide +kernel
theorem dX4_learn_120 : decode cX4_learn 120 = .ok (.iastore, 1) := by decide +kernel
theorem dX4_learn_121 : decode cX4_learn 121 = .ok (.aload_n 0, 1) := by decide +kernel
theorem dX4_learn_122 : decode cX4_learn 122 = .ok (.getfield 39, 3) := by decide +kernel
theorem dX4_learn_125 : decode cX4_learn 125 = .ok (.iload 5, 2) := by decide +kernel
theorem dX4_learn_127 : decode cX4_learn 127 = .ok (.aload_n 0, 1) := by decide +kernel
theorem dX4_learn_128 : decode cX4_learn 128 = .ok (.aload_n 0, 1) := by decide +kernel
theorem dX4_learn_129 : decode cX4_learn 129 = .ok (.getfield 39, 3) := by decide +kernel
theorem dX4_learn_132 : decode cX4_learn 132 = .ok (.iload 5, 2) := by decide +kernel
theorem dX4_learn_134 : decode cX4_learn 134 = .ok (.iaload, 1) := by decide +kernel
theorem dX4_learn_135 : decode cX4_learn 135 = .ok (.invokevirtual 166, 3) := by decide +kernel
theorem dX4_learn_138 : decode cX4_learn 138 = .ok (.iastore, 1) := by decide +kernel
theorem dX4_learn_139 : decode cX4_learn 139 = .ok (.iinc 5 1, 3) := by decide +kernel
theorem dX4_learn_142 : decode cX4_learn 142 = .ok (.goto (-64), 3) := by decide +kernel
theorem dX4_learn_145 : decode cX4_learn 145 = .ok (.return_, 1) := by decide +kernel
theorem dX4_grown_0 : decode cX4_grown 0 = .ok (.iload_n 1, 1) := by decide +kernel
theorem dX4_grown_1 : decode cX4_grown 1 = .ok (.aload_n 0, 1) := by decide +kernel
theorem dX4_grown_2 : decode cX4_grown 2 = .ok (.getfield 51, 3) := by decide +kernel
theorem dX4_grown_5 : decode cX4_grown 5 = .ok (.getfield 117, 3) := by decide +kernel
theorem dX4_grown_8 : decode cX4_grown 8 = .ok (.iconst 4, 1) := by decide +kernel
theorem dX4_grown_9 : decode cX4_grown 9 = .ok (.iaload, 1) := by decide +kernel
theorem dX4_grown_10 : decode cX4_grown 10 = .ok (.imul, 1) := by decide +kernel
theorem dX4_grown_11 : decode cX4_grown 11 = .ok (.bipush 10, 2) := by decide +kernel
theorem dX4_grown_13 : decode cX4_grown 13 = .ok (.invokestatic 120, 3) := by decide +kernel
theorem dX4_grown_16 : decode cX4_grown 16 = .ok (.ireturn, 1) := by decide +kernel
theorem dX4_tellMore_0 : decode cX4_tellMore 0 = .ok (.aload_n 0, 1) := by decide +kernel
theorem dX4_tellMore_1 : decode cX4_tellMore 1 = .ok (.iconst 1, 1) := by decide +kernel
theorem dX4_tellMore_2 : decode cX4_tellMore 2 = .ok (.iload_n 1, 1) := by decide +kernel
theorem dX4_tellMore_3 : decode cX4_tellMore 3 = .ok (.ishl, 1) := by decide +kernel
theorem dX4_tellMore_4 : decode cX4_tellMore 4 = .ok (.iload_n 2, 1) := by decide +kernel
theorem dX4_tellMore_5 : decode cX4_tellMore 5 = .ok (.iload_n 3, 1) := by decide +kernel
theorem dX4_tellMore_6 : decode cX4_tellMore 6 = .ok (.invokevirtual 106, 3) := by decide +kernel
theorem dX4_tellMore_9 : decode cX4_tellMore 9 = .ok (.istore 4, 2) := by decide +kernel
theorem dX4_tellMore_11 : decode cX4_tellMore 11 = .ok (.iload 4, 2) := by decide +kernel
theorem dX4_tellMore_13 : decode cX4_tellMore 13 = .ok (.ifCond .ne 17, 3) := by decide +kernel
theorem dX4_tellMore_16 : decode cX4_tellMore 16 = .ok (.aload_n 0, 1) := by decide +kernel
theorem dX4_tellMore_17 : decode cX4_tellMore 17 = .ok (.iload_n 1, 1) := by decide +kernel
theorem dX4_tellMore_18 : decode cX4_tellMore 18 = .ok (.iload_n 2, 1) := by decide +kernel
theorem dX4_tellMore_19 : decode cX4_tellMore 19 = .ok (.iload_n 3, 1) := by decide +kernel
theorem dX4_tellMore_20 : decode cX4_tellMore 20 = .ok (.aload_n 0, 1) := by decide +kernel
theorem dX4_tellMore_21 : decode cX4_tellMore 21 = .ok (.getfield 55, 3) := by decide +kernel
theorem dX4_tellMore_24 : decode cX4_tellMore 24 = .ok (.getfield 87, 3) := by decide +kernel
theorem dX4_tellMore_27 : decode cX4_tellMore 27 = .ok (.invokevirtual 128, 3) := by decide +kernel
theorem dX4_tellMore_30 : decode cX4_tellMore 30 = .ok (.iload 4, 2) := by decide +kernel
theorem dX4_tellMore_32 : decode cX4_tellMore 32 = .ok (.ireturn, 1) := by decide +kernel
theorem dX4_copyDebts_0 : decode cX4_copyDebts 0 = .ok (.aload_n 0, 1) := by decide +kernel
theorem dX4_copyDebts_1 : decode cX4_copyDebts 1 = .ok (.aload_n 1, 1) := by decide +kernel
theorem dX4_copyDebts_2 : decode cX4_copyDebts 2 = .ok (.getfield 81, 3) := by decide +kernel
theorem dX4_copyDebts_5 : decode cX4_copyDebts 5 = .ok (.putfield 81, 3) := by decide +kernel
theorem dX4_copyDebts_8 : decode cX4_copyDebts 8 = .ok (.aload_n 1, 1) := by decide +kernel
theorem dX4_copyDebts_9 : decode cX4_copyDebts 9 = .ok (.getfield 27, 3) := by decide +kernel
theorem dX4_copyDebts_12 : decode cX4_copyDebts 12 = .ok (.iconst 0, 1) := by decide +kernel
theorem dX4_copyDebts_13 : decode cX4_copyDebts 13 = .ok (.aload_n 0, 1) := by decide +kernel
theorem dX4_copyDebts_14 : decode cX4_copyDebts 14 = .ok (.getfield 27, 3) := by decide +kernel
theorem dX4_copyDebts_17 : decode cX4_copyDebts 17 = .ok (.iconst 0, 1) := by decide +kernel
theorem dX4_copyDebts_18 : decode cX4_copyDebts 18 = .ok (.sipush 128, 3) := by decide +kernel
theorem dX4_copyDebts_21 : decode cX4_copyDebts 21 = .ok (.invokestatic 169, 3) := by decide +kernel
theorem dX4_copyDebts_24 : decode cX4_copyDebts 24 = .ok (.aload_n 1, 1) := by decide +kernel
theorem dX4_copyDebts_25 : decode cX4_copyDebts 25 = .ok (.getfield 30, 3) := by decide +kernel
theorem dX4_copyDebts_28 : decode cX4_copyDebts 28 = .ok (.iconst 0, 1) := by decide +kernel
theorem dX4_copyDebts_29 : decode cX4_copyDebts 29 = .ok (.aload_n 0, 1) := by decide +kernel
theorem dX4_copyDebts_30 : decode cX4_copyDebts 30 = .ok (.getfield 30, 3) := by decide +kernel
theorem dX4_copyDebts_33 : decode cX4_copyDebts 33 = .ok (.iconst 0, 1) := by decide +kernel
theorem dX4_copyDebts_34 : decode cX4_copyDebts 34 = .ok (.sipush 128, 3) := by decide +kernel
theorem dX4_copyDebts_37 : decode cX4_copyDebts 37 = .ok (.invokestatic 169, 3) := by decide +kernel
theorem dX4_copyDebts_40 : decode cX4_copyDebts 40 = .ok (.aload_n 1, 1) := by decide +kernel
theorem dX4_copyDebts_41 : decode cX4_copyDebts 41 = .ok (.getfield 33, 3) := by decide +kernel
theorem dX4_copyDebts_44 : decode cX4_copyDebts 44 = .ok (.iconst 0, 1) := by decide +kernel
theorem dX4_copyDebts_45 : decode cX4_copyDebts 45 = .ok (.aload_n 0, 1) := by decide +kernel
theorem dX4_copyDebts_46 : decode cX4_copyDebts 46 = .ok (.getfield 33, 3) := by decide +kernel
theorem dX4_copyDebts_49 : decode cX4_copyDebts 49 = .ok (.iconst 0, 1) := by decide +kernel
theorem dX4_copyDebts_50 : decode cX4_copyDebts 50 = .ok (.sipush 128, 3) := by decide +kernel
theorem dX4_copyDebts_53 : decode cX4_copyDebts 53 = .ok (.invokestatic 169, 3) := by decide +kernel
theorem dX4_copyDebts_56 : decode cX4_copyDebts 56 = .ok (.return_, 1) := by decide +kernel
theorem dX4_goBackTo_0 : decode cX4_goBackTo 0 = .ok (.aload_n 0, 1) := by decide +kernel
theorem dX4_goBackTo_1 : decode cX4_goBackTo 1 = .ok (.aload_n 1, 1) := by decide +kernel
theorem dX4_goBackTo_2 : decode cX4_goBackTo 2 = .ok (.getfield 78, 3) := by decide +kernel
theorem dX4_goBackTo_5 : decode cX4_goBackTo 5 = .ok (.putfield 78, 3) := by decide +kernel
theorem dX4_goBackTo_8 : decode cX4_goBackTo 8 = .ok (.aload_n 1, 1) := by decide +kernel
theorem dX4_goBackTo_9 : decode cX4_goBackTo 9 = .ok (.getfield 9, 3) := by decide +kernel
theorem dX4_goBackTo_12 : decode cX4_goBackTo 12 = .ok (.iconst 0, 1) := by decide +kernel
theorem dX4_goBackTo_13 : decode cX4_goBackTo 13 = .ok (.aload_n 0, 1) := by decide +kernel
theorem dX4_goBackTo_14 : decode cX4_goBackTo 14 = .ok (.getfield 9, 3) := by decide +kernel
theorem dX4_goBackTo_17 : decode cX4_goBackTo 17 = .ok (.iconst 0, 1) := by decide +kernel
theorem dX4_goBackTo_18 : decode cX4_goBackTo 18 = .ok (.bipush 8, 2) := by decide +kernel
theorem dX4_goBackTo_20 : decode cX4_goBackTo 20 = .ok (.invokestatic 169, 3) := by decide +kernel
theorem dX4_goBackTo_23 : decode cX4_goBackTo 23 = .ok (.aload_n 1, 1) := by decide +kernel
theorem dX4_goBackTo_24 : decode cX4_goBackTo 24 = .ok (.getfield 39, 3) := by decide +kernel
theorem dX4_goBackTo_27 : decode cX4_goBackTo 27 = .ok (.iconst 0, 1) := by decide +kernel
theorem dX4_goBackTo_28 : decode cX4_goBackTo 28 = .ok (.aload_n 0, 1) := by decide +kernel
theorem dX4_goBackTo_29 : decode cX4_goBackTo 29 = .ok (.getfield 39, 3) := by decide +kernel
theorem dX4_goBackTo_32 : decode cX4_goBackTo 32 = .ok (.iconst 0, 1) := by decide +kernel
theorem dX4_goBackTo_33 : decode cX4_goBackTo 33 = .ok (.sipush 128, 3) := by decide +kernel
theorem dX4_goBackTo_36 : decode cX4_goBackTo 36 = .ok (.invokestatic 169, 3) := by decide +kernel
theorem dX4_goBackTo_39 : decode cX4_goBackTo 39 = .ok (.return_, 1) := by decide +kernel
theorem dX4_hasDebt_0 : decode cX4_hasDebt 0 = .ok (.iload_n 1, 1) := by decide +kernel
theorem dX4_hasDebt_1 : decode cX4_hasDebt 1 = .ok (.ifCond .lt 15, 3) := by decide +kernel
theorem dX4_hasDebt_4 : decode cX4_hasDebt 4 = .ok (.iload_n 1, 1) := by decide +kernel
theorem dX4_hasDebt_5 : decode cX4_hasDebt 5 = .ok (.aload_n 0, 1) := by decide +kernel
theorem dX4_hasDebt_6 : decode cX4_hasDebt 6 = .ok (.getfield 81, 3) := by decide +kernel
theorem dX4_hasDebt_9 : decode cX4_hasDebt 9 = .ok (.if_icmp .ge 7, 3) := by decide +kernel
theorem dX4_hasDebt_12 : decode cX4_hasDebt 12 = .ok (.iconst 1, 1) := by decide +kernel
theorem dX4_hasDebt_13 : decode cX4_hasDebt 13 = .ok (.goto 4, 3) := by decide +kernel
theorem dX4_hasDebt_16 : decode cX4_hasDebt 16 = .ok (.iconst 0, 1) := by decide +kernel
theorem dX4_hasDebt_17 : decode cX4_hasDebt 17 = .ok (.ireturn, 1) := by decide +kernel
theorem dX4_isKnown_0 : decode cX4_isKnown 0 = .ok (.aload_n 0, 1) := by decide +kernel
theorem dX4_isKnown_1 : decode cX4_isKnown 1 = .ok (.getfield 9, 3) := by decide +kernel
theorem dX4_isKnown_4 : decode cX4_isKnown 4 = .ok (.iload_n 1, 1) := by decide +kernel
theorem dX4_isKnown_5 : decode cX4_isKnown 5 = .ok (.iaload, 1) := by decide +kernel
theorem dX4_isKnown_6 : decode cX4_isKnown 6 = .ok (.iload_n 2, 1) := by decide +kernel
theorem dX4_isKnown_7 : decode cX4_isKnown 7 = .ok (.invokestatic 135, 3) := by decide +kernel
theorem dX4_isKnown_10 : decode cX4_isKnown 10 = .ok (.ireturn, 1) := by decide +kernel
theorem dX4_freshFor_0 : decode cX4_freshFor 0 = .ok (.aload_n 0, 1) := by decide +kernel
theorem dX4_freshFor_1 : decode cX4_freshFor 1 = .ok (.getfield 51, 3) := by decide +kernel
theorem dX4_freshFor_4 : decode cX4_freshFor 4 = .ok (.aload_n 0, 1) := by decide +kernel
theorem dX4_freshFor_5 : decode cX4_freshFor 5 = .ok (.getfield 9, 3) := by decide +kernel
theorem dX4_freshFor_8 : decode cX4_freshFor 8 = .ok (.iload_n 1, 1) := by decide +kernel
theorem dX4_freshFor_9 : decode cX4_freshFor 9 = .ok (.iaload, 1) := by decide +kernel
theorem dX4_freshFor_10 : decode cX4_freshFor 10 = .ok (.iconst 1, 1) := by decide +kernel
theorem dX4_freshFor_11 : decode cX4_freshFor 11 = .ok (.iload_n 2, 1) := by decide +kernel
theorem dX4_freshFor_12 : decode cX4_freshFor 12 = .ok (.ishl, 1) := by decide +kernel
theorem dX4_freshFor_13 : decode cX4_freshFor 13 = .ok (.ior, 1) := by decide +kernel
theorem dX4_freshFor_14 : decode cX4_freshFor 14 = .ok (.invokevirtual 74, 3) := by decide +kernel
theorem dX4_freshFor_17 : decode cX4_freshFor 17 = .ok (.aload_n 0, 1) := by decide +kernel
theorem dX4_freshFor_18 : decode cX4_freshFor 18 = .ok (.getfield 9, 3) := by decide +kernel
theorem dX4_freshFor_21 : decode cX4_freshFor 21 = .ok (.iload_n 1, 1) := by decide +kernel
theorem dX4_freshFor_22 : decode cX4_freshFor 22 = .ok (.iaload, 1) := by decide +kernel
theorem dX4_freshFor_23 : decode cX4_freshFor 23 = .ok (.iconst (-1), 1) := by decide +kernel
theorem dX4_freshFor_24 : decode cX4_freshFor 24 = .ok (.ixor, 1) := by decide +kernel
theorem dX4_freshFor_25 : decode cX4_freshFor 25 = .ok (.iand, 1) := by decide +kernel
theorem dX4_freshFor_26 : decode cX4_freshFor 26 = .ok (.ireturn, 1) := by decide +kernel
theorem dX4_oldValue_0 : decode cX4_oldValue 0 = .ok (.aload_n 0, 1) := by decide +kernel
theorem dX4_oldValue_1 : decode cX4_oldValue 1 = .ok (.getfield 51, 3) := by decide +kernel
theorem dX4_oldValue_4 : decode cX4_oldValue 4 = .ok (.getfield 114, 3) := by decide +kernel
theorem dX4_oldValue_7 : decode cX4_oldValue 7 = .ok (.iload_n 1, 1) := by decide +kernel
theorem dX4_oldValue_8 : decode cX4_oldValue 8 = .ok (.iaload, 1) := by decide +kernel
theorem dX4_oldValue_9 : decode cX4_oldValue 9 = .ok (.aload_n 0, 1) := by decide +kernel
theorem dX4_oldValue_10 : decode cX4_oldValue 10 = .ok (.getfield 51, 3) := by decide +kernel
theorem dX4_oldValue_13 : decode cX4_oldValue 13 = .ok (.getfield 117, 3) := by decide +kernel
theorem dX4_oldValue_16 : decode cX4_oldValue 16 = .ok (.iconst 1, 1) := by decide +kernel
theorem dX4_oldValue_17 : decode cX4_oldValue 17 = .ok (.iaload, 1) := by decide +kernel
theorem dX4_oldValue_18 : decode cX4_oldValue 18 = .ok (.imul, 1) := by decide +kernel
theorem dX4_oldValue_19 : decode cX4_oldValue 19 = .ok (.bipush 10, 2) := by decide +kernel
theorem dX4_oldValue_21 : decode cX4_oldValue 21 = .ok (.idiv, 1) := by decide +kernel
theorem dX4_oldValue_22 : decode cX4_oldValue 22 = .ok (.ireturn, 1) := by decide +kernel
theorem dX4_valueFor_0 : decode cX4_valueFor 0 = .ok (.aload_n 0, 1) := by decide +kernel
theorem dX4_valueFor_1 : decode cX4_valueFor 1 = .ok (.getfield 78, 3) := by decide +kernel
theorem dX4_valueFor_4 : decode cX4_valueFor 4 = .ok (.iload_n 2, 1) := by decide +kernel
theorem dX4_valueFor_5 : decode cX4_valueFor 5 = .ok (.invokestatic 135, 3) := by decide +kernel
theorem dX4_valueFor_8 : decode cX4_valueFor 8 = .ok (.ifCond .eq 9, 3) := by decide +kernel
theorem dX4_valueFor_11 : decode cX4_valueFor 11 = .ok (.aload_n 0, 1) := by decide +kernel
theorem dX4_valueFor_12 : decode cX4_valueFor 12 = .ok (.iload_n 2, 1) := by decide +kernel
theorem dX4_valueFor_13 : decode cX4_valueFor 13 = .ok (.invokevirtual 175, 3) := by decide +kernel
theorem dX4_valueFor_16 : decode cX4_valueFor 16 = .ok (.ireturn, 1) := by decide +kernel
theorem dX4_valueFor_17 : decode cX4_valueFor 17 = .ok (.aload_n 0, 1) := by decide +kernel
theorem dX4_valueFor_18 : decode cX4_valueFor 18 = .ok (.getfield 51, 3) := by decide +kernel
theorem dX4_valueFor_21 : decode cX4_valueFor 21 = .ok (.getfield 156, 3) := by decide +kernel
theorem dX4_valueFor_24 : decode cX4_valueFor 24 = .ok (.iload_n 2, 1) := by decide +kernel
theorem dX4_valueFor_25 : decode cX4_valueFor 25 = .ok (.iaload, 1) := by decide +kernel
theorem dX4_valueFor_26 : decode cX4_valueFor 26 = .ok (.iload_n 1, 1) := by decide +kernel
theorem dX4_valueFor_27 : decode cX4_valueFor 27 = .ok (.if_icmp .eq 15, 3) := by decide +kernel
theorem dX4_valueFor_30 : decode cX4_valueFor 30 = .ok (.aload_n 0, 1) := by decide +kernel
theorem dX4_valueFor_31 : decode cX4_valueFor 31 = .ok (.iload_n 1, 1) := by decide +kernel
theorem dX4_valueFor_32 : decode cX4_valueFor 32 = .ok (.invokevirtual 178, 3) := by decide +kernel
theorem dX4_valueFor_35 : decode cX4_valueFor 35 = .ok (.iload_n 2, 1) := by decide +kernel
theorem dX4_valueFor_36 : decode cX4_valueFor 36 = .ok (.invokestatic 135, 3) := by decide +kernel
theorem dX4_valueFor_39 : decode cX4_valueFor 39 = .ok (.ifCond .eq 13, 3) := by decide +kernel
theorem dX4_valueFor_42 : decode cX4_valueFor 42 = .ok (.aload_n 0, 1) := by decide +kernel
theorem dX4_valueFor_43 : decode cX4_valueFor 43 = .ok (.getfield 51, 3) := by decide +kernel
theorem dX4_valueFor_46 : decode cX4_valueFor 46 = .ok (.getfield 114, 3) := by decide +kernel
theorem dX4_valueFor_49 : decode cX4_valueFor 49 = .ok (.iload_n 2, 1) := by decide +kernel
theorem dX4_valueFor_50 : decode cX4_valueFor 50 = .ok (.iaload, 1) := by decide +kernel
theorem dX4_valueFor_51 : decode cX4_valueFor 51 = .ok (.ireturn, 1) := by decide +kernel
theorem dX4_valueFor_52 : decode cX4_valueFor 52 = .ok (.aload_n 0, 1) := by decide +kernel
theorem dX4_valueFor_53 : decode cX4_valueFor 53 = .ok (.getfield 51, 3) := by decide +kernel
theorem dX4_valueFor_56 : decode cX4_valueFor 56 = .ok (.getfield 114, 3) := by decide +kernel
theorem dX4_valueFor_59 : decode cX4_valueFor 59 = .ok (.iload_n 2, 1) := by decide +kernel
theorem dX4_valueFor_60 : decode cX4_valueFor 60 = .ok (.iaload, 1) := by decide +kernel
theorem dX4_valueFor_61 : decode cX4_valueFor 61 = .ok (.aload_n 0, 1) := by decide +kernel
theorem dX4_valueFor_62 : decode cX4_valueFor 62 = .ok (.getfield 51, 3) := by decide +kernel
theorem dX4_valueFor_65 : decode cX4_valueFor 65 = .ok (.getfield 117, 3) := by decide +kernel
theorem dX4_valueFor_68 : decode cX4_valueFor 68 = .ok (.iconst 2, 1) := by decide +kernel
theorem dX4_valueFor_69 : decode cX4_valueFor 69 = .ok (.iaload, 1) := by decide +kernel
theorem dX4_valueFor_70 : decode cX4_valueFor 70 = .ok (.imul, 1) := by decide +kernel
theorem dX4_valueFor_71 : decode cX4_valueFor 71 = .ok (.bipush 10, 2) := by decide +kernel
theorem dX4_valueFor_73 : decode cX4_valueFor 73 = .ok (.idiv, 1) := by decide +kernel
theorem dX4_valueFor_74 : decode cX4_valueFor 74 = .ok (.ireturn, 1) := by decide +kernel
theorem dX4_knownToOthers_0 : decode cX4_knownToOthers 0 = .ok (.iconst 0, 1) := by decide +kernel
theorem dX4_knownToOthers_1 : decode cX4_knownToOthers 1 = .ok (.istore_n 2, 1) := by decide +kernel
theorem dX4_knownToOthers_2 : decode cX4_knownToOthers 2 = .ok (.iconst 0, 1) := by decide +kernel
theorem dX4_knownToOthers_3 : decode cX4_knownToOthers 3 = .ok (.istore_n 3, 1) := by decide +kernel
theorem dX4_knownToOthers_4 : decode cX4_knownToOthers 4 = .ok (.iload_n 3, 1) := by decide +kernel
theorem dX4_knownToOthers_5 : decode cX4_knownToOthers 5 = .ok (.aload_n 0, 1) := by decide +kernel
theorem dX4_knownToOthers_6 : decode cX4_knownToOthers 6 = .ok (.getfield 51, 3) := by decide +kernel
theorem dX4_knownToOthers_9 : decode cX4_knownToOthers 9 = .ok (.getfield 65, 3) := by decide +kernel
theorem dX4_knownToOthers_12 : decode cX4_knownToOthers 12 = .ok (.if_icmp .ge 27, 3) := by decide +kernel
theorem dX4_knownToOthers_15 : decode cX4_knownToOthers 15 = .ok (.iload_n 2, 1) := by decide +kernel
theorem dX4_knownToOthers_16 : decode cX4_knownToOthers 16 = .ok (.iload_n 3, 1) := by decide +kernel
theorem dX4_knownToOthers_17 : decode cX4_knownToOthers 17 = .ok (.iload_n 1, 1) := by decide +kernel
theorem dX4_knownToOthers_18 : decode cX4_knownToOthers 18 = .ok (.if_icmp .eq 12, 3) := by decide +kernel
theorem dX4_knownToOthers_21 : decode cX4_knownToOthers 21 = .ok (.aload_n 0, 1) := by decide +kernel
theorem dX4_knownToOthers_22 : decode cX4_knownToOthers 22 = .ok (.getfield 9, 3) := by decide +kernel
theorem dX4_knownToOthers_25 : decode cX4_knownToOthers 25 = .ok (.iload_n 3, 1) := by decide +kernel
theorem dX4_knownToOthers_26 : decode cX4_knownToOthers 26 = .ok (.iaload, 1) := by decide +kernel
theorem dX4_knownToOthers_27 : decode cX4_knownToOthers 27 = .ok (.goto 4, 3) := by decide +kernel
theorem dX4_knownToOthers_30 : decode cX4_knownToOthers 30 = .ok (.iconst 0, 1) := by decide +kernel
theorem dX4_knownToOthers_31 : decode cX4_knownToOthers 31 = .ok (.ior, 1) := by decide +kernel
theorem dX4_knownToOthers_32 : decode cX4_knownToOthers 32 = .ok (.istore_n 2, 1) := by decide +kernel
theorem dX4_knownToOthers_33 : decode cX4_knownToOthers 33 = .ok (.iinc 3 1, 3) := by decide +kernel
theorem dX4_knownToOthers_36 : decode cX4_knownToOthers 36 = .ok (.goto (-32), 3) := by decide +kernel
theorem dX4_knownToOthers_39 : decode cX4_knownToOthers 39 = .ok (.iload_n 2, 1) := by decide +kernel
theorem dX4_knownToOthers_40 : decode cX4_knownToOthers 40 = .ok (.ireturn, 1) := by decide +kernel
theorem dX4_knownToAll_0 : decode cX4_knownToAll 0 = .ok (.sipush 4095, 3) := by decide +kernel
theorem dX4_knownToAll_3 : decode cX4_knownToAll 3 = .ok (.istore_n 1, 1) := by decide +kernel
theorem dX4_knownToAll_4 : decode cX4_knownToAll 4 = .ok (.iconst 0, 1) := by decide +kernel
theorem dX4_knownToAll_5 : decode cX4_knownToAll 5 = .ok (.istore_n 2, 1) := by decide +kernel
theorem dX4_knownToAll_6 : decode cX4_knownToAll 6 = .ok (.iload_n 2, 1) := by decide +kernel
theorem dX4_knownToAll_7 : decode cX4_knownToAll 7 = .ok (.aload_n 0, 1) := by decide +kernel
theorem dX4_knownToAll_8 : decode cX4_knownToAll 8 = .ok (.getfield 51, 3) := by decide +kernel
theorem dX4_knownToAll_11 : decode cX4_knownToAll 11 = .ok (.getfield 65, 3) := by decide +kernel
theorem dX4_knownToAll_14 : decode cX4_knownToAll 14 = .ok (.if_icmp .ge 18, 3) := by decide +kernel
theorem dX4_knownToAll_17 : decode cX4_knownToAll 17 = .ok (.iload_n 1, 1) := by decide +kernel
theorem dX4_knownToAll_18 : decode cX4_knownToAll 18 = .ok (.aload_n 0, 1) := by decide +kernel
theorem dX4_knownToAll_19 : decode cX4_knownToAll 19 = .ok (.getfield 9, 3) := by decide +kernel
theorem dX4_knownToAll_22 : decode cX4_knownToAll 22 = .ok (.iload_n 2, 1) := by decide +kernel
theorem dX4_knownToAll_23 : decode cX4_knownToAll 23 = .ok (.iaload, 1) := by decide +kernel
theorem dX4_knownToAll_24 : decode cX4_knownToAll 24 = .ok (.iand, 1) := by decide +kernel
theorem dX4_knownToAll_25 : decode cX4_knownToAll 25 = .ok (.istore_n 1, 1) := by decide +kernel
theorem dX4_knownToAll_26 : decode cX4_knownToAll 26 = .ok (.iinc 2 1, 3) := by decide +kernel
theorem dX4_knownToAll_29 : decode cX4_knownToAll 29 = .ok (.goto (-23), 3) := by decide +kernel
theorem dX4_knownToAll_32 : decode cX4_knownToAll 32 = .ok (.iload_n 1, 1) := by decide +kernel
theorem dX4_knownToAll_33 : decode cX4_knownToAll 33 = .ok (.ireturn, 1) := by decide +kernel
theorem dX4_dayOf_0 : decode cX4_dayOf 0 = .ok (.aload_n 0, 1) := by decide +kernel
theorem dX4_dayOf_1 : decode cX4_dayOf 1 = .ok (.getfield 55, 3) := by decide +kernel
theorem dX4_dayOf_4 : decode cX4_dayOf 4 = .ok (.getfield 181, 3) := by decide +kernel
theorem dX4_dayOf_7 : decode cX4_dayOf 7 = .ok (.aload_n 0, 1) := by decide +kernel
theorem dX4_dayOf_8 : decode cX4_dayOf 8 = .ok (.getfield 42, 3) := by decide +kernel
theorem dX4_dayOf_11 : decode cX4_dayOf 11 = .ok (.iload_n 1, 1) := by decide +kernel
theorem dX4_dayOf_12 : decode cX4_dayOf 12 = .ok (.iaload, 1) := by decide +kernel
theorem dX4_dayOf_13 : decode cX4_dayOf 13 = .ok (.iaload, 1) := by decide +kernel
theorem dX4_dayOf_14 : decode cX4_dayOf 14 = .ok (.ireturn, 1) := by decide +kernel
theorem dX4_isLate_0 : decode cX4_isLate 0 = .ok (.aload_n 0, 1) := by decide +kernel
theorem dX4_isLate_1 : decode cX4_isLate 1 = .ok (.getfield 55, 3) := by decide +kernel
theorem dX4_isLate_4 : decode cX4_isLate 4 = .ok (.aload_n 0, 1) := by decide +kernel
theorem dX4_isLate_5 : decode cX4_isLate 5 = .ok (.getfield 45, 3) := by decide +kernel
theorem dX4_isLate_8 : decode cX4_isLate 8 = .ok (.iload_n 1, 1) := by decide +kernel
theorem dX4_isLate_9 : decode cX4_isLate 9 = .ok (.iaload, 1) := by decide +kernel
theorem dX4_isLate_10 : decode cX4_isLate 10 = .ok (.invokevirtual 184, 3) := by decide +kernel
theorem dX4_isLate_13 : decode cX4_isLate 13 = .ok (.ifCond .eq 20, 3) := by decide +kernel
theorem dX4_isLate_16 : decode cX4_isLate 16 = .ok (.aload_n 0, 1) := by decide +kernel
theorem dX4_isLate_17 : decode cX4_isLate 17 = .ok (.getfield 55, 3) := by decide +kernel
theorem dX4_isLate_20 : decode cX4_isLate 20 = .ok (.getfield 181, 3) := by decide +kernel
theorem dX4_isLate_23 : decode cX4_isLate 23 = .ok (.aload_n 0, 1) := by decide +kernel
theorem dX4_isLate_24 : decode cX4_isLate 24 = .ok (.getfield 45, 3) := by decide +kernel
theorem dX4_isLate_27 : decode cX4_isLate 27 = .ok (.iload_n 1, 1) := by decide +kernel
theorem dX4_isLate_28 : decode cX4_isLate 28 = .ok (.iaload, 1) := by decide +kernel
theorem dX4_isLate_29 : decode cX4_isLate 29 = .ok (.iaload, 1) := by decide +kernel
theorem dX4_isLate_30 : decode cX4_isLate 30 = .ok (.goto 10, 3) := by decide +kernel
theorem dX4_isLate_33 : decode cX4_isLate 33 = .ok (.aload_n 0, 1) := by decide +kernel
theorem dX4_isLate_34 : decode cX4_isLate 34 = .ok (.getfield 55, 3) := by decide +kernel
theorem dX4_isLate_37 : decode cX4_isLate 37 = .ok (.getfield 188, 3) := by decide +kernel
theorem dX4_isLate_40 : decode cX4_isLate 40 = .ok (.istore_n 2, 1) := by decide +kernel
theorem dX4_isLate_41 : decode cX4_isLate 41 = .ok (.iload_n 2, 1) := by decide +kernel
theorem dX4_isLate_42 : decode cX4_isLate 42 = .ok (.aload_n 0, 1) := by decide +kernel
theorem dX4_isLate_43 : decode cX4_isLate 43 = .ok (.iload_n 1, 1) := by decide +kernel
theorem dX4_isLate_44 : decode cX4_isLate 44 = .ok (.invokevirtual 191, 3) := by decide +kernel
theorem dX4_isLate_47 : decode cX4_isLate 47 = .ok (.isub, 1) := by decide +kernel
theorem dX4_isLate_48 : decode cX4_isLate 48 = .ok (.aload_n 0, 1) := by decide +kernel
theorem dX4_isLate_49 : decode cX4_isLate 49 = .ok (.getfield 51, 3) := by decide +kernel
theorem dX4_isLate_52 : decode cX4_isLate 52 = .ok (.getfield 117, 3) := by decide +kernel
theorem dX4_isLate_55 : decode cX4_isLate 55 = .ok (.iconst 0, 1) := by decide +kernel
theorem dX4_isLate_56 : decode cX4_isLate 56 = .ok (.iaload, 1) := by decide +kernel
theorem dX4_isLate_57 : decode cX4_isLate 57 = .ok (.if_icmp .le 7, 3) := by decide +kernel
theorem dX4_isLate_60 : decode cX4_isLate 60 = .ok (.iconst 1, 1) := by decide +kernel
theorem dX4_isLate_61 : decode cX4_isLate 61 = .ok (.goto 4, 3) := by decide +kernel
theorem dX4_isLate_64 : decode cX4_isLate 64 = .ok (.iconst 0, 1) := by decide +kernel
theorem dX4_isLate_65 : decode cX4_isLate 65 = .ok (.ireturn, 1) := by decide +kernel
theorem dX4_firstOpenOf_0 : decode cX4_firstOpenOf 0 = .ok (.iconst 0, 1) := by decide +kernel
theorem dX4_firstOpenOf_1 : decode cX4_firstOpenOf 1 = .ok (.istore_n 2, 1) := by decide +kernel
theorem dX4_firstOpenOf_2 : decode cX4_firstOpenOf 2 = .ok (.iload_n 2, 1) := by decide +kernel
theorem dX4_firstOpenOf_3 : decode cX4_firstOpenOf 3 = .ok (.aload_n 0, 1) := by decide +kernel
theorem dX4_firstOpenOf_4 : decode cX4_firstOpenOf 4 = .ok (.getfield 81, 3) := by decide +kernel
theorem dX4_firstOpenOf_7 : decode cX4_firstOpenOf 7 = .ok (.if_icmp .ge 30, 3) := by decide +kernel
theorem dX4_firstOpenOf_10 : decode cX4_firstOpenOf 10 = .ok (.aload_n 0, 1) := by decide +kernel
theorem dX4_firstOpenOf_11 : decode cX4_firstOpenOf 11 = .ok (.getfield 27, 3) := by decide +kernel
theorem dX4_firstOpenOf_14 : decode cX4_firstOpenOf 14 = .ok (.iload_n 2, 1) := by decide +kernel
theorem dX4_firstOpenOf_15 : decode cX4_firstOpenOf 15 = .ok (.iaload, 1) := by decide +kernel
theorem dX4_firstOpenOf_16 : decode cX4_firstOpenOf 16 = .ok (.iload_n 1, 1) := by decide +kernel
theorem dX4_firstOpenOf_17 : decode cX4_firstOpenOf 17 = .ok (.if_icmp .ne 14, 3) := by decide +kernel
theorem dX4_firstOpenOf_20 : decode cX4_firstOpenOf 20 = .ok (.aload_n 0, 1) := by decide +kernel
theorem dX4_firstOpenOf_21 : decode cX4_firstOpenOf 21 = .ok (.getfield 39, 3) := by decide +kernel
theorem dX4_firstOpenOf_24 : decode cX4_firstOpenOf 24 = .ok (.iload_n 2, 1) := by decide +kernel
theorem dX4_firstOpenOf_25 : decode cX4_firstOpenOf 25 = .ok (.iaload, 1) := by decide +kernel
theorem dX4_firstOpenOf_26 : decode cX4_firstOpenOf 26 = .ok (.ifCond .le 5, 3) := by decide +kernel
theorem dX4_firstOpenOf_29 : decode cX4_firstOpenOf 29 = .ok (.iload_n 2, 1) := by decide +kernel
theorem dX4_firstOpenOf_30 : decode cX4_firstOpenOf 30 = .ok (.ireturn, 1) := by decide +kernel
theorem dX4_firstOpenOf_31 : decode cX4_firstOpenOf 31 = .ok (.iinc 2 1, 3) := by decide +kernel
theorem dX4_firstOpenOf_34 : decode cX4_firstOpenOf 34 = .ok (.goto (-32), 3) := by decide +kernel
theorem dX4_firstOpenOf_37 : decode cX4_firstOpenOf 37 = .ok (.iconst (-1), 1) := by decide +kernel
theorem dX4_firstOpenOf_38 : decode cX4_firstOpenOf 38 = .ok (.ireturn, 1) := by decide +kernel
theorem dX4_paidByTelling_0 : decode cX4_paidByTelling 0 = .ok (.iconst 0, 1) := by decide +kernel
theorem dX4_paidByTelling_1 : decode cX4_paidByTelling 1 = .ok (.istore_n 3, 1) := by decide +kernel
theorem dX4_paidByTelling_2 : decode cX4_paidByTelling 2 = .ok (.iconst 0, 1) := by decide +kernel
theorem dX4_paidByTelling_3 : decode cX4_paidByTelling 3 = .ok (.istore 4, 2) := by decide +kernel
theorem dX4_paidByTelling_5 : decode cX4_paidByTelling 5 = .ok (.iload 4, 2) := by decide +kernel
theorem dX4_paidByTelling_7 : decode cX4_paidByTelling 7 = .ok (.aload_n 0, 1) := by decide +kernel
theorem dX4_paidByTelling_8 : decode cX4_paidByTelling 8 = .ok (.getfield 81, 3) := by decide +kernel
theorem dX4_paidByTelling_11 : decode cX4_paidByTelling 11 = .ok (.if_icmp .ge 56, 3) := by decide +kernel
theorem dX4_paidByTelling_14 : decode cX4_paidByTelling 14 = .ok (.aload_n 0, 1) := by decide +kernel
theorem dX4_paidByTelling_15 : decode cX4_paidByTelling 15 = .ok (.getfield 55, 3) := by decide +kernel
theorem dX4_paidByTelling_18 : decode cX4_paidByTelling 18 = .ok (.aload_n 0, 1) := by decide +kernel
theorem dX4_paidByTelling_19 : decode cX4_paidByTelling 19 = .ok (.getfield 45, 3) := by decide +kernel
theorem dX4_paidByTelling_22 : decode cX4_paidByTelling 22 = .ok (.iload 4, 2) := by decide +kernel
theorem dX4_paidByTelling_24 : decode cX4_paidByTelling 24 = .ok (.iaload, 1) := by decide +kernel
theorem dX4_paidByTelling_25 : decode cX4_paidByTelling 25 = .ok (.invokevirtual 184, 3) := by decide +kernel
theorem dX4_paidByTelling_28 : decode cX4_paidByTelling 28 = .ok (.ifCond .eq 33, 3) := by decide +kernel
theorem dX4_paidByTelling_31 : decode cX4_paidByTelling 31 = .ok (.aload_n 0, 1) := by decide +kernel
theorem dX4_paidByTelling_32 : decode cX4_paidByTelling 32 = .ok (.getfield 55, 3) := by decide +kernel
theorem dX4_paidByTelling_35 : decode cX4_paidByTelling 35 = .ok (.getfield 102, 3) := by decide +kernel
theorem dX4_paidByTelling_38 : decode cX4_paidByTelling 38 = .ok (.aload_n 0, 1) := by decide +kernel
theorem dX4_paidByTelling_39 : decode cX4_paidByTelling 39 = .ok (.getfield 45, 3) := by decide +kernel
theorem dX4_paidByTelling_42 : decode cX4_paidByTelling 42 = .ok (.iload 4, 2) := by decide +kernel
theorem dX4_paidByTelling_44 : decode cX4_paidByTelling 44 = .ok (.iaload, 1) := by decide +kernel
theorem dX4_paidByTelling_45 : decode cX4_paidByTelling 45 = .ok (.iaload, 1) := by decide +kernel
theorem dX4_paidByTelling_46 : decode cX4_paidByTelling 46 = .ok (.iload_n 1, 1) := by decide +kernel
theorem dX4_paidByTelling_47 : decode cX4_paidByTelling 47 = .ok (.if_icmp .ne 14, 3) := by decide +kernel
theorem dX4_paidByTelling_50 : decode cX4_paidByTelling 50 = .ok (.iload_n 3, 1) := by decide +kernel
theorem dX4_paidByTelling_51 : decode cX4_paidByTelling 51 = .ok (.iload_n 2, 1) := by decide +kernel
theorem dX4_paidByTelling_52 : decode cX4_paidByTelling 52 = .ok (.if_icmp .ne 6, 3) := by decide +kernel
theorem dX4_paidByTelling_55 : decode cX4_paidByTelling 55 = .ok (.iload 4, 2) := by decide +kernel
theorem dX4_paidByTelling_57 : decode cX4_paidByTelling 57 = .ok (.ireturn, 1) := by decide +kernel
theorem dX4_paidByTelling_58 : decode cX4_paidByTelling 58 = .ok (.iinc 3 1, 3) := by decide +kernel
theorem dX4_paidByTelling_61 : decode cX4_paidByTelling 61 = .ok (.iinc 4 1, 3) := by decide +kernel
theorem dX4_paidByTelling_64 : decode cX4_paidByTelling 64 = .ok (.goto (-59), 3) := by decide +kernel
theorem dX4_paidByTelling_67 : decode cX4_paidByTelling 67 = .ok (.iload_n 2, 1) := by decide +kernel
theorem dX4_paidByTelling_68 : decode cX4_paidByTelling 68 = .ok (.iconst (-1), 1) := by decide +kernel
theorem dX4_paidByTelling_69 : decode cX4_paidByTelling 69 = .ok (.if_icmp .ne 7, 3) := by decide +kernel
theorem dX4_paidByTelling_72 : decode cX4_paidByTelling 72 = .ok (.iload_n 3, 1) := by decide +kernel
theorem dX4_paidByTelling_73 : decode cX4_paidByTelling 73 = .ok (.goto 4, 3) := by decide +kernel
theorem dX4_paidByTelling_76 : decode cX4_paidByTelling 76 = .ok (.iconst (-1), 1) := by decide +kernel
theorem dX4_paidByTelling_77 : decode cX4_paidByTelling 77 = .ok (.ireturn, 1) := by decide +kernel
theorem dX4_sumFor_0 : decode cX4_sumFor 0 = .ok (.iload_n 2, 1) := by decide +kernel
theorem dX4_sumFor_1 : decode cX4_sumFor 1 = .ok (.iconst 3, 1) := by decide +kernel
theorem dX4_sumFor_2 : decode cX4_sumFor 2 = .ok (.if_icmp .ne 10, 3) := by decide +kernel
theorem dX4_sumFor_5 : decode cX4_sumFor 5 = .ok (.aload_n 0, 1) := by decide +kernel
theorem dX4_sumFor_6 : decode cX4_sumFor 6 = .ok (.getfield 15, 3) := by decide +kernel
theorem dX4_sumFor_9 : decode cX4_sumFor 9 = .ok (.iload_n 1, 1) := by decide +kernel
theorem dX4_sumFor_10 : decode cX4_sumFor 10 = .ok (.iaload, 1) := by decide +kernel
theorem dX4_sumFor_11 : decode cX4_sumFor 11 = .ok (.ireturn, 1) := by decide +kernel
theorem dX4_sumFor_12 : decode cX4_sumFor 12 = .ok (.iload_n 2, 1) := by decide +kernel
theorem dX4_sumFor_13 : decode cX4_sumFor 13 = .ok (.iconst 4, 1) := by decide +kernel
theorem dX4_sumFor_14 : decode cX4_sumFor 14 = .ok (.if_icmp .ne 10, 3) := by decide +kernel
theorem dX4_sumFor_17 : decode cX4_sumFor 17 = .ok (.aload_n 0, 1) := by decide +kernel
theorem dX4_sumFor_18 : decode cX4_sumFor 18 = .ok (.getfield 18, 3) := by decide +kernel
theorem dX4_sumFor_21 : decode cX4_sumFor 21 = .ok (.iload_n 1, 1) := by decide +kernel
theorem dX4_sumFor_22 : decode cX4_sumFor 22 = .ok (.iaload, 1) := by decide +kernel
theorem dX4_sumFor_23 : decode cX4_sumFor 23 = .ok (.ireturn, 1) := by decide +kernel
theorem dX4_sumFor_24 : decode cX4_sumFor 24 = .ok (.iconst 0, 1) := by decide +kernel
theorem dX4_sumFor_25 : decode cX4_sumFor 25 = .ok (.istore_n 3, 1) := by decide +kernel
theorem dX4_sumFor_26 : decode cX4_sumFor 26 = .ok (.iconst 0, 1) := by decide +kernel
theorem dX4_sumFor_27 : decode cX4_sumFor 27 = .ok (.istore 4, 2) := by decide +kernel
theorem dX4_sumFor_29 : decode cX4_sumFor 29 = .ok (.iload 4, 2) := by decide +kernel
theorem dX4_sumFor_31 : decode cX4_sumFor 31 = .ok (.aload_n 0, 1) := by decide +kernel
theorem dX4_sumFor_32 : decode cX4_sumFor 32 = .ok (.getfield 81, 3) := by decide +kernel
theorem dX4_sumFor_35 : decode cX4_sumFor 35 = .ok (.if_icmp .ge 87, 3) := by decide +kernel
theorem dX4_sumFor_38 : decode cX4_sumFor 38 = .ok (.aload_n 0, 1) := by decide +kernel
theorem dX4_sumFor_39 : decode cX4_sumFor 39 = .ok (.getfield 27, 3) := by decide +kernel
theorem dX4_sumFor_42 : decode cX4_sumFor 42 = .ok (.iload 4, 2) := by decide +kernel
theorem dX4_sumFor_44 : decode cX4_sumFor 44 = .ok (.iaload, 1) := by decide +kernel
theorem dX4_sumFor_45 : decode cX4_sumFor 45 = .ok (.iload_n 1, 1) := by decide +kernel
theorem dX4_sumFor_46 : decode cX4_sumFor 46 = .ok (.if_icmp .ne 70, 3) := by decide +kernel
theorem dX4_sumFor_49 : decode cX4_sumFor 49 = .ok (.iload_n 2, 1) := by decide +kernel
theorem dX4_sumFor_50 : decode cX4_sumFor 50 = .ok (.tableswitch 66 0 2 #[26, 39, 45], 26) := by decide +kernel
theorem dX4_sumFor_76 : decode cX4_sumFor 76 = .ok (.iload_n 3, 1) := by decide +kernel
theorem dX4_sumFor_77 : decode cX4_sumFor 77 = .ok (.aload_n 0, 1) := by decide +kernel
theorem dX4_sumFor_78 : decode cX4_sumFor 78 = .ok (.getfield 39, 3) := by decide +kernel
theorem dX4_sumFor_81 : decode cX4_sumFor 81 = .ok (.iload 4, 2) := by decide +kernel
theorem dX4_sumFor_83 : decode cX4_sumFor 83 = .ok (.iaload, 1) := by decide +kernel
theorem dX4_sumFor_84 : decode cX4_sumFor 84 = .ok (.iadd, 1) := by decide +kernel
theorem dX4_sumFor_85 : decode cX4_sumFor 85 = .ok (.istore_n 3, 1) := by decide +kernel
theorem dX4_sumFor_86 : decode cX4_sumFor 86 = .ok (.goto 30, 3) := by decide +kernel
theorem dX4_sumFor_89 : decode cX4_sumFor 89 = .ok (.iinc 3 1, 3) := by decide +kernel
theorem dX4_sumFor_92 : decode cX4_sumFor 92 = .ok (.goto 24, 3) := by decide +kernel
theorem dX4_sumFor_95 : decode cX4_sumFor 95 = .ok (.iload_n 3, 1) := by decide +kernel
theorem dX4_sumFor_96 : decode cX4_sumFor 96 = .ok (.aload_n 0, 1) := by decide +kernel
theorem dX4_sumFor_97 : decode cX4_sumFor 97 = .ok (.getfield 39, 3) := by decide +kernel
theorem dX4_sumFor_100 : decode cX4_sumFor 100 = .ok (.iload 4, 2) := by decide +kernel
theorem dX4_sumFor_102 : decode cX4_sumFor 102 = .ok (.iaload, 1) := by decide +kernel
theorem dX4_sumFor_103 : decode cX4_sumFor 103 = .ok (.ifCond .ne 7, 3) := by decide +kernel
theorem dX4_sumFor_106 : decode cX4_sumFor 106 = .ok (.iconst 1, 1) := by decide +kernel
theorem dX4_sumFor_107 : decode cX4_sumFor 107 = .ok (.goto 4, 3) := by decide +kernel
theorem dX4_sumFor_110 : decode cX4_sumFor 110 = .ok (.iconst 0, 1) := by decide +kernel
theorem dX4_sumFor_111 : decode cX4_sumFor 111 = .ok (.iadd, 1) := by decide +kernel
theorem dX4_sumFor_112 : decode cX4_sumFor 112 = .ok (.istore_n 3, 1) := by decide +kernel
theorem dX4_sumFor_113 : decode cX4_sumFor 113 = .ok (.goto 3, 3) := by decide +kernel
theorem dX4_sumFor_116 : decode cX4_sumFor 116 = .ok (.iinc 4 1, 3) := by decide +kernel
theorem dX4_sumFor_119 : decode cX4_sumFor 119 = .ok (.goto (-90), 3) := by decide +kernel
theorem dX4_sumFor_122 : decode cX4_sumFor 122 = .ok (.iload_n 3, 1) := by decide +kernel
theorem dX4_sumFor_123 : decode cX4_sumFor 123 = .ok (.ireturn, 1) := by decide +kernel
theorem dX4_hasLate_0 : decode cX4_hasLate 0 = .ok (.iconst 0, 1) := by decide +kernel
theorem dX4_hasLate_1 : decode cX4_hasLate 1 = .ok (.istore_n 2, 1) := by decide +kernel
theorem dX4_hasLate_2 : decode cX4_hasLate 2 = .ok (.iload_n 2, 1) := by decide +kernel
theorem dX4_hasLate_3 : decode cX4_hasLate 3 = .ok (.aload_n 0, 1) := by decide +kernel
theorem dX4_hasLate_4 : decode cX4_hasLate 4 = .ok (.getfield 81, 3) := by decide +kernel
theorem dX4_hasLate_7 : decode cX4_hasLate 7 = .ok (.if_icmp .ge 29, 3) := by decide +kernel
theorem dX4_hasLate_10 : decode cX4_hasLate 10 = .ok (.aload_n 0, 1) := by decide +kernel
theorem dX4_hasLate_11 : decode cX4_hasLate 11 = .ok (.getfield 27, 3) := by decide +kernel
theorem dX4_hasLate_14 : decode cX4_hasLate 14 = .ok (.iload_n 2, 1) := by decide +kernel
theorem dX4_hasLate_15 : decode cX4_hasLate 15 = .ok (.iaload, 1) := by decide +kernel
theorem dX4_hasLate_16 : decode cX4_hasLate 16 = .ok (.iload_n 1, 1) := by decide +kernel
theorem dX4_hasLate_17 : decode cX4_hasLate 17 = .ok (.if_icmp .ne 13, 3) := by decide +kernel
theorem dX4_hasLate_20 : decode cX4_hasLate 20 = .ok (.aload_n 0, 1) := by decide +kernel
theorem dX4_hasLate_21 : decode cX4_hasLate 21 = .ok (.iload_n 2, 1) := by decide +kernel
theorem dX4_hasLate_22 : decode cX4_hasLate 22 = .ok (.invokevirtual 194, 3) := by decide +kernel
theorem dX4_hasLate_25 : decode cX4_hasLate 25 = .ok (.ifCond .eq 5, 3) := by decide +kernel
theorem dX4_hasLate_28 : decode cX4_hasLate 28 = .ok (.iconst 1, 1) := by decide +kernel
theorem dX4_hasLate_29 : decode cX4_hasLate 29 = .ok (.ireturn, 1) := by decide +kernel
theorem dX4_hasLate_30 : decode cX4_hasLate 30 = .ok (.iinc 2 1, 3) := by decide +kernel
theorem dX4_hasLate_33 : decode cX4_hasLate 33 = .ok (.goto (-31), 3) := by decide +kernel
theorem dX4_hasLate_36 : decode cX4_hasLate 36 = .ok (.iconst 0, 1) := by decide +kernel
theorem dX4_hasLate_37 : decode cX4_hasLate 37 = .ok (.ireturn, 1) := by decide +kernel
theorem dX4_owedInAll_0 : decode cX4_owedInAll 0 = .ok (.aload_n 0, 1) := by decide +kernel
theorem dX4_owedInAll_1 : decode cX4_owedInAll 1 = .ok (.iconst 0, 1) := by decide +kernel
theorem dX4_owedInAll_2 : decode cX4_owedInAll 2 = .ok (.invokevirtual 197, 3) := by decide +kernel
theorem dX4_owedInAll_5 : decode cX4_owedInAll 5 = .ok (.ireturn, 1) := by decide +kernel
theorem dX4_sumInAll_0 : decode cX4_sumInAll 0 = .ok (.iconst 0, 1) := by decide +kernel
theorem dX4_sumInAll_1 : decode cX4_sumInAll 1 = .ok (.istore_n 2, 1) := by decide +kernel
theorem dX4_sumInAll_2 : decode cX4_sumInAll 2 = .ok (.iconst 0, 1) := by decide +kernel
theorem dX4_sumInAll_3 : decode cX4_sumInAll 3 = .ok (.istore_n 3, 1) := by decide +kernel
theorem dX4_sumInAll_4 : decode cX4_sumInAll 4 = .ok (.iload_n 3, 1) := by decide +kernel
theorem dX4_sumInAll_5 : decode cX4_sumInAll 5 = .ok (.aload_n 0, 1) := by decide +kernel
theorem dX4_sumInAll_6 : decode cX4_sumInAll 6 = .ok (.getfield 81, 3) := by decide +kernel
theorem dX4_sumInAll_9 : decode cX4_sumInAll 9 = .ok (.if_icmp .ge 104, 3) := by decide +kernel
theorem dX4_sumInAll_12 : decode cX4_sumInAll 12 = .ok (.iload_n 1, 1) := by decide +kernel
theorem dX4_sumInAll_13 : decode cX4_sumInAll 13 = .ok (.tableswitch 94 0 3 #[31, 43, 63, 82], 31) := by decide +kernel
theorem dX4_sumInAll_44 : decode cX4_sumInAll 44 = .ok (.iload_n 2, 1) := by decide +kernel
theorem dX4_sumInAll_45 : decode cX4_sumInAll 45 = .ok (.aload_n 0, 1) := by decide +kernel
theorem dX4_sumInAll_46 : decode cX4_sumInAll 46 = .ok (.getfield 39, 3) := by decide +kernel
theorem dX4_sumInAll_49 : decode cX4_sumInAll 49 = .ok (.iload_n 3, 1) := by decide +kernel
theorem dX4_sumInAll_50 : decode cX4_sumInAll 50 = .ok (.iaload, 1) := by decide +kernel
theorem dX4_sumInAll_51 : decode cX4_sumInAll 51 = .ok (.iadd, 1) := by decide +kernel
theorem dX4_sumInAll_52 : decode cX4_sumInAll 52 = .ok (.istore_n 2, 1) := by decide +kernel
theorem dX4_sumInAll_53 : decode cX4_sumInAll 53 = .ok (.goto 54, 3) := by decide +kernel
theorem dX4_sumInAll_56 : decode cX4_sumInAll 56 = .ok (.iload_n 2, 1) := by decide +kernel
theorem dX4_sumInAll_57 : decode cX4_sumInAll 57 = .ok (.aload_n 0, 1) := by decide +kernel
theorem dX4_sumInAll_58 : decode cX4_sumInAll 58 = .ok (.getfield 39, 3) := by decide +kernel
theorem dX4_sumInAll_61 : decode cX4_sumInAll 61 = .ok (.iload_n 3, 1) := by decide +kernel
theorem dX4_sumInAll_62 : decode cX4_sumInAll 62 = .ok (.iaload, 1) := by decide +kernel
theorem dX4_sumInAll_63 : decode cX4_sumInAll 63 = .ok (.ifCond .le 7, 3) := by decide +kernel
theorem dX4_sumInAll_66 : decode cX4_sumInAll 66 = .ok (.iconst 1, 1) := by decide +kernel
theorem dX4_sumInAll_67 : decode cX4_sumInAll 67 = .ok (.goto 4, 3) := by decide +kernel
theorem dX4_sumInAll_70 : decode cX4_sumInAll 70 = .ok (.iconst 0, 1) := by decide +kernel
theorem dX4_sumInAll_71 : decode cX4_sumInAll 71 = .ok (.iadd, 1) := by decide +kernel
theorem dX4_sumInAll_72 : decode cX4_sumInAll 72 = .ok (.istore_n 2, 1) := by decide +kernel
theorem dX4_sumInAll_73 : decode cX4_sumInAll 73 = .ok (.goto 34, 3) := by decide +kernel
theorem dX4_sumInAll_76 : decode cX4_sumInAll 76 = .ok (.iload_n 2, 1) := by decide +kernel
theorem dX4_sumInAll_77 : decode cX4_sumInAll 77 = .ok (.aload_n 0, 1) := by decide +kernel
theorem dX4_sumInAll_78 : decode cX4_sumInAll 78 = .ok (.iload_n 3, 1) := by decide +kernel
theorem dX4_sumInAll_79 : decode cX4_sumInAll 79 = .ok (.invokevirtual 194, 3) := by decide +kernel
theorem dX4_sumInAll_82 : decode cX4_sumInAll 82 = .ok (.ifCond .eq 7, 3) := by decide +kernel
theorem dX4_sumInAll_85 : decode cX4_sumInAll 85 = .ok (.iconst 1, 1) := by decide +kernel
theorem dX4_sumInAll_86 : decode cX4_sumInAll 86 = .ok (.goto 4, 3) := by decide +kernel
theorem dX4_sumInAll_89 : decode cX4_sumInAll 89 = .ok (.iconst 0, 1) := by decide +kernel
theorem dX4_sumInAll_90 : decode cX4_sumInAll 90 = .ok (.iadd, 1) := by decide +kernel
theorem dX4_sumInAll_91 : decode cX4_sumInAll 91 = .ok (.istore_n 2, 1) := by decide +kernel
theorem dX4_sumInAll_92 : decode cX4_sumInAll 92 = .ok (.goto 15, 3) := by decide +kernel
theorem dX4_sumInAll_95 : decode cX4_sumInAll 95 = .ok (.iload_n 2, 1) := by decide +kernel
theorem dX4_sumInAll_96 : decode cX4_sumInAll 96 = .ok (.aload_n 0, 1) := by decide +kernel
theorem dX4_sumInAll_97 : decode cX4_sumInAll 97 = .ok (.getfield 48, 3) := by decide +kernel
theorem dX4_sumInAll_100 : decode cX4_sumInAll 100 = .ok (.iload_n 3, 1) := by decide +kernel
theorem dX4_sumInAll_101 : decode cX4_sumInAll 101 = .ok (.iaload, 1) := by decide +kernel
theorem dX4_sumInAll_102 : decode cX4_sumInAll 102 = .ok (.iadd, 1) := by decide +kernel
theorem dX4_sumInAll_103 : decode cX4_sumInAll 103 = .ok (.istore_n 2, 1) := by decide +kernel
theorem dX4_sumInAll_104 : decode cX4_sumInAll 104 = .ok (.goto 3, 3) := by decide +kernel
theorem dX4_sumInAll_107 : decode cX4_sumInAll 107 = .ok (.iinc 3 1, 3) := by decide +kernel
theorem dX4_sumInAll_110 : decode cX4_sumInAll 110 = .ok (.goto (-106), 3) := by decide +kernel
theorem dX4_sumInAll_113 : decode cX4_sumInAll 113 = .ok (.iload_n 2, 1) := by decide +kernel
theorem dX4_sumInAll_114 : decode cX4_sumInAll 114 = .ok (.ireturn, 1) := by decide +kernel
theorem dX4_hurtInAll_0 : decode cX4_hurtInAll 0 = .ok (.iconst 0, 1) := by decide +kernel
theorem dX4_hurtInAll_1 : decode cX4_hurtInAll 1 = .ok (.istore_n 1, 1) := by decide +kernel
theorem dX4_hurtInAll_2 : decode cX4_hurtInAll 2 = .ok (.iconst 0, 1) := by decide +kernel
theorem dX4_hurtInAll_3 : decode cX4_hurtInAll 3 = .ok (.istore_n 2, 1) := by decide +kernel
theorem dX4_hurtInAll_4 : decode cX4_hurtInAll 4 = .ok (.iload_n 2, 1) := by decide +kernel
theorem dX4_hurtInAll_5 : decode cX4_hurtInAll 5 = .ok (.aload_n 0, 1) := by decide +kernel
theorem dX4_hurtInAll_6 : decode cX4_hurtInAll 6 = .ok (.getfield 51, 3) := by decide +kernel
theorem dX4_hurtInAll_9 : decode cX4_hurtInAll 9 = .ok (.getfield 65, 3) := by decide +kernel
theorem dX4_hurtInAll_12 : decode cX4_hurtInAll 12 = .ok (.if_icmp .ge 18, 3) := by decide +kernel
theorem dX4_hurtInAll_15 : decode cX4_hurtInAll 15 = .ok (.iload_n 1, 1) := by decide +kernel
theorem dX4_hurtInAll_16 : decode cX4_hurtInAll 16 = .ok (.aload_n 0, 1) := by decide +kernel
theorem dX4_hurtInAll_17 : decode cX4_hurtInAll 17 = .ok (.getfield 15, 3) := by decide +kernel
theorem dX4_hurtInAll_20 : decode cX4_hurtInAll 20 = .ok (.iload_n 2, 1) := by decide +kernel
theorem dX4_hurtInAll_21 : decode cX4_hurtInAll 21 = .ok (.iaload, 1) := by decide +kernel
theorem dX4_hurtInAll_22 : decode cX4_hurtInAll 22 = .ok (.iadd, 1) := by decide +kernel
theorem dX4_hurtInAll_23 : decode cX4_hurtInAll 23 = .ok (.istore_n 1, 1) := by decide +kernel
theorem dX4_hurtInAll_24 : decode cX4_hurtInAll 24 = .ok (.iinc 2 1, 3) := by decide +kernel
theorem dX4_hurtInAll_27 : decode cX4_hurtInAll 27 = .ok (.goto (-23), 3) := by decide +kernel
theorem dX4_hurtInAll_30 : decode cX4_hurtInAll 30 = .ok (.iload_n 1, 1) := by decide +kernel
theorem dX4_hurtInAll_31 : decode cX4_hurtInAll 31 = .ok (.ireturn, 1) := by decide +kernel
theorem dX4_howManyWrong_0 : decode cX4_howManyWrong 0 = .ok (.iconst 0, 1) := by decide +kernel
theorem dX4_howManyWrong_1 : decode cX4_howManyWrong 1 = .ok (.istore_n 1, 1) := by decide +kernel
theorem dX4_howManyWrong_2 : decode cX4_howManyWrong 2 = .ok (.iconst 0, 1) := by decide +kernel
theorem dX4_howManyWrong_3 : decode cX4_howManyWrong 3 = .ok (.istore_n 2, 1) := by decide +kernel
theorem dX4_howManyWrong_4 : decode cX4_howManyWrong 4 = .ok (.iload_n 2, 1) := by decide +kernel
theorem dX4_howManyWrong_5 : decode cX4_howManyWrong 5 = .ok (.aload_n 0, 1) := by decide +kernel
theorem dX4_howManyWrong_6 : decode cX4_howManyWrong 6 = .ok (.getfield 55, 3) := by decide +kernel
theorem dX4_howManyWrong_9 : decode cX4_howManyWrong 9 = .ok (.getfield 87, 3) := by decide +kernel
theorem dX4_howManyWrong_12 : decode cX4_howManyWrong 12 = .ok (.if_icmp .ge 26, 3) := by decide +kernel
theorem dX4_howManyWrong_15 : decode cX4_howManyWrong 15 = .ok (.iload_n 1, 1) := by decide +kernel
theorem dX4_howManyWrong_16 : decode cX4_howManyWrong 16 = .ok (.aload_n 0, 1) := by decide +kernel
theorem dX4_howManyWrong_17 : decode cX4_howManyWrong 17 = .ok (.getfield 24, 3) := by decide +kernel
theorem dX4_howManyWrong_20 : decode cX4_howManyWrong 20 = .ok (.iload_n 2, 1) := by decide +kernel
theorem dX4_howManyWrong_21 : decode cX4_howManyWrong 21 = .ok (.iaload, 1) := by decide +kernel
theorem dX4_howManyWrong_22 : decode cX4_howManyWrong 22 = .ok (.ifCond .eq 7, 3) := by decide +kernel
theorem dX4_howManyWrong_25 : decode cX4_howManyWrong 25 = .ok (.iconst 1, 1) := by decide +kernel
theorem dX4_howManyWrong_26 : decode cX4_howManyWrong 26 = .ok (.goto 4, 3) := by decide +kernel
theorem dX4_howManyWrong_29 : decode cX4_howManyWrong 29 = .ok (.iconst 0, 1) := by decide +kernel
theorem dX4_howManyWrong_30 : decode cX4_howManyWrong 30 = .ok (.iadd, 1) := by decide +kernel
theorem dX4_howManyWrong_31 : decode cX4_howManyWrong 31 = .ok (.istore_n 1, 1) := by decide +kernel
theorem dX4_howManyWrong_32 : decode cX4_howManyWrong 32 = .ok (.iinc 2 1, 3) := by decide +kernel
theorem dX4_howManyWrong_35 : decode cX4_howManyWrong 35 = .ok (.goto (-31), 3) := by decide +kernel
theorem dX4_howManyWrong_38 : decode cX4_howManyWrong 38 = .ok (.iload_n 1, 1) := by decide +kernel
theorem dX4_howManyWrong_39 : decode cX4_howManyWrong 39 = .ok (.ireturn, 1) := by decide +kernel
theorem dX4_isOpenAbout_0 : decode cX4_isOpenAbout 0 = .ok (.aload_n 0, 1) := by decide +kernel
theorem dX4_isOpenAbout_1 : decode cX4_isOpenAbout 1 = .ok (.getfield 30, 3) := by decide +kernel
theorem dX4_isOpenAbout_4 : decode cX4_isOpenAbout 4 = .ok (.iload_n 1, 1) := by decide +kernel
theorem dX4_isOpenAbout_5 : decode cX4_isOpenAbout 5 = .ok (.iaload, 1) := by decide +kernel
theorem dX4_isOpenAbout_6 : decode cX4_isOpenAbout 6 = .ok (.iload_n 2, 1) := by decide +kernel
theorem dX4_isOpenAbout_7 : decode cX4_isOpenAbout 7 = .ok (.if_icmp .ne 29, 3) := by decide +kernel
theorem dX4_isOpenAbout_10 : decode cX4_isOpenAbout 10 = .ok (.aload_n 0, 1) := by decide +kernel
theorem dX4_isOpenAbout_11 : decode cX4_isOpenAbout 11 = .ok (.getfield 39, 3) := by decide +kernel
theorem dX4_isOpenAbout_14 : decode cX4_isOpenAbout 14 = .ok (.iload_n 1, 1) := by decide +kernel
theorem dX4_isOpenAbout_15 : decode cX4_isOpenAbout 15 = .ok (.iaload, 1) := by decide +kernel
theorem dX4_isOpenAbout_16 : decode cX4_isOpenAbout 16 = .ok (.ifCond .le 20, 3) := by decide +kernel
theorem dX4_isOpenAbout_19 : decode cX4_isOpenAbout 19 = .ok (.iload_n 3, 1) := by decide +kernel
theorem dX4_isOpenAbout_20 : decode cX4_isOpenAbout 20 = .ok (.aload_n 0, 1) := by decide +kernel
theorem dX4_isOpenAbout_21 : decode cX4_isOpenAbout 21 = .ok (.getfield 33, 3) := by decide +kernel
theorem dX4_isOpenAbout_24 : decode cX4_isOpenAbout 24 = .ok (.iload_n 1, 1) := by decide +kernel
theorem dX4_isOpenAbout_25 : decode cX4_isOpenAbout 25 = .ok (.iaload, 1) := by decide +kernel
theorem dX4_isOpenAbout_26 : decode cX4_isOpenAbout 26 = .ok (.invokestatic 135, 3) := by decide +kernel
theorem dX4_isOpenAbout_29 : decode cX4_isOpenAbout 29 = .ok (.ifCond .eq 7, 3) := by decide +kernel
theorem dX4_isOpenAbout_32 : decode cX4_isOpenAbout 32 = .ok (.iconst 1, 1) := by decide +kernel
theorem dX4_isOpenAbout_33 : decode cX4_isOpenAbout 33 = .ok (.goto 4, 3) := by decide +kernel
theorem dX4_isOpenAbout_36 : decode cX4_isOpenAbout 36 = .ok (.iconst 0, 1) := by decide +kernel
theorem dX4_isOpenAbout_37 : decode cX4_isOpenAbout 37 = .ok (.ireturn, 1) := by decide +kernel
theorem dX4_openAbout_0 : decode cX4_openAbout 0 = .ok (.iconst 0, 1) := by decide +kernel
theorem dX4_openAbout_1 : decode cX4_openAbout 1 = .ok (.istore_n 3, 1) := by decide +kernel
theorem dX4_openAbout_2 : decode cX4_openAbout 2 = .ok (.iconst 0, 1) := by decide +kernel
theorem dX4_openAbout_3 : decode cX4_openAbout 3 = .ok (.istore 4, 2) := by decide +kernel
theorem dX4_openAbout_5 : decode cX4_openAbout 5 = .ok (.iload 4, 2) := by decide +kernel
theorem dX4_openAbout_7 : decode cX4_openAbout 7 = .ok (.aload_n 0, 1) := by decide +kernel
theorem dX4_openAbout_8 : decode cX4_openAbout 8 = .ok (.getfield 81, 3) := by decide +kernel
theorem dX4_openAbout_11 : decode cX4_openAbout 11 = .ok (.if_icmp .ge 28, 3) := by decide +kernel
theorem dX4_openAbout_14 : decode cX4_openAbout 14 = .ok (.iload_n 3, 1) := by decide +kernel
theorem dX4_openAbout_15 : decode cX4_openAbout 15 = .ok (.aload_n 0, 1) := by decide +kernel
theorem dX4_openAbout_16 : decode cX4_openAbout 16 = .ok (.iload 4, 2) := by decide +kernel
theorem dX4_openAbout_18 : decode cX4_openAbout 18 = .ok (.iload_n 1, 1) := by decide +kernel
theorem dX4_openAbout_19 : decode cX4_openAbout 19 = .ok (.iload_n 2, 1) := by decide +kernel
theorem dX4_openAbout_20 : decode cX4_openAbout 20 = .ok (.invokevirtual 200, 3) := by decide +kernel
theorem dX4_openAbout_23 : decode cX4_openAbout 23 = .ok (.ifCond .eq 7, 3) := by decide +kernel
theorem dX4_openAbout_26 : decode cX4_openAbout 26 = .ok (.iconst 1, 1) := by decide +kernel
theorem dX4_openAbout_27 : decode cX4_openAbout 27 = .ok (.goto 4, 3) := by decide +kernel
theorem dX4_openAbout_30 : decode cX4_openAbout 30 = .ok (.iconst 0, 1) := by decide +kernel
theorem dX4_openAbout_31 : decode cX4_openAbout 31 = .ok (.iadd, 1) := by decide +kernel
theorem dX4_openAbout_32 : decode cX4_openAbout 32 = .ok (.istore_n 3, 1) := by decide +kernel
theorem dX4_openAbout_33 : decode cX4_openAbout 33 = .ok (.iinc 4 1, 3) := by decide +kernel
theorem dX4_openAbout_36 : decode cX4_openAbout 36 = .ok (.goto (-31), 3) := by decide +kernel
theorem dX4_openAbout_39 : decode cX4_openAbout 39 = .ok (.iload_n 3, 1) := by decide +kernel
theorem dX4_openAbout_40 : decode cX4_openAbout 40 = .ok (.ireturn, 1) := by decide +kernel
theorem dX4_growthAbout_0 : decode cX4_growthAbout 0 = .ok (.iconst 0, 1) := by decide +kernel
theorem dX4_growthAbout_1 : decode cX4_growthAbout 1 = .ok (.istore_n 3, 1) := by decide +kernel
theorem dX4_growthAbout_2 : decode cX4_growthAbout 2 = .ok (.iconst 0, 1) := by decide +kernel
theorem dX4_growthAbout_3 : decode cX4_growthAbout 3 = .ok (.istore 4, 2) := by decide +kernel
theorem dX4_growthAbout_5 : decode cX4_growthAbout 5 = .ok (.iload 4, 2) := by decide +kernel
theorem dX4_growthAbout_7 : decode cX4_growthAbout 7 = .ok (.aload_n 0, 1) := by decide +kernel
theorem dX4_growthAbout_8 : decode cX4_growthAbout 8 = .ok (.getfield 81, 3) := by decide +kernel
theorem dX4_growthAbout_11 : decode cX4_growthAbout 11 = .ok (.if_icmp .ge 46, 3) := by decide +kernel
theorem dX4_growthAbout_14 : decode cX4_growthAbout 14 = .ok (.iload_n 3, 1) := by decide +kernel
theorem dX4_growthAbout_15 : decode cX4_growthAbout 15 = .ok (.aload_n 0, 1) := by decide +kernel
theorem dX4_growthAbout_16 : decode cX4_growthAbout 16 = .ok (.iload 4, 2) := by decide +kernel
theorem dX4_growthAbout_18 : decode cX4_growthAbout 18 = .ok (.iload_n 1, 1) := by decide +kernel
theorem dX4_growthAbout_19 : decode cX4_growthAbout 19 = .ok (.iload_n 2, 1) := by decide +kernel
theorem dX4_growthAbout_20 : decode cX4_growthAbout 20 = .ok (.invokevirtual 200, 3) := by decide +kernel
theorem dX4_growthAbout_23 : decode cX4_growthAbout 23 = .ok (.ifCond .eq 25, 3) := by decide +kernel
theorem dX4_growthAbout_26 : decode cX4_growthAbout 26 = .ok (.aload_n 0, 1) := by decide +kernel
theorem dX4_growthAbout_27 : decode cX4_growthAbout 27 = .ok (.aload_n 0, 1) := by decide +kernel
theorem dX4_growthAbout_28 : decode cX4_growthAbout 28 = .ok (.getfield 39, 3) := by decide +kernel
theorem dX4_growthAbout_31 : decode cX4_growthAbout 31 = .ok (.iload 4, 2) := by decide +kernel
theorem dX4_growthAbout_33 : decode cX4_growthAbout 33 = .ok (.iaload, 1) := by decide +kernel
theorem dX4_growthAbout_34 : decode cX4_growthAbout 34 = .ok (.invokevirtual 166, 3) := by decide +kernel
theorem dX4_growthAbout_37 : decode cX4_growthAbout 37 = .ok (.aload_n 0, 1) := by decide +kernel
theorem dX4_growthAbout_38 : decode cX4_growthAbout 38 = .ok (.getfield 39, 3) := by decide +kernel
theorem dX4_growthAbout_41 : decode cX4_growthAbout 41 = .ok (.iload 4, 2) := by decide +kernel
theorem dX4_growthAbout_43 : decode cX4_growthAbout 43 = .ok (.iaload, 1) := by decide +kernel
theorem dX4_growthAbout_44 : decode cX4_growthAbout 44 = .ok (.isub, 1) := by decide +kernel
theorem dX4_growthAbout_45 : decode cX4_growthAbout 45 = .ok (.goto 4, 3) := by decide +kernel
theorem dX4_growthAbout_48 : decode cX4_growthAbout 48 = .ok (.iconst 0, 1) := by decide +kernel
theorem dX4_growthAbout_49 : decode cX4_growthAbout 49 = .ok (.iadd, 1) := by decide +kernel
theorem dX4_growthAbout_50 : decode cX4_growthAbout 50 = .ok (.istore_n 3, 1) := by decide +kernel
theorem dX4_growthAbout_51 : decode cX4_growthAbout 51 = .ok (.iinc 4 1, 3) := by decide +kernel
theorem dX4_growthAbout_54 : decode cX4_growthAbout 54 = .ok (.goto (-49), 3) := by decide +kernel
theorem dX4_growthAbout_57 : decode cX4_growthAbout 57 = .ok (.iload_n 3, 1) := by decide +kernel
theorem dX4_growthAbout_58 : decode cX4_growthAbout 58 = .ok (.ireturn, 1) := by decide +kernel
theorem dX4_priceFor_0 : decode cX4_priceFor 0 = .ok (.iconst (-1), 1) := by decide +kernel
theorem dX4_priceFor_1 : decode cX4_priceFor 1 = .ok (.istore_n 3, 1) := by decide +kernel
theorem dX4_priceFor_2 : decode cX4_priceFor 2 = .ok (.iconst 0, 1) := by decide +kernel
theorem dX4_priceFor_3 : decode cX4_priceFor 3 = .ok (.istore 4, 2) := by decide +kernel
theorem dX4_priceFor_5 : decode cX4_priceFor 5 = .ok (.iload 4, 2) := by decide +kernel
theorem dX4_priceFor_7 : decode cX4_priceFor 7 = .ok (.aload_n 0, 1) := by decide +kernel
theorem dX4_priceFor_8 : decode cX4_priceFor 8 = .ok (.getfield 51, 3) := by decide +kernel
theorem dX4_priceFor_11 : decode cX4_priceFor 11 = .ok (.getfield 65, 3) := by decide +kernel
theorem dX4_priceFor_14 : decode cX4_priceFor 14 = .ok (.if_icmp .ge 62, 3) := by decide +kernel
theorem dX4_priceFor_17 : decode cX4_priceFor 17 = .ok (.aload_n 0, 1) := by decide +kernel
theorem dX4_priceFor_18 : decode cX4_priceFor 18 = .ok (.getfield 51, 3) := by decide +kernel
theorem dX4_priceFor_21 : decode cX4_priceFor 21 = .ok (.getfield 204, 3) := by decide +kernel
theorem dX4_priceFor_24 : decode cX4_priceFor 24 = .ok (.iload 4, 2) := by decide +kernel
theorem dX4_priceFor_26 : decode cX4_priceFor 26 = .ok (.bipush 12, 2) := by decide +kernel
theorem dX4_priceFor_28 : decode cX4_priceFor 28 = .ok (.imul, 1) := by decide +kernel
theorem dX4_priceFor_29 : decode cX4_priceFor 29 = .ok (.iload_n 2, 1) := by decide +kernel
theorem dX4_priceFor_30 : decode cX4_priceFor 30 = .ok (.iadd, 1) := by decide +kernel
theorem dX4_priceFor_31 : decode cX4_priceFor 31 = .ok (.iaload, 1) := by decide +kernel
theorem dX4_priceFor_32 : decode cX4_priceFor 32 = .ok (.istore 5, 2) := by decide +kernel
theorem dX4_priceFor_34 : decode cX4_priceFor 34 = .ok (.iload 4, 2) := by decide +kernel
theorem dX4_priceFor_36 : decode cX4_priceFor 36 = .ok (.iload_n 1, 1) := by decide +kernel
theorem dX4_priceFor_37 : decode cX4_priceFor 37 = .ok (.if_icmp .eq 33, 3) := by decide +kernel
theorem dX4_priceFor_40 : decode cX4_priceFor 40 = .ok (.aload_n 0, 1) := by decide +kernel
theorem dX4_priceFor_41 : decode cX4_priceFor 41 = .ok (.iload 4, 2) := by decide +kernel
theorem dX4_priceFor_43 : decode cX4_priceFor 43 = .ok (.iload_n 2, 1) := by decide +kernel
theorem dX4_priceFor_44 : decode cX4_priceFor 44 = .ok (.invokevirtual 139, 3) := by decide +kernel
theorem dX4_priceFor_47 : decode cX4_priceFor 47 = .ok (.ifCond .eq 23, 3) := by decide +kernel
theorem dX4_priceFor_50 : decode cX4_priceFor 50 = .ok (.iload 5, 2) := by decide +kernel
theorem dX4_priceFor_52 : decode cX4_priceFor 52 = .ok (.iconst (-1), 1) := by decide +kernel
theorem dX4_priceFor_53 : decode cX4_priceFor 53 = .ok (.if_icmp .eq 17, 3) := by decide +kernel
theorem dX4_priceFor_56 : decode cX4_priceFor 56 = .ok (.iload_n 3, 1) := by decide +kernel
theorem dX4_priceFor_57 : decode cX4_priceFor 57 = .ok (.iconst (-1), 1) := by decide +kernel
theorem dX4_priceFor_58 : decode cX4_priceFor 58 = .ok (.if_icmp .eq 9, 3) := by decide +kernel
theorem dX4_priceFor_61 : decode cX4_priceFor 61 = .ok (.iload 5, 2) := by decide +kernel
theorem dX4_priceFor_63 : decode cX4_priceFor 63 = .ok (.iload_n 3, 1) := by decide +kernel
theorem dX4_priceFor_64 : decode cX4_priceFor 64 = .ok (.if_icmp .ge 6, 3) := by decide +kernel
theorem dX4_priceFor_67 : decode cX4_priceFor 67 = .ok (.iload 5, 2) := by decide +kernel
theorem dX4_priceFor_69 : decode cX4_priceFor 69 = .ok (.istore_n 3, 1) := by decide +kernel
theorem dX4_priceFor_70 : decode cX4_priceFor 70 = .ok (.iinc 4 1, 3) := by decide +kernel
theorem dX4_priceFor_73 : decode cX4_priceFor 73 = .ok (.goto (-68), 3) := by decide +kernel
theorem dX4_priceFor_76 : decode cX4_priceFor 76 = .ok (.iload_n 3, 1) := by decide +kernel
theorem dX4_priceFor_77 : decode cX4_priceFor 77 = .ok (.ireturn, 1) := by decide +kernel
