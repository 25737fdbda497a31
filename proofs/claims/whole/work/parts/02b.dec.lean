theorem dX9_init_0 : decode cX9_init 0 = .ok (.aload_n 0, 1) := by decide +kernel
theorem dX9_init_1 : decode cX9_init 1 = .ok (.invokespecial 3, 3) := by decide +kernel
theorem dX9_init_4 : decode cX9_init 4 = .ok (.aload_n 0, 1) := by decide +kernel
theorem dX9_init_5 : decode cX9_init 5 = .ok (.bipush 8, 2) := by decide +kernel
theorem dX9_init_7 : decode cX9_init 7 = .ok (.newarray .int, 2) := by decide +kernel
theorem dX9_init_9 : decode cX9_init 9 = .ok (.putfield 9, 3) := by decide +kernel
theorem dX9_init_12 : decode cX9_init 12 = .ok (.aload_n 0, 1) := by decide +kernel
theorem dX9_init_13 : decode cX9_init 13 = .ok (.bipush 8, 2) := by decide +kernel
theorem dX9_init_15 : decode cX9_init 15 = .ok (.newarray .int, 2) := by decide +kernel
theorem dX9_init_17 : decode cX9_init 17 = .ok (.putfield 15, 3) := by decide +kernel
theorem dX9_init_20 : decode cX9_init 20 = .ok (.aload_n 0, 1) := by decide +kernel
theorem dX9_init_21 : decode cX9_init 21 = .ok (.bipush 12, 2) := by decide +kernel
theorem dX9_init_23 : decode cX9_init 23 = .ok (.newarray .int, 2) := by decide +kernel
theorem dX9_init_25 : decode cX9_init 25 = .ok (.putfield 18, 3) := by decide +kernel
theorem dX9_init_28 : decode cX9_init 28 = .ok (.aload_n 0, 1) := by decide +kernel
theorem dX9_init_29 : decode cX9_init 29 = .ok (.bipush 12, 2) := by decide +kernel
theorem dX9_init_31 : decode cX9_init 31 = .ok (.newarray .int, 2) := by decide +kernel
theorem dX9_init_33 : decode cX9_init 33 = .ok (.putfield 21, 3) := by decide +kernel
theorem dX9_init_36 : decode cX9_init 36 = .ok (.aload_n 0, 1) := by decide +kernel
theorem dX9_init_37 : decode cX9_init 37 = .ok (.bipush 12, 2) := by decide +kernel
theorem dX9_init_39 : decode cX9_init 39 = .ok (.newarray .int, 2) := by decide +kernel
theorem dX9_init_41 : decode cX9_init 41 = .ok (.putfield 24, 3) := by decide +kernel
theorem dX9_init_44 : decode cX9_init 44 = .ok (.aload_n 0, 1) := by decide +kernel
theorem dX9_init_45 : decode cX9_init 45 = .ok (.bipush 12, 2) := by decide +kernel
theorem dX9_init_47 : decode cX9_init 47 = .ok (.newarray .int, 2) := by decide +kernel
theorem dX9_init_49 : decode cX9_init 49 = .ok (.putfield 27, 3) := by decide +kernel
theorem dX9_init_52 : decode cX9_init 52 = .ok (.aload_n 0, 1) := by decide +kernel
theorem dX9_init_53 : decode cX9_init 53 = .ok (.bipush 8, 2) := by decide +kernel
theorem dX9_init_55 : decode cX9_init 55 = .ok (.newarray .int, 2) := by decide +kernel
theorem dX9_init_57 : decode cX9_init 57 = .ok (.putfield 30, 3) := by decide +kernel
theorem dX9_init_60 : decode cX9_init 60 = .ok (.aload_n 0, 1) := by decide +kernel
theorem dX9_init_61 : decode cX9_init 61 = .ok (.bipush 8, 2) := by decide +kernel
theorem dX9_init_63 : decode cX9_init 63 = .ok (.newarray .int, 2) := by decide +kernel
theorem dX9_init_65 : decode cX9_init 65 = .ok (.putfield 33, 3) := by decide +kernel
theorem dX9_init_68 : decode cX9_init 68 = .ok (.aload_n 0, 1) := by decide +kernel
theorem dX9_init_69 : decode cX9_init 69 = .ok (.bipush 96, 2) := by decide +kernel
theorem dX9_init_71 : decode cX9_init 71 = .ok (.newarray .int, 2) := by decide +kernel
theorem dX9_init_73 : decode cX9_init 73 = .ok (.putfield 36, 3) := by decide +kernel
theorem dX9_init_76 : decode cX9_init 76 = .ok (.aload_n 0, 1) := by decide +kernel
theorem dX9_init_77 : decode cX9_init 77 = .ok (.iconst 5, 1) := by decide +kernel
theorem dX9_init_78 : decode cX9_init 78 = .ok (.newarray .int, 2) := by decide +kernel
theorem dX9_init_80 : decode cX9_init 80 = .ok (.putfield 39, 3) := by decide +kernel
theorem dX9_init_83 : decode cX9_init 83 = .ok (.aload_n 0, 1) := by decide +kernel
theorem dX9_init_84 : decode cX9_init 84 = .ok (.getfield 36, 3) := by decide +kernel
theorem dX9_init_87 : decode cX9_init 87 = .ok (.iconst (-1), 1) := by decide +kernel
theorem dX9_init_88 : decode cX9_init 88 = .ok (.invokestatic 42, 3) := by decide +kernel
theorem dX9_init_91 : decode cX9_init 91 = .ok (.getstatic 48, 3) := by decide +kernel
theorem dX9_init_94 : decode cX9_init 94 = .ok (.iconst 0, 1) := by decide +kernel
theorem dX9_init_95 : decode cX9_init 95 = .ok (.aload_n 0, 1) := by decide +kernel
theorem dX9_init_96 : decode cX9_init 96 = .ok (.getfield 39, 3) := by decide +kernel
theorem dX9_init_99 : decode cX9_init 99 = .ok (.iconst 0, 1) := by decide +kernel
theorem dX9_init_100 : decode cX9_init 100 = .ok (.iconst 5, 1) := by decide +kernel
theorem dX9_init_101 : decode cX9_init 101 = .ok (.invokestatic 51, 3) := by decide +kernel
theorem dX9_init_104 : decode cX9_init 104 = .ok (.return_, 1) := by decide +kernel
theorem dX9_clear_0 : decode cX9_clear 0 = .ok (.aload_n 0, 1) := by decide +kernel
theorem dX9_clear_1 : decode cX9_clear 1 = .ok (.iconst 0, 1) := by decide +kernel
theorem dX9_clear_2 : decode cX9_clear 2 = .ok (.putfield 57, 3) := by decide +kernel
theorem dX9_clear_5 : decode cX9_clear 5 = .ok (.aload_n 0, 1) := by decide +kernel
theorem dX9_clear_6 : decode cX9_clear 6 = .ok (.iconst 0, 1) := by decide +kernel
theorem dX9_clear_7 : decode cX9_clear 7 = .ok (.putfield 61, 3) := by decide +kernel
theorem dX9_clear_10 : decode cX9_clear 10 = .ok (.aload_n 0, 1) := by decide +kernel
theorem dX9_clear_11 : decode cX9_clear 11 = .ok (.iconst 0, 1) := by decide +kernel
theorem dX9_clear_12 : decode cX9_clear 12 = .ok (.putfield 64, 3) := by decide +kernel
theorem dX9_clear_15 : decode cX9_clear 15 = .ok (.aload_n 0, 1) := by decide +kernel
theorem dX9_clear_16 : decode cX9_clear 16 = .ok (.iconst 0, 1) := by decide +kernel
theorem dX9_clear_17 : decode cX9_clear 17 = .ok (.putfield 67, 3) := by decide +kernel
theorem dX9_clear_20 : decode cX9_clear 20 = .ok (.aload_n 0, 1) := by decide +kernel
theorem dX9_clear_21 : decode cX9_clear 21 = .ok (.getfield 15, 3) := by decide +kernel
theorem dX9_clear_24 : decode cX9_clear 24 = .ok (.iconst 0, 1) := by decide +kernel
theorem dX9_clear_25 : decode cX9_clear 25 = .ok (.invokestatic 42, 3) := by decide +kernel
theorem dX9_clear_28 : decode cX9_clear 28 = .ok (.aload_n 0, 1) := by decide +kernel
theorem dX9_clear_29 : decode cX9_clear 29 = .ok (.getfield 36, 3) := by decide +kernel
theorem dX9_clear_32 : decode cX9_clear 32 = .ok (.iconst (-1), 1) := by decide +kernel
theorem dX9_clear_33 : decode cX9_clear 33 = .ok (.invokestatic 42, 3) := by decide +kernel
theorem dX9_clear_36 : decode cX9_clear 36 = .ok (.getstatic 48, 3) := by decide +kernel
theorem dX9_clear_39 : decode cX9_clear 39 = .ok (.iconst 0, 1) := by decide +kernel
theorem dX9_clear_40 : decode cX9_clear 40 = .ok (.aload_n 0, 1) := by decide +kernel
theorem dX9_clear_41 : decode cX9_clear 41 = .ok (.getfield 39, 3) := by decide +kernel
theorem dX9_clear_44 : decode cX9_clear 44 = .ok (.iconst 0, 1) := by decide +kernel
theorem dX9_clear_45 : decode cX9_clear 45 = .ok (.iconst 5, 1) := by decide +kernel
theorem dX9_clear_46 : decode cX9_clear 46 = .ok (.invokestatic 51, 3) := by decide +kernel
theorem dX9_clear_49 : decode cX9_clear 49 = .ok (.return_, 1) := by decide +kernel
theorem dX9_copy_0 : decode cX9_copy 0 = .ok (.aload_n 0, 1) := by decide +kernel
theorem dX9_copy_1 : decode cX9_copy 1 = .ok (.aload_n 1, 1) := by decide +kernel
theorem dX9_copy_2 : decode cX9_copy 2 = .ok (.getfield 57, 3) := by decide +kernel
theorem dX9_copy_5 : decode cX9_copy 5 = .ok (.putfield 57, 3) := by decide +kernel
theorem dX9_copy_8 : decode cX9_copy 8 = .ok (.aload_n 0, 1) := by decide +kernel
theorem dX9_copy_9 : decode cX9_copy 9 = .ok (.aload_n 1, 1) := by decide +kernel
theorem dX9_copy_10 : decode cX9_copy 10 = .ok (.getfield 61, 3) := by decide +kernel
theorem dX9_copy_13 : decode cX9_copy 13 = .ok (.putfield 61, 3) := by decide +kernel
theorem dX9_copy_16 : decode cX9_copy 16 = .ok (.aload_n 0, 1) := by decide +kernel
theorem dX9_copy_17 : decode cX9_copy 17 = .ok (.aload_n 1, 1) := by decide +kernel
theorem dX9_copy_18 : decode cX9_copy 18 = .ok (.getfield 64, 3) := by decide +kernel
theorem dX9_copy_21 : decode cX9_copy 21 = .ok (.putfield 64, 3) := by decide +kernel
theorem dX9_copy_24 : decode cX9_copy 24 = .ok (.aload_n 1, 1) := by decide +kernel
theorem dX9_copy_25 : decode cX9_copy 25 = .ok (.getfield 9, 3) := by decide +kernel
theorem dX9_copy_28 : decode cX9_copy 28 = .ok (.iconst 0, 1) := by decide +kernel
theorem dX9_copy_29 : decode cX9_copy 29 = .ok (.aload_n 0, 1) := by decide +kernel
theorem dX9_copy_30 : decode cX9_copy 30 = .ok (.getfield 9, 3) := by decide +kernel
theorem dX9_copy_33 : decode cX9_copy 33 = .ok (.iconst 0, 1) := by decide +kernel
theorem dX9_copy_34 : decode cX9_copy 34 = .ok (.bipush 8, 2) := by decide +kernel
theorem dX9_copy_36 : decode cX9_copy 36 = .ok (.invokestatic 51, 3) := by decide +kernel
theorem dX9_copy_39 : decode cX9_copy 39 = .ok (.aload_n 1, 1) := by decide +kernel
theorem dX9_copy_40 : decode cX9_copy 40 = .ok (.getfield 15, 3) := by decide +kernel
theorem dX9_copy_43 : decode cX9_copy 43 = .ok (.iconst 0, 1) := by decide +kernel
theorem dX9_copy_44 : decode cX9_copy 44 = .ok (.aload_n 0, 1) := by decide +kernel
theorem dX9_copy_45 : decode cX9_copy 45 = .ok (.getfield 15, 3) := by decide +kernel
theorem dX9_copy_48 : decode cX9_copy 48 = .ok (.iconst 0, 1) := by decide +kernel
theorem dX9_copy_49 : decode cX9_copy 49 = .ok (.bipush 8, 2) := by decide +kernel
theorem dX9_copy_51 : decode cX9_copy 51 = .ok (.invokestatic 51, 3) := by decide +kernel
theorem dX9_copy_54 : decode cX9_copy 54 = .ok (.aload_n 1, 1) := by decide +kernel
theorem dX9_copy_55 : decode cX9_copy 55 = .ok (.getfield 18, 3) := by decide +kernel
theorem dX9_copy_58 : decode cX9_copy 58 = .ok (.iconst 0, 1) := by decide +kernel
theorem dX9_copy_59 : decode cX9_copy 59 = .ok (.aload_n 0, 1) := by decide +kernel
theorem dX9_copy_60 : decode cX9_copy 60 = .ok (.getfield 18, 3) := by decide +kernel
theorem dX9_copy_63 : decode cX9_copy 63 = .ok (.iconst 0, 1) := by decide +kernel
theorem dX9_copy_64 : decode cX9_copy 64 = .ok (.bipush 12, 2) := by decide +kernel
theorem dX9_copy_66 : decode cX9_copy 66 = .ok (.invokestatic 51, 3) := by decide +kernel
theorem dX9_copy_69 : decode cX9_copy 69 = .ok (.aload_n 1, 1) := by decide +kernel
theorem dX9_copy_70 : decode cX9_copy 70 = .ok (.getfield 21, 3) := by decide +kernel
theorem dX9_copy_73 : decode cX9_copy 73 = .ok (.iconst 0, 1) := by decide +kernel
theorem dX9_copy_74 : decode cX9_copy 74 = .ok (.aload_n 0, 1) := by decide +kernel
theorem dX9_copy_75 : decode cX9_copy 75 = .ok (.getfield 21, 3) := by decide +kernel
theorem dX9_copy_78 : decode cX9_copy 78 = .ok (.iconst 0, 1) := by decide +kernel
theorem dX9_copy_79 : decode cX9_copy 79 = .ok (.bipush 12, 2) := by decide +kernel
theorem dX9_copy_81 : decode cX9_copy 81 = .ok (.invokestatic 51, 3) := by decide +kernel
theorem dX9_copy_84 : decode cX9_copy 84 = .ok (.aload_n 1, 1) := by decide +kernel
theorem dX9_copy_85 : decode cX9_copy 85 = .ok (.getfield 24, 3) := by decide +kernel
theorem dX9_copy_88 : decode cX9_copy 88 = .ok (.iconst 0, 1) := by decide +kernel
theorem dX9_copy_89 : decode cX9_copy 89 = .ok (.aload_n 0, 1) := by decide +kernel
theorem dX9_copy_90 : decode cX9_copy 90 = .ok (.getfield 24, 3) := by decide +kernel
theorem dX9_copy_93 : decode cX9_copy 93 = .ok (.iconst 0, 1) := by decide +kernel
theorem dX9_copy_94 : decode cX9_copy 94 = .ok (.bipush 12, 2) := by decide +kernel
theorem dX9_copy_96 : decode cX9_copy 96 = .ok (.invokestatic 51, 3) := by decide +kernel
theorem dX9_copy_99 : decode cX9_copy 99 = .ok (.aload_n 1, 1) := by decide +kernel
theorem dX9_copy_100 : decode cX9_copy 100 = .ok (.getfield 27, 3) := by decide +kernel
theorem dX9_copy_103 : decode cX9_copy 103 = .ok (.iconst 0, 1) := by decide +kernel
theorem dX9_copy_104 : decode cX9_copy 104 = .ok (.aload_n 0, 1) := by decide +kernel
theorem dX9_copy_105 : decode cX9_copy 105 = .ok (.getfield 27, 3) := by decide +kernel
theorem dX9_copy_108 : decode cX9_copy 108 = .ok (.iconst 0, 1) := by decide +kernel
theorem dX9_copy_109 : decode cX9_copy 109 = .ok (.bipush 12, 2) := by decide +kernel
theorem dX9_copy_111 : decode cX9_copy 111 = .ok (.invokestatic 51, 3) := by decide +kernel
theorem dX9_copy_114 : decode cX9_copy 114 = .ok (.aload_n 1, 1) := by decide +kernel
theorem dX9_copy_115 : decode cX9_copy 115 = .ok (.getfield 30, 3) := by decide +kernel
theorem dX9_copy_118 : decode cX9_copy 118 = .ok (.iconst 0, 1) := by decide +kernel
theorem dX9_copy_119 : decode cX9_copy 119 = .ok (.aload_n 0, 1) := by decide +kernel
theorem dX9_copy_120 : decode cX9_copy 120 = .ok (.getfield 30, 3) := by decide +kernel
theorem dX9_copy_123 : decode cX9_copy 123 = .ok (.iconst 0, 1) := by decide +kernel
theorem dX9_copy_124 : decode cX9_copy 124 = .ok (.bipush 8, 2) := by decide +kernel
theorem dX9_copy_126 : decode cX9_copy 126 = .ok (.invokestatic 51, 3) := by decide +kernel
theorem dX9_copy_129 : decode cX9_copy 129 = .ok (.aload_n 1, 1) := by decide +kernel
theorem dX9_copy_130 : decode cX9_copy 130 = .ok (.getfield 33, 3) := by decide +kernel
theorem dX9_copy_133 : decode cX9_copy 133 = .ok (.iconst 0, 1) := by decide +kernel
theorem dX9_copy_134 : decode cX9_copy 134 = .ok (.aload_n 0, 1) := by decide +kernel
theorem dX9_copy_135 : decode cX9_copy 135 = .ok (.getfield 33, 3) := by decide +kernel
theorem dX9_copy_138 : decode cX9_copy 138 = .ok (.iconst 0, 1) := by decide +kernel
theorem dX9_copy_139 : decode cX9_copy 139 = .ok (.bipush 8, 2) := by decide +kernel
theorem dX9_copy_141 : decode cX9_copy 141 = .ok (.invokestatic 51, 3) := by decide +kernel
theorem dX9_copy_144 : decode cX9_copy 144 = .ok (.aload_n 1, 1) := by decide +kernel
theorem dX9_copy_145 : decode cX9_copy 145 = .ok (.getfield 36, 3) := by decide +kernel
theorem dX9_copy_148 : decode cX9_copy 148 = .ok (.iconst 0, 1) := by decide +kernel
theorem dX9_copy_149 : decode cX9_copy 149 = .ok (.aload_n 0, 1) := by decide +kernel
theorem dX9_copy_150 : decode cX9_copy 150 = .ok (.getfield 36, 3) := by decide +kernel
theorem dX9_copy_153 : decode cX9_copy 153 = .ok (.iconst 0, 1) := by decide +kernel
theorem dX9_copy_154 : decode cX9_copy 154 = .ok (.bipush 96, 2) := by decide +kernel
theorem dX9_copy_156 : decode cX9_copy 156 = .ok (.invokestatic 51, 3) := by decide +kernel
theorem dX9_copy_159 : decode cX9_copy 159 = .ok (.aload_n 1, 1) := by decide +kernel
theorem dX9_copy_160 : decode cX9_copy 160 = .ok (.getfield 39, 3) := by decide +kernel
theorem dX9_copy_163 : decode cX9_copy 163 = .ok (.iconst 0, 1) := by decide +kernel
theorem dX9_copy_164 : decode cX9_copy 164 = .ok (.aload_n 0, 1) := by decide +kernel
theorem dX9_copy_165 : decode cX9_copy 165 = .ok (.getfield 39, 3) := by decide +kernel
theorem dX9_copy_168 : decode cX9_copy 168 = .ok (.iconst 0, 1) := by decide +kernel
theorem dX9_copy_169 : decode cX9_copy 169 = .ok (.iconst 5, 1) := by decide +kernel
theorem dX9_copy_170 : decode cX9_copy 170 = .ok (.invokestatic 51, 3) := by decide +kernel
theorem dX9_copy_173 : decode cX9_copy 173 = .ok (.return_, 1) := by decide +kernel
theorem dX9_hasWho_0 : decode cX9_hasWho 0 = .ok (.iload_n 1, 1) := by decide +kernel
theorem dX9_hasWho_1 : decode cX9_hasWho 1 = .ok (.ifCond .lt 15, 3) := by decide +kernel
theorem dX9_hasWho_4 : decode cX9_hasWho 4 = .ok (.iload_n 1, 1) := by decide +kernel
theorem dX9_hasWho_5 : decode cX9_hasWho 5 = .ok (.aload_n 0, 1) := by decide +kernel
theorem dX9_hasWho_6 : decode cX9_hasWho 6 = .ok (.getfield 57, 3) := by decide +kernel
theorem dX9_hasWho_9 : decode cX9_hasWho 9 = .ok (.if_icmp .ge 7, 3) := by decide +kernel
theorem dX9_hasWho_12 : decode cX9_hasWho 12 = .ok (.iconst 1, 1) := by decide +kernel
theorem dX9_hasWho_13 : decode cX9_hasWho 13 = .ok (.goto 4, 3) := by decide +kernel
theorem dX9_hasWho_16 : decode cX9_hasWho 16 = .ok (.iconst 0, 1) := by decide +kernel
theorem dX9_hasWho_17 : decode cX9_hasWho 17 = .ok (.ireturn, 1) := by decide +kernel
theorem dX9_hasFact_0 : decode cX9_hasFact 0 = .ok (.iload_n 1, 1) := by decide +kernel
theorem dX9_hasFact_1 : decode cX9_hasFact 1 = .ok (.ifCond .lt 15, 3) := by decide +kernel
theorem dX9_hasFact_4 : decode cX9_hasFact 4 = .ok (.iload_n 1, 1) := by decide +kernel
theorem dX9_hasFact_5 : decode cX9_hasFact 5 = .ok (.aload_n 0, 1) := by decide +kernel
theorem dX9_hasFact_6 : decode cX9_hasFact 6 = .ok (.getfield 61, 3) := by decide +kernel
theorem dX9_hasFact_9 : decode cX9_hasFact 9 = .ok (.if_icmp .ge 7, 3) := by decide +kernel
theorem dX9_hasFact_12 : decode cX9_hasFact 12 = .ok (.iconst 1, 1) := by decide +kernel
theorem dX9_hasFact_13 : decode cX9_hasFact 13 = .ok (.goto 4, 3) := by decide +kernel
theorem dX9_hasFact_16 : decode cX9_hasFact 16 = .ok (.iconst 0, 1) := by decide +kernel
theorem dX9_hasFact_17 : decode cX9_hasFact 17 = .ok (.ireturn, 1) := by decide +kernel
theorem dX9_follow_0 : decode cX9_follow 0 = .ok (.iload_n 1, 1) := by decide +kernel
theorem dX9_follow_1 : decode cX9_follow 1 = .ok (.istore_n 2, 1) := by decide +kernel
theorem dX9_follow_2 : decode cX9_follow 2 = .ok (.iconst 0, 1) := by decide +kernel
theorem dX9_follow_3 : decode cX9_follow 3 = .ok (.istore_n 3, 1) := by decide +kernel
theorem dX9_follow_4 : decode cX9_follow 4 = .ok (.iload_n 3, 1) := by decide +kernel
theorem dX9_follow_5 : decode cX9_follow 5 = .ok (.aload_n 0, 1) := by decide +kernel
theorem dX9_follow_6 : decode cX9_follow 6 = .ok (.getfield 64, 3) := by decide +kernel
theorem dX9_follow_9 : decode cX9_follow 9 = .ok (.if_icmp .ge 68, 3) := by decide +kernel
theorem dX9_follow_12 : decode cX9_follow 12 = .ok (.iload_n 2, 1) := by decide +kernel
theorem dX9_follow_13 : decode cX9_follow 13 = .ok (.istore 4, 2) := by decide +kernel
theorem dX9_follow_15 : decode cX9_follow 15 = .ok (.iconst 0, 1) := by decide +kernel
theorem dX9_follow_16 : decode cX9_follow 16 = .ok (.istore 5, 2) := by decide +kernel
theorem dX9_follow_18 : decode cX9_follow 18 = .ok (.iload 5, 2) := by decide +kernel
theorem dX9_follow_20 : decode cX9_follow 20 = .ok (.aload_n 0, 1) := by decide +kernel
theorem dX9_follow_21 : decode cX9_follow 21 = .ok (.getfield 64, 3) := by decide +kernel
theorem dX9_follow_24 : decode cX9_follow 24 = .ok (.if_icmp .ge 38, 3) := by decide +kernel
theorem dX9_follow_27 : decode cX9_follow 27 = .ok (.iload_n 2, 1) := by decide +kernel
theorem dX9_follow_28 : decode cX9_follow 28 = .ok (.aload_n 0, 1) := by decide +kernel
theorem dX9_follow_29 : decode cX9_follow 29 = .ok (.getfield 30, 3) := by decide +kernel
theorem dX9_follow_32 : decode cX9_follow 32 = .ok (.iload 5, 2) := by decide +kernel
theorem dX9_follow_34 : decode cX9_follow 34 = .ok (.iaload, 1) := by decide +kernel
theorem dX9_follow_35 : decode cX9_follow 35 = .ok (.iand, 1) := by decide +kernel
theorem dX9_follow_36 : decode cX9_follow 36 = .ok (.aload_n 0, 1) := by decide +kernel
theorem dX9_follow_37 : decode cX9_follow 37 = .ok (.getfield 30, 3) := by decide +kernel
theorem dX9_follow_40 : decode cX9_follow 40 = .ok (.iload 5, 2) := by decide +kernel
theorem dX9_follow_42 : decode cX9_follow 42 = .ok (.iaload, 1) := by decide +kernel
theorem dX9_follow_43 : decode cX9_follow 43 = .ok (.if_icmp .ne 13, 3) := by decide +kernel
theorem dX9_follow_46 : decode cX9_follow 46 = .ok (.iload_n 2, 1) := by decide +kernel
theorem dX9_follow_47 : decode cX9_follow 47 = .ok (.aload_n 0, 1) := by decide +kernel
theorem dX9_follow_48 : decode cX9_follow 48 = .ok (.getfield 33, 3) := by decide +kernel
theorem dX9_follow_51 : decode cX9_follow 51 = .ok (.iload 5, 2) := by decide +kernel
theorem dX9_follow_53 : decode cX9_follow 53 = .ok (.iaload, 1) := by decide +kernel
theorem dX9_follow_54 : decode cX9_follow 54 = .ok (.ior, 1) := by decide +kernel
theorem dX9_follow_55 : decode cX9_follow 55 = .ok (.istore_n 2, 1) := by decide +kernel
theorem dX9_follow_56 : decode cX9_follow 56 = .ok (.iinc 5 1, 3) := by decide +kernel
theorem dX9_follow_59 : decode cX9_follow 59 = .ok (.goto (-41), 3) := by decide +kernel
theorem dX9_follow_62 : decode cX9_follow 62 = .ok (.iload_n 2, 1) := by decide +kernel
theorem dX9_follow_63 : decode cX9_follow 63 = .ok (.iload 4, 2) := by decide +kernel
theorem dX9_follow_65 : decode cX9_follow 65 = .ok (.if_icmp .ne 6, 3) := by decide +kernel
theorem dX9_follow_68 : decode cX9_follow 68 = .ok (.goto 9, 3) := by decide +kernel
theorem dX9_follow_71 : decode cX9_follow 71 = .ok (.iinc 3 1, 3) := by decide +kernel
theorem dX9_follow_74 : decode cX9_follow 74 = .ok (.goto (-70), 3) := by decide +kernel
theorem dX9_follow_77 : decode cX9_follow 77 = .ok (.iload_n 2, 1) := by decide +kernel
theorem dX9_follow_78 : decode cX9_follow 78 = .ok (.ireturn, 1) := by decide +kernel
theorem dX9_take_0 : decode cX9_take 0 = .ok (.aload_n 0, 1) := by decide +kernel
theorem dX9_take_1 : decode cX9_take 1 = .ok (.invokevirtual 70, 3) := by decide +kernel
theorem dX9_take_4 : decode cX9_take 4 = .ok (.iconst 0, 1) := by decide +kernel
theorem dX9_take_5 : decode cX9_take 5 = .ok (.istore_n 2, 1) := by decide +kernel
theorem dX9_take_6 : decode cX9_take 6 = .ok (.iload_n 2, 1) := by decide +kernel
theorem dX9_take_7 : decode cX9_take 7 = .ok (.sipush 900, 3) := by decide +kernel
theorem dX9_take_10 : decode cX9_take 10 = .ok (.if_icmp .gt 32, 3) := by decide +kernel
theorem dX9_take_13 : decode cX9_take 13 = .ok (.aload_n 1, 1) := by decide +kernel
theorem dX9_take_14 : decode cX9_take 14 = .ok (.invokevirtual 73, 3) := by decide +kernel
theorem dX9_take_17 : decode cX9_take 17 = .ok (.aload_n 1, 1) := by decide +kernel
theorem dX9_take_18 : decode cX9_take 18 = .ok (.getfield 78, 3) := by decide +kernel
theorem dX9_take_21 : decode cX9_take 21 = .ok (.ifCond .ne 5, 3) := by decide +kernel
theorem dX9_take_24 : decode cX9_take 24 = .ok (.iload_n 2, 1) := by decide +kernel
theorem dX9_take_25 : decode cX9_take 25 = .ok (.ireturn, 1) := by decide +kernel
theorem dX9_take_26 : decode cX9_take 26 = .ok (.aload_n 0, 1) := by decide +kernel
theorem dX9_take_27 : decode cX9_take 27 = .ok (.aload_n 1, 1) := by decide +kernel
theorem dX9_take_28 : decode cX9_take 28 = .ok (.invokevirtual 81, 3) := by decide +kernel
theorem dX9_take_31 : decode cX9_take 31 = .ok (.ifCond .ne 5, 3) := by decide +kernel
theorem dX9_take_34 : decode cX9_take 34 = .ok (.iconst (-1), 1) := by decide +kernel
theorem dX9_take_35 : decode cX9_take 35 = .ok (.ireturn, 1) := by decide +kernel
theorem dX9_take_36 : decode cX9_take 36 = .ok (.iinc 2 1, 3) := by decide +kernel
theorem dX9_take_39 : decode cX9_take 39 = .ok (.goto (-33), 3) := by decide +kernel
theorem dX9_take_42 : decode cX9_take 42 = .ok (.iconst (-1), 1) := by decide +kernel
theorem dX9_take_43 : decode cX9_take 43 = .ok (.ireturn, 1) := by decide +kernel
theorem dX9_takeLine_0 : decode cX9_takeLine 0 = .ok (.aload_n 1, 1) := by decide +kernel
theorem dX9_takeLine_1 : decode cX9_takeLine 1 = .ok (.invokevirtual 85, 3) := by decide +kernel
theorem dX9_takeLine_4 : decode cX9_takeLine 4 = .ok (.istore_n 2, 1) := by decide +kernel
theorem dX9_takeLine_5 : decode cX9_takeLine 5 = .ok (.iload_n 2, 1) := by decide +kernel
theorem dX9_takeLine_6 : decode cX9_takeLine 6 = .ok (.tableswitch 149 0 4 #[34, 57, 80, 103, 126], 34) := by decide +kernel
theorem dX9_takeLine_40 : decode cX9_takeLine 40 = .ok (.aload_n 0, 1) := by decide +kernel
theorem dX9_takeLine_41 : decode cX9_takeLine 41 = .ok (.aload_n 1, 1) := by decide +kernel
theorem dX9_takeLine_42 : decode cX9_takeLine 42 = .ok (.invokevirtual 89, 3) := by decide +kernel
theorem dX9_takeLine_45 : decode cX9_takeLine 45 = .ok (.ifCond .eq 16, 3) := by decide +kernel
theorem dX9_takeLine_48 : decode cX9_takeLine 48 = .ok (.aload_n 1, 1) := by decide +kernel
theorem dX9_takeLine_49 : decode cX9_takeLine 49 = .ok (.bipush 59, 2) := by decide +kernel
theorem dX9_takeLine_51 : decode cX9_takeLine 51 = .ok (.invokevirtual 92, 3) := by decide +kernel
theorem dX9_takeLine_54 : decode cX9_takeLine 54 = .ok (.ifCond .eq 7, 3) := by decide +kernel
theorem dX9_takeLine_57 : decode cX9_takeLine 57 = .ok (.iconst 1, 1) := by decide +kernel
theorem dX9_takeLine_58 : decode cX9_takeLine 58 = .ok (.goto 4, 3) := by decide +kernel
theorem dX9_takeLine_61 : decode cX9_takeLine 61 = .ok (.iconst 0, 1) := by decide +kernel
theorem dX9_takeLine_62 : decode cX9_takeLine 62 = .ok (.ireturn, 1) := by decide +kernel
theorem dX9_takeLine_63 : decode cX9_takeLine 63 = .ok (.aload_n 0, 1) := by decide +kernel
theorem dX9_takeLine_64 : decode cX9_takeLine 64 = .ok (.aload_n 1, 1) := by decide +kernel
theorem dX9_takeLine_65 : decode cX9_takeLine 65 = .ok (.invokevirtual 96, 3) := by decide +kernel
theorem dX9_takeLine_68 : decode cX9_takeLine 68 = .ok (.ifCond .eq 16, 3) := by decide +kernel
theorem dX9_takeLine_71 : decode cX9_takeLine 71 = .ok (.aload_n 1, 1) := by decide +kernel
theorem dX9_takeLine_72 : decode cX9_takeLine 72 = .ok (.bipush 59, 2) := by decide +kernel
theorem dX9_takeLine_74 : decode cX9_takeLine 74 = .ok (.invokevirtual 92, 3) := by decide +kernel
theorem dX9_takeLine_77 : decode cX9_takeLine 77 = .ok (.ifCond .eq 7, 3) := by decide +kernel
theorem dX9_takeLine_80 : decode cX9_takeLine 80 = .ok (.iconst 1, 1) := by decide +kernel
theorem dX9_takeLine_81 : decode cX9_takeLine 81 = .ok (.goto 4, 3) := by decide +kernel
theorem dX9_takeLine_84 : decode cX9_takeLine 84 = .ok (.iconst 0, 1) := by decide +kernel
theorem dX9_takeLine_85 : decode cX9_takeLine 85 = .ok (.ireturn, 1) := by decide +kernel
theorem dX9_takeLine_86 : decode cX9_takeLine 86 = .ok (.aload_n 0, 1) := by decide +kernel
theorem dX9_takeLine_87 : decode cX9_takeLine 87 = .ok (.aload_n 1, 1) := by decide +kernel
theorem dX9_takeLine_88 : decode cX9_takeLine 88 = .ok (.invokevirtual 99, 3) := by decide +kernel
theorem dX9_takeLine_91 : decode cX9_takeLine 91 = .ok (.ifCond .eq 16, 3) := by decide +kernel
theorem dX9_takeLine_94 : decode cX9_takeLine 94 = .ok (.aload_n 1, 1) := by decide +kernel
theorem dX9_takeLine_95 : decode cX9_takeLine 95 = .ok (.bipush 59, 2) := by decide +kernel
theorem dX9_takeLine_97 : decode cX9_takeLine 97 = .ok (.invokevirtual 92, 3) := by decide +kernel
theorem dX9_takeLine_100 : decode cX9_takeLine 100 = .ok (.ifCond .eq 7, 3) := by decide +kernel
theorem dX9_takeLine_103 : decode cX9_takeLine 103 = .ok (.iconst 1, 1) := by decide +kernel
theorem dX9_takeLine_104 : decode cX9_takeLine 104 = .ok (.goto 4, 3) := by decide +kernel
theorem dX9_takeLine_107 : decode cX9_takeLine 107 = .ok (.iconst 0, 1) := by decide +kernel
theorem dX9_takeLine_108 : decode cX9_takeLine 108 = .ok (.ireturn, 1) := by decide +kernel
theorem dX9_takeLine_109 : decode cX9_takeLine 109 = .ok (.aload_n 0, 1) := by decide +kernel
theorem dX9_takeLine_110 : decode cX9_takeLine 110 = .ok (.aload_n 1, 1) := by decide +kernel
theorem dX9_takeLine_111 : decode cX9_takeLine 111 = .ok (.invokevirtual 102, 3) := by decide +kernel
theorem dX9_takeLine_114 : decode cX9_takeLine 114 = .ok (.ifCond .eq 16, 3) := by decide +kernel
theorem dX9_takeLine_117 : decode cX9_takeLine 117 = .ok (.aload_n 1, 1) := by decide +kernel
theorem dX9_takeLine_118 : decode cX9_takeLine 118 = .ok (.bipush 59, 2) := by decide +kernel
theorem dX9_takeLine_120 : decode cX9_takeLine 120 = .ok (.invokevirtual 92, 3) := by decide +kernel
theorem dX9_takeLine_123 : decode cX9_takeLine 123 = .ok (.ifCond .eq 7, 3) := by decide +kernel
theorem dX9_takeLine_126 : decode cX9_takeLine 126 = .ok (.iconst 1, 1) := by decide +kernel
theorem dX9_takeLine_127 : decode cX9_takeLine 127 = .ok (.goto 4, 3) := by decide +kernel
theorem dX9_takeLine_130 : decode cX9_takeLine 130 = .ok (.iconst 0, 1) := by decide +kernel
theorem dX9_takeLine_131 : decode cX9_takeLine 131 = .ok (.ireturn, 1) := by decide +kernel
theorem dX9_takeLine_132 : decode cX9_takeLine 132 = .ok (.aload_n 0, 1) := by decide +kernel
theorem dX9_takeLine_133 : decode cX9_takeLine 133 = .ok (.aload_n 1, 1) := by decide +kernel
theorem dX9_takeLine_134 : decode cX9_takeLine 134 = .ok (.invokevirtual 105, 3) := by decide +kernel
theorem dX9_takeLine_137 : decode cX9_takeLine 137 = .ok (.ifCond .eq 16, 3) := by decide +kernel
theorem dX9_takeLine_140 : decode cX9_takeLine 140 = .ok (.aload_n 1, 1) := by decide +kernel
theorem dX9_takeLine_141 : decode cX9_takeLine 141 = .ok (.bipush 59, 2) := by decide +kernel
theorem dX9_takeLine_143 : decode cX9_takeLine 143 = .ok (.invokevirtual 92, 3) := by decide +kernel
theorem dX9_takeLine_146 : decode cX9_takeLine 146 = .ok (.ifCond .eq 7, 3) := by decide +kernel
theorem dX9_takeLine_149 : decode cX9_takeLine 149 = .ok (.iconst 1, 1) := by decide +kernel
theorem dX9_takeLine_150 : decode cX9_takeLine 150 = .ok (.goto 4, 3) := by decide +kernel
theorem dX9_takeLine_153 : decode cX9_takeLine 153 = .ok (.iconst 0, 1) := by decide +kernel
theorem dX9_takeLine_154 : decode cX9_takeLine 154 = .ok (.ireturn, 1) := by decide +kernel
theorem dX9_takeLine_155 : decode cX9_takeLine 155 = .ok (.iload_n 2, 1) := by decide +kernel
theorem dX9_takeLine_156 : decode cX9_takeLine 156 = .ok (.iconst 5, 1) := by decide +kernel
theorem dX9_takeLine_157 : decode cX9_takeLine 157 = .ok (.if_icmp .lt 9, 3) := by decide +kernel
theorem dX9_takeLine_160 : decode cX9_takeLine 160 = .ok (.iload_n 2, 1) := by decide +kernel
theorem dX9_takeLine_161 : decode cX9_takeLine 161 = .ok (.bipush 9, 2) := by decide +kernel
theorem dX9_takeLine_163 : decode cX9_takeLine 163 = .ok (.if_icmp .le 9, 3) := by decide +kernel
theorem dX9_takeLine_166 : decode cX9_takeLine 166 = .ok (.aload_n 1, 1) := by decide +kernel
theorem dX9_takeLine_167 : decode cX9_takeLine 167 = .ok (.iconst 1, 1) := by decide +kernel
theorem dX9_takeLine_168 : decode cX9_takeLine 168 = .ok (.invokevirtual 108, 3) := by decide +kernel
theorem dX9_takeLine_171 : decode cX9_takeLine 171 = .ok (.ireturn, 1) := by decide +kernel
theorem dX9_takeLine_172 : decode cX9_takeLine 172 = .ok (.aload_n 0, 1) := by decide +kernel
theorem dX9_takeLine_173 : decode cX9_takeLine 173 = .ok (.aload_n 1, 1) := by decide +kernel
theorem dX9_takeLine_174 : decode cX9_takeLine 174 = .ok (.iload_n 2, 1) := by decide +kernel
theorem dX9_takeLine_175 : decode cX9_takeLine 175 = .ok (.iconst 5, 1) := by decide +kernel
theorem dX9_takeLine_176 : decode cX9_takeLine 176 = .ok (.isub, 1) := by decide +kernel
theorem dX9_takeLine_177 : decode cX9_takeLine 177 = .ok (.invokevirtual 112, 3) := by decide +kernel
theorem dX9_takeLine_180 : decode cX9_takeLine 180 = .ok (.ifCond .eq 16, 3) := by decide +kernel
theorem dX9_takeLine_183 : decode cX9_takeLine 183 = .ok (.aload_n 1, 1) := by decide +kernel
theorem dX9_takeLine_184 : decode cX9_takeLine 184 = .ok (.bipush 59, 2) := by decide +kernel
theorem dX9_takeLine_186 : decode cX9_takeLine 186 = .ok (.invokevirtual 92, 3) := by decide +kernel
theorem dX9_takeLine_189 : decode cX9_takeLine 189 = .ok (.ifCond .eq 7, 3) := by decide +kernel
theorem dX9_takeLine_192 : decode cX9_takeLine 192 = .ok (.iconst 1, 1) := by decide +kernel
theorem dX9_takeLine_193 : decode cX9_takeLine 193 = .ok (.goto 4, 3) := by decide +kernel
theorem dX9_takeLine_196 : decode cX9_takeLine 196 = .ok (.iconst 0, 1) := by decide +kernel
theorem dX9_takeLine_197 : decode cX9_takeLine 197 = .ok (.ireturn, 1) := by decide +kernel
theorem dX9_takeNewName_0 : decode cX9_takeNewName 0 = .ok (.aload_n 1, 1) := by decide +kernel
theorem dX9_takeNewName_1 : decode cX9_takeNewName 1 = .ok (.invokevirtual 73, 3) := by decide +kernel
theorem dX9_takeNewName_4 : decode cX9_takeNewName 4 = .ok (.aload_n 1, 1) := by decide +kernel
theorem dX9_takeNewName_5 : decode cX9_takeNewName 5 = .ok (.invokevirtual 116, 3) := by decide +kernel
theorem dX9_takeNewName_8 : decode cX9_takeNewName 8 = .ok (.ifCond .ne 9, 3) := by decide +kernel
theorem dX9_takeNewName_11 : decode cX9_takeNewName 11 = .ok (.aload_n 1, 1) := by decide +kernel
theorem dX9_takeNewName_12 : decode cX9_takeNewName 12 = .ok (.iconst 1, 1) := by decide +kernel
theorem dX9_takeNewName_13 : decode cX9_takeNewName 13 = .ok (.invokevirtual 108, 3) := by decide +kernel
theorem dX9_takeNewName_16 : decode cX9_takeNewName 16 = .ok (.ireturn, 1) := by decide +kernel
theorem dX9_takeNewName_17 : decode cX9_takeNewName 17 = .ok (.aload_n 1, 1) := by decide +kernel
theorem dX9_takeNewName_18 : decode cX9_takeNewName 18 = .ok (.getfield 120, 3) := by decide +kernel
theorem dX9_takeNewName_21 : decode cX9_takeNewName 21 = .ok (.aload_n 0, 1) := by decide +kernel
theorem dX9_takeNewName_22 : decode cX9_takeNewName 22 = .ok (.getfield 9, 3) := by decide +kernel
theorem dX9_takeNewName_25 : decode cX9_takeNewName 25 = .ok (.aload_n 0, 1) := by decide +kernel
theorem dX9_takeNewName_26 : decode cX9_takeNewName 26 = .ok (.getfield 57, 3) := by decide +kernel
theorem dX9_takeNewName_29 : decode cX9_takeNewName 29 = .ok (.invokestatic 123, 3) := by decide +kernel
theorem dX9_takeNewName_32 : decode cX9_takeNewName 32 = .ok (.iconst (-1), 1) := by decide +kernel
theorem dX9_takeNewName_33 : decode cX9_takeNewName 33 = .ok (.if_icmp .eq 7, 3) := by decide +kernel
theorem dX9_takeNewName_36 : decode cX9_takeNewName 36 = .ok (.iconst 1, 1) := by decide +kernel
theorem dX9_takeNewName_37 : decode cX9_takeNewName 37 = .ok (.goto 4, 3) := by decide +kernel
theorem dX9_takeNewName_40 : decode cX9_takeNewName 40 = .ok (.iconst 0, 1) := by decide +kernel
theorem dX9_takeNewName_41 : decode cX9_takeNewName 41 = .ok (.istore_n 2, 1) := by decide +kernel
theorem dX9_takeNewName_42 : decode cX9_takeNewName 42 = .ok (.aload_n 1, 1) := by decide +kernel
theorem dX9_takeNewName_43 : decode cX9_takeNewName 43 = .ok (.getfield 120, 3) := by decide +kernel
theorem dX9_takeNewName_46 : decode cX9_takeNewName 46 = .ok (.aload_n 0, 1) := by decide +kernel
theorem dX9_takeNewName_47 : decode cX9_takeNewName 47 = .ok (.getfield 18, 3) := by decide +kernel
theorem dX9_takeNewName_50 : decode cX9_takeNewName 50 = .ok (.aload_n 0, 1) := by decide +kernel
theorem dX9_takeNewName_51 : decode cX9_takeNewName 51 = .ok (.getfield 61, 3) := by decide +kernel
theorem dX9_takeNewName_54 : decode cX9_takeNewName 54 = .ok (.invokestatic 123, 3) := by decide +kernel
theorem dX9_takeNewName_57 : decode cX9_takeNewName 57 = .ok (.iconst (-1), 1) := by decide +kernel
theorem dX9_takeNewName_58 : decode cX9_takeNewName 58 = .ok (.if_icmp .eq 7, 3) := by decide +kernel
theorem dX9_takeNewName_61 : decode cX9_takeNewName 61 = .ok (.iconst 1, 1) := by decide +kernel
theorem dX9_takeNewName_62 : decode cX9_takeNewName 62 = .ok (.goto 4, 3) := by decide +kernel
theorem dX9_takeNewName_65 : decode cX9_takeNewName 65 = .ok (.iconst 0, 1) := by decide +kernel
theorem dX9_takeNewName_66 : decode cX9_takeNewName 66 = .ok (.istore_n 3, 1) := by decide +kernel
theorem dX9_takeNewName_67 : decode cX9_takeNewName 67 = .ok (.iload_n 2, 1) := by decide +kernel
theorem dX9_takeNewName_68 : decode cX9_takeNewName 68 = .ok (.ifCond .ne 7, 3) := by decide +kernel
theorem dX9_takeNewName_71 : decode cX9_takeNewName 71 = .ok (.iload_n 3, 1) := by decide +kernel
theorem dX9_takeNewName_72 : decode cX9_takeNewName 72 = .ok (.ifCond .eq 11, 3) := by decide +kernel
theorem dX9_takeNewName_75 : decode cX9_takeNewName 75 = .ok (.aload_n 1, 1) := by decide +kernel
theorem dX9_takeNewName_76 : decode cX9_takeNewName 76 = .ok (.iconst 3, 1) := by decide +kernel
theorem dX9_takeNewName_77 : decode cX9_takeNewName 77 = .ok (.invokevirtual 108, 3) := by decide +kernel
theorem dX9_takeNewName_80 : decode cX9_takeNewName 80 = .ok (.ifCond .eq 7, 3) := by decide +kernel
theorem dX9_takeNewName_83 : decode cX9_takeNewName 83 = .ok (.iconst 1, 1) := by decide +kernel
theorem dX9_takeNewName_84 : decode cX9_takeNewName 84 = .ok (.goto 4, 3) := by decide +kernel
theorem dX9_takeNewName_87 : decode cX9_takeNewName 87 = .ok (.iconst 0, 1) := by decide +kernel
theorem dX9_takeNewName_88 : decode cX9_takeNewName 88 = .ok (.ireturn, 1) := by decide +kernel
theorem dX9_takeWho_0 : decode cX9_takeWho 0 = .ok (.aload_n 0, 1) := by decide +kernel
theorem dX9_takeWho_1 : decode cX9_takeWho 1 = .ok (.getfield 57, 3) := by decide +kernel
theorem dX9_takeWho_4 : decode cX9_takeWho 4 = .ok (.bipush 8, 2) := by decide +kernel
theorem dX9_takeWho_6 : decode cX9_takeWho 6 = .ok (.if_icmp .lt 9, 3) := by decide +kernel
theorem dX9_takeWho_9 : decode cX9_takeWho 9 = .ok (.aload_n 1, 1) := by decide +kernel
theorem dX9_takeWho_10 : decode cX9_takeWho 10 = .ok (.iconst 4, 1) := by decide +kernel
theorem dX9_takeWho_11 : decode cX9_takeWho 11 = .ok (.invokevirtual 108, 3) := by decide +kernel
theorem dX9_takeWho_14 : decode cX9_takeWho 14 = .ok (.ireturn, 1) := by decide +kernel
theorem dX9_takeWho_15 : decode cX9_takeWho 15 = .ok (.aload_n 0, 1) := by decide +kernel
theorem dX9_takeWho_16 : decode cX9_takeWho 16 = .ok (.aload_n 1, 1) := by decide +kernel
theorem dX9_takeWho_17 : decode cX9_takeWho 17 = .ok (.invokevirtual 127, 3) := by decide +kernel
theorem dX9_takeWho_20 : decode cX9_takeWho 20 = .ok (.ifCond .ne 5, 3) := by decide +kernel
theorem dX9_takeWho_23 : decode cX9_takeWho 23 = .ok (.iconst 0, 1) := by decide +kernel
theorem dX9_takeWho_24 : decode cX9_takeWho 24 = .ok (.ireturn, 1) := by decide +kernel
theorem dX9_takeWho_25 : decode cX9_takeWho 25 = .ok (.aload_n 0, 1) := by decide +kernel
theorem dX9_takeWho_26 : decode cX9_takeWho 26 = .ok (.getfield 9, 3) := by decide +kernel
theorem dX9_takeWho_29 : decode cX9_takeWho 29 = .ok (.aload_n 0, 1) := by decide +kernel
theorem dX9_takeWho_30 : decode cX9_takeWho 30 = .ok (.getfield 57, 3) := by decide +kernel
theorem dX9_takeWho_33 : decode cX9_takeWho 33 = .ok (.aload_n 1, 1) := by decide +kernel
theorem dX9_takeWho_34 : decode cX9_takeWho 34 = .ok (.getfield 120, 3) := by decide +kernel
theorem dX9_takeWho_37 : decode cX9_takeWho 37 = .ok (.iastore, 1) := by decide +kernel
theorem dX9_takeWho_38 : decode cX9_takeWho 38 = .ok (.aload_n 0, 1) := by decide +kernel
theorem dX9_takeWho_39 : decode cX9_takeWho 39 = .ok (.dup, 1) := by decide +kernel
theorem dX9_takeWho_40 : decode cX9_takeWho 40 = .ok (.getfield 57, 3) := by decide +kernel
theorem dX9_takeWho_43 : decode cX9_takeWho 43 = .ok (.iconst 1, 1) := by decide +kernel
theorem dX9_takeWho_44 : decode cX9_takeWho 44 = .ok (.iadd, 1) := by decide +kernel
theorem dX9_takeWho_45 : decode cX9_takeWho 45 = .ok (.putfield 57, 3) := by decide +kernel
theorem dX9_takeWho_48 : decode cX9_takeWho 48 = .ok (.iconst 1, 1) := by decide +kernel
theorem dX9_takeWho_49 : decode cX9_takeWho 49 = .ok (.ireturn, 1) := by decide +kernel
theorem dX9_takeFact_0 : decode cX9_takeFact 0 = .ok (.aload_n 0, 1) := by decide +kernel
theorem dX9_takeFact_1 : decode cX9_takeFact 1 = .ok (.getfield 61, 3) := by decide +kernel
theorem dX9_takeFact_4 : decode cX9_takeFact 4 = .ok (.bipush 12, 2) := by decide +kernel
theorem dX9_takeFact_6 : decode cX9_takeFact 6 = .ok (.if_icmp .lt 9, 3) := by decide +kernel
theorem dX9_takeFact_9 : decode cX9_takeFact 9 = .ok (.aload_n 1, 1) := by decide +kernel
theorem dX9_takeFact_10 : decode cX9_takeFact 10 = .ok (.iconst 4, 1) := by decide +kernel
theorem dX9_takeFact_11 : decode cX9_takeFact 11 = .ok (.invokevirtual 108, 3) := by decide +kernel
theorem dX9_takeFact_14 : decode cX9_takeFact 14 = .ok (.ireturn, 1) := by decide +kernel
theorem dX9_takeFact_15 : decode cX9_takeFact 15 = .ok (.aload_n 0, 1) := by decide +kernel
theorem dX9_takeFact_16 : decode cX9_takeFact 16 = .ok (.aload_n 1, 1) := by decide +kernel
theorem dX9_takeFact_17 : decode cX9_takeFact 17 = .ok (.invokevirtual 127, 3) := by decide +kernel
theorem dX9_takeFact_20 : decode cX9_takeFact 20 = .ok (.ifCond .ne 5, 3) := by decide +kernel
theorem dX9_takeFact_23 : decode cX9_takeFact 23 = .ok (.iconst 0, 1) := by decide +kernel
theorem dX9_takeFact_24 : decode cX9_takeFact 24 = .ok (.ireturn, 1) := by decide +kernel
theorem dX9_takeFact_25 : decode cX9_takeFact 25 = .ok (.aload_n 1, 1) := by decide +kernel
theorem dX9_takeFact_26 : decode cX9_takeFact 26 = .ok (.getfield 120, 3) := by decide +kernel
theorem dX9_takeFact_29 : decode cX9_takeFact 29 = .ok (.istore_n 2, 1) := by decide +kernel
theorem dX9_takeFact_30 : decode cX9_takeFact 30 = .ok (.aload_n 1, 1) := by decide +kernel
theorem dX9_takeFact_31 : decode cX9_takeFact 31 = .ok (.iconst 1, 1) := by decide +kernel
theorem dX9_takeFact_32 : decode cX9_takeFact 32 = .ok (.bipush 99, 2) := by decide +kernel
theorem dX9_takeFact_34 : decode cX9_takeFact 34 = .ok (.invokevirtual 130, 3) := by decide +kernel
theorem dX9_takeFact_37 : decode cX9_takeFact 37 = .ok (.istore_n 3, 1) := by decide +kernel
theorem dX9_takeFact_38 : decode cX9_takeFact 38 = .ok (.iload_n 3, 1) := by decide +kernel
theorem dX9_takeFact_39 : decode cX9_takeFact 39 = .ok (.iconst (-1), 1) := by decide +kernel
theorem dX9_takeFact_40 : decode cX9_takeFact 40 = .ok (.if_icmp .ne 5, 3) := by decide +kernel
theorem dX9_takeFact_43 : decode cX9_takeFact 43 = .ok (.iconst 0, 1) := by decide +kernel
theorem dX9_takeFact_44 : decode cX9_takeFact 44 = .ok (.ireturn, 1) := by decide +kernel
theorem dX9_takeFact_45 : decode cX9_takeFact 45 = .ok (.aload_n 1, 1) := by decide +kernel
theorem dX9_takeFact_46 : decode cX9_takeFact 46 = .ok (.iconst 0, 1) := by decide +kernel
theorem dX9_takeFact_47 : decode cX9_takeFact 47 = .ok (.bipush 99, 2) := by decide +kernel
theorem dX9_takeFact_49 : decode cX9_takeFact 49 = .ok (.invokevirtual 130, 3) := by decide +kernel
theorem dX9_takeFact_52 : decode cX9_takeFact 52 = .ok (.istore 4, 2) := by decide +kernel
theorem dX9_takeFact_54 : decode cX9_takeFact 54 = .ok (.iload 4, 2) := by decide +kernel
theorem dX9_takeFact_56 : decode cX9_takeFact 56 = .ok (.iconst (-1), 1) := by decide +kernel
theorem dX9_takeFact_57 : decode cX9_takeFact 57 = .ok (.if_icmp .ne 5, 3) := by decide +kernel
theorem dX9_takeFact_60 : decode cX9_takeFact 60 = .ok (.iconst 0, 1) := by decide +kernel
theorem dX9_takeFact_61 : decode cX9_takeFact 61 = .ok (.ireturn, 1) := by decide +kernel
theorem dX9_takeFact_62 : decode cX9_takeFact 62 = .ok (.aload_n 1, 1) := by decide +kernel
theorem dX9_takeFact_63 : decode cX9_takeFact 63 = .ok (.aload_n 0, 1) := by decide +kernel
theorem dX9_takeFact_64 : decode cX9_takeFact 64 = .ok (.getfield 9, 3) := by decide +kernel
theorem dX9_takeFact_67 : decode cX9_takeFact 67 = .ok (.aload_n 0, 1) := by decide +kernel
theorem dX9_takeFact_68 : decode cX9_takeFact 68 = .ok (.getfield 57, 3) := by decide +kernel
theorem dX9_takeFact_71 : decode cX9_takeFact 71 = .ok (.invokevirtual 134, 3) := by decide +kernel
theorem dX9_takeFact_74 : decode cX9_takeFact 74 = .ok (.istore 5, 2) := by decide +kernel
theorem dX9_takeFact_76 : decode cX9_takeFact 76 = .ok (.iload 5, 2) := by decide +kernel
theorem dX9_takeFact_78 : decode cX9_takeFact 78 = .ok (.iconst (-1), 1) := by decide +kernel
theorem dX9_takeFact_79 : decode cX9_takeFact 79 = .ok (.if_icmp .ne 5, 3) := by decide +kernel
theorem dX9_takeFact_82 : decode cX9_takeFact 82 = .ok (.iconst 0, 1) := by decide +kernel
theorem dX9_takeFact_83 : decode cX9_takeFact 83 = .ok (.ireturn, 1) := by decide +kernel
theorem dX9_takeFact_84 : decode cX9_takeFact 84 = .ok (.aload_n 0, 1) := by decide +kernel
theorem dX9_takeFact_85 : decode cX9_takeFact 85 = .ok (.getfield 18, 3) := by decide +kernel
theorem dX9_takeFact_88 : decode cX9_takeFact 88 = .ok (.aload_n 0, 1) := by decide +kernel
theorem dX9_takeFact_89 : decode cX9_takeFact 89 = .ok (.getfield 61, 3) := by decide +kernel
theorem dX9_takeFact_92 : decode cX9_takeFact 92 = .ok (.iload_n 2, 1) := by decide +kernel
theorem dX9_takeFact_93 : decode cX9_takeFact 93 = .ok (.iastore, 1) := by decide +kernel
theorem dX9_takeFact_94 : decode cX9_takeFact 94 = .ok (.aload_n 0, 1) := by decide +kernel
theorem dX9_takeFact_95 : decode cX9_takeFact 95 = .ok (.getfield 21, 3) := by decide +kernel
theorem dX9_takeFact_98 : decode cX9_takeFact 98 = .ok (.aload_n 0, 1) := by decide +kernel
theorem dX9_takeFact_99 : decode cX9_takeFact 99 = .ok (.getfield 61, 3) := by decide +kernel
theorem dX9_takeFact_102 : decode cX9_takeFact 102 = .ok (.iload_n 3, 1) := by decide +kernel
theorem dX9_takeFact_103 : decode cX9_takeFact 103 = .ok (.iastore, 1) := by decide +kernel
theorem dX9_takeFact_104 : decode cX9_takeFact 104 = .ok (.aload_n 0, 1) := by decide +kernel
theorem dX9_takeFact_105 : decode cX9_takeFact 105 = .ok (.getfield 24, 3) := by decide +kernel
theorem dX9_takeFact_108 : decode cX9_takeFact 108 = .ok (.aload_n 0, 1) := by decide +kernel
theorem dX9_takeFact_109 : decode cX9_takeFact 109 = .ok (.getfield 61, 3) := by decide +kernel
theorem dX9_takeFact_112 : decode cX9_takeFact 112 = .ok (.iload 4, 2) := by decide +kernel
theorem dX9_takeFact_114 : decode cX9_takeFact 114 = .ok (.iastore, 1) := by decide +kernel
theorem dX9_takeFact_115 : decode cX9_takeFact 115 = .ok (.aload_n 0, 1) := by decide +kernel
theorem dX9_takeFact_116 : decode cX9_takeFact 116 = .ok (.getfield 27, 3) := by decide +kernel
theorem dX9_takeFact_119 : decode cX9_takeFact 119 = .ok (.aload_n 0, 1) := by decide +kernel
theorem dX9_takeFact_120 : decode cX9_takeFact 120 = .ok (.getfield 61, 3) := by decide +kernel
theorem dX9_takeFact_123 : decode cX9_takeFact 123 = .ok (.iload 5, 2) := by decide +kernel
theorem dX9_takeFact_125 : decode cX9_takeFact 125 = .ok (.iastore, 1) := by decide +kernel
theorem dX9_takeFact_126 : decode cX9_takeFact 126 = .ok (.aload_n 0, 1) := by decide +kernel
theorem dX9_takeFact_127 : decode cX9_takeFact 127 = .ok (.dup, 1) := by decide +kernel
theorem dX9_takeFact_128 : decode cX9_takeFact 128 = .ok (.getfield 61, 3) := by decide +kernel
theorem dX9_takeFact_131 : decode cX9_takeFact 131 = .ok (.iconst 1, 1) := by decide +kernel
theorem dX9_takeFact_132 : decode cX9_takeFact 132 = .ok (.iadd, 1) := by decide +kernel
theorem dX9_takeFact_133 : decode cX9_takeFact 133 = .ok (.putfield 61, 3) := by decide +kernel
theorem dX9_takeFact_136 : decode cX9_takeFact 136 = .ok (.iconst 1, 1) := by decide +kernel
theorem dX9_takeFact_137 : decode cX9_takeFact 137 = .ok (.ireturn, 1) := by decide +kernel
theorem dX9_takeKnows_0 : decode cX9_takeKnows 0 = .ok (.aload_n 1, 1) := by decide +kernel
theorem dX9_takeKnows_1 : decode cX9_takeKnows 1 = .ok (.aload_n 0, 1) := by decide +kernel
theorem dX9_takeKnows_2 : decode cX9_takeKnows 2 = .ok (.getfield 9, 3) := by decide +kernel
theorem dX9_takeKnows_5 : decode cX9_takeKnows 5 = .ok (.aload_n 0, 1) := by decide +kernel
theorem dX9_takeKnows_6 : decode cX9_takeKnows 6 = .ok (.getfield 57, 3) := by decide +kernel
theorem dX9_takeKnows_9 : decode cX9_takeKnows 9 = .ok (.invokevirtual 134, 3) := by decide +kernel
theorem dX9_takeKnows_12 : decode cX9_takeKnows 12 = .ok (.istore_n 2, 1) := by decide +kernel
theorem dX9_takeKnows_13 : decode cX9_takeKnows 13 = .ok (.iload_n 2, 1) := by decide +kernel
theorem dX9_takeKnows_14 : decode cX9_takeKnows 14 = .ok (.iconst (-1), 1) := by decide +kernel
theorem dX9_takeKnows_15 : decode cX9_takeKnows 15 = .ok (.if_icmp .ne 5, 3) := by decide +kernel
theorem dX9_takeKnows_18 : decode cX9_takeKnows 18 = .ok (.iconst 0, 1) := by decide +kernel
theorem dX9_takeKnows_19 : decode cX9_takeKnows 19 = .ok (.ireturn, 1) := by decide +kernel
theorem dX9_takeKnows_20 : decode cX9_takeKnows 20 = .ok (.aload_n 1, 1) := by decide +kernel
theorem dX9_takeKnows_21 : decode cX9_takeKnows 21 = .ok (.aload_n 0, 1) := by decide +kernel
theorem dX9_takeKnows_22 : decode cX9_takeKnows 22 = .ok (.getfield 18, 3) := by decide +kernel
theorem dX9_takeKnows_25 : decode cX9_takeKnows 25 = .ok (.aload_n 0, 1) := by decide +kernel
theorem dX9_takeKnows_26 : decode cX9_takeKnows 26 = .ok (.getfield 61, 3) := by decide +kernel
theorem dX9_takeKnows_29 : decode cX9_takeKnows 29 = .ok (.invokevirtual 134, 3) := by decide +kernel
theorem dX9_takeKnows_32 : decode cX9_takeKnows 32 = .ok (.istore_n 3, 1) := by decide +kernel
theorem dX9_takeKnows_33 : decode cX9_takeKnows 33 = .ok (.iload_n 3, 1) := by decide +kernel
theorem dX9_takeKnows_34 : decode cX9_takeKnows 34 = .ok (.iconst (-1), 1) := by decide +kernel
theorem dX9_takeKnows_35 : decode cX9_takeKnows 35 = .ok (.if_icmp .ne 5, 3) := by decide +kernel
theorem dX9_takeKnows_38 : decode cX9_takeKnows 38 = .ok (.iconst 0, 1) := by decide +kernel
theorem dX9_takeKnows_39 : decode cX9_takeKnows 39 = .ok (.ireturn, 1) := by decide +kernel
theorem dX9_takeKnows_40 : decode cX9_takeKnows 40 = .ok (.aload_n 0, 1) := by decide +kernel
theorem dX9_takeKnows_41 : decode cX9_takeKnows 41 = .ok (.getfield 15, 3) := by decide +kernel
theorem dX9_takeKnows_44 : decode cX9_takeKnows 44 = .ok (.iload_n 2, 1) := by decide +kernel
theorem dX9_takeKnows_45 : decode cX9_takeKnows 45 = .ok (.iaload, 1) := by decide +kernel
theorem dX9_takeKnows_46 : decode cX9_takeKnows 46 = .ok (.iload_n 3, 1) := by decide +kernel
theorem dX9_takeKnows_47 : decode cX9_takeKnows 47 = .ok (.invokestatic 138, 3) := by decide +kernel
theorem dX9_takeKnows_50 : decode cX9_takeKnows 50 = .ok (.ifCond .eq 9, 3) := by decide +kernel
theorem dX9_takeKnows_53 : decode cX9_takeKnows 53 = .ok (.aload_n 1, 1) := by decide +kernel
theorem dX9_takeKnows_54 : decode cX9_takeKnows 54 = .ok (.iconst 3, 1) := by decide +kernel
theorem dX9_takeKnows_55 : decode cX9_takeKnows 55 = .ok (.invokevirtual 108, 3) := by decide +kernel
theorem dX9_takeKnows_58 : decode cX9_takeKnows 58 = .ok (.ireturn, 1) := by decide +kernel
theorem dX9_takeKnows_59 : decode cX9_takeKnows 59 = .ok (.aload_n 0, 1) := by decide +kernel
theorem dX9_takeKnows_60 : decode cX9_takeKnows 60 = .ok (.getfield 15, 3) := by decide +kernel
theorem dX9_takeKnows_63 : decode cX9_takeKnows 63 = .ok (.iload_n 2, 1) := by decide +kernel
theorem dX9_takeKnows_64 : decode cX9_takeKnows 64 = .ok (.dup2, 1) := by decide +kernel
theorem dX9_takeKnows_65 : decode cX9_takeKnows 65 = .ok (.iaload, 1) := by decide +kernel
theorem dX9_takeKnows_66 : decode cX9_takeKnows 66 = .ok (.iconst 1, 1) := by decide +kernel
theorem dX9_takeKnows_67 : decode cX9_takeKnows 67 = .ok (.iload_n 3, 1) := by decide +kernel
theorem dX9_takeKnows_68 : decode cX9_takeKnows 68 = .ok (.ishl, 1) := by decide +kernel
theorem dX9_takeKnows_69 : decode cX9_takeKnows 69 = .ok (.ior, 1) := by decide +kernel
theorem dX9_takeKnows_70 : decode cX9_takeKnows 70 = .ok (.iastore, 1) := by decide +kernel
theorem dX9_takeKnows_71 : decode cX9_takeKnows 71 = .ok (.iconst 1, 1) := by decide +kernel
theorem dX9_takeKnows_72 : decode cX9_takeKnows 72 = .ok (.ireturn, 1) := by decide +kernel
theorem dX9_takeSince_0 : decode cX9_takeSince 0 = .ok (.aload_n 0, 1) := by decide +kernel
theorem dX9_takeSince_1 : decode cX9_takeSince 1 = .ok (.getfield 64, 3) := by decide +kernel
theorem dX9_takeSince_4 : decode cX9_takeSince 4 = .ok (.bipush 8, 2) := by decide +kernel
theorem dX9_takeSince_6 : decode cX9_takeSince 6 = .ok (.if_icmp .lt 9, 3) := by decide +kernel
theorem dX9_takeSince_9 : decode cX9_takeSince 9 = .ok (.aload_n 1, 1) := by decide +kernel
theorem dX9_takeSince_10 : decode cX9_takeSince 10 = .ok (.iconst 4, 1) := by decide +kernel
theorem dX9_takeSince_11 : decode cX9_takeSince 11 = .ok (.invokevirtual 108, 3) := by decide +kernel
theorem dX9_takeSince_14 : decode cX9_takeSince 14 = .ok (.ireturn, 1) := by decide +kernel
theorem dX9_takeSince_15 : decode cX9_takeSince 15 = .ok (.iconst 0, 1) := by decide +kernel
theorem dX9_takeSince_16 : decode cX9_takeSince 16 = .ok (.istore_n 2, 1) := by decide +kernel
theorem dX9_takeSince_17 : decode cX9_takeSince 17 = .ok (.iconst 0, 1) := by decide +kernel
theorem dX9_takeSince_18 : decode cX9_takeSince 18 = .ok (.istore_n 3, 1) := by decide +kernel
theorem dX9_takeSince_19 : decode cX9_takeSince 19 = .ok (.iconst 0, 1) := by decide +kernel
theorem dX9_takeSince_20 : decode cX9_takeSince 20 = .ok (.istore 4, 2) := by decide +kernel
theorem dX9_takeSince_22 : decode cX9_takeSince 22 = .ok (.iload 4, 2) := by decide +kernel
theorem dX9_takeSince_24 : decode cX9_takeSince 24 = .ok (.iconst 3, 1) := by decide +kernel
theorem dX9_takeSince_25 : decode cX9_takeSince 25 = .ok (.if_icmp .ge 67, 3) := by decide +kernel
theorem dX9_takeSince_28 : decode cX9_takeSince 28 = .ok (.aload_n 1, 1) := by decide +kernel
theorem dX9_takeSince_29 : decode cX9_takeSince 29 = .ok (.aload_n 0, 1) := by decide +kernel
theorem dX9_takeSince_30 : decode cX9_takeSince 30 = .ok (.getfield 18, 3) := by decide +kernel
theorem dX9_takeSince_33 : decode cX9_takeSince 33 = .ok (.aload_n 0, 1) := by decide +kernel
theorem dX9_takeSince_34 : decode cX9_takeSince 34 = .ok (.getfield 61, 3) := by decide +kernel
theorem dX9_takeSince_37 : decode cX9_takeSince 37 = .ok (.invokevirtual 134, 3) := by decide +kernel
theorem dX9_takeSince_40 : decode cX9_takeSince 40 = .ok (.istore 5, 2) := by decide +kernel
theorem dX9_takeSince_42 : decode cX9_takeSince 42 = .ok (.iload 5, 2) := by decide +kernel
theorem dX9_takeSince_44 : decode cX9_takeSince 44 = .ok (.iconst (-1), 1) := by decide +kernel
theorem dX9_takeSince_45 : decode cX9_takeSince 45 = .ok (.if_icmp .ne 5, 3) := by decide +kernel
theorem dX9_takeSince_48 : decode cX9_takeSince 48 = .ok (.iconst 0, 1) := by decide +kernel
theorem dX9_takeSince_49 : decode cX9_takeSince 49 = .ok (.ireturn, 1) := by decide +kernel
theorem dX9_takeSince_50 : decode cX9_takeSince 50 = .ok (.iload_n 2, 1) := by decide +kernel
theorem dX9_takeSince_51 : decode cX9_takeSince 51 = .ok (.iload 5, 2) := by decide +kernel
theorem dX9_takeSince_53 : decode cX9_takeSince 53 = .ok (.invokestatic 138, 3) := by decide +kernel
theorem dX9_takeSince_56 : decode cX9_takeSince 56 = .ok (.ifCond .eq 9, 3) := by decide +kernel
theorem dX9_takeSince_59 : decode cX9_takeSince 59 = .ok (.aload_n 1, 1) := by decide +kernel
theorem dX9_takeSince_60 : decode cX9_takeSince 60 = .ok (.iconst 3, 1) := by decide +kernel
theorem dX9_takeSince_61 : decode cX9_takeSince 61 = .ok (.invokevirtual 108, 3) := by decide +kernel
theorem dX9_takeSince_64 : decode cX9_takeSince 64 = .ok (.ireturn, 1) := by decide +kernel
theorem dX9_takeSince_65 : decode cX9_takeSince 65 = .ok (.iload 4, 2) := by decide +kernel
theorem dX9_takeSince_67 : decode cX9_takeSince 67 = .ok (.iconst 2, 1) := by decide +kernel
theorem dX9_takeSince_68 : decode cX9_takeSince 68 = .ok (.if_icmp .ge 13, 3) := by decide +kernel
theorem dX9_takeSince_71 : decode cX9_takeSince 71 = .ok (.iload_n 2, 1) := by decide +kernel
theorem dX9_takeSince_72 : decode cX9_takeSince 72 = .ok (.iconst 1, 1) := by decide +kernel
theorem dX9_takeSince_73 : decode cX9_takeSince 73 = .ok (.iload 5, 2) := by decide +kernel
theorem dX9_takeSince_75 : decode cX9_takeSince 75 = .ok (.ishl, 1) := by decide +kernel
theorem dX9_takeSince_76 : decode cX9_takeSince 76 = .ok (.ior, 1) := by decide +kernel
theorem dX9_takeSince_77 : decode cX9_takeSince 77 = .ok (.istore_n 2, 1) := by decide +kernel
theorem dX9_takeSince_78 : decode cX9_takeSince 78 = .ok (.goto 8, 3) := by decide +kernel
theorem dX9_takeSince_81 : decode cX9_takeSince 81 = .ok (.iconst 1, 1) := by decide +kernel
theorem dX9_takeSince_82 : decode cX9_takeSince 82 = .ok (.iload 5, 2) := by decide +kernel
theorem dX9_takeSince_84 : decode cX9_takeSince 84 = .ok (.ishl, 1) := by decide +kernel
theorem dX9_takeSince_85 : decode cX9_takeSince 85 = .ok (.istore_n 3, 1) := by decide +kernel
theorem dX9_takeSince_86 : decode cX9_takeSince 86 = .ok (.iinc 4 1, 3) := by decide +kernel
theorem dX9_takeSince_89 : decode cX9_takeSince 89 = .ok (.goto (-67), 3) := by decide +kernel
theorem dX9_takeSince_92 : decode cX9_takeSince 92 = .ok (.aload_n 0, 1) := by decide +kernel
theorem dX9_takeSince_93 : decode cX9_takeSince 93 = .ok (.getfield 30, 3) := by decide +kernel
theorem dX9_takeSince_96 : decode cX9_takeSince 96 = .ok (.aload_n 0, 1) := by decide +kernel
theorem dX9_takeSince_97 : decode cX9_takeSince 97 = .ok (.getfield 64, 3) := by decide +kernel
theorem dX9_takeSince_100 : decode cX9_takeSince 100 = .ok (.iload_n 2, 1) := by decide +kernel
theorem dX9_takeSince_101 : decode cX9_takeSince 101 = .ok (.iastore, 1) := by decide +kernel
theorem dX9_takeSince_102 : decode cX9_takeSince 102 = .ok (.aload_n 0, 1) := by decide +kernel
theorem dX9_takeSince_103 : decode cX9_takeSince 103 = .ok (.getfield 33, 3) := by decide +kernel
theorem dX9_takeSince_106 : decode cX9_takeSince 106 = .ok (.aload_n 0, 1) := by decide +kernel
theorem dX9_takeSince_107 : decode cX9_takeSince 107 = .ok (.getfield 64, 3) := by decide +kernel
theorem dX9_takeSince_110 : decode cX9_takeSince 110 = .ok (.iload_n 3, 1) := by decide +kernel
theorem dX9_takeSince_111 : decode cX9_takeSince 111 = .ok (.iastore, 1) := by decide +kernel
theorem dX9_takeSince_112 : decode cX9_takeSince 112 = .ok (.aload_n 0, 1) := by decide +kernel
theorem dX9_takeSince_113 : decode cX9_takeSince 113 = .ok (.dup, 1) := by decide +kernel
theorem dX9_takeSince_114 : decode cX9_takeSince 114 = .ok (.getfield 64, 3) := by decide +kernel
theorem dX9_takeSince_117 : decode cX9_takeSince 117 = .ok (.iconst 1, 1) := by decide +kernel
theorem dX9_takeSince_118 : decode cX9_takeSince 118 = .ok (.iadd, 1) := by decide +kernel
theorem dX9_takeSince_119 : decode cX9_takeSince 119 = .ok (.putfield 64, 3) := by decide +kernel
theorem dX9_takeSince_122 : decode cX9_takeSince 122 = .ok (.iconst 1, 1) := by decide +kernel
theorem dX9_takeSince_123 : decode cX9_takeSince 123 = .ok (.ireturn, 1) := by decide +kernel
theorem dX9_takeAsks_0 : decode cX9_takeAsks 0 = .ok (.aload_n 1, 1) := by decide +kernel
theorem dX9_takeAsks_1 : decode cX9_takeAsks 1 = .ok (.aload_n 0, 1) := by decide +kernel
theorem dX9_takeAsks_2 : decode cX9_takeAsks 2 = .ok (.getfield 9, 3) := by decide +kernel
theorem dX9_takeAsks_5 : decode cX9_takeAsks 5 = .ok (.aload_n 0, 1) := by decide +kernel
theorem dX9_takeAsks_6 : decode cX9_takeAsks 6 = .ok (.getfield 57, 3) := by decide +kernel
theorem dX9_takeAsks_9 : decode cX9_takeAsks 9 = .ok (.invokevirtual 134, 3) := by decide +kernel
theorem dX9_takeAsks_12 : decode cX9_takeAsks 12 = .ok (.istore_n 2, 1) := by decide +kernel
theorem dX9_takeAsks_13 : decode cX9_takeAsks 13 = .ok (.iload_n 2, 1) := by decide +kernel
theorem dX9_takeAsks_14 : decode cX9_takeAsks 14 = .ok (.iconst (-1), 1) := by decide +kernel
theorem dX9_takeAsks_15 : decode cX9_takeAsks 15 = .ok (.if_icmp .ne 5, 3) := by decide +kernel
theorem dX9_takeAsks_18 : decode cX9_takeAsks 18 = .ok (.iconst 0, 1) := by decide +kernel
theorem dX9_takeAsks_19 : decode cX9_takeAsks 19 = .ok (.ireturn, 1) := by decide +kernel
theorem dX9_takeAsks_20 : decode cX9_takeAsks 20 = .ok (.aload_n 1, 1) := by decide +kernel
theorem dX9_takeAsks_21 : decode cX9_takeAsks 21 = .ok (.aload_n 0, 1) := by decide +kernel
theorem dX9_takeAsks_22 : decode cX9_takeAsks 22 = .ok (.getfield 18, 3) := by decide +kernel
theorem dX9_takeAsks_25 : decode cX9_takeAsks 25 = .ok (.aload_n 0, 1) := by decide +kernel
theorem dX9_takeAsks_26 : decode cX9_takeAsks 26 = .ok (.getfield 61, 3) := by decide +kernel
theorem dX9_takeAsks_29 : decode cX9_takeAsks 29 = .ok (.invokevirtual 134, 3) := by decide +kernel
theorem dX9_takeAsks_32 : decode cX9_takeAsks 32 = .ok (.istore_n 3, 1) := by decide +kernel
theorem dX9_takeAsks_33 : decode cX9_takeAsks 33 = .ok (.iload_n 3, 1) := by decide +kernel
theorem dX9_takeAsks_34 : decode cX9_takeAsks 34 = .ok (.iconst (-1), 1) := by decide +kernel
theorem dX9_takeAsks_35 : decode cX9_takeAsks 35 = .ok (.if_icmp .ne 5, 3) := by decide +kernel
theorem dX9_takeAsks_38 : decode cX9_takeAsks 38 = .ok (.iconst 0, 1) := by decide +kernel
theorem dX9_takeAsks_39 : decode cX9_takeAsks 39 = .ok (.ireturn, 1) := by decide +kernel
theorem dX9_takeAsks_40 : decode cX9_takeAsks 40 = .ok (.iload_n 2, 1) := by decide +kernel
theorem dX9_takeAsks_41 : decode cX9_takeAsks 41 = .ok (.bipush 12, 2) := by decide +kernel
theorem dX9_takeAsks_43 : decode cX9_takeAsks 43 = .ok (.imul, 1) := by decide +kernel
theorem dX9_takeAsks_44 : decode cX9_takeAsks 44 = .ok (.iload_n 3, 1) := by decide +kernel
theorem dX9_takeAsks_45 : decode cX9_takeAsks 45 = .ok (.iadd, 1) := by decide +kernel
theorem dX9_takeAsks_46 : decode cX9_takeAsks 46 = .ok (.istore 4, 2) := by decide +kernel
theorem dX9_takeAsks_48 : decode cX9_takeAsks 48 = .ok (.aload_n 0, 1) := by decide +kernel
theorem dX9_takeAsks_49 : decode cX9_takeAsks 49 = .ok (.getfield 36, 3) := by decide +kernel
theorem dX9_takeAsks_52 : decode cX9_takeAsks 52 = .ok (.iload 4, 2) := by decide +kernel
theorem dX9_takeAsks_54 : decode cX9_takeAsks 54 = .ok (.iaload, 1) := by decide +kernel
theorem dX9_takeAsks_55 : decode cX9_takeAsks 55 = .ok (.iconst (-1), 1) := by decide +kernel
theorem dX9_takeAsks_56 : decode cX9_takeAsks 56 = .ok (.if_icmp .eq 9, 3) := by decide +kernel
theorem dX9_takeAsks_59 : decode cX9_takeAsks 59 = .ok (.aload_n 1, 1) := by decide +kernel
theorem dX9_takeAsks_60 : decode cX9_takeAsks 60 = .ok (.iconst 3, 1) := by decide +kernel
theorem dX9_takeAsks_61 : decode cX9_takeAsks 61 = .ok (.invokevirtual 108, 3) := by decide +kernel
theorem dX9_takeAsks_64 : decode cX9_takeAsks 64 = .ok (.ireturn, 1) := by decide +kernel
theorem dX9_takeAsks_65 : decode cX9_takeAsks 65 = .ok (.aload_n 1, 1) := by decide +kernel
theorem dX9_takeAsks_66 : decode cX9_takeAsks 66 = .ok (.iconst 0, 1) := by decide +kernel
theorem dX9_takeAsks_67 : decode cX9_takeAsks 67 = .ok (.bipush 99, 2) := by decide +kernel
theorem dX9_takeAsks_69 : decode cX9_takeAsks 69 = .ok (.invokevirtual 130, 3) := by decide +kernel
theorem dX9_takeAsks_72 : decode cX9_takeAsks 72 = .ok (.istore 5, 2) := by decide +kernel
theorem dX9_takeAsks_74 : decode cX9_takeAsks 74 = .ok (.iload 5, 2) := by decide +kernel
theorem dX9_takeAsks_76 : decode cX9_takeAsks 76 = .ok (.iconst (-1), 1) := by decide +kernel
theorem dX9_takeAsks_77 : decode cX9_takeAsks 77 = .ok (.if_icmp .ne 5, 3) := by decide +kernel
theorem dX9_takeAsks_80 : decode cX9_takeAsks 80 = .ok (.iconst 0, 1) := by decide +kernel
theorem dX9_takeAsks_81 : decode cX9_takeAsks 81 = .ok (.ireturn, 1) := by decide +kernel
theorem dX9_takeAsks_82 : decode cX9_takeAsks 82 = .ok (.aload_n 0, 1) := by decide +kernel
theorem dX9_takeAsks_83 : decode cX9_takeAsks 83 = .ok (.getfield 36, 3) := by decide +kernel
theorem dX9_takeAsks_86 : decode cX9_takeAsks 86 = .ok (.iload 4, 2) := by decide +kernel
theorem dX9_takeAsks_88 : decode cX9_takeAsks 88 = .ok (.iload 5, 2) := by decide +kernel
theorem dX9_takeAsks_90 : decode cX9_takeAsks 90 = .ok (.iastore, 1) := by decide +kernel
theorem dX9_takeAsks_91 : decode cX9_takeAsks 91 = .ok (.iconst 1, 1) := by decide +kernel
theorem dX9_takeAsks_92 : decode cX9_takeAsks 92 = .ok (.ireturn, 1) := by decide +kernel
theorem dX9_takeSetting_0 : decode cX9_takeSetting 0 = .ok (.aload_n 0, 1) := by decide +kernel
theorem dX9_takeSetting_1 : decode cX9_takeSetting 1 = .ok (.getfield 67, 3) := by decide +kernel
theorem dX9_takeSetting_4 : decode cX9_takeSetting 4 = .ok (.iload_n 2, 1) := by decide +kernel
theorem dX9_takeSetting_5 : decode cX9_takeSetting 5 = .ok (.invokestatic 138, 3) := by decide +kernel
theorem dX9_takeSetting_8 : decode cX9_takeSetting 8 = .ok (.ifCond .eq 9, 3) := by decide +kernel
theorem dX9_takeSetting_11 : decode cX9_takeSetting 11 = .ok (.aload_n 1, 1) := by decide +kernel
theorem dX9_takeSetting_12 : decode cX9_takeSetting 12 = .ok (.iconst 3, 1) := by decide +kernel
theorem dX9_takeSetting_13 : decode cX9_takeSetting 13 = .ok (.invokevirtual 108, 3) := by decide +kernel
theorem dX9_takeSetting_16 : decode cX9_takeSetting 16 = .ok (.ireturn, 1) := by decide +kernel
theorem dX9_takeSetting_17 : decode cX9_takeSetting 17 = .ok (.aload_n 1, 1) := by decide +kernel
theorem dX9_takeSetting_18 : decode cX9_takeSetting 18 = .ok (.getstatic 142, 3) := by decide +kernel
theorem dX9_takeSetting_21 : decode cX9_takeSetting 21 = .ok (.iload_n 2, 1) := by decide +kernel
theorem dX9_takeSetting_22 : decode cX9_takeSetting 22 = .ok (.iaload, 1) := by decide +kernel
theorem dX9_takeSetting_23 : decode cX9_takeSetting 23 = .ok (.getstatic 145, 3) := by decide +kernel
theorem dX9_takeSetting_26 : decode cX9_takeSetting 26 = .ok (.iload_n 2, 1) := by decide +kernel
theorem dX9_takeSetting_27 : decode cX9_takeSetting 27 = .ok (.iaload, 1) := by decide +kernel
theorem dX9_takeSetting_28 : decode cX9_takeSetting 28 = .ok (.invokevirtual 130, 3) := by decide +kernel
theorem dX9_takeSetting_31 : decode cX9_takeSetting 31 = .ok (.istore_n 3, 1) := by decide +kernel
theorem dX9_takeSetting_32 : decode cX9_takeSetting 32 = .ok (.iload_n 3, 1) := by decide +kernel
theorem dX9_takeSetting_33 : decode cX9_takeSetting 33 = .ok (.iconst (-1), 1) := by decide +kernel
theorem dX9_takeSetting_34 : decode cX9_takeSetting 34 = .ok (.if_icmp .ne 5, 3) := by decide +kernel
theorem dX9_takeSetting_37 : decode cX9_takeSetting 37 = .ok (.iconst 0, 1) := by decide +kernel
theorem dX9_takeSetting_38 : decode cX9_takeSetting 38 = .ok (.ireturn, 1) := by decide +kernel
theorem dX9_takeSetting_39 : decode cX9_takeSetting 39 = .ok (.aload_n 0, 1) := by decide +kernel
theorem dX9_takeSetting_40 : decode cX9_takeSetting 40 = .ok (.dup, 1) := by decide +kernel
theorem dX9_takeSetting_41 : decode cX9_takeSetting 41 = .ok (.getfield 67, 3) := by decide +kernel
theorem dX9_takeSetting_44 : decode cX9_takeSetting 44 = .ok (.iconst 1, 1) := by decide +kernel
theorem dX9_takeSetting_45 : decode cX9_takeSetting 45 = .ok (.iload_n 2, 1) := by decide +kernel
theorem dX9_takeSetting_46 : decode cX9_takeSetting 46 = .ok (.ishl, 1) := by decide +kernel
theorem dX9_takeSetting_47 : decode cX9_takeSetting 47 = .ok (.ior, 1) := by decide +kernel
theorem dX9_takeSetting_48 : decode cX9_takeSetting 48 = .ok (.putfield 67, 3) := by decide +kernel
theorem dX9_takeSetting_51 : decode cX9_takeSetting 51 = .ok (.aload_n 0, 1) := by decide +kernel
theorem dX9_takeSetting_52 : decode cX9_takeSetting 52 = .ok (.getfield 39, 3) := by decide +kernel
theorem dX9_takeSetting_55 : decode cX9_takeSetting 55 = .ok (.iload_n 2, 1) := by decide +kernel
theorem dX9_takeSetting_56 : decode cX9_takeSetting 56 = .ok (.iload_n 3, 1) := by decide +kernel
theorem dX9_takeSetting_57 : decode cX9_takeSetting 57 = .ok (.iastore, 1) := by decide +kernel
theorem dX9_takeSetting_58 : decode cX9_takeSetting 58 = .ok (.iconst 1, 1) := by decide +kernel
theorem dX9_takeSetting_59 : decode cX9_takeSetting 59 = .ok (.ireturn, 1) := by decide +kernel
