theorem dX0_init_0 : decode cX0_init 0 = .ok (.aload_n 0, 1) := by decide +kernel
theorem dX0_init_1 : decode cX0_init 1 = .ok (.invokespecial 3, 3) := by decide +kernel
theorem dX0_init_4 : decode cX0_init 4 = .ok (.aload_n 0, 1) := by decide +kernel
theorem dX0_init_5 : decode cX0_init 5 = .ok (.bipush 60, 2) := by decide +kernel
theorem dX0_init_7 : decode cX0_init 7 = .ok (.newarray .int, 2) := by decide +kernel
theorem dX0_init_9 : decode cX0_init 9 = .ok (.putfield 9, 3) := by decide +kernel
theorem dX0_init_12 : decode cX0_init 12 = .ok (.aload_n 0, 1) := by decide +kernel
theorem dX0_init_13 : decode cX0_init 13 = .ok (.bipush 60, 2) := by decide +kernel
theorem dX0_init_15 : decode cX0_init 15 = .ok (.newarray .int, 2) := by decide +kernel
theorem dX0_init_17 : decode cX0_init 17 = .ok (.putfield 15, 3) := by decide +kernel
theorem dX0_init_20 : decode cX0_init 20 = .ok (.aload_n 0, 1) := by decide +kernel
theorem dX0_init_21 : decode cX0_init 21 = .ok (.bipush 60, 2) := by decide +kernel
theorem dX0_init_23 : decode cX0_init 23 = .ok (.newarray .int, 2) := by decide +kernel
theorem dX0_init_25 : decode cX0_init 25 = .ok (.putfield 18, 3) := by decide +kernel
theorem dX0_init_28 : decode cX0_init 28 = .ok (.aload_n 0, 1) := by decide +kernel
theorem dX0_init_29 : decode cX0_init 29 = .ok (.bipush 60, 2) := by decide +kernel
theorem dX0_init_31 : decode cX0_init 31 = .ok (.newarray .int, 2) := by decide +kernel
theorem dX0_init_33 : decode cX0_init 33 = .ok (.putfield 21, 3) := by decide +kernel
theorem dX0_init_36 : decode cX0_init 36 = .ok (.aload_n 0, 1) := by decide +kernel
theorem dX0_init_37 : decode cX0_init 37 = .ok (.bipush 60, 2) := by decide +kernel
theorem dX0_init_39 : decode cX0_init 39 = .ok (.newarray .int, 2) := by decide +kernel
theorem dX0_init_41 : decode cX0_init 41 = .ok (.putfield 24, 3) := by decide +kernel
theorem dX0_init_44 : decode cX0_init 44 = .ok (.aload_n 0, 1) := by decide +kernel
theorem dX0_init_45 : decode cX0_init 45 = .ok (.bipush 60, 2) := by decide +kernel
theorem dX0_init_47 : decode cX0_init 47 = .ok (.newarray .int, 2) := by decide +kernel
theorem dX0_init_49 : decode cX0_init 49 = .ok (.putfield 27, 3) := by decide +kernel
theorem dX0_init_52 : decode cX0_init 52 = .ok (.aload_n 0, 1) := by decide +kernel
theorem dX0_init_53 : decode cX0_init 53 = .ok (.bipush 60, 2) := by decide +kernel
theorem dX0_init_55 : decode cX0_init 55 = .ok (.newarray .int, 2) := by decide +kernel
theorem dX0_init_57 : decode cX0_init 57 = .ok (.putfield 30, 3) := by decide +kernel
theorem dX0_init_60 : decode cX0_init 60 = .ok (.return_, 1) := by decide +kernel
theorem dX0_clear_0 : decode cX0_clear 0 = .ok (.aload_n 0, 1) := by decide +kernel
theorem dX0_clear_1 : decode cX0_clear 1 = .ok (.iconst 0, 1) := by decide +kernel
theorem dX0_clear_2 : decode cX0_clear 2 = .ok (.putfield 33, 3) := by decide +kernel
theorem dX0_clear_5 : decode cX0_clear 5 = .ok (.aload_n 0, 1) := by decide +kernel
theorem dX0_clear_6 : decode cX0_clear 6 = .ok (.iconst 0, 1) := by decide +kernel
theorem dX0_clear_7 : decode cX0_clear 7 = .ok (.putfield 37, 3) := by decide +kernel
theorem dX0_clear_10 : decode cX0_clear 10 = .ok (.return_, 1) := by decide +kernel
theorem dX0_copy_0 : decode cX0_copy 0 = .ok (.aload_n 0, 1) := by decide +kernel
theorem dX0_copy_1 : decode cX0_copy 1 = .ok (.aload_n 1, 1) := by decide +kernel
theorem dX0_copy_2 : decode cX0_copy 2 = .ok (.getfield 33, 3) := by decide +kernel
theorem dX0_copy_5 : decode cX0_copy 5 = .ok (.putfield 33, 3) := by decide +kernel
theorem dX0_copy_8 : decode cX0_copy 8 = .ok (.aload_n 0, 1) := by decide +kernel
theorem dX0_copy_9 : decode cX0_copy 9 = .ok (.aload_n 1, 1) := by decide +kernel
theorem dX0_copy_10 : decode cX0_copy 10 = .ok (.getfield 37, 3) := by decide +kernel
theorem dX0_copy_13 : decode cX0_copy 13 = .ok (.putfield 37, 3) := by decide +kernel
theorem dX0_copy_16 : decode cX0_copy 16 = .ok (.aload_n 1, 1) := by decide +kernel
theorem dX0_copy_17 : decode cX0_copy 17 = .ok (.getfield 9, 3) := by decide +kernel
theorem dX0_copy_20 : decode cX0_copy 20 = .ok (.iconst 0, 1) := by decide +kernel
theorem dX0_copy_21 : decode cX0_copy 21 = .ok (.aload_n 0, 1) := by decide +kernel
theorem dX0_copy_22 : decode cX0_copy 22 = .ok (.getfield 9, 3) := by decide +kernel
theorem dX0_copy_25 : decode cX0_copy 25 = .ok (.iconst 0, 1) := by decide +kernel
theorem dX0_copy_26 : decode cX0_copy 26 = .ok (.bipush 60, 2) := by decide +kernel
theorem dX0_copy_28 : decode cX0_copy 28 = .ok (.invokestatic 40, 3) := by decide +kernel
theorem dX0_copy_31 : decode cX0_copy 31 = .ok (.aload_n 1, 1) := by decide +kernel
theorem dX0_copy_32 : decode cX0_copy 32 = .ok (.getfield 15, 3) := by decide +kernel
theorem dX0_copy_35 : decode cX0_copy 35 = .ok (.iconst 0, 1) := by decide +kernel
theorem dX0_copy_36 : decode cX0_copy 36 = .ok (.aload_n 0, 1) := by decide +kernel
theorem dX0_copy_37 : decode cX0_copy 37 = .ok (.getfield 15, 3) := by decide +kernel
theorem dX0_copy_40 : decode cX0_copy 40 = .ok (.iconst 0, 1) := by decide +kernel
theorem dX0_copy_41 : decode cX0_copy 41 = .ok (.bipush 60, 2) := by decide +kernel
theorem dX0_copy_43 : decode cX0_copy 43 = .ok (.invokestatic 40, 3) := by decide +kernel
theorem dX0_copy_46 : decode cX0_copy 46 = .ok (.aload_n 1, 1) := by decide +kernel
theorem dX0_copy_47 : decode cX0_copy 47 = .ok (.getfield 18, 3) := by decide +kernel
theorem dX0_copy_50 : decode cX0_copy 50 = .ok (.iconst 0, 1) := by decide +kernel
theorem dX0_copy_51 : decode cX0_copy 51 = .ok (.aload_n 0, 1) := by decide +kernel
theorem dX0_copy_52 : decode cX0_copy 52 = .ok (.getfield 18, 3) := by decide +kernel
theorem dX0_copy_55 : decode cX0_copy 55 = .ok (.iconst 0, 1) := by decide +kernel
theorem dX0_copy_56 : decode cX0_copy 56 = .ok (.bipush 60, 2) := by decide +kernel
theorem dX0_copy_58 : decode cX0_copy 58 = .ok (.invokestatic 40, 3) := by decide +kernel
theorem dX0_copy_61 : decode cX0_copy 61 = .ok (.aload_n 1, 1) := by decide +kernel
theorem dX0_copy_62 : decode cX0_copy 62 = .ok (.getfield 21, 3) := by decide +kernel
theorem dX0_copy_65 : decode cX0_copy 65 = .ok (.iconst 0, 1) := by decide +kernel
theorem dX0_copy_66 : decode cX0_copy 66 = .ok (.aload_n 0, 1) := by decide +kernel
theorem dX0_copy_67 : decode cX0_copy 67 = .ok (.getfield 21, 3) := by decide +kernel
theorem dX0_copy_70 : decode cX0_copy 70 = .ok (.iconst 0, 1) := by decide +kernel
theorem dX0_copy_71 : decode cX0_copy 71 = .ok (.bipush 60, 2) := by decide +kernel
theorem dX0_copy_73 : decode cX0_copy 73 = .ok (.invokestatic 40, 3) := by decide +kernel
theorem dX0_copy_76 : decode cX0_copy 76 = .ok (.aload_n 1, 1) := by decide +kernel
theorem dX0_copy_77 : decode cX0_copy 77 = .ok (.getfield 24, 3) := by decide +kernel
theorem dX0_copy_80 : decode cX0_copy 80 = .ok (.iconst 0, 1) := by decide +kernel
theorem dX0_copy_81 : decode cX0_copy 81 = .ok (.aload_n 0, 1) := by decide +kernel
theorem dX0_copy_82 : decode cX0_copy 82 = .ok (.getfield 24, 3) := by decide +kernel
theorem dX0_copy_85 : decode cX0_copy 85 = .ok (.iconst 0, 1) := by decide +kernel
theorem dX0_copy_86 : decode cX0_copy 86 = .ok (.bipush 60, 2) := by decide +kernel
theorem dX0_copy_88 : decode cX0_copy 88 = .ok (.invokestatic 40, 3) := by decide +kernel
theorem dX0_copy_91 : decode cX0_copy 91 = .ok (.aload_n 1, 1) := by decide +kernel
theorem dX0_copy_92 : decode cX0_copy 92 = .ok (.getfield 27, 3) := by decide +kernel
theorem dX0_copy_95 : decode cX0_copy 95 = .ok (.iconst 0, 1) := by decide +kernel
theorem dX0_copy_96 : decode cX0_copy 96 = .ok (.aload_n 0, 1) := by decide +kernel
theorem dX0_copy_97 : decode cX0_copy 97 = .ok (.getfield 27, 3) := by decide +kernel
theorem dX0_copy_100 : decode cX0_copy 100 = .ok (.iconst 0, 1) := by decide +kernel
theorem dX0_copy_101 : decode cX0_copy 101 = .ok (.bipush 60, 2) := by decide +kernel
theorem dX0_copy_103 : decode cX0_copy 103 = .ok (.invokestatic 40, 3) := by decide +kernel
theorem dX0_copy_106 : decode cX0_copy 106 = .ok (.aload_n 1, 1) := by decide +kernel
theorem dX0_copy_107 : decode cX0_copy 107 = .ok (.getfield 30, 3) := by decide +kernel
theorem dX0_copy_110 : decode cX0_copy 110 = .ok (.iconst 0, 1) := by decide +kernel
theorem dX0_copy_111 : decode cX0_copy 111 = .ok (.aload_n 0, 1) := by decide +kernel
theorem dX0_copy_112 : decode cX0_copy 112 = .ok (.getfield 30, 3) := by decide +kernel
theorem dX0_copy_115 : decode cX0_copy 115 = .ok (.iconst 0, 1) := by decide +kernel
theorem dX0_copy_116 : decode cX0_copy 116 = .ok (.bipush 60, 2) := by decide +kernel
theorem dX0_copy_118 : decode cX0_copy 118 = .ok (.invokestatic 40, 3) := by decide +kernel
theorem dX0_copy_121 : decode cX0_copy 121 = .ok (.return_, 1) := by decide +kernel
theorem dX0_hasLine_0 : decode cX0_hasLine 0 = .ok (.iload_n 1, 1) := by decide +kernel
theorem dX0_hasLine_1 : decode cX0_hasLine 1 = .ok (.ifCond .lt 15, 3) := by decide +kernel
theorem dX0_hasLine_4 : decode cX0_hasLine 4 = .ok (.iload_n 1, 1) := by decide +kernel
theorem dX0_hasLine_5 : decode cX0_hasLine 5 = .ok (.aload_n 0, 1) := by decide +kernel
theorem dX0_hasLine_6 : decode cX0_hasLine 6 = .ok (.getfield 33, 3) := by decide +kernel
theorem dX0_hasLine_9 : decode cX0_hasLine 9 = .ok (.if_icmp .ge 7, 3) := by decide +kernel
theorem dX0_hasLine_12 : decode cX0_hasLine 12 = .ok (.iconst 1, 1) := by decide +kernel
theorem dX0_hasLine_13 : decode cX0_hasLine 13 = .ok (.goto 4, 3) := by decide +kernel
theorem dX0_hasLine_16 : decode cX0_hasLine 16 = .ok (.iconst 0, 1) := by decide +kernel
theorem dX0_hasLine_17 : decode cX0_hasLine 17 = .ok (.ireturn, 1) := by decide +kernel
theorem dX0_addDay_0 : decode cX0_addDay 0 = .ok (.aload_n 0, 1) := by decide +kernel
theorem dX0_addDay_1 : decode cX0_addDay 1 = .ok (.iload_n 1, 1) := by decide +kernel
theorem dX0_addDay_2 : decode cX0_addDay 2 = .ok (.putfield 37, 3) := by decide +kernel
theorem dX0_addDay_5 : decode cX0_addDay 5 = .ok (.aload_n 0, 1) := by decide +kernel
theorem dX0_addDay_6 : decode cX0_addDay 6 = .ok (.iconst 0, 1) := by decide +kernel
theorem dX0_addDay_7 : decode cX0_addDay 7 = .ok (.iload_n 1, 1) := by decide +kernel
theorem dX0_addDay_8 : decode cX0_addDay 8 = .ok (.iconst (-1), 1) := by decide +kernel
theorem dX0_addDay_9 : decode cX0_addDay 9 = .ok (.iconst (-1), 1) := by decide +kernel
theorem dX0_addDay_10 : decode cX0_addDay 10 = .ok (.iconst 0, 1) := by decide +kernel
theorem dX0_addDay_11 : decode cX0_addDay 11 = .ok (.iconst 0, 1) := by decide +kernel
theorem dX0_addDay_12 : decode cX0_addDay 12 = .ok (.invokevirtual 46, 3) := by decide +kernel
theorem dX0_addDay_15 : decode cX0_addDay 15 = .ok (.return_, 1) := by decide +kernel
theorem dX0_add_0 : decode cX0_add 0 = .ok (.aload_n 0, 1) := by decide +kernel
theorem dX0_add_1 : decode cX0_add 1 = .ok (.getfield 33, 3) := by decide +kernel
theorem dX0_add_4 : decode cX0_add 4 = .ok (.bipush 60, 2) := by decide +kernel
theorem dX0_add_6 : decode cX0_add 6 = .ok (.if_icmp .lt 4, 3) := by decide +kernel
theorem dX0_add_9 : decode cX0_add 9 = .ok (.return_, 1) := by decide +kernel
theorem dX0_add_10 : decode cX0_add 10 = .ok (.aload_n 0, 1) := by decide +kernel
theorem dX0_add_11 : decode cX0_add 11 = .ok (.getfield 9, 3) := by decide +kernel
theorem dX0_add_14 : decode cX0_add 14 = .ok (.aload_n 0, 1) := by decide +kernel
theorem dX0_add_15 : decode cX0_add 15 = .ok (.getfield 33, 3) := by decide +kernel
theorem dX0_add_18 : decode cX0_add 18 = .ok (.iload_n 1, 1) := by decide +kernel
theorem dX0_add_19 : decode cX0_add 19 = .ok (.iastore, 1) := by decide +kernel
theorem dX0_add_20 : decode cX0_add 20 = .ok (.aload_n 0, 1) := by decide +kernel
theorem dX0_add_21 : decode cX0_add 21 = .ok (.getfield 15, 3) := by decide +kernel
theorem dX0_add_24 : decode cX0_add 24 = .ok (.aload_n 0, 1) := by decide +kernel
theorem dX0_add_25 : decode cX0_add 25 = .ok (.getfield 33, 3) := by decide +kernel
theorem dX0_add_28 : decode cX0_add 28 = .ok (.iload_n 2, 1) := by decide +kernel
theorem dX0_add_29 : decode cX0_add 29 = .ok (.iastore, 1) := by decide +kernel
theorem dX0_add_30 : decode cX0_add 30 = .ok (.aload_n 0, 1) := by decide +kernel
theorem dX0_add_31 : decode cX0_add 31 = .ok (.getfield 18, 3) := by decide +kernel
theorem dX0_add_34 : decode cX0_add 34 = .ok (.aload_n 0, 1) := by decide +kernel
theorem dX0_add_35 : decode cX0_add 35 = .ok (.getfield 33, 3) := by decide +kernel
theorem dX0_add_38 : decode cX0_add 38 = .ok (.iload_n 3, 1) := by decide +kernel
theorem dX0_add_39 : decode cX0_add 39 = .ok (.iastore, 1) := by decide +kernel
theorem dX0_add_40 : decode cX0_add 40 = .ok (.aload_n 0, 1) := by decide +kernel
theorem dX0_add_41 : decode cX0_add 41 = .ok (.getfield 21, 3) := by decide +kernel
theorem dX0_add_44 : decode cX0_add 44 = .ok (.aload_n 0, 1) := by decide +kernel
theorem dX0_add_45 : decode cX0_add 45 = .ok (.getfield 33, 3) := by decide +kernel
theorem dX0_add_48 : decode cX0_add 48 = .ok (.iload 4, 2) := by decide +kernel
theorem dX0_add_50 : decode cX0_add 50 = .ok (.iastore, 1) := by decide +kernel
theorem dX0_add_51 : decode cX0_add 51 = .ok (.aload_n 0, 1) := by decide +kernel
theorem dX0_add_52 : decode cX0_add 52 = .ok (.getfield 24, 3) := by decide +kernel
theorem dX0_add_55 : decode cX0_add 55 = .ok (.aload_n 0, 1) := by decide +kernel
theorem dX0_add_56 : decode cX0_add 56 = .ok (.getfield 33, 3) := by decide +kernel
theorem dX0_add_59 : decode cX0_add 59 = .ok (.iload 5, 2) := by decide +kernel
theorem dX0_add_61 : decode cX0_add 61 = .ok (.iastore, 1) := by decide +kernel
theorem dX0_add_62 : decode cX0_add 62 = .ok (.aload_n 0, 1) := by decide +kernel
theorem dX0_add_63 : decode cX0_add 63 = .ok (.getfield 27, 3) := by decide +kernel
theorem dX0_add_66 : decode cX0_add 66 = .ok (.aload_n 0, 1) := by decide +kernel
theorem dX0_add_67 : decode cX0_add 67 = .ok (.getfield 33, 3) := by decide +kernel
theorem dX0_add_70 : decode cX0_add 70 = .ok (.iload 6, 2) := by decide +kernel
theorem dX0_add_72 : decode cX0_add 72 = .ok (.iastore, 1) := by decide +kernel
theorem dX0_add_73 : decode cX0_add 73 = .ok (.aload_n 0, 1) := by decide +kernel
theorem dX0_add_74 : decode cX0_add 74 = .ok (.getfield 30, 3) := by decide +kernel
theorem dX0_add_77 : decode cX0_add 77 = .ok (.aload_n 0, 1) := by decide +kernel
theorem dX0_add_78 : decode cX0_add 78 = .ok (.getfield 33, 3) := by decide +kernel
theorem dX0_add_81 : decode cX0_add 81 = .ok (.aload_n 0, 1) := by decide +kernel
theorem dX0_add_82 : decode cX0_add 82 = .ok (.getfield 37, 3) := by decide +kernel
theorem dX0_add_85 : decode cX0_add 85 = .ok (.iastore, 1) := by decide +kernel
theorem dX0_add_86 : decode cX0_add 86 = .ok (.aload_n 0, 1) := by decide +kernel
theorem dX0_add_87 : decode cX0_add 87 = .ok (.dup, 1) := by decide +kernel
theorem dX0_add_88 : decode cX0_add 88 = .ok (.getfield 33, 3) := by decide +kernel
theorem dX0_add_91 : decode cX0_add 91 = .ok (.iconst 1, 1) := by decide +kernel
theorem dX0_add_92 : decode cX0_add 92 = .ok (.iadd, 1) := by decide +kernel
theorem dX0_add_93 : decode cX0_add 93 = .ok (.putfield 33, 3) := by decide +kernel
theorem dX0_add_96 : decode cX0_add 96 = .ok (.return_, 1) := by decide +kernel
theorem dX0_draw_0 : decode cX0_draw 0 = .ok (.aload_n 0, 1) := by decide +kernel
theorem dX0_draw_1 : decode cX0_draw 1 = .ok (.invokevirtual 50, 3) := by decide +kernel
theorem dX0_draw_4 : decode cX0_draw 4 = .ok (.iconst 0, 1) := by decide +kernel
theorem dX0_draw_5 : decode cX0_draw 5 = .ok (.istore 4, 2) := by decide +kernel
theorem dX0_draw_7 : decode cX0_draw 7 = .ok (.iload 4, 2) := by decide +kernel
theorem dX0_draw_9 : decode cX0_draw 9 = .ok (.iload_n 1, 1) := by decide +kernel
theorem dX0_draw_10 : decode cX0_draw 10 = .ok (.if_icmp .ge 191, 3) := by decide +kernel
theorem dX0_draw_13 : decode cX0_draw 13 = .ok (.aload_n 2, 1) := by decide +kernel
theorem dX0_draw_14 : decode cX0_draw 14 = .ok (.bipush 8, 2) := by decide +kernel
theorem dX0_draw_16 : decode cX0_draw 16 = .ok (.invokevirtual 53, 3) := by decide +kernel
theorem dX0_draw_19 : decode cX0_draw 19 = .ok (.istore 5, 2) := by decide +kernel
theorem dX0_draw_21 : decode cX0_draw 21 = .ok (.aload_n 2, 1) := by decide +kernel
theorem dX0_draw_22 : decode cX0_draw 22 = .ok (.aload_n 3, 1) := by decide +kernel
theorem dX0_draw_23 : decode cX0_draw 23 = .ok (.getfield 59, 3) := by decide +kernel
theorem dX0_draw_26 : decode cX0_draw 26 = .ok (.invokevirtual 53, 3) := by decide +kernel
theorem dX0_draw_29 : decode cX0_draw 29 = .ok (.istore 6, 2) := by decide +kernel
theorem dX0_draw_31 : decode cX0_draw 31 = .ok (.aload_n 2, 1) := by decide +kernel
theorem dX0_draw_32 : decode cX0_draw 32 = .ok (.aload_n 3, 1) := by decide +kernel
theorem dX0_draw_33 : decode cX0_draw 33 = .ok (.getfield 59, 3) := by decide +kernel
theorem dX0_draw_36 : decode cX0_draw 36 = .ok (.invokevirtual 53, 3) := by decide +kernel
theorem dX0_draw_39 : decode cX0_draw 39 = .ok (.istore 7, 2) := by decide +kernel
theorem dX0_draw_41 : decode cX0_draw 41 = .ok (.aload_n 2, 1) := by decide +kernel
theorem dX0_draw_42 : decode cX0_draw 42 = .ok (.aload_n 3, 1) := by decide +kernel
theorem dX0_draw_43 : decode cX0_draw 43 = .ok (.getfield 64, 3) := by decide +kernel
theorem dX0_draw_46 : decode cX0_draw 46 = .ok (.invokevirtual 53, 3) := by decide +kernel
theorem dX0_draw_49 : decode cX0_draw 49 = .ok (.istore 8, 2) := by decide +kernel
theorem dX0_draw_51 : decode cX0_draw 51 = .ok (.iload 7, 2) := by decide +kernel
theorem dX0_draw_53 : decode cX0_draw 53 = .ok (.iload 6, 2) := by decide +kernel
theorem dX0_draw_55 : decode cX0_draw 55 = .ok (.if_icmp .ne 24, 3) := by decide +kernel
theorem dX0_draw_58 : decode cX0_draw 58 = .ok (.iload 6, 2) := by decide +kernel
theorem dX0_draw_60 : decode cX0_draw 60 = .ok (.iconst 1, 1) := by decide +kernel
theorem dX0_draw_61 : decode cX0_draw 61 = .ok (.iadd, 1) := by decide +kernel
theorem dX0_draw_62 : decode cX0_draw 62 = .ok (.aload_n 3, 1) := by decide +kernel
theorem dX0_draw_63 : decode cX0_draw 63 = .ok (.getfield 59, 3) := by decide +kernel
theorem dX0_draw_66 : decode cX0_draw 66 = .ok (.if_icmp .ge 10, 3) := by decide +kernel
theorem dX0_draw_69 : decode cX0_draw 69 = .ok (.iload 6, 2) := by decide +kernel
theorem dX0_draw_71 : decode cX0_draw 71 = .ok (.iconst 1, 1) := by decide +kernel
theorem dX0_draw_72 : decode cX0_draw 72 = .ok (.iadd, 1) := by decide +kernel
theorem dX0_draw_73 : decode cX0_draw 73 = .ok (.goto 4, 3) := by decide +kernel
theorem dX0_draw_76 : decode cX0_draw 76 = .ok (.iconst 0, 1) := by decide +kernel
theorem dX0_draw_77 : decode cX0_draw 77 = .ok (.istore 7, 2) := by decide +kernel
theorem dX0_draw_79 : decode cX0_draw 79 = .ok (.iload 5, 2) := by decide +kernel
theorem dX0_draw_81 : decode cX0_draw 81 = .ok (.tableswitch 101 0 4 #[35, 48, 48, 64, 80], 35) := by decide +kernel
theorem dX0_draw_116 : decode cX0_draw 116 = .ok (.aload_n 0, 1) := by decide +kernel
theorem dX0_draw_117 : decode cX0_draw 117 = .ok (.aload_n 0, 1) := by decide +kernel
theorem dX0_draw_118 : decode cX0_draw 118 = .ok (.getfield 37, 3) := by decide +kernel
theorem dX0_draw_121 : decode cX0_draw 121 = .ok (.iconst 1, 1) := by decide +kernel
theorem dX0_draw_122 : decode cX0_draw 122 = .ok (.iadd, 1) := by decide +kernel
theorem dX0_draw_123 : decode cX0_draw 123 = .ok (.invokevirtual 67, 3) := by decide +kernel
theorem dX0_draw_126 : decode cX0_draw 126 = .ok (.goto 69, 3) := by decide +kernel
theorem dX0_draw_129 : decode cX0_draw 129 = .ok (.aload_n 0, 1) := by decide +kernel
theorem dX0_draw_130 : decode cX0_draw 130 = .ok (.iconst 1, 1) := by decide +kernel
theorem dX0_draw_131 : decode cX0_draw 131 = .ok (.iload 6, 2) := by decide +kernel
theorem dX0_draw_133 : decode cX0_draw 133 = .ok (.iload 7, 2) := by decide +kernel
theorem dX0_draw_135 : decode cX0_draw 135 = .ok (.iload 8, 2) := by decide +kernel
theorem dX0_draw_137 : decode cX0_draw 137 = .ok (.iconst 0, 1) := by decide +kernel
theorem dX0_draw_138 : decode cX0_draw 138 = .ok (.iconst 0, 1) := by decide +kernel
theorem dX0_draw_139 : decode cX0_draw 139 = .ok (.invokevirtual 46, 3) := by decide +kernel
theorem dX0_draw_142 : decode cX0_draw 142 = .ok (.goto 53, 3) := by decide +kernel
theorem dX0_draw_145 : decode cX0_draw 145 = .ok (.aload_n 0, 1) := by decide +kernel
theorem dX0_draw_146 : decode cX0_draw 146 = .ok (.iconst 2, 1) := by decide +kernel
theorem dX0_draw_147 : decode cX0_draw 147 = .ok (.iload 6, 2) := by decide +kernel
theorem dX0_draw_149 : decode cX0_draw 149 = .ok (.iload 7, 2) := by decide +kernel
theorem dX0_draw_151 : decode cX0_draw 151 = .ok (.iload 8, 2) := by decide +kernel
theorem dX0_draw_153 : decode cX0_draw 153 = .ok (.iconst 0, 1) := by decide +kernel
theorem dX0_draw_154 : decode cX0_draw 154 = .ok (.iconst 0, 1) := by decide +kernel
theorem dX0_draw_155 : decode cX0_draw 155 = .ok (.invokevirtual 46, 3) := by decide +kernel
theorem dX0_draw_158 : decode cX0_draw 158 = .ok (.goto 37, 3) := by decide +kernel
theorem dX0_draw_161 : decode cX0_draw 161 = .ok (.aload_n 0, 1) := by decide +kernel
theorem dX0_draw_162 : decode cX0_draw 162 = .ok (.iconst 4, 1) := by decide +kernel
theorem dX0_draw_163 : decode cX0_draw 163 = .ok (.iload 6, 2) := by decide +kernel
theorem dX0_draw_165 : decode cX0_draw 165 = .ok (.iload 7, 2) := by decide +kernel
theorem dX0_draw_167 : decode cX0_draw 167 = .ok (.iload 8, 2) := by decide +kernel
theorem dX0_draw_169 : decode cX0_draw 169 = .ok (.aload_n 2, 1) := by decide +kernel
theorem dX0_draw_170 : decode cX0_draw 170 = .ok (.bipush 20, 2) := by decide +kernel
theorem dX0_draw_172 : decode cX0_draw 172 = .ok (.invokevirtual 53, 3) := by decide +kernel
theorem dX0_draw_175 : decode cX0_draw 175 = .ok (.iconst 0, 1) := by decide +kernel
theorem dX0_draw_176 : decode cX0_draw 176 = .ok (.invokevirtual 46, 3) := by decide +kernel
theorem dX0_draw_179 : decode cX0_draw 179 = .ok (.goto 16, 3) := by decide +kernel
theorem dX0_draw_182 : decode cX0_draw 182 = .ok (.aload_n 0, 1) := by decide +kernel
theorem dX0_draw_183 : decode cX0_draw 183 = .ok (.iconst 3, 1) := by decide +kernel
theorem dX0_draw_184 : decode cX0_draw 184 = .ok (.iload 6, 2) := by decide +kernel
theorem dX0_draw_186 : decode cX0_draw 186 = .ok (.iload 7, 2) := by decide +kernel
theorem dX0_draw_188 : decode cX0_draw 188 = .ok (.iload 8, 2) := by decide +kernel
theorem dX0_draw_190 : decode cX0_draw 190 = .ok (.iconst 0, 1) := by decide +kernel
theorem dX0_draw_191 : decode cX0_draw 191 = .ok (.iconst 0, 1) := by decide +kernel
theorem dX0_draw_192 : decode cX0_draw 192 = .ok (.invokevirtual 46, 3) := by decide +kernel
theorem dX0_draw_195 : decode cX0_draw 195 = .ok (.iinc 4 1, 3) := by decide +kernel
theorem dX0_draw_198 : decode cX0_draw 198 = .ok (.goto (-191), 3) := by decide +kernel
theorem dX0_draw_201 : decode cX0_draw 201 = .ok (.return_, 1) := by decide +kernel
theorem dX0_take_0 : decode cX0_take 0 = .ok (.aload_n 0, 1) := by decide +kernel
theorem dX0_take_1 : decode cX0_take 1 = .ok (.invokevirtual 50, 3) := by decide +kernel
theorem dX0_take_4 : decode cX0_take 4 = .ok (.iconst 0, 1) := by decide +kernel
theorem dX0_take_5 : decode cX0_take 5 = .ok (.istore_n 3, 1) := by decide +kernel
theorem dX0_take_6 : decode cX0_take 6 = .ok (.iload_n 3, 1) := by decide +kernel
theorem dX0_take_7 : decode cX0_take 7 = .ok (.bipush 60, 2) := by decide +kernel
theorem dX0_take_9 : decode cX0_take 9 = .ok (.if_icmp .gt 33, 3) := by decide +kernel
theorem dX0_take_12 : decode cX0_take 12 = .ok (.aload_n 1, 1) := by decide +kernel
theorem dX0_take_13 : decode cX0_take 13 = .ok (.invokevirtual 71, 3) := by decide +kernel
theorem dX0_take_16 : decode cX0_take 16 = .ok (.aload_n 1, 1) := by decide +kernel
theorem dX0_take_17 : decode cX0_take 17 = .ok (.getfield 76, 3) := by decide +kernel
theorem dX0_take_20 : decode cX0_take 20 = .ok (.ifCond .ne 5, 3) := by decide +kernel
theorem dX0_take_23 : decode cX0_take 23 = .ok (.iconst 1, 1) := by decide +kernel
theorem dX0_take_24 : decode cX0_take 24 = .ok (.ireturn, 1) := by decide +kernel
theorem dX0_take_25 : decode cX0_take 25 = .ok (.aload_n 0, 1) := by decide +kernel
theorem dX0_take_26 : decode cX0_take 26 = .ok (.aload_n 1, 1) := by decide +kernel
theorem dX0_take_27 : decode cX0_take 27 = .ok (.aload_n 2, 1) := by decide +kernel
theorem dX0_take_28 : decode cX0_take 28 = .ok (.invokevirtual 78, 3) := by decide +kernel
theorem dX0_take_31 : decode cX0_take 31 = .ok (.ifCond .ne 5, 3) := by decide +kernel
theorem dX0_take_34 : decode cX0_take 34 = .ok (.iconst 0, 1) := by decide +kernel
theorem dX0_take_35 : decode cX0_take 35 = .ok (.ireturn, 1) := by decide +kernel
theorem dX0_take_36 : decode cX0_take 36 = .ok (.iinc 3 1, 3) := by decide +kernel
theorem dX0_take_39 : decode cX0_take 39 = .ok (.goto (-33), 3) := by decide +kernel
theorem dX0_take_42 : decode cX0_take 42 = .ok (.iconst 0, 1) := by decide +kernel
theorem dX0_take_43 : decode cX0_take 43 = .ok (.ireturn, 1) := by decide +kernel
theorem dX0_takeLine_0 : decode cX0_takeLine 0 = .ok (.aload_n 1, 1) := by decide +kernel
theorem dX0_takeLine_1 : decode cX0_takeLine 1 = .ok (.invokevirtual 82, 3) := by decide +kernel
theorem dX0_takeLine_4 : decode cX0_takeLine 4 = .ok (.bipush 10, 2) := by decide +kernel
theorem dX0_takeLine_6 : decode cX0_takeLine 6 = .ok (.if_icmp .ne 9, 3) := by decide +kernel
theorem dX0_takeLine_9 : decode cX0_takeLine 9 = .ok (.aload_n 0, 1) := by decide +kernel
theorem dX0_takeLine_10 : decode cX0_takeLine 10 = .ok (.aload_n 1, 1) := by decide +kernel
theorem dX0_takeLine_11 : decode cX0_takeLine 11 = .ok (.invokevirtual 86, 3) := by decide +kernel
theorem dX0_takeLine_14 : decode cX0_takeLine 14 = .ok (.ireturn, 1) := by decide +kernel
theorem dX0_takeLine_15 : decode cX0_takeLine 15 = .ok (.aload_n 1, 1) := by decide +kernel
theorem dX0_takeLine_16 : decode cX0_takeLine 16 = .ok (.invokevirtual 90, 3) := by decide +kernel
theorem dX0_takeLine_19 : decode cX0_takeLine 19 = .ok (.ifCond .ne 9, 3) := by decide +kernel
theorem dX0_takeLine_22 : decode cX0_takeLine 22 = .ok (.aload_n 1, 1) := by decide +kernel
theorem dX0_takeLine_23 : decode cX0_takeLine 23 = .ok (.iconst 1, 1) := by decide +kernel
theorem dX0_takeLine_24 : decode cX0_takeLine 24 = .ok (.invokevirtual 94, 3) := by decide +kernel
theorem dX0_takeLine_27 : decode cX0_takeLine 27 = .ok (.ireturn, 1) := by decide +kernel
theorem dX0_takeLine_28 : decode cX0_takeLine 28 = .ok (.aload_n 1, 1) := by decide +kernel
theorem dX0_takeLine_29 : decode cX0_takeLine 29 = .ok (.getfield 98, 3) := by decide +kernel
theorem dX0_takeLine_32 : decode cX0_takeLine 32 = .ok (.aload_n 2, 1) := by decide +kernel
theorem dX0_takeLine_33 : decode cX0_takeLine 33 = .ok (.getfield 101, 3) := by decide +kernel
theorem dX0_takeLine_36 : decode cX0_takeLine 36 = .ok (.aload_n 2, 1) := by decide +kernel
theorem dX0_takeLine_37 : decode cX0_takeLine 37 = .ok (.getfield 59, 3) := by decide +kernel
theorem dX0_takeLine_40 : decode cX0_takeLine 40 = .ok (.invokestatic 104, 3) := by decide +kernel
theorem dX0_takeLine_43 : decode cX0_takeLine 43 = .ok (.istore_n 3, 1) := by decide +kernel
theorem dX0_takeLine_44 : decode cX0_takeLine 44 = .ok (.iload_n 3, 1) := by decide +kernel
theorem dX0_takeLine_45 : decode cX0_takeLine 45 = .ok (.iconst (-1), 1) := by decide +kernel
theorem dX0_takeLine_46 : decode cX0_takeLine 46 = .ok (.if_icmp .ne 9, 3) := by decide +kernel
theorem dX0_takeLine_49 : decode cX0_takeLine 49 = .ok (.aload_n 1, 1) := by decide +kernel
theorem dX0_takeLine_50 : decode cX0_takeLine 50 = .ok (.iconst 3, 1) := by decide +kernel
theorem dX0_takeLine_51 : decode cX0_takeLine 51 = .ok (.invokevirtual 94, 3) := by decide +kernel
theorem dX0_takeLine_54 : decode cX0_takeLine 54 = .ok (.ireturn, 1) := by decide +kernel
theorem dX0_takeLine_55 : decode cX0_takeLine 55 = .ok (.aload_n 0, 1) := by decide +kernel
theorem dX0_takeLine_56 : decode cX0_takeLine 56 = .ok (.getfield 33, 3) := by decide +kernel
theorem dX0_takeLine_59 : decode cX0_takeLine 59 = .ok (.bipush 60, 2) := by decide +kernel
theorem dX0_takeLine_61 : decode cX0_takeLine 61 = .ok (.if_icmp .lt 9, 3) := by decide +kernel
theorem dX0_takeLine_64 : decode cX0_takeLine 64 = .ok (.aload_n 1, 1) := by decide +kernel
theorem dX0_takeLine_65 : decode cX0_takeLine 65 = .ok (.iconst 4, 1) := by decide +kernel
theorem dX0_takeLine_66 : decode cX0_takeLine 66 = .ok (.invokevirtual 94, 3) := by decide +kernel
theorem dX0_takeLine_69 : decode cX0_takeLine 69 = .ok (.ireturn, 1) := by decide +kernel
theorem dX0_takeLine_70 : decode cX0_takeLine 70 = .ok (.aload_n 0, 1) := by decide +kernel
theorem dX0_takeLine_71 : decode cX0_takeLine 71 = .ok (.aload_n 1, 1) := by decide +kernel
theorem dX0_takeLine_72 : decode cX0_takeLine 72 = .ok (.aload_n 2, 1) := by decide +kernel
theorem dX0_takeLine_73 : decode cX0_takeLine 73 = .ok (.iload_n 3, 1) := by decide +kernel
theorem dX0_takeLine_74 : decode cX0_takeLine 74 = .ok (.invokevirtual 108, 3) := by decide +kernel
theorem dX0_takeLine_77 : decode cX0_takeLine 77 = .ok (.ireturn, 1) := by decide +kernel
theorem dX0_takeDay_0 : decode cX0_takeDay 0 = .ok (.aload_n 0, 1) := by decide +kernel
theorem dX0_takeDay_1 : decode cX0_takeDay 1 = .ok (.getfield 33, 3) := by decide +kernel
theorem dX0_takeDay_4 : decode cX0_takeDay 4 = .ok (.bipush 60, 2) := by decide +kernel
theorem dX0_takeDay_6 : decode cX0_takeDay 6 = .ok (.if_icmp .lt 9, 3) := by decide +kernel
theorem dX0_takeDay_9 : decode cX0_takeDay 9 = .ok (.aload_n 1, 1) := by decide +kernel
theorem dX0_takeDay_10 : decode cX0_takeDay 10 = .ok (.iconst 4, 1) := by decide +kernel
theorem dX0_takeDay_11 : decode cX0_takeDay 11 = .ok (.invokevirtual 94, 3) := by decide +kernel
theorem dX0_takeDay_14 : decode cX0_takeDay 14 = .ok (.ireturn, 1) := by decide +kernel
theorem dX0_takeDay_15 : decode cX0_takeDay 15 = .ok (.aload_n 1, 1) := by decide +kernel
theorem dX0_takeDay_16 : decode cX0_takeDay 16 = .ok (.aload_n 0, 1) := by decide +kernel
theorem dX0_takeDay_17 : decode cX0_takeDay 17 = .ok (.getfield 33, 3) := by decide +kernel
theorem dX0_takeDay_20 : decode cX0_takeDay 20 = .ok (.ifCond .ne 7, 3) := by decide +kernel
theorem dX0_takeDay_23 : decode cX0_takeDay 23 = .ok (.iconst 0, 1) := by decide +kernel
theorem dX0_takeDay_24 : decode cX0_takeDay 24 = .ok (.goto 9, 3) := by decide +kernel
theorem dX0_takeDay_27 : decode cX0_takeDay 27 = .ok (.aload_n 0, 1) := by decide +kernel
theorem dX0_takeDay_28 : decode cX0_takeDay 28 = .ok (.getfield 37, 3) := by decide +kernel
theorem dX0_takeDay_31 : decode cX0_takeDay 31 = .ok (.iconst 1, 1) := by decide +kernel
theorem dX0_takeDay_32 : decode cX0_takeDay 32 = .ok (.iadd, 1) := by decide +kernel
theorem dX0_takeDay_33 : decode cX0_takeDay 33 = .ok (.sipush 999, 3) := by decide +kernel
theorem dX0_takeDay_36 : decode cX0_takeDay 36 = .ok (.invokevirtual 112, 3) := by decide +kernel
theorem dX0_takeDay_39 : decode cX0_takeDay 39 = .ok (.istore_n 2, 1) := by decide +kernel
theorem dX0_takeDay_40 : decode cX0_takeDay 40 = .ok (.iload_n 2, 1) := by decide +kernel
theorem dX0_takeDay_41 : decode cX0_takeDay 41 = .ok (.iconst (-1), 1) := by decide +kernel
theorem dX0_takeDay_42 : decode cX0_takeDay 42 = .ok (.if_icmp .eq 12, 3) := by decide +kernel
theorem dX0_takeDay_45 : decode cX0_takeDay 45 = .ok (.aload_n 1, 1) := by decide +kernel
theorem dX0_takeDay_46 : decode cX0_takeDay 46 = .ok (.bipush 59, 2) := by decide +kernel
theorem dX0_takeDay_48 : decode cX0_takeDay 48 = .ok (.invokevirtual 116, 3) := by decide +kernel
theorem dX0_takeDay_51 : decode cX0_takeDay 51 = .ok (.ifCond .ne 5, 3) := by decide +kernel
theorem dX0_takeDay_54 : decode cX0_takeDay 54 = .ok (.iconst 0, 1) := by decide +kernel
theorem dX0_takeDay_55 : decode cX0_takeDay 55 = .ok (.ireturn, 1) := by decide +kernel
theorem dX0_takeDay_56 : decode cX0_takeDay 56 = .ok (.aload_n 0, 1) := by decide +kernel
theorem dX0_takeDay_57 : decode cX0_takeDay 57 = .ok (.iload_n 2, 1) := by decide +kernel
theorem dX0_takeDay_58 : decode cX0_takeDay 58 = .ok (.invokevirtual 67, 3) := by decide +kernel
theorem dX0_takeDay_61 : decode cX0_takeDay 61 = .ok (.iconst 1, 1) := by decide +kernel
theorem dX0_takeDay_62 : decode cX0_takeDay 62 = .ok (.ireturn, 1) := by decide +kernel
theorem dX0_takeDeed_0 : decode cX0_takeDeed 0 = .ok (.aload_n 1, 1) := by decide +kernel
theorem dX0_takeDeed_1 : decode cX0_takeDeed 1 = .ok (.invokevirtual 71, 3) := by decide +kernel
theorem dX0_takeDeed_4 : decode cX0_takeDeed 4 = .ok (.aload_n 1, 1) := by decide +kernel
theorem dX0_takeDeed_5 : decode cX0_takeDeed 5 = .ok (.invokevirtual 82, 3) := by decide +kernel
theorem dX0_takeDeed_8 : decode cX0_takeDeed 8 = .ok (.istore 4, 2) := by decide +kernel
theorem dX0_takeDeed_10 : decode cX0_takeDeed 10 = .ok (.iload 4, 2) := by decide +kernel
theorem dX0_takeDeed_12 : decode cX0_takeDeed 12 = .ok (.bipush 11, 2) := by decide +kernel
theorem dX0_takeDeed_14 : decode cX0_takeDeed 14 = .ok (.if_icmp .lt 10, 3) := by decide +kernel
theorem dX0_takeDeed_17 : decode cX0_takeDeed 17 = .ok (.iload 4, 2) := by decide +kernel
theorem dX0_takeDeed_19 : decode cX0_takeDeed 19 = .ok (.bipush 14, 2) := by decide +kernel
theorem dX0_takeDeed_21 : decode cX0_takeDeed 21 = .ok (.if_icmp .le 9, 3) := by decide +kernel
theorem dX0_takeDeed_24 : decode cX0_takeDeed 24 = .ok (.aload_n 1, 1) := by decide +kernel
theorem dX0_takeDeed_25 : decode cX0_takeDeed 25 = .ok (.iconst 1, 1) := by decide +kernel
theorem dX0_takeDeed_26 : decode cX0_takeDeed 26 = .ok (.invokevirtual 94, 3) := by decide +kernel
theorem dX0_takeDeed_29 : decode cX0_takeDeed 29 = .ok (.ireturn, 1) := by decide +kernel
theorem dX0_takeDeed_30 : decode cX0_takeDeed 30 = .ok (.aload_n 1, 1) := by decide +kernel
theorem dX0_takeDeed_31 : decode cX0_takeDeed 31 = .ok (.aload_n 2, 1) := by decide +kernel
theorem dX0_takeDeed_32 : decode cX0_takeDeed 32 = .ok (.getfield 101, 3) := by decide +kernel
theorem dX0_takeDeed_35 : decode cX0_takeDeed 35 = .ok (.aload_n 2, 1) := by decide +kernel
theorem dX0_takeDeed_36 : decode cX0_takeDeed 36 = .ok (.getfield 59, 3) := by decide +kernel
theorem dX0_takeDeed_39 : decode cX0_takeDeed 39 = .ok (.invokevirtual 120, 3) := by decide +kernel
theorem dX0_takeDeed_42 : decode cX0_takeDeed 42 = .ok (.istore 5, 2) := by decide +kernel
theorem dX0_takeDeed_44 : decode cX0_takeDeed 44 = .ok (.iload 5, 2) := by decide +kernel
theorem dX0_takeDeed_46 : decode cX0_takeDeed 46 = .ok (.iconst (-1), 1) := by decide +kernel
theorem dX0_takeDeed_47 : decode cX0_takeDeed 47 = .ok (.if_icmp .ne 5, 3) := by decide +kernel
theorem dX0_takeDeed_50 : decode cX0_takeDeed 50 = .ok (.iconst 0, 1) := by decide +kernel
theorem dX0_takeDeed_51 : decode cX0_takeDeed 51 = .ok (.ireturn, 1) := by decide +kernel
theorem dX0_takeDeed_52 : decode cX0_takeDeed 52 = .ok (.iload 5, 2) := by decide +kernel
theorem dX0_takeDeed_54 : decode cX0_takeDeed 54 = .ok (.iload_n 3, 1) := by decide +kernel
theorem dX0_takeDeed_55 : decode cX0_takeDeed 55 = .ok (.if_icmp .ne 9, 3) := by decide +kernel
theorem dX0_takeDeed_58 : decode cX0_takeDeed 58 = .ok (.aload_n 1, 1) := by decide +kernel
theorem dX0_takeDeed_59 : decode cX0_takeDeed 59 = .ok (.iconst 3, 1) := by decide +kernel
theorem dX0_takeDeed_60 : decode cX0_takeDeed 60 = .ok (.invokevirtual 94, 3) := by decide +kernel
theorem dX0_takeDeed_63 : decode cX0_takeDeed 63 = .ok (.ireturn, 1) := by decide +kernel
theorem dX0_takeDeed_64 : decode cX0_takeDeed 64 = .ok (.aload_n 1, 1) := by decide +kernel
theorem dX0_takeDeed_65 : decode cX0_takeDeed 65 = .ok (.aload_n 2, 1) := by decide +kernel
theorem dX0_takeDeed_66 : decode cX0_takeDeed 66 = .ok (.getfield 124, 3) := by decide +kernel
theorem dX0_takeDeed_69 : decode cX0_takeDeed 69 = .ok (.aload_n 2, 1) := by decide +kernel
theorem dX0_takeDeed_70 : decode cX0_takeDeed 70 = .ok (.getfield 64, 3) := by decide +kernel
theorem dX0_takeDeed_73 : decode cX0_takeDeed 73 = .ok (.invokevirtual 120, 3) := by decide +kernel
theorem dX0_takeDeed_76 : decode cX0_takeDeed 76 = .ok (.istore 6, 2) := by decide +kernel
theorem dX0_takeDeed_78 : decode cX0_takeDeed 78 = .ok (.iload 6, 2) := by decide +kernel
theorem dX0_takeDeed_80 : decode cX0_takeDeed 80 = .ok (.iconst (-1), 1) := by decide +kernel
theorem dX0_takeDeed_81 : decode cX0_takeDeed 81 = .ok (.if_icmp .ne 5, 3) := by decide +kernel
theorem dX0_takeDeed_84 : decode cX0_takeDeed 84 = .ok (.iconst 0, 1) := by decide +kernel
theorem dX0_takeDeed_85 : decode cX0_takeDeed 85 = .ok (.ireturn, 1) := by decide +kernel
theorem dX0_takeDeed_86 : decode cX0_takeDeed 86 = .ok (.iload 4, 2) := by decide +kernel
theorem dX0_takeDeed_88 : decode cX0_takeDeed 88 = .ok (.bipush 11, 2) := by decide +kernel
theorem dX0_takeDeed_90 : decode cX0_takeDeed 90 = .ok (.if_icmp .ne 15, 3) := by decide +kernel
theorem dX0_takeDeed_93 : decode cX0_takeDeed 93 = .ok (.aload_n 0, 1) := by decide +kernel
theorem dX0_takeDeed_94 : decode cX0_takeDeed 94 = .ok (.aload_n 1, 1) := by decide +kernel
theorem dX0_takeDeed_95 : decode cX0_takeDeed 95 = .ok (.aload_n 2, 1) := by decide +kernel
theorem dX0_takeDeed_96 : decode cX0_takeDeed 96 = .ok (.iload_n 3, 1) := by decide +kernel
theorem dX0_takeDeed_97 : decode cX0_takeDeed 97 = .ok (.iload 5, 2) := by decide +kernel
theorem dX0_takeDeed_99 : decode cX0_takeDeed 99 = .ok (.iload 6, 2) := by decide +kernel
theorem dX0_takeDeed_101 : decode cX0_takeDeed 101 = .ok (.invokevirtual 127, 3) := by decide +kernel
theorem dX0_takeDeed_104 : decode cX0_takeDeed 104 = .ok (.ireturn, 1) := by decide +kernel
theorem dX0_takeDeed_105 : decode cX0_takeDeed 105 = .ok (.iload 4, 2) := by decide +kernel
theorem dX0_takeDeed_107 : decode cX0_takeDeed 107 = .ok (.bipush 14, 2) := by decide +kernel
theorem dX0_takeDeed_109 : decode cX0_takeDeed 109 = .ok (.if_icmp .ne 13, 3) := by decide +kernel
theorem dX0_takeDeed_112 : decode cX0_takeDeed 112 = .ok (.aload_n 1, 1) := by decide +kernel
theorem dX0_takeDeed_113 : decode cX0_takeDeed 113 = .ok (.iconst 0, 1) := by decide +kernel
theorem dX0_takeDeed_114 : decode cX0_takeDeed 114 = .ok (.bipush 99, 2) := by decide +kernel
theorem dX0_takeDeed_116 : decode cX0_takeDeed 116 = .ok (.invokevirtual 112, 3) := by decide +kernel
theorem dX0_takeDeed_119 : decode cX0_takeDeed 119 = .ok (.goto 4, 3) := by decide +kernel
theorem dX0_takeDeed_122 : decode cX0_takeDeed 122 = .ok (.iconst 0, 1) := by decide +kernel
theorem dX0_takeDeed_123 : decode cX0_takeDeed 123 = .ok (.istore 7, 2) := by decide +kernel
theorem dX0_takeDeed_125 : decode cX0_takeDeed 125 = .ok (.iload 7, 2) := by decide +kernel
theorem dX0_takeDeed_127 : decode cX0_takeDeed 127 = .ok (.iconst (-1), 1) := by decide +kernel
theorem dX0_takeDeed_128 : decode cX0_takeDeed 128 = .ok (.if_icmp .eq 12, 3) := by decide +kernel
theorem dX0_takeDeed_131 : decode cX0_takeDeed 131 = .ok (.aload_n 1, 1) := by decide +kernel
theorem dX0_takeDeed_132 : decode cX0_takeDeed 132 = .ok (.bipush 59, 2) := by decide +kernel
theorem dX0_takeDeed_134 : decode cX0_takeDeed 134 = .ok (.invokevirtual 116, 3) := by decide +kernel
theorem dX0_takeDeed_137 : decode cX0_takeDeed 137 = .ok (.ifCond .ne 5, 3) := by decide +kernel
theorem dX0_takeDeed_140 : decode cX0_takeDeed 140 = .ok (.iconst 0, 1) := by decide +kernel
theorem dX0_takeDeed_141 : decode cX0_takeDeed 141 = .ok (.ireturn, 1) := by decide +kernel
theorem dX0_takeDeed_142 : decode cX0_takeDeed 142 = .ok (.aload_n 0, 1) := by decide +kernel
theorem dX0_takeDeed_143 : decode cX0_takeDeed 143 = .ok (.iload 4, 2) := by decide +kernel
theorem dX0_takeDeed_145 : decode cX0_takeDeed 145 = .ok (.bipush 10, 2) := by decide +kernel
theorem dX0_takeDeed_147 : decode cX0_takeDeed 147 = .ok (.isub, 1) := by decide +kernel
theorem dX0_takeDeed_148 : decode cX0_takeDeed 148 = .ok (.iload_n 3, 1) := by decide +kernel
theorem dX0_takeDeed_149 : decode cX0_takeDeed 149 = .ok (.iload 5, 2) := by decide +kernel
theorem dX0_takeDeed_151 : decode cX0_takeDeed 151 = .ok (.iload 6, 2) := by decide +kernel
theorem dX0_takeDeed_153 : decode cX0_takeDeed 153 = .ok (.iload 7, 2) := by decide +kernel
theorem dX0_takeDeed_155 : decode cX0_takeDeed 155 = .ok (.iconst 0, 1) := by decide +kernel
theorem dX0_takeDeed_156 : decode cX0_takeDeed 156 = .ok (.invokevirtual 46, 3) := by decide +kernel
theorem dX0_takeDeed_159 : decode cX0_takeDeed 159 = .ok (.iconst 1, 1) := by decide +kernel
theorem dX0_takeDeed_160 : decode cX0_takeDeed 160 = .ok (.ireturn, 1) := by decide +kernel
theorem dX0_takeWith_0 : decode cX0_takeWith 0 = .ok (.iconst 1, 1) := by decide +kernel
theorem dX0_takeWith_1 : decode cX0_takeWith 1 = .ok (.iload_n 3, 1) := by decide +kernel
theorem dX0_takeWith_2 : decode cX0_takeWith 2 = .ok (.ishl, 1) := by decide +kernel
theorem dX0_takeWith_3 : decode cX0_takeWith 3 = .ok (.iconst 1, 1) := by decide +kernel
theorem dX0_takeWith_4 : decode cX0_takeWith 4 = .ok (.iload 4, 2) := by decide +kernel
theorem dX0_takeWith_6 : decode cX0_takeWith 6 = .ok (.ishl, 1) := by decide +kernel
theorem dX0_takeWith_7 : decode cX0_takeWith 7 = .ok (.ior, 1) := by decide +kernel
theorem dX0_takeWith_8 : decode cX0_takeWith 8 = .ok (.istore 6, 2) := by decide +kernel
theorem dX0_takeWith_10 : decode cX0_takeWith 10 = .ok (.iconst 0, 1) := by decide +kernel
theorem dX0_takeWith_11 : decode cX0_takeWith 11 = .ok (.istore 7, 2) := by decide +kernel
theorem dX0_takeWith_13 : decode cX0_takeWith 13 = .ok (.iconst 0, 1) := by decide +kernel
theorem dX0_takeWith_14 : decode cX0_takeWith 14 = .ok (.istore 8, 2) := by decide +kernel
theorem dX0_takeWith_16 : decode cX0_takeWith 16 = .ok (.iconst 0, 1) := by decide +kernel
theorem dX0_takeWith_17 : decode cX0_takeWith 17 = .ok (.istore 9, 2) := by decide +kernel
theorem dX0_takeWith_19 : decode cX0_takeWith 19 = .ok (.iload 9, 2) := by decide +kernel
theorem dX0_takeWith_21 : decode cX0_takeWith 21 = .ok (.bipush 8, 2) := by decide +kernel
theorem dX0_takeWith_23 : decode cX0_takeWith 23 = .ok (.if_icmp .gt 121, 3) := by decide +kernel
theorem dX0_takeWith_26 : decode cX0_takeWith 26 = .ok (.aload_n 1, 1) := by decide +kernel
theorem dX0_takeWith_27 : decode cX0_takeWith 27 = .ok (.invokevirtual 71, 3) := by decide +kernel
theorem dX0_takeWith_30 : decode cX0_takeWith 30 = .ok (.aload_n 1, 1) := by decide +kernel
theorem dX0_takeWith_31 : decode cX0_takeWith 31 = .ok (.bipush 59, 2) := by decide +kernel
theorem dX0_takeWith_33 : decode cX0_takeWith 33 = .ok (.invokevirtual 131, 3) := by decide +kernel
theorem dX0_takeWith_36 : decode cX0_takeWith 36 = .ok (.ifCond .eq 19, 3) := by decide +kernel
theorem dX0_takeWith_39 : decode cX0_takeWith 39 = .ok (.aload_n 0, 1) := by decide +kernel
theorem dX0_takeWith_40 : decode cX0_takeWith 40 = .ok (.iconst 1, 1) := by decide +kernel
theorem dX0_takeWith_41 : decode cX0_takeWith 41 = .ok (.iload_n 3, 1) := by decide +kernel
theorem dX0_takeWith_42 : decode cX0_takeWith 42 = .ok (.iload 4, 2) := by decide +kernel
theorem dX0_takeWith_44 : decode cX0_takeWith 44 = .ok (.iload 5, 2) := by decide +kernel
theorem dX0_takeWith_46 : decode cX0_takeWith 46 = .ok (.iload 7, 2) := by decide +kernel
theorem dX0_takeWith_48 : decode cX0_takeWith 48 = .ok (.iload 8, 2) := by decide +kernel
theorem dX0_takeWith_50 : decode cX0_takeWith 50 = .ok (.invokevirtual 46, 3) := by decide +kernel
theorem dX0_takeWith_53 : decode cX0_takeWith 53 = .ok (.iconst 1, 1) := by decide +kernel
theorem dX0_takeWith_54 : decode cX0_takeWith 54 = .ok (.ireturn, 1) := by decide +kernel
theorem dX0_takeWith_55 : decode cX0_takeWith 55 = .ok (.aload_n 1, 1) := by decide +kernel
theorem dX0_takeWith_56 : decode cX0_takeWith 56 = .ok (.invokevirtual 82, 3) := by decide +kernel
theorem dX0_takeWith_59 : decode cX0_takeWith 59 = .ok (.bipush 15, 2) := by decide +kernel
theorem dX0_takeWith_61 : decode cX0_takeWith 61 = .ok (.if_icmp .eq 9, 3) := by decide +kernel
theorem dX0_takeWith_64 : decode cX0_takeWith 64 = .ok (.aload_n 1, 1) := by decide +kernel
theorem dX0_takeWith_65 : decode cX0_takeWith 65 = .ok (.iconst 1, 1) := by decide +kernel
theorem dX0_takeWith_66 : decode cX0_takeWith 66 = .ok (.invokevirtual 94, 3) := by decide +kernel
theorem dX0_takeWith_69 : decode cX0_takeWith 69 = .ok (.ireturn, 1) := by decide +kernel
theorem dX0_takeWith_70 : decode cX0_takeWith 70 = .ok (.aload_n 1, 1) := by decide +kernel
theorem dX0_takeWith_71 : decode cX0_takeWith 71 = .ok (.aload_n 2, 1) := by decide +kernel
theorem dX0_takeWith_72 : decode cX0_takeWith 72 = .ok (.getfield 101, 3) := by decide +kernel
theorem dX0_takeWith_75 : decode cX0_takeWith 75 = .ok (.aload_n 2, 1) := by decide +kernel
theorem dX0_takeWith_76 : decode cX0_takeWith 76 = .ok (.getfield 59, 3) := by decide +kernel
theorem dX0_takeWith_79 : decode cX0_takeWith 79 = .ok (.invokevirtual 120, 3) := by decide +kernel
theorem dX0_takeWith_82 : decode cX0_takeWith 82 = .ok (.istore 10, 2) := by decide +kernel
theorem dX0_takeWith_84 : decode cX0_takeWith 84 = .ok (.iload 10, 2) := by decide +kernel
theorem dX0_takeWith_86 : decode cX0_takeWith 86 = .ok (.iconst (-1), 1) := by decide +kernel
theorem dX0_takeWith_87 : decode cX0_takeWith 87 = .ok (.if_icmp .ne 5, 3) := by decide +kernel
theorem dX0_takeWith_90 : decode cX0_takeWith 90 = .ok (.iconst 0, 1) := by decide +kernel
theorem dX0_takeWith_91 : decode cX0_takeWith 91 = .ok (.ireturn, 1) := by decide +kernel
theorem dX0_takeWith_92 : decode cX0_takeWith 92 = .ok (.iload 6, 2) := by decide +kernel
theorem dX0_takeWith_94 : decode cX0_takeWith 94 = .ok (.iload 10, 2) := by decide +kernel
theorem dX0_takeWith_96 : decode cX0_takeWith 96 = .ok (.invokestatic 134, 3) := by decide +kernel
theorem dX0_takeWith_99 : decode cX0_takeWith 99 = .ok (.ifCond .eq 9, 3) := by decide +kernel
theorem dX0_takeWith_102 : decode cX0_takeWith 102 = .ok (.aload_n 1, 1) := by decide +kernel
theorem dX0_takeWith_103 : decode cX0_takeWith 103 = .ok (.iconst 3, 1) := by decide +kernel
theorem dX0_takeWith_104 : decode cX0_takeWith 104 = .ok (.invokevirtual 94, 3) := by decide +kernel
theorem dX0_takeWith_107 : decode cX0_takeWith 107 = .ok (.ireturn, 1) := by decide +kernel
theorem dX0_takeWith_108 : decode cX0_takeWith 108 = .ok (.iload 6, 2) := by decide +kernel
theorem dX0_takeWith_110 : decode cX0_takeWith 110 = .ok (.iconst 1, 1) := by decide +kernel
theorem dX0_takeWith_111 : decode cX0_takeWith 111 = .ok (.iload 10, 2) := by decide +kernel
theorem dX0_takeWith_113 : decode cX0_takeWith 113 = .ok (.ishl, 1) := by decide +kernel
theorem dX0_takeWith_114 : decode cX0_takeWith 114 = .ok (.ior, 1) := by decide +kernel
theorem dX0_takeWith_115 : decode cX0_takeWith 115 = .ok (.istore 6, 2) := by decide +kernel
theorem dX0_takeWith_117 : decode cX0_takeWith 117 = .ok (.iload 7, 2) := by decide +kernel
theorem dX0_takeWith_119 : decode cX0_takeWith 119 = .ok (.iconst 1, 1) := by decide +kernel
theorem dX0_takeWith_120 : decode cX0_takeWith 120 = .ok (.iload 10, 2) := by decide +kernel
theorem dX0_takeWith_122 : decode cX0_takeWith 122 = .ok (.ishl, 1) := by decide +kernel
theorem dX0_takeWith_123 : decode cX0_takeWith 123 = .ok (.ior, 1) := by decide +kernel
theorem dX0_takeWith_124 : decode cX0_takeWith 124 = .ok (.istore 7, 2) := by decide +kernel
theorem dX0_takeWith_126 : decode cX0_takeWith 126 = .ok (.iload 8, 2) := by decide +kernel
theorem dX0_takeWith_128 : decode cX0_takeWith 128 = .ok (.iload 10, 2) := by decide +kernel
theorem dX0_takeWith_130 : decode cX0_takeWith 130 = .ok (.iconst 3, 1) := by decide +kernel
theorem dX0_takeWith_131 : decode cX0_takeWith 131 = .ok (.iload 9, 2) := by decide +kernel
theorem dX0_takeWith_133 : decode cX0_takeWith 133 = .ok (.imul, 1) := by decide +kernel
theorem dX0_takeWith_134 : decode cX0_takeWith 134 = .ok (.ishl, 1) := by decide +kernel
theorem dX0_takeWith_135 : decode cX0_takeWith 135 = .ok (.ior, 1) := by decide +kernel
theorem dX0_takeWith_136 : decode cX0_takeWith 136 = .ok (.istore 8, 2) := by decide +kernel
theorem dX0_takeWith_138 : decode cX0_takeWith 138 = .ok (.iinc 9 1, 3) := by decide +kernel
theorem dX0_takeWith_141 : decode cX0_takeWith 141 = .ok (.goto (-122), 3) := by decide +kernel
theorem dX0_takeWith_144 : decode cX0_takeWith 144 = .ok (.aload_n 1, 1) := by decide +kernel
theorem dX0_takeWith_145 : decode cX0_takeWith 145 = .ok (.iconst 1, 1) := by decide +kernel
theorem dX0_takeWith_146 : decode cX0_takeWith 146 = .ok (.invokevirtual 94, 3) := by decide +kernel
theorem dX0_takeWith_149 : decode cX0_takeWith 149 = .ok (.ireturn, 1) := by decide +kernel
