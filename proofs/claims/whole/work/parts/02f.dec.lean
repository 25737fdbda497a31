theorem dX2_init_0 : decode cX2_init 0 = .ok (.aload_n 0, 1) := by decide +kernel
theorem dX2_init_1 : decode cX2_init 1 = .ok (.invokespecial 3, 3) := by decide +kernel
theorem dX2_init_4 : decode cX2_init 4 = .ok (.aload_n 0, 1) := by decide +kernel
theorem dX2_init_5 : decode cX2_init 5 = .ok (.bipush 8, 2) := by decide +kernel
theorem dX2_init_7 : decode cX2_init 7 = .ok (.newarray .int, 2) := by decide +kernel
theorem dX2_init_9 : decode cX2_init 9 = .ok (.putfield 9, 3) := by decide +kernel
theorem dX2_init_12 : decode cX2_init 12 = .ok (.aload_n 0, 1) := by decide +kernel
theorem dX2_init_13 : decode cX2_init 13 = .ok (.bipush 8, 2) := by decide +kernel
theorem dX2_init_15 : decode cX2_init 15 = .ok (.newarray .int, 2) := by decide +kernel
theorem dX2_init_17 : decode cX2_init 17 = .ok (.putfield 15, 3) := by decide +kernel
theorem dX2_init_20 : decode cX2_init 20 = .ok (.aload_n 0, 1) := by decide +kernel
theorem dX2_init_21 : decode cX2_init 21 = .ok (.sipush 256, 3) := by decide +kernel
theorem dX2_init_24 : decode cX2_init 24 = .ok (.newarray .long, 2) := by decide +kernel
theorem dX2_init_26 : decode cX2_init 26 = .ok (.putfield 18, 3) := by decide +kernel
theorem dX2_init_29 : decode cX2_init 29 = .ok (.return_, 1) := by decide +kernel
theorem dX2_settle_0 : decode cX2_settle 0 = .ok (.aload_n 0, 1) := by decide +kernel
theorem dX2_settle_1 : decode cX2_settle 1 = .ok (.getfield 22, 3) := by decide +kernel
theorem dX2_settle_4 : decode cX2_settle 4 = .ok (.ifCond .eq 4, 3) := by decide +kernel
theorem dX2_settle_7 : decode cX2_settle 7 = .ok (.return_, 1) := by decide +kernel
theorem dX2_settle_8 : decode cX2_settle 8 = .ok (.aload_n 0, 1) := by decide +kernel
theorem dX2_settle_9 : decode cX2_settle 9 = .ok (.aload_n 1, 1) := by decide +kernel
theorem dX2_settle_10 : decode cX2_settle 10 = .ok (.invokevirtual 26, 3) := by decide +kernel
theorem dX2_settle_13 : decode cX2_settle 13 = .ok (.iconst 1, 1) := by decide +kernel
theorem dX2_settle_14 : decode cX2_settle 14 = .ok (.aload_n 0, 1) := by decide +kernel
theorem dX2_settle_15 : decode cX2_settle 15 = .ok (.getfield 30, 3) := by decide +kernel
theorem dX2_settle_18 : decode cX2_settle 18 = .ok (.ishl, 1) := by decide +kernel
theorem dX2_settle_19 : decode cX2_settle 19 = .ok (.istore_n 2, 1) := by decide +kernel
theorem dX2_settle_20 : decode cX2_settle 20 = .ok (.aload_n 0, 1) := by decide +kernel
theorem dX2_settle_21 : decode cX2_settle 21 = .ok (.getfield 18, 3) := by decide +kernel
theorem dX2_settle_24 : decode cX2_settle 24 = .ok (.ldc2_w 34, 3) := by decide +kernel
theorem dX2_settle_27 : decode cX2_settle 27 = .ok (.invokestatic 36, 3) := by decide +kernel
theorem dX2_settle_30 : decode cX2_settle 30 = .ok (.aload_n 0, 1) := by decide +kernel
theorem dX2_settle_31 : decode cX2_settle 31 = .ok (.getfield 18, 3) := by decide +kernel
theorem dX2_settle_34 : decode cX2_settle 34 = .ok (.iconst 0, 1) := by decide +kernel
theorem dX2_settle_35 : decode cX2_settle 35 = .ok (.lconst 0, 1) := by decide +kernel
theorem dX2_settle_36 : decode cX2_settle 36 = .ok (.lastore, 1) := by decide +kernel
theorem dX2_settle_37 : decode cX2_settle 37 = .ok (.iconst 0, 1) := by decide +kernel
theorem dX2_settle_38 : decode cX2_settle 38 = .ok (.istore_n 3, 1) := by decide +kernel
theorem dX2_settle_39 : decode cX2_settle 39 = .ok (.iload_n 3, 1) := by decide +kernel
theorem dX2_settle_40 : decode cX2_settle 40 = .ok (.aload_n 1, 1) := by decide +kernel
theorem dX2_settle_41 : decode cX2_settle 41 = .ok (.getfield 42, 3) := by decide +kernel
theorem dX2_settle_44 : decode cX2_settle 44 = .ok (.getfield 48, 3) := by decide +kernel
theorem dX2_settle_47 : decode cX2_settle 47 = .ok (.if_icmp .ge 24, 3) := by decide +kernel
theorem dX2_settle_50 : decode cX2_settle 50 = .ok (.aload_n 0, 1) := by decide +kernel
theorem dX2_settle_51 : decode cX2_settle 51 = .ok (.iload_n 3, 1) := by decide +kernel
theorem dX2_settle_52 : decode cX2_settle 52 = .ok (.aload_n 1, 1) := by decide +kernel
theorem dX2_settle_53 : decode cX2_settle 53 = .ok (.getfield 42, 3) := by decide +kernel
theorem dX2_settle_56 : decode cX2_settle 56 = .ok (.getfield 53, 3) := by decide +kernel
theorem dX2_settle_59 : decode cX2_settle 59 = .ok (.iload_n 3, 1) := by decide +kernel
theorem dX2_settle_60 : decode cX2_settle 60 = .ok (.iaload, 1) := by decide +kernel
theorem dX2_settle_61 : decode cX2_settle 61 = .ok (.iload_n 2, 1) := by decide +kernel
theorem dX2_settle_62 : decode cX2_settle 62 = .ok (.invokevirtual 56, 3) := by decide +kernel
theorem dX2_settle_65 : decode cX2_settle 65 = .ok (.iinc 3 1, 3) := by decide +kernel
theorem dX2_settle_68 : decode cX2_settle 68 = .ok (.goto (-29), 3) := by decide +kernel
theorem dX2_settle_71 : decode cX2_settle 71 = .ok (.ldc2_w 34, 3) := by decide +kernel
theorem dX2_settle_74 : decode cX2_settle 74 = .ok (.lstore_n 3, 1) := by decide +kernel
theorem dX2_settle_75 : decode cX2_settle 75 = .ok (.iconst 0, 1) := by decide +kernel
theorem dX2_settle_76 : decode cX2_settle 76 = .ok (.istore 5, 2) := by decide +kernel
theorem dX2_settle_78 : decode cX2_settle 78 = .ok (.iload 5, 2) := by decide +kernel
theorem dX2_settle_80 : decode cX2_settle 80 = .ok (.iload_n 2, 1) := by decide +kernel
theorem dX2_settle_81 : decode cX2_settle 81 = .ok (.if_icmp .ge 28, 3) := by decide +kernel
theorem dX2_settle_84 : decode cX2_settle 84 = .ok (.lload_n 3, 1) := by decide +kernel
theorem dX2_settle_85 : decode cX2_settle 85 = .ok (.aload_n 0, 1) := by decide +kernel
theorem dX2_settle_86 : decode cX2_settle 86 = .ok (.getfield 18, 3) := by decide +kernel
theorem dX2_settle_89 : decode cX2_settle 89 = .ok (.iload 5, 2) := by decide +kernel
theorem dX2_settle_91 : decode cX2_settle 91 = .ok (.laload, 1) := by decide +kernel
theorem dX2_settle_92 : decode cX2_settle 92 = .ok (.aload_n 0, 1) := by decide +kernel
theorem dX2_settle_93 : decode cX2_settle 93 = .ok (.iload 5, 2) := by decide +kernel
theorem dX2_settle_95 : decode cX2_settle 95 = .ok (.invokevirtual 60, 3) := by decide +kernel
theorem dX2_settle_98 : decode cX2_settle 98 = .ok (.ladd, 1) := by decide +kernel
theorem dX2_settle_99 : decode cX2_settle 99 = .ok (.invokestatic 64, 3) := by decide +kernel
theorem dX2_settle_102 : decode cX2_settle 102 = .ok (.lstore_n 3, 1) := by decide +kernel
theorem dX2_settle_103 : decode cX2_settle 103 = .ok (.iinc 5 1, 3) := by decide +kernel
theorem dX2_settle_106 : decode cX2_settle 106 = .ok (.goto (-28), 3) := by decide +kernel
theorem dX2_settle_109 : decode cX2_settle 109 = .ok (.aload_n 0, 1) := by decide +kernel
theorem dX2_settle_110 : decode cX2_settle 110 = .ok (.lload_n 3, 1) := by decide +kernel
theorem dX2_settle_111 : decode cX2_settle 111 = .ok (.invokevirtual 70, 3) := by decide +kernel
theorem dX2_settle_114 : decode cX2_settle 114 = .ok (.aload_n 0, 1) := by decide +kernel
theorem dX2_settle_115 : decode cX2_settle 115 = .ok (.iconst 1, 1) := by decide +kernel
theorem dX2_settle_116 : decode cX2_settle 116 = .ok (.putfield 22, 3) := by decide +kernel
theorem dX2_settle_119 : decode cX2_settle 119 = .ok (.return_, 1) := by decide +kernel
theorem dX2_takeDebts_0 : decode cX2_takeDebts 0 = .ok (.aload_n 0, 1) := by decide +kernel
theorem dX2_takeDebts_1 : decode cX2_takeDebts 1 = .ok (.iconst 0, 1) := by decide +kernel
theorem dX2_takeDebts_2 : decode cX2_takeDebts 2 = .ok (.putfield 30, 3) := by decide +kernel
theorem dX2_takeDebts_5 : decode cX2_takeDebts 5 = .ok (.aload_n 1, 1) := by decide +kernel
theorem dX2_takeDebts_6 : decode cX2_takeDebts 6 = .ok (.invokevirtual 74, 3) := by decide +kernel
theorem dX2_takeDebts_9 : decode cX2_takeDebts 9 = .ok (.istore_n 2, 1) := by decide +kernel
theorem dX2_takeDebts_10 : decode cX2_takeDebts 10 = .ok (.iconst 0, 1) := by decide +kernel
theorem dX2_takeDebts_11 : decode cX2_takeDebts 11 = .ok (.istore_n 3, 1) := by decide +kernel
theorem dX2_takeDebts_12 : decode cX2_takeDebts 12 = .ok (.iload_n 3, 1) := by decide +kernel
theorem dX2_takeDebts_13 : decode cX2_takeDebts 13 = .ok (.aload_n 1, 1) := by decide +kernel
theorem dX2_takeDebts_14 : decode cX2_takeDebts 14 = .ok (.getfield 78, 3) := by decide +kernel
theorem dX2_takeDebts_17 : decode cX2_takeDebts 17 = .ok (.if_icmp .ge 66, 3) := by decide +kernel
theorem dX2_takeDebts_20 : decode cX2_takeDebts 20 = .ok (.aload_n 0, 1) := by decide +kernel
theorem dX2_takeDebts_21 : decode cX2_takeDebts 21 = .ok (.getfield 30, 3) := by decide +kernel
theorem dX2_takeDebts_24 : decode cX2_takeDebts 24 = .ok (.bipush 8, 2) := by decide +kernel
theorem dX2_takeDebts_26 : decode cX2_takeDebts 26 = .ok (.if_icmp .ge 57, 3) := by decide +kernel
theorem dX2_takeDebts_29 : decode cX2_takeDebts 29 = .ok (.aload_n 1, 1) := by decide +kernel
theorem dX2_takeDebts_30 : decode cX2_takeDebts 30 = .ok (.getfield 79, 3) := by decide +kernel
theorem dX2_takeDebts_33 : decode cX2_takeDebts 33 = .ok (.iload_n 3, 1) := by decide +kernel
theorem dX2_takeDebts_34 : decode cX2_takeDebts 34 = .ok (.iaload, 1) := by decide +kernel
theorem dX2_takeDebts_35 : decode cX2_takeDebts 35 = .ok (.ifCond .le 42, 3) := by decide +kernel
theorem dX2_takeDebts_38 : decode cX2_takeDebts 38 = .ok (.aload_n 0, 1) := by decide +kernel
theorem dX2_takeDebts_39 : decode cX2_takeDebts 39 = .ok (.getfield 15, 3) := by decide +kernel
theorem dX2_takeDebts_42 : decode cX2_takeDebts 42 = .ok (.aload_n 0, 1) := by decide +kernel
theorem dX2_takeDebts_43 : decode cX2_takeDebts 43 = .ok (.getfield 30, 3) := by decide +kernel
theorem dX2_takeDebts_46 : decode cX2_takeDebts 46 = .ok (.aload_n 1, 1) := by decide +kernel
theorem dX2_takeDebts_47 : decode cX2_takeDebts 47 = .ok (.iload_n 3, 1) := by decide +kernel
theorem dX2_takeDebts_48 : decode cX2_takeDebts 48 = .ok (.aload_n 1, 1) := by decide +kernel
theorem dX2_takeDebts_49 : decode cX2_takeDebts 49 = .ok (.getfield 82, 3) := by decide +kernel
theorem dX2_takeDebts_52 : decode cX2_takeDebts 52 = .ok (.aload_n 1, 1) := by decide +kernel
theorem dX2_takeDebts_53 : decode cX2_takeDebts 53 = .ok (.getfield 85, 3) := by decide +kernel
theorem dX2_takeDebts_56 : decode cX2_takeDebts 56 = .ok (.iload_n 3, 1) := by decide +kernel
theorem dX2_takeDebts_57 : decode cX2_takeDebts 57 = .ok (.iaload, 1) := by decide +kernel
theorem dX2_takeDebts_58 : decode cX2_takeDebts 58 = .ok (.iaload, 1) := by decide +kernel
theorem dX2_takeDebts_59 : decode cX2_takeDebts 59 = .ok (.iload_n 2, 1) := by decide +kernel
theorem dX2_takeDebts_60 : decode cX2_takeDebts 60 = .ok (.iconst (-1), 1) := by decide +kernel
theorem dX2_takeDebts_61 : decode cX2_takeDebts 61 = .ok (.ixor, 1) := by decide +kernel
theorem dX2_takeDebts_62 : decode cX2_takeDebts 62 = .ok (.iand, 1) := by decide +kernel
theorem dX2_takeDebts_63 : decode cX2_takeDebts 63 = .ok (.invokestatic 88, 3) := by decide +kernel
theorem dX2_takeDebts_66 : decode cX2_takeDebts 66 = .ok (.iastore, 1) := by decide +kernel
theorem dX2_takeDebts_67 : decode cX2_takeDebts 67 = .ok (.aload_n 0, 1) := by decide +kernel
theorem dX2_takeDebts_68 : decode cX2_takeDebts 68 = .ok (.dup, 1) := by decide +kernel
theorem dX2_takeDebts_69 : decode cX2_takeDebts 69 = .ok (.getfield 30, 3) := by decide +kernel
theorem dX2_takeDebts_72 : decode cX2_takeDebts 72 = .ok (.iconst 1, 1) := by decide +kernel
theorem dX2_takeDebts_73 : decode cX2_takeDebts 73 = .ok (.iadd, 1) := by decide +kernel
theorem dX2_takeDebts_74 : decode cX2_takeDebts 74 = .ok (.putfield 30, 3) := by decide +kernel
theorem dX2_takeDebts_77 : decode cX2_takeDebts 77 = .ok (.iinc 3 1, 3) := by decide +kernel
theorem dX2_takeDebts_80 : decode cX2_takeDebts 80 = .ok (.goto (-68), 3) := by decide +kernel
theorem dX2_takeDebts_83 : decode cX2_takeDebts 83 = .ok (.return_, 1) := by decide +kernel
theorem dX2_payableFor_0 : decode cX2_payableFor 0 = .ok (.iconst 0, 1) := by decide +kernel
theorem dX2_payableFor_1 : decode cX2_payableFor 1 = .ok (.istore_n 3, 1) := by decide +kernel
theorem dX2_payableFor_2 : decode cX2_payableFor 2 = .ok (.iconst 0, 1) := by decide +kernel
theorem dX2_payableFor_3 : decode cX2_payableFor 3 = .ok (.istore 4, 2) := by decide +kernel
theorem dX2_payableFor_5 : decode cX2_payableFor 5 = .ok (.iload 4, 2) := by decide +kernel
theorem dX2_payableFor_7 : decode cX2_payableFor 7 = .ok (.aload_n 0, 1) := by decide +kernel
theorem dX2_payableFor_8 : decode cX2_payableFor 8 = .ok (.getfield 42, 3) := by decide +kernel
theorem dX2_payableFor_11 : decode cX2_payableFor 11 = .ok (.getfield 48, 3) := by decide +kernel
theorem dX2_payableFor_14 : decode cX2_payableFor 14 = .ok (.if_icmp .ge 46, 3) := by decide +kernel
theorem dX2_payableFor_17 : decode cX2_payableFor 17 = .ok (.iload_n 2, 1) := by decide +kernel
theorem dX2_payableFor_18 : decode cX2_payableFor 18 = .ok (.iload 4, 2) := by decide +kernel
theorem dX2_payableFor_20 : decode cX2_payableFor 20 = .ok (.invokestatic 92, 3) := by decide +kernel
theorem dX2_payableFor_23 : decode cX2_payableFor 23 = .ok (.ifCond .eq 31, 3) := by decide +kernel
theorem dX2_payableFor_26 : decode cX2_payableFor 26 = .ok (.aload_n 0, 1) := by decide +kernel
theorem dX2_payableFor_27 : decode cX2_payableFor 27 = .ok (.aload_n 0, 1) := by decide +kernel
theorem dX2_payableFor_28 : decode cX2_payableFor 28 = .ok (.getfield 85, 3) := by decide +kernel
theorem dX2_payableFor_31 : decode cX2_payableFor 31 = .ok (.iload_n 1, 1) := by decide +kernel
theorem dX2_payableFor_32 : decode cX2_payableFor 32 = .ok (.iaload, 1) := by decide +kernel
theorem dX2_payableFor_33 : decode cX2_payableFor 33 = .ok (.iload 4, 2) := by decide +kernel
theorem dX2_payableFor_35 : decode cX2_payableFor 35 = .ok (.invokevirtual 96, 3) := by decide +kernel
theorem dX2_payableFor_38 : decode cX2_payableFor 38 = .ok (.aload_n 0, 1) := by decide +kernel
theorem dX2_payableFor_39 : decode cX2_payableFor 39 = .ok (.getfield 79, 3) := by decide +kernel
theorem dX2_payableFor_42 : decode cX2_payableFor 42 = .ok (.iload_n 1, 1) := by decide +kernel
theorem dX2_payableFor_43 : decode cX2_payableFor 43 = .ok (.iaload, 1) := by decide +kernel
theorem dX2_payableFor_44 : decode cX2_payableFor 44 = .ok (.if_icmp .lt 10, 3) := by decide +kernel
theorem dX2_payableFor_47 : decode cX2_payableFor 47 = .ok (.iload_n 3, 1) := by decide +kernel
theorem dX2_payableFor_48 : decode cX2_payableFor 48 = .ok (.iconst 1, 1) := by decide +kernel
theorem dX2_payableFor_49 : decode cX2_payableFor 49 = .ok (.iload 4, 2) := by decide +kernel
theorem dX2_payableFor_51 : decode cX2_payableFor 51 = .ok (.ishl, 1) := by decide +kernel
theorem dX2_payableFor_52 : decode cX2_payableFor 52 = .ok (.ior, 1) := by decide +kernel
theorem dX2_payableFor_53 : decode cX2_payableFor 53 = .ok (.istore_n 3, 1) := by decide +kernel
theorem dX2_payableFor_54 : decode cX2_payableFor 54 = .ok (.iinc 4 1, 3) := by decide +kernel
theorem dX2_payableFor_57 : decode cX2_payableFor 57 = .ok (.goto (-52), 3) := by decide +kernel
theorem dX2_payableFor_60 : decode cX2_payableFor 60 = .ok (.iload_n 3, 1) := by decide +kernel
theorem dX2_payableFor_61 : decode cX2_payableFor 61 = .ok (.ireturn, 1) := by decide +kernel
theorem dX2_digitShift_0 : decode cX2_digitShift 0 = .ok (.iconst 4, 1) := by decide +kernel
theorem dX2_digitShift_1 : decode cX2_digitShift 1 = .ok (.bipush 7, 2) := by decide +kernel
theorem dX2_digitShift_3 : decode cX2_digitShift 3 = .ok (.iload_n 0, 1) := by decide +kernel
theorem dX2_digitShift_4 : decode cX2_digitShift 4 = .ok (.isub, 1) := by decide +kernel
theorem dX2_digitShift_5 : decode cX2_digitShift 5 = .ok (.imul, 1) := by decide +kernel
theorem dX2_digitShift_6 : decode cX2_digitShift 6 = .ok (.ireturn, 1) := by decide +kernel
theorem dX2_tryFact_0 : decode cX2_tryFact 0 = .ok (.iload_n 3, 1) := by decide +kernel
theorem dX2_tryFact_1 : decode cX2_tryFact 1 = .ok (.iconst 1, 1) := by decide +kernel
theorem dX2_tryFact_2 : decode cX2_tryFact 2 = .ok (.isub, 1) := by decide +kernel
theorem dX2_tryFact_3 : decode cX2_tryFact 3 = .ok (.istore 4, 2) := by decide +kernel
theorem dX2_tryFact_5 : decode cX2_tryFact 5 = .ok (.iload 4, 2) := by decide +kernel
theorem dX2_tryFact_7 : decode cX2_tryFact 7 = .ok (.ifCond .le 99, 3) := by decide +kernel
theorem dX2_tryFact_10 : decode cX2_tryFact 10 = .ok (.iconst 0, 1) := by decide +kernel
theorem dX2_tryFact_11 : decode cX2_tryFact 11 = .ok (.istore 5, 2) := by decide +kernel
theorem dX2_tryFact_13 : decode cX2_tryFact 13 = .ok (.iload 5, 2) := by decide +kernel
theorem dX2_tryFact_15 : decode cX2_tryFact 15 = .ok (.aload_n 0, 1) := by decide +kernel
theorem dX2_tryFact_16 : decode cX2_tryFact 16 = .ok (.getfield 30, 3) := by decide +kernel
theorem dX2_tryFact_19 : decode cX2_tryFact 19 = .ok (.if_icmp .ge 81, 3) := by decide +kernel
theorem dX2_tryFact_22 : decode cX2_tryFact 22 = .ok (.iload 4, 2) := by decide +kernel
theorem dX2_tryFact_24 : decode cX2_tryFact 24 = .ok (.iload 5, 2) := by decide +kernel
theorem dX2_tryFact_26 : decode cX2_tryFact 26 = .ok (.invokestatic 92, 3) := by decide +kernel
theorem dX2_tryFact_29 : decode cX2_tryFact 29 = .ok (.ifCond .eq 65, 3) := by decide +kernel
theorem dX2_tryFact_32 : decode cX2_tryFact 32 = .ok (.aload_n 0, 1) := by decide +kernel
theorem dX2_tryFact_33 : decode cX2_tryFact 33 = .ok (.getfield 15, 3) := by decide +kernel
theorem dX2_tryFact_36 : decode cX2_tryFact 36 = .ok (.iload 5, 2) := by decide +kernel
theorem dX2_tryFact_38 : decode cX2_tryFact 38 = .ok (.iaload, 1) := by decide +kernel
theorem dX2_tryFact_39 : decode cX2_tryFact 39 = .ok (.iload_n 1, 1) := by decide +kernel
theorem dX2_tryFact_40 : decode cX2_tryFact 40 = .ok (.invokestatic 92, 3) := by decide +kernel
theorem dX2_tryFact_43 : decode cX2_tryFact 43 = .ok (.ifCond .eq 51, 3) := by decide +kernel
theorem dX2_tryFact_46 : decode cX2_tryFact 46 = .ok (.iload_n 2, 1) := by decide +kernel
theorem dX2_tryFact_47 : decode cX2_tryFact 47 = .ok (.i2l, 1) := by decide +kernel
theorem dX2_tryFact_48 : decode cX2_tryFact 48 = .ok (.bipush 32, 2) := by decide +kernel
theorem dX2_tryFact_50 : decode cX2_tryFact 50 = .ok (.lshl, 1) := by decide +kernel
theorem dX2_tryFact_51 : decode cX2_tryFact 51 = .ok (.iload_n 1, 1) := by decide +kernel
theorem dX2_tryFact_52 : decode cX2_tryFact 52 = .ok (.i2l, 1) := by decide +kernel
theorem dX2_tryFact_53 : decode cX2_tryFact 53 = .ok (.iload 5, 2) := by decide +kernel
theorem dX2_tryFact_55 : decode cX2_tryFact 55 = .ok (.invokestatic 100, 3) := by decide +kernel
theorem dX2_tryFact_58 : decode cX2_tryFact 58 = .ok (.lshl, 1) := by decide +kernel
theorem dX2_tryFact_59 : decode cX2_tryFact 59 = .ok (.ladd, 1) := by decide +kernel
theorem dX2_tryFact_60 : decode cX2_tryFact 60 = .ok (.lstore 6, 2) := by decide +kernel
theorem dX2_tryFact_62 : decode cX2_tryFact 62 = .ok (.aload_n 0, 1) := by decide +kernel
theorem dX2_tryFact_63 : decode cX2_tryFact 63 = .ok (.getfield 18, 3) := by decide +kernel
theorem dX2_tryFact_66 : decode cX2_tryFact 66 = .ok (.iload 4, 2) := by decide +kernel
theorem dX2_tryFact_68 : decode cX2_tryFact 68 = .ok (.aload_n 0, 1) := by decide +kernel
theorem dX2_tryFact_69 : decode cX2_tryFact 69 = .ok (.getfield 18, 3) := by decide +kernel
theorem dX2_tryFact_72 : decode cX2_tryFact 72 = .ok (.iload 4, 2) := by decide +kernel
theorem dX2_tryFact_74 : decode cX2_tryFact 74 = .ok (.laload, 1) := by decide +kernel
theorem dX2_tryFact_75 : decode cX2_tryFact 75 = .ok (.aload_n 0, 1) := by decide +kernel
theorem dX2_tryFact_76 : decode cX2_tryFact 76 = .ok (.getfield 18, 3) := by decide +kernel
theorem dX2_tryFact_79 : decode cX2_tryFact 79 = .ok (.iload 4, 2) := by decide +kernel
theorem dX2_tryFact_81 : decode cX2_tryFact 81 = .ok (.iconst 1, 1) := by decide +kernel
theorem dX2_tryFact_82 : decode cX2_tryFact 82 = .ok (.iload 5, 2) := by decide +kernel
theorem dX2_tryFact_84 : decode cX2_tryFact 84 = .ok (.ishl, 1) := by decide +kernel
theorem dX2_tryFact_85 : decode cX2_tryFact 85 = .ok (.ixor, 1) := by decide +kernel
theorem dX2_tryFact_86 : decode cX2_tryFact 86 = .ok (.laload, 1) := by decide +kernel
theorem dX2_tryFact_87 : decode cX2_tryFact 87 = .ok (.lload 6, 2) := by decide +kernel
theorem dX2_tryFact_89 : decode cX2_tryFact 89 = .ok (.ladd, 1) := by decide +kernel
theorem dX2_tryFact_90 : decode cX2_tryFact 90 = .ok (.invokestatic 64, 3) := by decide +kernel
theorem dX2_tryFact_93 : decode cX2_tryFact 93 = .ok (.lastore, 1) := by decide +kernel
theorem dX2_tryFact_94 : decode cX2_tryFact 94 = .ok (.iinc 5 1, 3) := by decide +kernel
theorem dX2_tryFact_97 : decode cX2_tryFact 97 = .ok (.goto (-84), 3) := by decide +kernel
theorem dX2_tryFact_100 : decode cX2_tryFact 100 = .ok (.iinc 4 (-1), 3) := by decide +kernel
theorem dX2_tryFact_103 : decode cX2_tryFact 103 = .ok (.goto (-98), 3) := by decide +kernel
theorem dX2_tryFact_106 : decode cX2_tryFact 106 = .ok (.return_, 1) := by decide +kernel
theorem dX2_unpaidBut_0 : decode cX2_unpaidBut 0 = .ok (.lconst 0, 1) := by decide +kernel
theorem dX2_unpaidBut_1 : decode cX2_unpaidBut 1 = .ok (.lstore_n 2, 1) := by decide +kernel
theorem dX2_unpaidBut_2 : decode cX2_unpaidBut 2 = .ok (.iconst 0, 1) := by decide +kernel
theorem dX2_unpaidBut_3 : decode cX2_unpaidBut 3 = .ok (.istore 4, 2) := by decide +kernel
theorem dX2_unpaidBut_5 : decode cX2_unpaidBut 5 = .ok (.iload 4, 2) := by decide +kernel
theorem dX2_unpaidBut_7 : decode cX2_unpaidBut 7 = .ok (.aload_n 0, 1) := by decide +kernel
theorem dX2_unpaidBut_8 : decode cX2_unpaidBut 8 = .ok (.getfield 30, 3) := by decide +kernel
theorem dX2_unpaidBut_11 : decode cX2_unpaidBut 11 = .ok (.if_icmp .ge 34, 3) := by decide +kernel
theorem dX2_unpaidBut_14 : decode cX2_unpaidBut 14 = .ok (.iload_n 1, 1) := by decide +kernel
theorem dX2_unpaidBut_15 : decode cX2_unpaidBut 15 = .ok (.iload 4, 2) := by decide +kernel
theorem dX2_unpaidBut_17 : decode cX2_unpaidBut 17 = .ok (.invokestatic 92, 3) := by decide +kernel
theorem dX2_unpaidBut_20 : decode cX2_unpaidBut 20 = .ok (.ifCond .ne 19, 3) := by decide +kernel
theorem dX2_unpaidBut_23 : decode cX2_unpaidBut 23 = .ok (.lload_n 2, 1) := by decide +kernel
theorem dX2_unpaidBut_24 : decode cX2_unpaidBut 24 = .ok (.ldc2_w 104, 3) := by decide +kernel
theorem dX2_unpaidBut_27 : decode cX2_unpaidBut 27 = .ok (.ldc2_w 106, 3) := by decide +kernel
theorem dX2_unpaidBut_30 : decode cX2_unpaidBut 30 = .ok (.iload 4, 2) := by decide +kernel
theorem dX2_unpaidBut_32 : decode cX2_unpaidBut 32 = .ok (.invokestatic 100, 3) := by decide +kernel
theorem dX2_unpaidBut_35 : decode cX2_unpaidBut 35 = .ok (.lshl, 1) := by decide +kernel
theorem dX2_unpaidBut_36 : decode cX2_unpaidBut 36 = .ok (.ladd, 1) := by decide +kernel
theorem dX2_unpaidBut_37 : decode cX2_unpaidBut 37 = .ok (.ladd, 1) := by decide +kernel
theorem dX2_unpaidBut_38 : decode cX2_unpaidBut 38 = .ok (.lstore_n 2, 1) := by decide +kernel
theorem dX2_unpaidBut_39 : decode cX2_unpaidBut 39 = .ok (.iinc 4 1, 3) := by decide +kernel
theorem dX2_unpaidBut_42 : decode cX2_unpaidBut 42 = .ok (.goto (-37), 3) := by decide +kernel
theorem dX2_unpaidBut_45 : decode cX2_unpaidBut 45 = .ok (.lload_n 2, 1) := by decide +kernel
theorem dX2_unpaidBut_46 : decode cX2_unpaidBut 46 = .ok (.lreturn, 1) := by decide +kernel
theorem dX2_keep_0 : decode cX2_keep 0 = .ok (.aload_n 0, 1) := by decide +kernel
theorem dX2_keep_1 : decode cX2_keep 1 = .ok (.aload_n 0, 1) := by decide +kernel
theorem dX2_keep_2 : decode cX2_keep 2 = .ok (.getfield 30, 3) := by decide +kernel
theorem dX2_keep_5 : decode cX2_keep 5 = .ok (.lload_n 1, 1) := by decide +kernel
theorem dX2_keep_6 : decode cX2_keep 6 = .ok (.bipush 42, 2) := by decide +kernel
theorem dX2_keep_8 : decode cX2_keep 8 = .ok (.lshr, 1) := by decide +kernel
theorem dX2_keep_9 : decode cX2_keep 9 = .ok (.l2i, 1) := by decide +kernel
theorem dX2_keep_10 : decode cX2_keep 10 = .ok (.isub, 1) := by decide +kernel
theorem dX2_keep_11 : decode cX2_keep 11 = .ok (.putfield 108, 3) := by decide +kernel
theorem dX2_keep_14 : decode cX2_keep 14 = .ok (.aload_n 0, 1) := by decide +kernel
theorem dX2_keep_15 : decode cX2_keep 15 = .ok (.lload_n 1, 1) := by decide +kernel
theorem dX2_keep_16 : decode cX2_keep 16 = .ok (.bipush 32, 2) := by decide +kernel
theorem dX2_keep_18 : decode cX2_keep 18 = .ok (.lshr, 1) := by decide +kernel
theorem dX2_keep_19 : decode cX2_keep 19 = .ok (.l2i, 1) := by decide +kernel
theorem dX2_keep_20 : decode cX2_keep 20 = .ok (.sipush 1023, 3) := by decide +kernel
theorem dX2_keep_23 : decode cX2_keep 23 = .ok (.iand, 1) := by decide +kernel
theorem dX2_keep_24 : decode cX2_keep 24 = .ok (.putfield 111, 3) := by decide +kernel
theorem dX2_keep_27 : decode cX2_keep 27 = .ok (.iconst 0, 1) := by decide +kernel
theorem dX2_keep_28 : decode cX2_keep 28 = .ok (.istore_n 3, 1) := by decide +kernel
theorem dX2_keep_29 : decode cX2_keep 29 = .ok (.iload_n 3, 1) := by decide +kernel
theorem dX2_keep_30 : decode cX2_keep 30 = .ok (.aload_n 0, 1) := by decide +kernel
theorem dX2_keep_31 : decode cX2_keep 31 = .ok (.getfield 30, 3) := by decide +kernel
theorem dX2_keep_34 : decode cX2_keep 34 = .ok (.if_icmp .ge 40, 3) := by decide +kernel
theorem dX2_keep_37 : decode cX2_keep 37 = .ok (.lload_n 1, 1) := by decide +kernel
theorem dX2_keep_38 : decode cX2_keep 38 = .ok (.iload_n 3, 1) := by decide +kernel
theorem dX2_keep_39 : decode cX2_keep 39 = .ok (.invokestatic 100, 3) := by decide +kernel
theorem dX2_keep_42 : decode cX2_keep 42 = .ok (.lshr, 1) := by decide +kernel
theorem dX2_keep_43 : decode cX2_keep 43 = .ok (.l2i, 1) := by decide +kernel
theorem dX2_keep_44 : decode cX2_keep 44 = .ok (.bipush 15, 2) := by decide +kernel
theorem dX2_keep_46 : decode cX2_keep 46 = .ok (.iand, 1) := by decide +kernel
theorem dX2_keep_47 : decode cX2_keep 47 = .ok (.istore 4, 2) := by decide +kernel
theorem dX2_keep_49 : decode cX2_keep 49 = .ok (.aload_n 0, 1) := by decide +kernel
theorem dX2_keep_50 : decode cX2_keep 50 = .ok (.getfield 9, 3) := by decide +kernel
theorem dX2_keep_53 : decode cX2_keep 53 = .ok (.iload_n 3, 1) := by decide +kernel
theorem dX2_keep_54 : decode cX2_keep 54 = .ok (.iload 4, 2) := by decide +kernel
theorem dX2_keep_56 : decode cX2_keep 56 = .ok (.bipush 15, 2) := by decide +kernel
theorem dX2_keep_58 : decode cX2_keep 58 = .ok (.if_icmp .ne 7, 3) := by decide +kernel
theorem dX2_keep_61 : decode cX2_keep 61 = .ok (.iconst (-1), 1) := by decide +kernel
theorem dX2_keep_62 : decode cX2_keep 62 = .ok (.goto 5, 3) := by decide +kernel
theorem dX2_keep_65 : decode cX2_keep 65 = .ok (.iload 4, 2) := by decide +kernel
theorem dX2_keep_67 : decode cX2_keep 67 = .ok (.iastore, 1) := by decide +kernel
theorem dX2_keep_68 : decode cX2_keep 68 = .ok (.iinc 3 1, 3) := by decide +kernel
theorem dX2_keep_71 : decode cX2_keep 71 = .ok (.goto (-42), 3) := by decide +kernel
theorem dX2_keep_74 : decode cX2_keep 74 = .ok (.return_, 1) := by decide +kernel
theorem dX10_init_0 : decode cX10_init 0 = .ok (.aload_n 0, 1) := by decide +kernel
theorem dX10_init_1 : decode cX10_init 1 = .ok (.invokespecial 3, 3) := by decide +kernel
theorem dX10_init_4 : decode cX10_init 4 = .ok (.aload_n 0, 1) := by decide +kernel
theorem dX10_init_5 : decode cX10_init 5 = .ok (.bipush 12, 2) := by decide +kernel
theorem dX10_init_7 : decode cX10_init 7 = .ok (.newarray .int, 2) := by decide +kernel
theorem dX10_init_9 : decode cX10_init 9 = .ok (.putfield 9, 3) := by decide +kernel
theorem dX10_init_12 : decode cX10_init 12 = .ok (.aload_n 0, 1) := by decide +kernel
theorem dX10_init_13 : decode cX10_init 13 = .ok (.bipush 12, 2) := by decide +kernel
theorem dX10_init_15 : decode cX10_init 15 = .ok (.newarray .int, 2) := by decide +kernel
theorem dX10_init_17 : decode cX10_init 17 = .ok (.putfield 15, 3) := by decide +kernel
theorem dX10_init_20 : decode cX10_init 20 = .ok (.aload_n 0, 1) := by decide +kernel
theorem dX10_init_21 : decode cX10_init 21 = .ok (.bipush 12, 2) := by decide +kernel
theorem dX10_init_23 : decode cX10_init 23 = .ok (.newarray .int, 2) := by decide +kernel
theorem dX10_init_25 : decode cX10_init 25 = .ok (.putfield 18, 3) := by decide +kernel
theorem dX10_init_28 : decode cX10_init 28 = .ok (.aload_n 0, 1) := by decide +kernel
theorem dX10_init_29 : decode cX10_init 29 = .ok (.bipush 12, 2) := by decide +kernel
theorem dX10_init_31 : decode cX10_init 31 = .ok (.newarray .int, 2) := by decide +kernel
theorem dX10_init_33 : decode cX10_init 33 = .ok (.putfield 21, 3) := by decide +kernel
theorem dX10_init_36 : decode cX10_init 36 = .ok (.aload_n 0, 1) := by decide +kernel
theorem dX10_init_37 : decode cX10_init 37 = .ok (.bipush 13, 2) := by decide +kernel
theorem dX10_init_39 : decode cX10_init 39 = .ok (.newarray .int, 2) := by decide +kernel
theorem dX10_init_41 : decode cX10_init 41 = .ok (.putfield 24, 3) := by decide +kernel
theorem dX10_init_44 : decode cX10_init 44 = .ok (.return_, 1) := by decide +kernel
theorem dX10_coinsFor_0 : decode cX10_coinsFor 0 = .ok (.iload_n 0, 1) := by decide +kernel
theorem dX10_coinsFor_1 : decode cX10_coinsFor 1 = .ok (.bipush 16, 2) := by decide +kernel
theorem dX10_coinsFor_3 : decode cX10_coinsFor 3 = .ok (.ishr, 1) := by decide +kernel
theorem dX10_coinsFor_4 : decode cX10_coinsFor 4 = .ok (.ireturn, 1) := by decide +kernel
theorem dX10_factsIn_0 : decode cX10_factsIn 0 = .ok (.iload_n 0, 1) := by decide +kernel
theorem dX10_factsIn_1 : decode cX10_factsIn 1 = .ok (.bipush 12, 2) := by decide +kernel
theorem dX10_factsIn_3 : decode cX10_factsIn 3 = .ok (.ishr, 1) := by decide +kernel
theorem dX10_factsIn_4 : decode cX10_factsIn 4 = .ok (.bipush 15, 2) := by decide +kernel
theorem dX10_factsIn_6 : decode cX10_factsIn 6 = .ok (.iand, 1) := by decide +kernel
theorem dX10_factsIn_7 : decode cX10_factsIn 7 = .ok (.ireturn, 1) := by decide +kernel
theorem dX10_bitsOf_0 : decode cX10_bitsOf 0 = .ok (.iload_n 0, 1) := by decide +kernel
theorem dX10_bitsOf_1 : decode cX10_bitsOf 1 = .ok (.sipush 4095, 3) := by decide +kernel
theorem dX10_bitsOf_4 : decode cX10_bitsOf 4 = .ok (.iand, 1) := by decide +kernel
theorem dX10_bitsOf_5 : decode cX10_bitsOf 5 = .ok (.ireturn, 1) := by decide +kernel
theorem dX10_leastFor_0 : decode cX10_leastFor 0 = .ok (.aload_n 0, 1) := by decide +kernel
theorem dX10_leastFor_1 : decode cX10_leastFor 1 = .ok (.aload_n 1, 1) := by decide +kernel
theorem dX10_leastFor_2 : decode cX10_leastFor 2 = .ok (.iload_n 2, 1) := by decide +kernel
theorem dX10_leastFor_3 : decode cX10_leastFor 3 = .ok (.invokevirtual 27, 3) := by decide +kernel
theorem dX10_leastFor_6 : decode cX10_leastFor 6 = .ok (.istore 4, 2) := by decide +kernel
theorem dX10_leastFor_8 : decode cX10_leastFor 8 = .ok (.iload 4, 2) := by decide +kernel
theorem dX10_leastFor_10 : decode cX10_leastFor 10 = .ok (.iconst (-1), 1) := by decide +kernel
theorem dX10_leastFor_11 : decode cX10_leastFor 11 = .ok (.if_icmp .ne 6, 3) := by decide +kernel
theorem dX10_leastFor_14 : decode cX10_leastFor 14 = .ok (.ldc 31, 2) := by decide +kernel
theorem dX10_leastFor_16 : decode cX10_leastFor 16 = .ok (.ireturn, 1) := by decide +kernel
theorem dX10_leastFor_17 : decode cX10_leastFor 17 = .ok (.aload_n 1, 1) := by decide +kernel
theorem dX10_leastFor_18 : decode cX10_leastFor 18 = .ok (.getfield 32, 3) := by decide +kernel
theorem dX10_leastFor_21 : decode cX10_leastFor 21 = .ok (.getfield 38, 3) := by decide +kernel
theorem dX10_leastFor_24 : decode cX10_leastFor 24 = .ok (.istore 5, 2) := by decide +kernel
theorem dX10_leastFor_26 : decode cX10_leastFor 26 = .ok (.iconst 0, 1) := by decide +kernel
theorem dX10_leastFor_27 : decode cX10_leastFor 27 = .ok (.istore 6, 2) := by decide +kernel
theorem dX10_leastFor_29 : decode cX10_leastFor 29 = .ok (.iload 6, 2) := by decide +kernel
theorem dX10_leastFor_31 : decode cX10_leastFor 31 = .ok (.iload 5, 2) := by decide +kernel
theorem dX10_leastFor_33 : decode cX10_leastFor 33 = .ok (.if_icmp .ge 18, 3) := by decide +kernel
theorem dX10_leastFor_36 : decode cX10_leastFor 36 = .ok (.aload_n 0, 1) := by decide +kernel
theorem dX10_leastFor_37 : decode cX10_leastFor 37 = .ok (.aload_n 1, 1) := by decide +kernel
theorem dX10_leastFor_38 : decode cX10_leastFor 38 = .ok (.iload_n 2, 1) := by decide +kernel
theorem dX10_leastFor_39 : decode cX10_leastFor 39 = .ok (.iload 6, 2) := by decide +kernel
theorem dX10_leastFor_41 : decode cX10_leastFor 41 = .ok (.iload_n 3, 1) := by decide +kernel
theorem dX10_leastFor_42 : decode cX10_leastFor 42 = .ok (.invokevirtual 44, 3) := by decide +kernel
theorem dX10_leastFor_45 : decode cX10_leastFor 45 = .ok (.iinc 6 1, 3) := by decide +kernel
theorem dX10_leastFor_48 : decode cX10_leastFor 48 = .ok (.goto (-19), 3) := by decide +kernel
theorem dX10_leastFor_51 : decode cX10_leastFor 51 = .ok (.aload_n 0, 1) := by decide +kernel
theorem dX10_leastFor_52 : decode cX10_leastFor 52 = .ok (.getfield 24, 3) := by decide +kernel
theorem dX10_leastFor_55 : decode cX10_leastFor 55 = .ok (.ldc 31, 2) := by decide +kernel
theorem dX10_leastFor_57 : decode cX10_leastFor 57 = .ok (.invokestatic 48, 3) := by decide +kernel
theorem dX10_leastFor_60 : decode cX10_leastFor 60 = .ok (.aload_n 0, 1) := by decide +kernel
theorem dX10_leastFor_61 : decode cX10_leastFor 61 = .ok (.getfield 24, 3) := by decide +kernel
theorem dX10_leastFor_64 : decode cX10_leastFor 64 = .ok (.iconst 0, 1) := by decide +kernel
theorem dX10_leastFor_65 : decode cX10_leastFor 65 = .ok (.iconst 0, 1) := by decide +kernel
theorem dX10_leastFor_66 : decode cX10_leastFor 66 = .ok (.iastore, 1) := by decide +kernel
theorem dX10_leastFor_67 : decode cX10_leastFor 67 = .ok (.iconst 0, 1) := by decide +kernel
theorem dX10_leastFor_68 : decode cX10_leastFor 68 = .ok (.istore 6, 2) := by decide +kernel
theorem dX10_leastFor_70 : decode cX10_leastFor 70 = .ok (.iload 6, 2) := by decide +kernel
theorem dX10_leastFor_72 : decode cX10_leastFor 72 = .ok (.iload 5, 2) := by decide +kernel
theorem dX10_leastFor_74 : decode cX10_leastFor 74 = .ok (.if_icmp .ge 112, 3) := by decide +kernel
theorem dX10_leastFor_77 : decode cX10_leastFor 77 = .ok (.aload_n 0, 1) := by decide +kernel
theorem dX10_leastFor_78 : decode cX10_leastFor 78 = .ok (.getfield 18, 3) := by decide +kernel
theorem dX10_leastFor_81 : decode cX10_leastFor 81 = .ok (.iload 6, 2) := by decide +kernel
theorem dX10_leastFor_83 : decode cX10_leastFor 83 = .ok (.iaload, 1) := by decide +kernel
theorem dX10_leastFor_84 : decode cX10_leastFor 84 = .ok (.istore 7, 2) := by decide +kernel
theorem dX10_leastFor_86 : decode cX10_leastFor 86 = .ok (.iload 4, 2) := by decide +kernel
theorem dX10_leastFor_88 : decode cX10_leastFor 88 = .ok (.iconst 1, 1) := by decide +kernel
theorem dX10_leastFor_89 : decode cX10_leastFor 89 = .ok (.isub, 1) := by decide +kernel
theorem dX10_leastFor_90 : decode cX10_leastFor 90 = .ok (.istore 8, 2) := by decide +kernel
theorem dX10_leastFor_92 : decode cX10_leastFor 92 = .ok (.iload 8, 2) := by decide +kernel
theorem dX10_leastFor_94 : decode cX10_leastFor 94 = .ok (.ifCond .lt 86, 3) := by decide +kernel
theorem dX10_leastFor_97 : decode cX10_leastFor 97 = .ok (.aload_n 0, 1) := by decide +kernel
theorem dX10_leastFor_98 : decode cX10_leastFor 98 = .ok (.getfield 15, 3) := by decide +kernel
theorem dX10_leastFor_101 : decode cX10_leastFor 101 = .ok (.iload 7, 2) := by decide +kernel
theorem dX10_leastFor_103 : decode cX10_leastFor 103 = .ok (.iaload, 1) := by decide +kernel
theorem dX10_leastFor_104 : decode cX10_leastFor 104 = .ok (.ldc 31, 2) := by decide +kernel
theorem dX10_leastFor_106 : decode cX10_leastFor 106 = .ok (.if_icmp .eq 74, 3) := by decide +kernel
theorem dX10_leastFor_109 : decode cX10_leastFor 109 = .ok (.aload_n 0, 1) := by decide +kernel
theorem dX10_leastFor_110 : decode cX10_leastFor 110 = .ok (.getfield 9, 3) := by decide +kernel
theorem dX10_leastFor_113 : decode cX10_leastFor 113 = .ok (.iload 7, 2) := by decide +kernel
theorem dX10_leastFor_115 : decode cX10_leastFor 115 = .ok (.iaload, 1) := by decide +kernel
theorem dX10_leastFor_116 : decode cX10_leastFor 116 = .ok (.aload_n 0, 1) := by decide +kernel
theorem dX10_leastFor_117 : decode cX10_leastFor 117 = .ok (.getfield 21, 3) := by decide +kernel
theorem dX10_leastFor_120 : decode cX10_leastFor 120 = .ok (.iload 8, 2) := by decide +kernel
theorem dX10_leastFor_122 : decode cX10_leastFor 122 = .ok (.iaload, 1) := by decide +kernel
theorem dX10_leastFor_123 : decode cX10_leastFor 123 = .ok (.if_icmp .lt 51, 3) := by decide +kernel
theorem dX10_leastFor_126 : decode cX10_leastFor 126 = .ok (.aload_n 0, 1) := by decide +kernel
theorem dX10_leastFor_127 : decode cX10_leastFor 127 = .ok (.getfield 24, 3) := by decide +kernel
theorem dX10_leastFor_130 : decode cX10_leastFor 130 = .ok (.iload 8, 2) := by decide +kernel
theorem dX10_leastFor_132 : decode cX10_leastFor 132 = .ok (.iaload, 1) := by decide +kernel
theorem dX10_leastFor_133 : decode cX10_leastFor 133 = .ok (.ldc 31, 2) := by decide +kernel
theorem dX10_leastFor_135 : decode cX10_leastFor 135 = .ok (.if_icmp .eq 39, 3) := by decide +kernel
theorem dX10_leastFor_138 : decode cX10_leastFor 138 = .ok (.aload_n 0, 1) := by decide +kernel
theorem dX10_leastFor_139 : decode cX10_leastFor 139 = .ok (.getfield 24, 3) := by decide +kernel
theorem dX10_leastFor_142 : decode cX10_leastFor 142 = .ok (.iload 8, 2) := by decide +kernel
theorem dX10_leastFor_144 : decode cX10_leastFor 144 = .ok (.iconst 1, 1) := by decide +kernel
theorem dX10_leastFor_145 : decode cX10_leastFor 145 = .ok (.iadd, 1) := by decide +kernel
theorem dX10_leastFor_146 : decode cX10_leastFor 146 = .ok (.aload_n 0, 1) := by decide +kernel
theorem dX10_leastFor_147 : decode cX10_leastFor 147 = .ok (.getfield 24, 3) := by decide +kernel
theorem dX10_leastFor_150 : decode cX10_leastFor 150 = .ok (.iload 8, 2) := by decide +kernel
theorem dX10_leastFor_152 : decode cX10_leastFor 152 = .ok (.iconst 1, 1) := by decide +kernel
theorem dX10_leastFor_153 : decode cX10_leastFor 153 = .ok (.iadd, 1) := by decide +kernel
theorem dX10_leastFor_154 : decode cX10_leastFor 154 = .ok (.iaload, 1) := by decide +kernel
theorem dX10_leastFor_155 : decode cX10_leastFor 155 = .ok (.aload_n 0, 1) := by decide +kernel
theorem dX10_leastFor_156 : decode cX10_leastFor 156 = .ok (.getfield 24, 3) := by decide +kernel
theorem dX10_leastFor_159 : decode cX10_leastFor 159 = .ok (.iload 8, 2) := by decide +kernel
theorem dX10_leastFor_161 : decode cX10_leastFor 161 = .ok (.iaload, 1) := by decide +kernel
theorem dX10_leastFor_162 : decode cX10_leastFor 162 = .ok (.aload_n 0, 1) := by decide +kernel
theorem dX10_leastFor_163 : decode cX10_leastFor 163 = .ok (.getfield 15, 3) := by decide +kernel
theorem dX10_leastFor_166 : decode cX10_leastFor 166 = .ok (.iload 7, 2) := by decide +kernel
theorem dX10_leastFor_168 : decode cX10_leastFor 168 = .ok (.iaload, 1) := by decide +kernel
theorem dX10_leastFor_169 : decode cX10_leastFor 169 = .ok (.iadd, 1) := by decide +kernel
theorem dX10_leastFor_170 : decode cX10_leastFor 170 = .ok (.invokestatic 54, 3) := by decide +kernel
theorem dX10_leastFor_173 : decode cX10_leastFor 173 = .ok (.iastore, 1) := by decide +kernel
theorem dX10_leastFor_174 : decode cX10_leastFor 174 = .ok (.iinc 8 (-1), 3) := by decide +kernel
theorem dX10_leastFor_177 : decode cX10_leastFor 177 = .ok (.goto (-85), 3) := by decide +kernel
theorem dX10_leastFor_180 : decode cX10_leastFor 180 = .ok (.iinc 6 1, 3) := by decide +kernel
theorem dX10_leastFor_183 : decode cX10_leastFor 183 = .ok (.goto (-113), 3) := by decide +kernel
theorem dX10_leastFor_186 : decode cX10_leastFor 186 = .ok (.aload_n 0, 1) := by decide +kernel
theorem dX10_leastFor_187 : decode cX10_leastFor 187 = .ok (.getfield 24, 3) := by decide +kernel
theorem dX10_leastFor_190 : decode cX10_leastFor 190 = .ok (.iload 4, 2) := by decide +kernel
theorem dX10_leastFor_192 : decode cX10_leastFor 192 = .ok (.iaload, 1) := by decide +kernel
theorem dX10_leastFor_193 : decode cX10_leastFor 193 = .ok (.ireturn, 1) := by decide +kernel
theorem dX10_takeDues_0 : decode cX10_takeDues 0 = .ok (.iconst 0, 1) := by decide +kernel
theorem dX10_takeDues_1 : decode cX10_takeDues 1 = .ok (.istore_n 3, 1) := by decide +kernel
theorem dX10_takeDues_2 : decode cX10_takeDues 2 = .ok (.iconst 0, 1) := by decide +kernel
theorem dX10_takeDues_3 : decode cX10_takeDues 3 = .ok (.istore 4, 2) := by decide +kernel
theorem dX10_takeDues_5 : decode cX10_takeDues 5 = .ok (.iload 4, 2) := by decide +kernel
theorem dX10_takeDues_7 : decode cX10_takeDues 7 = .ok (.aload_n 1, 1) := by decide +kernel
theorem dX10_takeDues_8 : decode cX10_takeDues 8 = .ok (.getfield 60, 3) := by decide +kernel
theorem dX10_takeDues_11 : decode cX10_takeDues 11 = .ok (.if_icmp .ge 104, 3) := by decide +kernel
theorem dX10_takeDues_14 : decode cX10_takeDues 14 = .ok (.aload_n 1, 1) := by decide +kernel
theorem dX10_takeDues_15 : decode cX10_takeDues 15 = .ok (.getfield 63, 3) := by decide +kernel
theorem dX10_takeDues_18 : decode cX10_takeDues 18 = .ok (.iload 4, 2) := by decide +kernel
theorem dX10_takeDues_20 : decode cX10_takeDues 20 = .ok (.iaload, 1) := by decide +kernel
theorem dX10_takeDues_21 : decode cX10_takeDues 21 = .ok (.iload_n 2, 1) := by decide +kernel
theorem dX10_takeDues_22 : decode cX10_takeDues 22 = .ok (.if_icmp .ne 87, 3) := by decide +kernel
theorem dX10_takeDues_25 : decode cX10_takeDues 25 = .ok (.aload_n 1, 1) := by decide +kernel
theorem dX10_takeDues_26 : decode cX10_takeDues 26 = .ok (.getfield 66, 3) := by decide +kernel
theorem dX10_takeDues_29 : decode cX10_takeDues 29 = .ok (.iload 4, 2) := by decide +kernel
theorem dX10_takeDues_31 : decode cX10_takeDues 31 = .ok (.iaload, 1) := by decide +kernel
theorem dX10_takeDues_32 : decode cX10_takeDues 32 = .ok (.ifCond .le 77, 3) := by decide +kernel
theorem dX10_takeDues_35 : decode cX10_takeDues 35 = .ok (.iload_n 3, 1) := by decide +kernel
theorem dX10_takeDues_36 : decode cX10_takeDues 36 = .ok (.bipush 12, 2) := by decide +kernel
theorem dX10_takeDues_38 : decode cX10_takeDues 38 = .ok (.if_icmp .lt 5, 3) := by decide +kernel
theorem dX10_takeDues_41 : decode cX10_takeDues 41 = .ok (.iconst (-1), 1) := by decide +kernel
theorem dX10_takeDues_42 : decode cX10_takeDues 42 = .ok (.ireturn, 1) := by decide +kernel
theorem dX10_takeDues_43 : decode cX10_takeDues 43 = .ok (.iload_n 3, 1) := by decide +kernel
theorem dX10_takeDues_44 : decode cX10_takeDues 44 = .ok (.istore 5, 2) := by decide +kernel
theorem dX10_takeDues_46 : decode cX10_takeDues 46 = .ok (.iload 5, 2) := by decide +kernel
theorem dX10_takeDues_48 : decode cX10_takeDues 48 = .ok (.ifCond .le 44, 3) := by decide +kernel
theorem dX10_takeDues_51 : decode cX10_takeDues 51 = .ok (.aload_n 0, 1) := by decide +kernel
theorem dX10_takeDues_52 : decode cX10_takeDues 52 = .ok (.getfield 21, 3) := by decide +kernel
theorem dX10_takeDues_55 : decode cX10_takeDues 55 = .ok (.iload 5, 2) := by decide +kernel
theorem dX10_takeDues_57 : decode cX10_takeDues 57 = .ok (.iconst 1, 1) := by decide +kernel
theorem dX10_takeDues_58 : decode cX10_takeDues 58 = .ok (.isub, 1) := by decide +kernel
theorem dX10_takeDues_59 : decode cX10_takeDues 59 = .ok (.iaload, 1) := by decide +kernel
theorem dX10_takeDues_60 : decode cX10_takeDues 60 = .ok (.aload_n 1, 1) := by decide +kernel
theorem dX10_takeDues_61 : decode cX10_takeDues 61 = .ok (.getfield 66, 3) := by decide +kernel
theorem dX10_takeDues_64 : decode cX10_takeDues 64 = .ok (.iload 4, 2) := by decide +kernel
theorem dX10_takeDues_66 : decode cX10_takeDues 66 = .ok (.iaload, 1) := by decide +kernel
theorem dX10_takeDues_67 : decode cX10_takeDues 67 = .ok (.if_icmp .ge 25, 3) := by decide +kernel
theorem dX10_takeDues_70 : decode cX10_takeDues 70 = .ok (.aload_n 0, 1) := by decide +kernel
theorem dX10_takeDues_71 : decode cX10_takeDues 71 = .ok (.getfield 21, 3) := by decide +kernel
theorem dX10_takeDues_74 : decode cX10_takeDues 74 = .ok (.iload 5, 2) := by decide +kernel
theorem dX10_takeDues_76 : decode cX10_takeDues 76 = .ok (.aload_n 0, 1) := by decide +kernel
theorem dX10_takeDues_77 : decode cX10_takeDues 77 = .ok (.getfield 21, 3) := by decide +kernel
theorem dX10_takeDues_80 : decode cX10_takeDues 80 = .ok (.iload 5, 2) := by decide +kernel
theorem dX10_takeDues_82 : decode cX10_takeDues 82 = .ok (.iconst 1, 1) := by decide +kernel
theorem dX10_takeDues_83 : decode cX10_takeDues 83 = .ok (.isub, 1) := by decide +kernel
theorem dX10_takeDues_84 : decode cX10_takeDues 84 = .ok (.iaload, 1) := by decide +kernel
theorem dX10_takeDues_85 : decode cX10_takeDues 85 = .ok (.iastore, 1) := by decide +kernel
theorem dX10_takeDues_86 : decode cX10_takeDues 86 = .ok (.iinc 5 (-1), 3) := by decide +kernel
theorem dX10_takeDues_89 : decode cX10_takeDues 89 = .ok (.goto (-43), 3) := by decide +kernel
theorem dX10_takeDues_92 : decode cX10_takeDues 92 = .ok (.aload_n 0, 1) := by decide +kernel
theorem dX10_takeDues_93 : decode cX10_takeDues 93 = .ok (.getfield 21, 3) := by decide +kernel
theorem dX10_takeDues_96 : decode cX10_takeDues 96 = .ok (.iload 5, 2) := by decide +kernel
theorem dX10_takeDues_98 : decode cX10_takeDues 98 = .ok (.aload_n 1, 1) := by decide +kernel
theorem dX10_takeDues_99 : decode cX10_takeDues 99 = .ok (.getfield 66, 3) := by decide +kernel
theorem dX10_takeDues_102 : decode cX10_takeDues 102 = .ok (.iload 4, 2) := by decide +kernel
theorem dX10_takeDues_104 : decode cX10_takeDues 104 = .ok (.iaload, 1) := by decide +kernel
theorem dX10_takeDues_105 : decode cX10_takeDues 105 = .ok (.iastore, 1) := by decide +kernel
theorem dX10_takeDues_106 : decode cX10_takeDues 106 = .ok (.iinc 3 1, 3) := by decide +kernel
theorem dX10_takeDues_109 : decode cX10_takeDues 109 = .ok (.iinc 4 1, 3) := by decide +kernel
theorem dX10_takeDues_112 : decode cX10_takeDues 112 = .ok (.goto (-107), 3) := by decide +kernel
theorem dX10_takeDues_115 : decode cX10_takeDues 115 = .ok (.iload_n 3, 1) := by decide +kernel
theorem dX10_takeDues_116 : decode cX10_takeDues 116 = .ok (.ireturn, 1) := by decide +kernel
theorem dX10_takeFact_0 : decode cX10_takeFact 0 = .ok (.aload_n 1, 1) := by decide +kernel
theorem dX10_takeFact_1 : decode cX10_takeFact 1 = .ok (.iload_n 2, 1) := by decide +kernel
theorem dX10_takeFact_2 : decode cX10_takeFact 2 = .ok (.iload_n 3, 1) := by decide +kernel
theorem dX10_takeFact_3 : decode cX10_takeFact 3 = .ok (.invokevirtual 69, 3) := by decide +kernel
theorem dX10_takeFact_6 : decode cX10_takeFact 6 = .ok (.ifCond .eq 25, 3) := by decide +kernel
theorem dX10_takeFact_9 : decode cX10_takeFact 9 = .ok (.aload_n 0, 1) := by decide +kernel
theorem dX10_takeFact_10 : decode cX10_takeFact 10 = .ok (.getfield 9, 3) := by decide +kernel
theorem dX10_takeFact_13 : decode cX10_takeFact 13 = .ok (.iload_n 3, 1) := by decide +kernel
theorem dX10_takeFact_14 : decode cX10_takeFact 14 = .ok (.aload_n 1, 1) := by decide +kernel
theorem dX10_takeFact_15 : decode cX10_takeFact 15 = .ok (.iload_n 2, 1) := by decide +kernel
theorem dX10_takeFact_16 : decode cX10_takeFact 16 = .ok (.iload_n 3, 1) := by decide +kernel
theorem dX10_takeFact_17 : decode cX10_takeFact 17 = .ok (.invokevirtual 73, 3) := by decide +kernel
theorem dX10_takeFact_20 : decode cX10_takeFact 20 = .ok (.iastore, 1) := by decide +kernel
theorem dX10_takeFact_21 : decode cX10_takeFact 21 = .ok (.aload_n 0, 1) := by decide +kernel
theorem dX10_takeFact_22 : decode cX10_takeFact 22 = .ok (.getfield 15, 3) := by decide +kernel
theorem dX10_takeFact_25 : decode cX10_takeFact 25 = .ok (.iload_n 3, 1) := by decide +kernel
theorem dX10_takeFact_26 : decode cX10_takeFact 26 = .ok (.iconst 0, 1) := by decide +kernel
theorem dX10_takeFact_27 : decode cX10_takeFact 27 = .ok (.iastore, 1) := by decide +kernel
theorem dX10_takeFact_28 : decode cX10_takeFact 28 = .ok (.goto 61, 3) := by decide +kernel
theorem dX10_takeFact_31 : decode cX10_takeFact 31 = .ok (.iload 4, 2) := by decide +kernel
theorem dX10_takeFact_33 : decode cX10_takeFact 33 = .ok (.ifCond .eq 12, 3) := by decide +kernel
theorem dX10_takeFact_36 : decode cX10_takeFact 36 = .ok (.aload_n 1, 1) := by decide +kernel
theorem dX10_takeFact_37 : decode cX10_takeFact 37 = .ok (.iload_n 2, 1) := by decide +kernel
theorem dX10_takeFact_38 : decode cX10_takeFact 38 = .ok (.iload_n 3, 1) := by decide +kernel
theorem dX10_takeFact_39 : decode cX10_takeFact 39 = .ok (.invokevirtual 76, 3) := by decide +kernel
theorem dX10_takeFact_42 : decode cX10_takeFact 42 = .ok (.goto 4, 3) := by decide +kernel
theorem dX10_takeFact_45 : decode cX10_takeFact 45 = .ok (.iconst 0, 1) := by decide +kernel
theorem dX10_takeFact_46 : decode cX10_takeFact 46 = .ok (.istore 5, 2) := by decide +kernel
theorem dX10_takeFact_48 : decode cX10_takeFact 48 = .ok (.aload_n 0, 1) := by decide +kernel
theorem dX10_takeFact_49 : decode cX10_takeFact 49 = .ok (.getfield 9, 3) := by decide +kernel
theorem dX10_takeFact_52 : decode cX10_takeFact 52 = .ok (.iload_n 3, 1) := by decide +kernel
theorem dX10_takeFact_53 : decode cX10_takeFact 53 = .ok (.aload_n 1, 1) := by decide +kernel
theorem dX10_takeFact_54 : decode cX10_takeFact 54 = .ok (.iload_n 3, 1) := by decide +kernel
theorem dX10_takeFact_55 : decode cX10_takeFact 55 = .ok (.invokevirtual 79, 3) := by decide +kernel
theorem dX10_takeFact_58 : decode cX10_takeFact 58 = .ok (.iastore, 1) := by decide +kernel
theorem dX10_takeFact_59 : decode cX10_takeFact 59 = .ok (.aload_n 0, 1) := by decide +kernel
theorem dX10_takeFact_60 : decode cX10_takeFact 60 = .ok (.getfield 15, 3) := by decide +kernel
theorem dX10_takeFact_63 : decode cX10_takeFact 63 = .ok (.iload_n 3, 1) := by decide +kernel
theorem dX10_takeFact_64 : decode cX10_takeFact 64 = .ok (.iload 5, 2) := by decide +kernel
theorem dX10_takeFact_66 : decode cX10_takeFact 66 = .ok (.iconst (-1), 1) := by decide +kernel
theorem dX10_takeFact_67 : decode cX10_takeFact 67 = .ok (.if_icmp .ne 8, 3) := by decide +kernel
theorem dX10_takeFact_70 : decode cX10_takeFact 70 = .ok (.ldc 31, 2) := by decide +kernel
theorem dX10_takeFact_72 : decode cX10_takeFact 72 = .ok (.goto 16, 3) := by decide +kernel
theorem dX10_takeFact_75 : decode cX10_takeFact 75 = .ok (.iload 5, 2) := by decide +kernel
theorem dX10_takeFact_77 : decode cX10_takeFact 77 = .ok (.bipush 16, 2) := by decide +kernel
theorem dX10_takeFact_79 : decode cX10_takeFact 79 = .ok (.ishl, 1) := by decide +kernel
theorem dX10_takeFact_80 : decode cX10_takeFact 80 = .ok (.sipush 4096, 3) := by decide +kernel
theorem dX10_takeFact_83 : decode cX10_takeFact 83 = .ok (.iadd, 1) := by decide +kernel
theorem dX10_takeFact_84 : decode cX10_takeFact 84 = .ok (.iconst 1, 1) := by decide +kernel
theorem dX10_takeFact_85 : decode cX10_takeFact 85 = .ok (.iload_n 3, 1) := by decide +kernel
theorem dX10_takeFact_86 : decode cX10_takeFact 86 = .ok (.ishl, 1) := by decide +kernel
theorem dX10_takeFact_87 : decode cX10_takeFact 87 = .ok (.iadd, 1) := by decide +kernel
theorem dX10_takeFact_88 : decode cX10_takeFact 88 = .ok (.iastore, 1) := by decide +kernel
theorem dX10_takeFact_89 : decode cX10_takeFact 89 = .ok (.iload_n 3, 1) := by decide +kernel
theorem dX10_takeFact_90 : decode cX10_takeFact 90 = .ok (.istore 5, 2) := by decide +kernel
theorem dX10_takeFact_92 : decode cX10_takeFact 92 = .ok (.iload 5, 2) := by decide +kernel
theorem dX10_takeFact_94 : decode cX10_takeFact 94 = .ok (.ifCond .le 48, 3) := by decide +kernel
theorem dX10_takeFact_97 : decode cX10_takeFact 97 = .ok (.aload_n 0, 1) := by decide +kernel
theorem dX10_takeFact_98 : decode cX10_takeFact 98 = .ok (.getfield 9, 3) := by decide +kernel
theorem dX10_takeFact_101 : decode cX10_takeFact 101 = .ok (.aload_n 0, 1) := by decide +kernel
theorem dX10_takeFact_102 : decode cX10_takeFact 102 = .ok (.getfield 18, 3) := by decide +kernel
theorem dX10_takeFact_105 : decode cX10_takeFact 105 = .ok (.iload 5, 2) := by decide +kernel
theorem dX10_takeFact_107 : decode cX10_takeFact 107 = .ok (.iconst 1, 1) := by decide +kernel
theorem dX10_takeFact_108 : decode cX10_takeFact 108 = .ok (.isub, 1) := by decide +kernel
theorem dX10_takeFact_109 : decode cX10_takeFact 109 = .ok (.iaload, 1) := by decide +kernel
theorem dX10_takeFact_110 : decode cX10_takeFact 110 = .ok (.iaload, 1) := by decide +kernel
theorem dX10_takeFact_111 : decode cX10_takeFact 111 = .ok (.aload_n 0, 1) := by decide +kernel
theorem dX10_takeFact_112 : decode cX10_takeFact 112 = .ok (.getfield 9, 3) := by decide +kernel
theorem dX10_takeFact_115 : decode cX10_takeFact 115 = .ok (.iload_n 3, 1) := by decide +kernel
theorem dX10_takeFact_116 : decode cX10_takeFact 116 = .ok (.iaload, 1) := by decide +kernel
theorem dX10_takeFact_117 : decode cX10_takeFact 117 = .ok (.if_icmp .ge 25, 3) := by decide +kernel
theorem dX10_takeFact_120 : decode cX10_takeFact 120 = .ok (.aload_n 0, 1) := by decide +kernel
theorem dX10_takeFact_121 : decode cX10_takeFact 121 = .ok (.getfield 18, 3) := by decide +kernel
theorem dX10_takeFact_124 : decode cX10_takeFact 124 = .ok (.iload 5, 2) := by decide +kernel
theorem dX10_takeFact_126 : decode cX10_takeFact 126 = .ok (.aload_n 0, 1) := by decide +kernel
theorem dX10_takeFact_127 : decode cX10_takeFact 127 = .ok (.getfield 18, 3) := by decide +kernel
theorem dX10_takeFact_130 : decode cX10_takeFact 130 = .ok (.iload 5, 2) := by decide +kernel
theorem dX10_takeFact_132 : decode cX10_takeFact 132 = .ok (.iconst 1, 1) := by decide +kernel
theorem dX10_takeFact_133 : decode cX10_takeFact 133 = .ok (.isub, 1) := by decide +kernel
theorem dX10_takeFact_134 : decode cX10_takeFact 134 = .ok (.iaload, 1) := by decide +kernel
theorem dX10_takeFact_135 : decode cX10_takeFact 135 = .ok (.iastore, 1) := by decide +kernel
theorem dX10_takeFact_136 : decode cX10_takeFact 136 = .ok (.iinc 5 (-1), 3) := by decide +kernel
theorem dX10_takeFact_139 : decode cX10_takeFact 139 = .ok (.goto (-47), 3) := by decide +kernel
theorem dX10_takeFact_142 : decode cX10_takeFact 142 = .ok (.aload_n 0, 1) := by decide +kernel
theorem dX10_takeFact_143 : decode cX10_takeFact 143 = .ok (.getfield 18, 3) := by decide +kernel
theorem dX10_takeFact_146 : decode cX10_takeFact 146 = .ok (.iload 5, 2) := by decide +kernel
theorem dX10_takeFact_148 : decode cX10_takeFact 148 = .ok (.iload_n 3, 1) := by decide +kernel
theorem dX10_takeFact_149 : decode cX10_takeFact 149 = .ok (.iastore, 1) := by decide +kernel
theorem dX10_takeFact_150 : decode cX10_takeFact 150 = .ok (.return_, 1) := by decide +kernel
