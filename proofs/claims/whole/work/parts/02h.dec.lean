theorem dX12_thrown_0 : decode cX12_thrown 0 = .ok (.aload_n 0, 1) := by decide +kernel
theorem dX12_thrown_1 : decode cX12_thrown 1 = .ok (.getfield 1, 3) := by decide +kernel
theorem dX12_thrown_4 : decode cX12_thrown 4 = .ok (.ireturn, 1) := by decide +kernel
theorem dX12_throwsIf_0 : decode cX12_throwsIf 0 = .ok (.aload_n 0, 1) := by decide +kernel
theorem dX12_throwsIf_1 : decode cX12_throwsIf 1 = .ok (.iload_n 1, 1) := by decide +kernel
theorem dX12_throwsIf_2 : decode cX12_throwsIf 2 = .ok (.ifCond .eq 7, 3) := by decide +kernel
theorem dX12_throwsIf_5 : decode cX12_throwsIf 5 = .ok (.iconst 1, 1) := by decide +kernel
theorem dX12_throwsIf_6 : decode cX12_throwsIf 6 = .ok (.goto 4, 3) := by decide +kernel
theorem dX12_throwsIf_9 : decode cX12_throwsIf 9 = .ok (.iconst 0, 1) := by decide +kernel
theorem dX12_throwsIf_10 : decode cX12_throwsIf 10 = .ok (.putfield 1, 3) := by decide +kernel
theorem dX12_throwsIf_13 : decode cX12_throwsIf 13 = .ok (.iload_n 1, 1) := by decide +kernel
theorem dX12_throwsIf_14 : decode cX12_throwsIf 14 = .ok (.ireturn, 1) := by decide +kernel
theorem dX12_feed_0 : decode cX12_feed 0 = .ok (.aload_n 0, 1) := by decide +kernel
theorem dX12_feed_1 : decode cX12_feed 1 = .ok (.iconst 0, 1) := by decide +kernel
theorem dX12_feed_2 : decode cX12_feed 2 = .ok (.putfield 1, 3) := by decide +kernel
theorem dX12_feed_5 : decode cX12_feed 5 = .ok (.aload_n 0, 1) := by decide +kernel
theorem dX12_feed_6 : decode cX12_feed 6 = .ok (.getfield 7, 3) := by decide +kernel
theorem dX12_feed_9 : decode cX12_feed 9 = .ok (.bipush 20, 2) := by decide +kernel
theorem dX12_feed_11 : decode cX12_feed 11 = .ok (.iadd, 1) := by decide +kernel
theorem dX12_feed_12 : decode cX12_feed 12 = .ok (.sipush 940, 3) := by decide +kernel
theorem dX12_feed_15 : decode cX12_feed 15 = .ok (.if_icmp .le 5, 3) := by decide +kernel
theorem dX12_feed_18 : decode cX12_feed 18 = .ok (.iconst (-1), 1) := by decide +kernel
theorem dX12_feed_19 : decode cX12_feed 19 = .ok (.ireturn, 1) := by decide +kernel
theorem dX12_feed_20 : decode cX12_feed 20 = .ok (.aload_n 0, 1) := by decide +kernel
theorem dX12_feed_21 : decode cX12_feed 21 = .ok (.iload_n 1, 1) := by decide +kernel
theorem dX12_feed_22 : decode cX12_feed 22 = .ok (.invokevirtual 10, 3) := by decide +kernel
theorem dX12_feed_25 : decode cX12_feed 25 = .ok (.aload_n 0, 1) := by decide +kernel
theorem dX12_feed_26 : decode cX12_feed 26 = .ok (.iload_n 2, 1) := by decide +kernel
theorem dX12_feed_27 : decode cX12_feed 27 = .ok (.invokevirtual 10, 3) := by decide +kernel
theorem dX12_feed_30 : decode cX12_feed 30 = .ok (.aload_n 0, 1) := by decide +kernel
theorem dX12_feed_31 : decode cX12_feed 31 = .ok (.iload_n 3, 1) := by decide +kernel
theorem dX12_feed_32 : decode cX12_feed 32 = .ok (.invokevirtual 10, 3) := by decide +kernel
theorem dX12_feed_35 : decode cX12_feed 35 = .ok (.aload_n 0, 1) := by decide +kernel
theorem dX12_feed_36 : decode cX12_feed 36 = .ok (.iload 4, 2) := by decide +kernel
theorem dX12_feed_38 : decode cX12_feed 38 = .ok (.invokevirtual 10, 3) := by decide +kernel
theorem dX12_feed_41 : decode cX12_feed 41 = .ok (.aload_n 0, 1) := by decide +kernel
theorem dX12_feed_42 : decode cX12_feed 42 = .ok (.iload 5, 2) := by decide +kernel
theorem dX12_feed_44 : decode cX12_feed 44 = .ok (.invokevirtual 10, 3) := by decide +kernel
theorem dX12_feed_47 : decode cX12_feed 47 = .ok (.aload_n 0, 1) := by decide +kernel
theorem dX12_feed_48 : decode cX12_feed 48 = .ok (.getfield 7, 3) := by decide +kernel
theorem dX12_feed_51 : decode cX12_feed 51 = .ok (.ireturn, 1) := by decide +kernel
theorem dX12_four_0 : decode cX12_four 0 = .ok (.bipush 24, 2) := by decide +kernel
theorem dX12_four_2 : decode cX12_four 2 = .ok (.istore_n 2, 1) := by decide +kernel
theorem dX12_four_3 : decode cX12_four 3 = .ok (.iload_n 2, 1) := by decide +kernel
theorem dX12_four_4 : decode cX12_four 4 = .ok (.ifCond .lt 32, 3) := by decide +kernel
theorem dX12_four_7 : decode cX12_four 7 = .ok (.aload_n 0, 1) := by decide +kernel
theorem dX12_four_8 : decode cX12_four 8 = .ok (.getfield 14, 3) := by decide +kernel
theorem dX12_four_11 : decode cX12_four 11 = .ok (.aload_n 0, 1) := by decide +kernel
theorem dX12_four_12 : decode cX12_four 12 = .ok (.getfield 7, 3) := by decide +kernel
theorem dX12_four_15 : decode cX12_four 15 = .ok (.iload_n 1, 1) := by decide +kernel
theorem dX12_four_16 : decode cX12_four 16 = .ok (.iload_n 2, 1) := by decide +kernel
theorem dX12_four_17 : decode cX12_four 17 = .ok (.ishr, 1) := by decide +kernel
theorem dX12_four_18 : decode cX12_four 18 = .ok (.i2b, 1) := by decide +kernel
theorem dX12_four_19 : decode cX12_four 19 = .ok (.bastore, 1) := by decide +kernel
theorem dX12_four_20 : decode cX12_four 20 = .ok (.aload_n 0, 1) := by decide +kernel
theorem dX12_four_21 : decode cX12_four 21 = .ok (.dup, 1) := by decide +kernel
theorem dX12_four_22 : decode cX12_four 22 = .ok (.getfield 7, 3) := by decide +kernel
theorem dX12_four_25 : decode cX12_four 25 = .ok (.iconst 1, 1) := by decide +kernel
theorem dX12_four_26 : decode cX12_four 26 = .ok (.iadd, 1) := by decide +kernel
theorem dX12_four_27 : decode cX12_four 27 = .ok (.putfield 7, 3) := by decide +kernel
theorem dX12_four_30 : decode cX12_four 30 = .ok (.iinc 2 (-8), 3) := by decide +kernel
theorem dX12_four_33 : decode cX12_four 33 = .ok (.goto (-30), 3) := by decide +kernel
theorem dX12_four_36 : decode cX12_four 36 = .ok (.return_, 1) := by decide +kernel
theorem dX12_end_0 : decode cX12_end 0 = .ok (.aload_n 0, 1) := by decide +kernel
theorem dX12_end_1 : decode cX12_end 1 = .ok (.iconst 0, 1) := by decide +kernel
theorem dX12_end_2 : decode cX12_end 2 = .ok (.putfield 1, 3) := by decide +kernel
theorem dX12_end_5 : decode cX12_end 5 = .ok (.iload_n 1, 1) := by decide +kernel
theorem dX12_end_6 : decode cX12_end 6 = .ok (.ifCond .lt 11, 3) := by decide +kernel
theorem dX12_end_9 : decode cX12_end 9 = .ok (.iload_n 1, 1) := by decide +kernel
theorem dX12_end_10 : decode cX12_end 10 = .ok (.aload_n 0, 1) := by decide +kernel
theorem dX12_end_11 : decode cX12_end 11 = .ok (.getfield 7, 3) := by decide +kernel
theorem dX12_end_14 : decode cX12_end 14 = .ok (.if_icmp .le 5, 3) := by decide +kernel
theorem dX12_end_17 : decode cX12_end 17 = .ok (.iconst 0, 1) := by decide +kernel
theorem dX12_end_18 : decode cX12_end 18 = .ok (.ireturn, 1) := by decide +kernel
theorem dX12_end_19 : decode cX12_end 19 = .ok (.aload_n 0, 1) := by decide +kernel
theorem dX12_end_20 : decode cX12_end 20 = .ok (.iload_n 1, 1) := by decide +kernel
theorem dX12_end_21 : decode cX12_end 21 = .ok (.putfield 7, 3) := by decide +kernel
theorem dX12_end_24 : decode cX12_end 24 = .ok (.iconst 1, 1) := by decide +kernel
theorem dX12_end_25 : decode cX12_end 25 = .ok (.ireturn, 1) := by decide +kernel
theorem dX12_taken_0 : decode cX12_taken 0 = .ok (.aload_n 0, 1) := by decide +kernel
theorem dX12_taken_1 : decode cX12_taken 1 = .ok (.aload_n 0, 1) := by decide +kernel
theorem dX12_taken_2 : decode cX12_taken 2 = .ok (.getfield 7, 3) := by decide +kernel
theorem dX12_taken_5 : decode cX12_taken 5 = .ok (.putfield 18, 3) := by decide +kernel
theorem dX12_taken_8 : decode cX12_taken 8 = .ok (.aload_n 0, 1) := by decide +kernel
theorem dX12_taken_9 : decode cX12_taken 9 = .ok (.iconst 0, 1) := by decide +kernel
theorem dX12_taken_10 : decode cX12_taken 10 = .ok (.putfield 7, 3) := by decide +kernel
theorem dX12_taken_13 : decode cX12_taken 13 = .ok (.aload_n 0, 1) := by decide +kernel
theorem dX12_taken_14 : decode cX12_taken 14 = .ok (.iconst 0, 1) := by decide +kernel
theorem dX12_taken_15 : decode cX12_taken 15 = .ok (.putfield 21, 3) := by decide +kernel
theorem dX12_taken_18 : decode cX12_taken 18 = .ok (.aload_n 0, 1) := by decide +kernel
theorem dX12_taken_19 : decode cX12_taken 19 = .ok (.iload_n 1, 1) := by decide +kernel
theorem dX12_taken_20 : decode cX12_taken 20 = .ok (.putfield 24, 3) := by decide +kernel
theorem dX12_taken_23 : decode cX12_taken 23 = .ok (.return_, 1) := by decide +kernel
theorem dX12_isIn_0 : decode cX12_isIn 0 = .ok (.iload_n 0, 1) := by decide +kernel
theorem dX12_isIn_1 : decode cX12_isIn 1 = .ok (.iload_n 1, 1) := by decide +kernel
theorem dX12_isIn_2 : decode cX12_isIn 2 = .ok (.if_icmp .lt 12, 3) := by decide +kernel
theorem dX12_isIn_5 : decode cX12_isIn 5 = .ok (.iload_n 0, 1) := by decide +kernel
theorem dX12_isIn_6 : decode cX12_isIn 6 = .ok (.iload_n 2, 1) := by decide +kernel
theorem dX12_isIn_7 : decode cX12_isIn 7 = .ok (.if_icmp .gt 7, 3) := by decide +kernel
theorem dX12_isIn_10 : decode cX12_isIn 10 = .ok (.iconst 1, 1) := by decide +kernel
theorem dX12_isIn_11 : decode cX12_isIn 11 = .ok (.goto 4, 3) := by decide +kernel
theorem dX12_isIn_14 : decode cX12_isIn 14 = .ok (.iconst 0, 1) := by decide +kernel
theorem dX12_isIn_15 : decode cX12_isIn 15 = .ok (.ireturn, 1) := by decide +kernel
theorem dX12_has_0 : decode cX12_has 0 = .ok (.iload_n 0, 1) := by decide +kernel
theorem dX12_has_1 : decode cX12_has 1 = .ok (.iload_n 1, 1) := by decide +kernel
theorem dX12_has_2 : decode cX12_has 2 = .ok (.ishr, 1) := by decide +kernel
theorem dX12_has_3 : decode cX12_has 3 = .ok (.iconst 1, 1) := by decide +kernel
theorem dX12_has_4 : decode cX12_has 4 = .ok (.iand, 1) := by decide +kernel
theorem dX12_has_5 : decode cX12_has 5 = .ok (.iconst 1, 1) := by decide +kernel
theorem dX12_has_6 : decode cX12_has 6 = .ok (.if_icmp .ne 7, 3) := by decide +kernel
theorem dX12_has_9 : decode cX12_has 9 = .ok (.iconst 1, 1) := by decide +kernel
theorem dX12_has_10 : decode cX12_has 10 = .ok (.goto 4, 3) := by decide +kernel
theorem dX12_has_13 : decode cX12_has 13 = .ok (.iconst 0, 1) := by decide +kernel
theorem dX12_has_14 : decode cX12_has 14 = .ok (.ireturn, 1) := by decide +kernel
theorem dX12_many_0 : decode cX12_many 0 = .ok (.iconst 0, 1) := by decide +kernel
theorem dX12_many_1 : decode cX12_many 1 = .ok (.istore_n 1, 1) := by decide +kernel
theorem dX12_many_2 : decode cX12_many 2 = .ok (.iload_n 0, 1) := by decide +kernel
theorem dX12_many_3 : decode cX12_many 3 = .ok (.istore_n 2, 1) := by decide +kernel
theorem dX12_many_4 : decode cX12_many 4 = .ok (.iload_n 2, 1) := by decide +kernel
theorem dX12_many_5 : decode cX12_many 5 = .ok (.ifCond .eq 15, 3) := by decide +kernel
theorem dX12_many_8 : decode cX12_many 8 = .ok (.iinc 1 1, 3) := by decide +kernel
theorem dX12_many_11 : decode cX12_many 11 = .ok (.iload_n 2, 1) := by decide +kernel
theorem dX12_many_12 : decode cX12_many 12 = .ok (.iload_n 2, 1) := by decide +kernel
theorem dX12_many_13 : decode cX12_many 13 = .ok (.iconst 1, 1) := by decide +kernel
theorem dX12_many_14 : decode cX12_many 14 = .ok (.isub, 1) := by decide +kernel
theorem dX12_many_15 : decode cX12_many 15 = .ok (.iand, 1) := by decide +kernel
theorem dX12_many_16 : decode cX12_many 16 = .ok (.istore_n 2, 1) := by decide +kernel
theorem dX12_many_17 : decode cX12_many 17 = .ok (.goto (-13), 3) := by decide +kernel
theorem dX12_many_20 : decode cX12_many 20 = .ok (.iload_n 1, 1) := by decide +kernel
theorem dX12_many_21 : decode cX12_many 21 = .ok (.ireturn, 1) := by decide +kernel
theorem dX12_up_0 : decode cX12_up 0 = .ok (.iload_n 0, 1) := by decide +kernel
theorem dX12_up_1 : decode cX12_up 1 = .ok (.iload_n 1, 1) := by decide +kernel
theorem dX12_up_2 : decode cX12_up 2 = .ok (.imul, 1) := by decide +kernel
theorem dX12_up_3 : decode cX12_up 3 = .ok (.bipush 9, 2) := by decide +kernel
theorem dX12_up_5 : decode cX12_up 5 = .ok (.iadd, 1) := by decide +kernel
theorem dX12_up_6 : decode cX12_up 6 = .ok (.bipush 10, 2) := by decide +kernel
theorem dX12_up_8 : decode cX12_up 8 = .ok (.idiv, 1) := by decide +kernel
theorem dX12_up_9 : decode cX12_up 9 = .ok (.ireturn, 1) := by decide +kernel
theorem dX12_octet_0 : decode cX12_octet 0 = .ok (.aload_n 0, 1) := by decide +kernel
theorem dX12_octet_1 : decode cX12_octet 1 = .ok (.getfield 14, 3) := by decide +kernel
theorem dX12_octet_4 : decode cX12_octet 4 = .ok (.iload_n 1, 1) := by decide +kernel
theorem dX12_octet_5 : decode cX12_octet 5 = .ok (.baload, 1) := by decide +kernel
theorem dX12_octet_6 : decode cX12_octet 6 = .ok (.sipush 255, 3) := by decide +kernel
theorem dX12_octet_9 : decode cX12_octet 9 = .ok (.iand, 1) := by decide +kernel
theorem dX12_octet_10 : decode cX12_octet 10 = .ok (.ireturn, 1) := by decide +kernel
theorem dX12_init_0 : decode cX12_init 0 = .ok (.aload_n 0, 1) := by decide +kernel
theorem dX12_init_1 : decode cX12_init 1 = .ok (.invokespecial 27, 3) := by decide +kernel
theorem dX12_init_4 : decode cX12_init 4 = .ok (.aload_n 0, 1) := by decide +kernel
theorem dX12_init_5 : decode cX12_init 5 = .ok (.sipush 940, 3) := by decide +kernel
theorem dX12_init_8 : decode cX12_init 8 = .ok (.newarray .byte, 2) := by decide +kernel
theorem dX12_init_10 : decode cX12_init 10 = .ok (.putfield 14, 3) := by decide +kernel
theorem dX12_init_13 : decode cX12_init 13 = .ok (.aload_n 0, 1) := by decide +kernel
theorem dX12_init_14 : decode cX12_init 14 = .ok (.sipush 666, 3) := by decide +kernel
theorem dX12_init_17 : decode cX12_init 17 = .ok (.newarray .int, 2) := by decide +kernel
theorem dX12_init_19 : decode cX12_init 19 = .ok (.putfield 33, 3) := by decide +kernel
theorem dX12_init_22 : decode cX12_init 22 = .ok (.aload_n 0, 1) := by decide +kernel
theorem dX12_init_23 : decode cX12_init 23 = .ok (.sipush 172, 3) := by decide +kernel
theorem dX12_init_26 : decode cX12_init 26 = .ok (.newarray .int, 2) := by decide +kernel
theorem dX12_init_28 : decode cX12_init 28 = .ok (.putfield 37, 3) := by decide +kernel
theorem dX12_init_31 : decode cX12_init 31 = .ok (.aload_n 0, 1) := by decide +kernel
theorem dX12_init_32 : decode cX12_init 32 = .ok (.sipush 300, 3) := by decide +kernel
theorem dX12_init_35 : decode cX12_init 35 = .ok (.newarray .int, 2) := by decide +kernel
theorem dX12_init_37 : decode cX12_init 37 = .ok (.putfield 40, 3) := by decide +kernel
theorem dX12_init_40 : decode cX12_init 40 = .ok (.aload_n 0, 1) := by decide +kernel
theorem dX12_init_41 : decode cX12_init 41 = .ok (.bipush 40, 2) := by decide +kernel
theorem dX12_init_43 : decode cX12_init 43 = .ok (.newarray .long, 2) := by decide +kernel
theorem dX12_init_45 : decode cX12_init 45 = .ok (.putfield 43, 3) := by decide +kernel
theorem dX12_init_48 : decode cX12_init 48 = .ok (.aload_n 0, 1) := by decide +kernel
theorem dX12_init_49 : decode cX12_init 49 = .ok (.bipush 26, 2) := by decide +kernel
theorem dX12_init_51 : decode cX12_init 51 = .ok (.newarray .long, 2) := by decide +kernel
theorem dX12_init_53 : decode cX12_init 53 = .ok (.putfield 47, 3) := by decide +kernel
theorem dX12_init_56 : decode cX12_init 56 = .ok (.aload_n 0, 1) := by decide +kernel
theorem dX12_init_57 : decode cX12_init 57 = .ok (.bipush 8, 2) := by decide +kernel
theorem dX12_init_59 : decode cX12_init 59 = .ok (.newarray .int, 2) := by decide +kernel
theorem dX12_init_61 : decode cX12_init 61 = .ok (.putfield 50, 3) := by decide +kernel
theorem dX12_init_64 : decode cX12_init 64 = .ok (.aload_n 0, 1) := by decide +kernel
theorem dX12_init_65 : decode cX12_init 65 = .ok (.bipush 60, 2) := by decide +kernel
theorem dX12_init_67 : decode cX12_init 67 = .ok (.newarray .int, 2) := by decide +kernel
theorem dX12_init_69 : decode cX12_init 69 = .ok (.putfield 53, 3) := by decide +kernel
theorem dX12_init_72 : decode cX12_init 72 = .ok (.aload_n 0, 1) := by decide +kernel
theorem dX12_init_73 : decode cX12_init 73 = .ok (.bipush 60, 2) := by decide +kernel
theorem dX12_init_75 : decode cX12_init 75 = .ok (.newarray .int, 2) := by decide +kernel
theorem dX12_init_77 : decode cX12_init 77 = .ok (.putfield 56, 3) := by decide +kernel
theorem dX12_init_80 : decode cX12_init 80 = .ok (.aload_n 0, 1) := by decide +kernel
theorem dX12_init_81 : decode cX12_init 81 = .ok (.bipush 120, 2) := by decide +kernel
theorem dX12_init_83 : decode cX12_init 83 = .ok (.newarray .int, 2) := by decide +kernel
theorem dX12_init_85 : decode cX12_init 85 = .ok (.putfield 59, 3) := by decide +kernel
theorem dX12_init_88 : decode cX12_init 88 = .ok (.aload_n 0, 1) := by decide +kernel
theorem dX12_init_89 : decode cX12_init 89 = .ok (.bipush 8, 2) := by decide +kernel
theorem dX12_init_91 : decode cX12_init 91 = .ok (.newarray .int, 2) := by decide +kernel
theorem dX12_init_93 : decode cX12_init 93 = .ok (.putfield 62, 3) := by decide +kernel
theorem dX12_init_96 : decode cX12_init 96 = .ok (.aload_n 0, 1) := by decide +kernel
theorem dX12_init_97 : decode cX12_init 97 = .ok (.bipush 96, 2) := by decide +kernel
theorem dX12_init_99 : decode cX12_init 99 = .ok (.newarray .int, 2) := by decide +kernel
theorem dX12_init_101 : decode cX12_init 101 = .ok (.putfield 65, 3) := by decide +kernel
theorem dX12_init_104 : decode cX12_init 104 = .ok (.aload_n 0, 1) := by decide +kernel
theorem dX12_init_105 : decode cX12_init 105 = .ok (.bipush 8, 2) := by decide +kernel
theorem dX12_init_107 : decode cX12_init 107 = .ok (.newarray .int, 2) := by decide +kernel
theorem dX12_init_109 : decode cX12_init 109 = .ok (.putfield 68, 3) := by decide +kernel
theorem dX12_init_112 : decode cX12_init 112 = .ok (.aload_n 0, 1) := by decide +kernel
theorem dX12_init_113 : decode cX12_init 113 = .ok (.bipush 8, 2) := by decide +kernel
theorem dX12_init_115 : decode cX12_init 115 = .ok (.newarray .int, 2) := by decide +kernel
theorem dX12_init_117 : decode cX12_init 117 = .ok (.putfield 71, 3) := by decide +kernel
theorem dX12_init_120 : decode cX12_init 120 = .ok (.aload_n 0, 1) := by decide +kernel
theorem dX12_init_121 : decode cX12_init 121 = .ok (.bipush 60, 2) := by decide +kernel
theorem dX12_init_123 : decode cX12_init 123 = .ok (.newarray .int, 2) := by decide +kernel
theorem dX12_init_125 : decode cX12_init 125 = .ok (.putfield 74, 3) := by decide +kernel
theorem dX12_init_128 : decode cX12_init 128 = .ok (.aload_n 0, 1) := by decide +kernel
theorem dX12_init_129 : decode cX12_init 129 = .ok (.sipush 420, 3) := by decide +kernel
theorem dX12_init_132 : decode cX12_init 132 = .ok (.newarray .int, 2) := by decide +kernel
theorem dX12_init_134 : decode cX12_init 134 = .ok (.putfield 77, 3) := by decide +kernel
theorem dX12_init_137 : decode cX12_init 137 = .ok (.aload_n 0, 1) := by decide +kernel
theorem dX12_init_138 : decode cX12_init 138 = .ok (.sipush 420, 3) := by decide +kernel
theorem dX12_init_141 : decode cX12_init 141 = .ok (.newarray .int, 2) := by decide +kernel
theorem dX12_init_143 : decode cX12_init 143 = .ok (.putfield 80, 3) := by decide +kernel
theorem dX12_init_146 : decode cX12_init 146 = .ok (.aload_n 0, 1) := by decide +kernel
theorem dX12_init_147 : decode cX12_init 147 = .ok (.sipush 420, 3) := by decide +kernel
theorem dX12_init_150 : decode cX12_init 150 = .ok (.newarray .int, 2) := by decide +kernel
theorem dX12_init_152 : decode cX12_init 152 = .ok (.putfield 83, 3) := by decide +kernel
theorem dX12_init_155 : decode cX12_init 155 = .ok (.aload_n 0, 1) := by decide +kernel
theorem dX12_init_156 : decode cX12_init 156 = .ok (.sipush 420, 3) := by decide +kernel
theorem dX12_init_159 : decode cX12_init 159 = .ok (.newarray .int, 2) := by decide +kernel
theorem dX12_init_161 : decode cX12_init 161 = .ok (.putfield 86, 3) := by decide +kernel
theorem dX12_init_164 : decode cX12_init 164 = .ok (.aload_n 0, 1) := by decide +kernel
theorem dX12_init_165 : decode cX12_init 165 = .ok (.sipush 420, 3) := by decide +kernel
theorem dX12_init_168 : decode cX12_init 168 = .ok (.newarray .int, 2) := by decide +kernel
theorem dX12_init_170 : decode cX12_init 170 = .ok (.putfield 89, 3) := by decide +kernel
theorem dX12_init_173 : decode cX12_init 173 = .ok (.aload_n 0, 1) := by decide +kernel
theorem dX12_init_174 : decode cX12_init 174 = .ok (.sipush 420, 3) := by decide +kernel
theorem dX12_init_177 : decode cX12_init 177 = .ok (.newarray .int, 2) := by decide +kernel
theorem dX12_init_179 : decode cX12_init 179 = .ok (.putfield 92, 3) := by decide +kernel
theorem dX12_init_182 : decode cX12_init 182 = .ok (.aload_n 0, 1) := by decide +kernel
theorem dX12_init_183 : decode cX12_init 183 = .ok (.sipush 420, 3) := by decide +kernel
theorem dX12_init_186 : decode cX12_init 186 = .ok (.newarray .int, 2) := by decide +kernel
theorem dX12_init_188 : decode cX12_init 188 = .ok (.putfield 95, 3) := by decide +kernel
theorem dX12_init_191 : decode cX12_init 191 = .ok (.aload_n 0, 1) := by decide +kernel
theorem dX12_init_192 : decode cX12_init 192 = .ok (.sipush 420, 3) := by decide +kernel
theorem dX12_init_195 : decode cX12_init 195 = .ok (.newarray .int, 2) := by decide +kernel
theorem dX12_init_197 : decode cX12_init 197 = .ok (.putfield 98, 3) := by decide +kernel
theorem dX12_init_200 : decode cX12_init 200 = .ok (.aload_n 0, 1) := by decide +kernel
theorem dX12_init_201 : decode cX12_init 201 = .ok (.sipush 420, 3) := by decide +kernel
theorem dX12_init_204 : decode cX12_init 204 = .ok (.newarray .int, 2) := by decide +kernel
theorem dX12_init_206 : decode cX12_init 206 = .ok (.putfield 101, 3) := by decide +kernel
theorem dX12_init_209 : decode cX12_init 209 = .ok (.aload_n 0, 1) := by decide +kernel
theorem dX12_init_210 : decode cX12_init 210 = .ok (.sipush 420, 3) := by decide +kernel
theorem dX12_init_213 : decode cX12_init 213 = .ok (.newarray .int, 2) := by decide +kernel
theorem dX12_init_215 : decode cX12_init 215 = .ok (.putfield 104, 3) := by decide +kernel
theorem dX12_init_218 : decode cX12_init 218 = .ok (.aload_n 0, 1) := by decide +kernel
theorem dX12_init_219 : decode cX12_init 219 = .ok (.ldc 107, 2) := by decide +kernel
theorem dX12_init_221 : decode cX12_init 221 = .ok (.newarray .int, 2) := by decide +kernel
theorem dX12_init_223 : decode cX12_init 223 = .ok (.putfield 108, 3) := by decide +kernel
theorem dX12_init_226 : decode cX12_init 226 = .ok (.aload_n 0, 1) := by decide +kernel
theorem dX12_init_227 : decode cX12_init 227 = .ok (.bipush 8, 2) := by decide +kernel
theorem dX12_init_229 : decode cX12_init 229 = .ok (.newarray .int, 2) := by decide +kernel
theorem dX12_init_231 : decode cX12_init 231 = .ok (.putfield 111, 3) := by decide +kernel
theorem dX12_init_234 : decode cX12_init 234 = .ok (.aload_n 0, 1) := by decide +kernel
theorem dX12_init_235 : decode cX12_init 235 = .ok (.bipush 8, 2) := by decide +kernel
theorem dX12_init_237 : decode cX12_init 237 = .ok (.newarray .int, 2) := by decide +kernel
theorem dX12_init_239 : decode cX12_init 239 = .ok (.putfield 114, 3) := by decide +kernel
theorem dX12_init_242 : decode cX12_init 242 = .ok (.aload_n 0, 1) := by decide +kernel
theorem dX12_init_243 : decode cX12_init 243 = .ok (.sipush 421, 3) := by decide +kernel
theorem dX12_init_246 : decode cX12_init 246 = .ok (.newarray .int, 2) := by decide +kernel
theorem dX12_init_248 : decode cX12_init 248 = .ok (.putfield 117, 3) := by decide +kernel
theorem dX12_init_251 : decode cX12_init 251 = .ok (.aload_n 0, 1) := by decide +kernel
theorem dX12_init_252 : decode cX12_init 252 = .ok (.bipush 13, 2) := by decide +kernel
theorem dX12_init_254 : decode cX12_init 254 = .ok (.newarray .int, 2) := by decide +kernel
theorem dX12_init_256 : decode cX12_init 256 = .ok (.putfield 120, 3) := by decide +kernel
theorem dX12_init_259 : decode cX12_init 259 = .ok (.aload_n 0, 1) := by decide +kernel
theorem dX12_init_260 : decode cX12_init 260 = .ok (.iconst 5, 1) := by decide +kernel
theorem dX12_init_261 : decode cX12_init 261 = .ok (.newarray .int, 2) := by decide +kernel
theorem dX12_init_263 : decode cX12_init 263 = .ok (.putfield 123, 3) := by decide +kernel
theorem dX12_init_266 : decode cX12_init 266 = .ok (.aload_n 0, 1) := by decide +kernel
theorem dX12_init_267 : decode cX12_init 267 = .ok (.iconst 5, 1) := by decide +kernel
theorem dX12_init_268 : decode cX12_init 268 = .ok (.newarray .int, 2) := by decide +kernel
theorem dX12_init_270 : decode cX12_init 270 = .ok (.putfield 126, 3) := by decide +kernel
theorem dX12_init_273 : decode cX12_init 273 = .ok (.aload_n 0, 1) := by decide +kernel
theorem dX12_init_274 : decode cX12_init 274 = .ok (.bipush 15, 2) := by decide +kernel
theorem dX12_init_276 : decode cX12_init 276 = .ok (.newarray .int, 2) := by decide +kernel
theorem dX12_init_278 : decode cX12_init 278 = .ok (.putfield 129, 3) := by decide +kernel
theorem dX12_init_281 : decode cX12_init 281 = .ok (.aload_n 0, 1) := by decide +kernel
theorem dX12_init_282 : decode cX12_init 282 = .ok (.iconst 4, 1) := by decide +kernel
theorem dX12_init_283 : decode cX12_init 283 = .ok (.newarray .int, 2) := by decide +kernel
theorem dX12_init_285 : decode cX12_init 285 = .ok (.putfield 132, 3) := by decide +kernel
theorem dX12_init_288 : decode cX12_init 288 = .ok (.aload_n 0, 1) := by decide +kernel
theorem dX12_init_289 : decode cX12_init 289 = .ok (.iconst 4, 1) := by decide +kernel
theorem dX12_init_290 : decode cX12_init 290 = .ok (.newarray .int, 2) := by decide +kernel
theorem dX12_init_292 : decode cX12_init 292 = .ok (.putfield 135, 3) := by decide +kernel
theorem dX12_init_295 : decode cX12_init 295 = .ok (.aload_n 0, 1) := by decide +kernel
theorem dX12_init_296 : decode cX12_init 296 = .ok (.sipush 192, 3) := by decide +kernel
theorem dX12_init_299 : decode cX12_init 299 = .ok (.newarray .int, 2) := by decide +kernel
theorem dX12_init_301 : decode cX12_init 301 = .ok (.putfield 138, 3) := by decide +kernel
theorem dX12_init_304 : decode cX12_init 304 = .ok (.aload_n 0, 1) := by decide +kernel
theorem dX12_init_305 : decode cX12_init 305 = .ok (.bipush 30, 2) := by decide +kernel
theorem dX12_init_307 : decode cX12_init 307 = .ok (.newarray .int, 2) := by decide +kernel
theorem dX12_init_309 : decode cX12_init 309 = .ok (.putfield 141, 3) := by decide +kernel
theorem dX12_init_312 : decode cX12_init 312 = .ok (.aload_n 0, 1) := by decide +kernel
theorem dX12_init_313 : decode cX12_init 313 = .ok (.bipush 64, 2) := by decide +kernel
theorem dX12_init_315 : decode cX12_init 315 = .ok (.newarray .boolean, 2) := by decide +kernel
theorem dX12_init_317 : decode cX12_init 317 = .ok (.putfield 144, 3) := by decide +kernel
theorem dX12_init_320 : decode cX12_init 320 = .ok (.aload_n 0, 1) := by decide +kernel
theorem dX12_init_321 : decode cX12_init 321 = .ok (.sipush 1332, 3) := by decide +kernel
theorem dX12_init_324 : decode cX12_init 324 = .ok (.newarray .int, 2) := by decide +kernel
theorem dX12_init_326 : decode cX12_init 326 = .ok (.putfield 148, 3) := by decide +kernel
theorem dX12_init_329 : decode cX12_init 329 = .ok (.aload_n 0, 1) := by decide +kernel
theorem dX12_init_330 : decode cX12_init 330 = .ok (.bipush 40, 2) := by decide +kernel
theorem dX12_init_332 : decode cX12_init 332 = .ok (.newarray .long, 2) := by decide +kernel
theorem dX12_init_334 : decode cX12_init 334 = .ok (.putfield 151, 3) := by decide +kernel
theorem dX12_init_337 : decode cX12_init 337 = .ok (.aload_n 0, 1) := by decide +kernel
theorem dX12_init_338 : decode cX12_init 338 = .ok (.iconst 2, 1) := by decide +kernel
theorem dX12_init_339 : decode cX12_init 339 = .ok (.newarray .boolean, 2) := by decide +kernel
theorem dX12_init_341 : decode cX12_init 341 = .ok (.putfield 154, 3) := by decide +kernel
theorem dX12_init_344 : decode cX12_init 344 = .ok (.aload_n 0, 1) := by decide +kernel
theorem dX12_init_345 : decode cX12_init 345 = .ok (.getfield 47, 3) := by decide +kernel
theorem dX12_init_348 : decode cX12_init 348 = .ok (.iconst 0, 1) := by decide +kernel
theorem dX12_init_349 : decode cX12_init 349 = .ok (.ldc2_w 157, 3) := by decide +kernel
theorem dX12_init_352 : decode cX12_init 352 = .ok (.lastore, 1) := by decide +kernel
theorem dX12_init_353 : decode cX12_init 353 = .ok (.aload_n 0, 1) := by decide +kernel
theorem dX12_init_354 : decode cX12_init 354 = .ok (.getfield 47, 3) := by decide +kernel
theorem dX12_init_357 : decode cX12_init 357 = .ok (.iconst 1, 1) := by decide +kernel
theorem dX12_init_358 : decode cX12_init 358 = .ok (.ldc2_w 159, 3) := by decide +kernel
theorem dX12_init_361 : decode cX12_init 361 = .ok (.lastore, 1) := by decide +kernel
theorem dX12_init_362 : decode cX12_init 362 = .ok (.aload_n 0, 1) := by decide +kernel
theorem dX12_init_363 : decode cX12_init 363 = .ok (.getfield 47, 3) := by decide +kernel
theorem dX12_init_366 : decode cX12_init 366 = .ok (.iconst 2, 1) := by decide +kernel
theorem dX12_init_367 : decode cX12_init 367 = .ok (.ldc2_w 161, 3) := by decide +kernel
theorem dX12_init_370 : decode cX12_init 370 = .ok (.lastore, 1) := by decide +kernel
theorem dX12_init_371 : decode cX12_init 371 = .ok (.aload_n 0, 1) := by decide +kernel
theorem dX12_init_372 : decode cX12_init 372 = .ok (.getfield 47, 3) := by decide +kernel
theorem dX12_init_375 : decode cX12_init 375 = .ok (.iconst 3, 1) := by decide +kernel
theorem dX12_init_376 : decode cX12_init 376 = .ok (.ldc2_w 163, 3) := by decide +kernel
theorem dX12_init_379 : decode cX12_init 379 = .ok (.lastore, 1) := by decide +kernel
theorem dX12_init_380 : decode cX12_init 380 = .ok (.aload_n 0, 1) := by decide +kernel
theorem dX12_init_381 : decode cX12_init 381 = .ok (.getfield 47, 3) := by decide +kernel
theorem dX12_init_384 : decode cX12_init 384 = .ok (.iconst 4, 1) := by decide +kernel
theorem dX12_init_385 : decode cX12_init 385 = .ok (.ldc2_w 165, 3) := by decide +kernel
theorem dX12_init_388 : decode cX12_init 388 = .ok (.lastore, 1) := by decide +kernel
theorem dX12_init_389 : decode cX12_init 389 = .ok (.aload_n 0, 1) := by decide +kernel
theorem dX12_init_390 : decode cX12_init 390 = .ok (.getfield 47, 3) := by decide +kernel
theorem dX12_init_393 : decode cX12_init 393 = .ok (.iconst 5, 1) := by decide +kernel
theorem dX12_init_394 : decode cX12_init 394 = .ok (.ldc2_w 167, 3) := by decide +kernel
theorem dX12_init_397 : decode cX12_init 397 = .ok (.lastore, 1) := by decide +kernel
theorem dX12_init_398 : decode cX12_init 398 = .ok (.aload_n 0, 1) := by decide +kernel
theorem dX12_init_399 : decode cX12_init 399 = .ok (.getfield 47, 3) := by decide +kernel
theorem dX12_init_402 : decode cX12_init 402 = .ok (.bipush 6, 2) := by decide +kernel
theorem dX12_init_404 : decode cX12_init 404 = .ok (.ldc2_w 169, 3) := by decide +kernel
theorem dX12_init_407 : decode cX12_init 407 = .ok (.lastore, 1) := by decide +kernel
theorem dX12_init_408 : decode cX12_init 408 = .ok (.aload_n 0, 1) := by decide +kernel
theorem dX12_init_409 : decode cX12_init 409 = .ok (.getfield 47, 3) := by decide +kernel
theorem dX12_init_412 : decode cX12_init 412 = .ok (.bipush 7, 2) := by decide +kernel
theorem dX12_init_414 : decode cX12_init 414 = .ok (.ldc2_w 171, 3) := by decide +kernel
theorem dX12_init_417 : decode cX12_init 417 = .ok (.lastore, 1) := by decide +kernel
theorem dX12_init_418 : decode cX12_init 418 = .ok (.aload_n 0, 1) := by decide +kernel
theorem dX12_init_419 : decode cX12_init 419 = .ok (.getfield 47, 3) := by decide +kernel
theorem dX12_init_422 : decode cX12_init 422 = .ok (.bipush 8, 2) := by decide +kernel
theorem dX12_init_424 : decode cX12_init 424 = .ok (.ldc2_w 173, 3) := by decide +kernel
theorem dX12_init_427 : decode cX12_init 427 = .ok (.lastore, 1) := by decide +kernel
theorem dX12_init_428 : decode cX12_init 428 = .ok (.aload_n 0, 1) := by decide +kernel
theorem dX12_init_429 : decode cX12_init 429 = .ok (.getfield 47, 3) := by decide +kernel
theorem dX12_init_432 : decode cX12_init 432 = .ok (.bipush 9, 2) := by decide +kernel
theorem dX12_init_434 : decode cX12_init 434 = .ok (.ldc2_w 175, 3) := by decide +kernel
theorem dX12_init_437 : decode cX12_init 437 = .ok (.lastore, 1) := by decide +kernel
theorem dX12_init_438 : decode cX12_init 438 = .ok (.aload_n 0, 1) := by decide +kernel
theorem dX12_init_439 : decode cX12_init 439 = .ok (.getfield 47, 3) := by decide +kernel
theorem dX12_init_442 : decode cX12_init 442 = .ok (.bipush 10, 2) := by decide +kernel
theorem dX12_init_444 : decode cX12_init 444 = .ok (.ldc2_w 177, 3) := by decide +kernel
theorem dX12_init_447 : decode cX12_init 447 = .ok (.lastore, 1) := by decide +kernel
theorem dX12_init_448 : decode cX12_init 448 = .ok (.aload_n 0, 1) := by decide +kernel
theorem dX12_init_449 : decode cX12_init 449 = .ok (.getfield 47, 3) := by decide +kernel
theorem dX12_init_452 : decode cX12_init 452 = .ok (.bipush 11, 2) := by decide +kernel
theorem dX12_init_454 : decode cX12_init 454 = .ok (.ldc2_w 179, 3) := by decide +kernel
theorem dX12_init_457 : decode cX12_init 457 = .ok (.lastore, 1) := by decide +kernel
theorem dX12_init_458 : decode cX12_init 458 = .ok (.aload_n 0, 1) := by decide +kernel
theorem dX12_init_459 : decode cX12_init 459 = .ok (.getfield 47, 3) := by decide +kernel
theorem dX12_init_462 : decode cX12_init 462 = .ok (.bipush 12, 2) := by decide +kernel
theorem dX12_init_464 : decode cX12_init 464 = .ok (.ldc2_w 181, 3) := by decide +kernel
theorem dX12_init_467 : decode cX12_init 467 = .ok (.lastore, 1) := by decide +kernel
theorem dX12_init_468 : decode cX12_init 468 = .ok (.aload_n 0, 1) := by decide +kernel
theorem dX12_init_469 : decode cX12_init 469 = .ok (.getfield 47, 3) := by decide +kernel
theorem dX12_init_472 : decode cX12_init 472 = .ok (.bipush 13, 2) := by decide +kernel
theorem dX12_init_474 : decode cX12_init 474 = .ok (.ldc2_w 183, 3) := by decide +kernel
theorem dX12_init_477 : decode cX12_init 477 = .ok (.lastore, 1) := by decide +kernel
theorem dX12_init_478 : decode cX12_init 478 = .ok (.aload_n 0, 1) := by decide +kernel
theorem dX12_init_479 : decode cX12_init 479 = .ok (.getfield 47, 3) := by decide +kernel
theorem dX12_init_482 : decode cX12_init 482 = .ok (.bipush 14, 2) := by decide +kernel
theorem dX12_init_484 : decode cX12_init 484 = .ok (.ldc2_w 185, 3) := by decide +kernel
theorem dX12_init_487 : decode cX12_init 487 = .ok (.lastore, 1) := by decide +kernel
theorem dX12_init_488 : decode cX12_init 488 = .ok (.aload_n 0, 1) := by decide +kernel
theorem dX12_init_489 : decode cX12_init 489 = .ok (.getfield 47, 3) := by decide +kernel
theorem dX12_init_492 : decode cX12_init 492 = .ok (.bipush 15, 2) := by decide +kernel
theorem dX12_init_494 : decode cX12_init 494 = .ok (.ldc2_w 187, 3) := by decide +kernel
theorem dX12_init_497 : decode cX12_init 497 = .ok (.lastore, 1) := by decide +kernel
theorem dX12_init_498 : decode cX12_init 498 = .ok (.aload_n 0, 1) := by decide +kernel
theorem dX12_init_499 : decode cX12_init 499 = .ok (.getfield 47, 3) := by decide +kernel
theorem dX12_init_502 : decode cX12_init 502 = .ok (.bipush 16, 2) := by decide +kernel
theorem dX12_init_504 : decode cX12_init 504 = .ok (.ldc2_w 189, 3) := by decide +kernel
theorem dX12_init_507 : decode cX12_init 507 = .ok (.lastore, 1) := by decide +kernel
theorem dX12_init_508 : decode cX12_init 508 = .ok (.aload_n 0, 1) := by decide +kernel
theorem dX12_init_509 : decode cX12_init 509 = .ok (.getfield 47, 3) := by decide +kernel
theorem dX12_init_512 : decode cX12_init 512 = .ok (.bipush 17, 2) := by decide +kernel
theorem dX12_init_514 : decode cX12_init 514 = .ok (.ldc2_w 191, 3) := by decide +kernel
theorem dX12_init_517 : decode cX12_init 517 = .ok (.lastore, 1) := by decide +kernel
theorem dX12_init_518 : decode cX12_init 518 = .ok (.aload_n 0, 1) := by decide +kernel
theorem dX12_init_519 : decode cX12_init 519 = .ok (.getfield 47, 3) := by decide +kernel
theorem dX12_init_522 : decode cX12_init 522 = .ok (.bipush 18, 2) := by decide +kernel
theorem dX12_init_524 : decode cX12_init 524 = .ok (.ldc2_w 193, 3) := by decide +kernel
theorem dX12_init_527 : decode cX12_init 527 = .ok (.lastore, 1) := by decide +kernel
theorem dX12_init_528 : decode cX12_init 528 = .ok (.aload_n 0, 1) := by decide +kernel
theorem dX12_init_529 : decode cX12_init 529 = .ok (.getfield 47, 3) := by decide +kernel
theorem dX12_init_532 : decode cX12_init 532 = .ok (.bipush 19, 2) := by decide +kernel
theorem dX12_init_534 : decode cX12_init 534 = .ok (.ldc2_w 195, 3) := by decide +kernel
theorem dX12_init_537 : decode cX12_init 537 = .ok (.lastore, 1) := by decide +kernel
theorem dX12_init_538 : decode cX12_init 538 = .ok (.aload_n 0, 1) := by decide +kernel
theorem dX12_init_539 : decode cX12_init 539 = .ok (.getfield 47, 3) := by decide +kernel
theorem dX12_init_542 : decode cX12_init 542 = .ok (.bipush 20, 2) := by decide +kernel
theorem dX12_init_544 : decode cX12_init 544 = .ok (.ldc2_w 197, 3) := by decide +kernel
theorem dX12_init_547 : decode cX12_init 547 = .ok (.lastore, 1) := by decide +kernel
theorem dX12_init_548 : decode cX12_init 548 = .ok (.aload_n 0, 1) := by decide +kernel
theorem dX12_init_549 : decode cX12_init 549 = .ok (.getfield 47, 3) := by decide +kernel
theorem dX12_init_552 : decode cX12_init 552 = .ok (.bipush 21, 2) := by decide +kernel
theorem dX12_init_554 : decode cX12_init 554 = .ok (.ldc2_w 199, 3) := by decide +kernel
theorem dX12_init_557 : decode cX12_init 557 = .ok (.lastore, 1) := by decide +kernel
theorem dX12_init_558 : decode cX12_init 558 = .ok (.aload_n 0, 1) := by decide +kernel
theorem dX12_init_559 : decode cX12_init 559 = .ok (.getfield 47, 3) := by decide +kernel
theorem dX12_init_562 : decode cX12_init 562 = .ok (.bipush 22, 2) := by decide +kernel
theorem dX12_init_564 : decode cX12_init 564 = .ok (.ldc2_w 201, 3) := by decide +kernel
theorem dX12_init_567 : decode cX12_init 567 = .ok (.lastore, 1) := by decide +kernel
theorem dX12_init_568 : decode cX12_init 568 = .ok (.aload_n 0, 1) := by decide +kernel
theorem dX12_init_569 : decode cX12_init 569 = .ok (.getfield 47, 3) := by decide +kernel
theorem dX12_init_572 : decode cX12_init 572 = .ok (.bipush 23, 2) := by decide +kernel
theorem dX12_init_574 : decode cX12_init 574 = .ok (.ldc2_w 203, 3) := by decide +kernel
theorem dX12_init_577 : decode cX12_init 577 = .ok (.lastore, 1) := by decide +kernel
theorem dX12_init_578 : decode cX12_init 578 = .ok (.aload_n 0, 1) := by decide +kernel
theorem dX12_init_579 : decode cX12_init 579 = .ok (.getfield 47, 3) := by decide +kernel
theorem dX12_init_582 : decode cX12_init 582 = .ok (.bipush 24, 2) := by decide +kernel
theorem dX12_init_584 : decode cX12_init 584 = .ok (.ldc2_w 205, 3) := by decide +kernel
theorem dX12_init_587 : decode cX12_init 587 = .ok (.lastore, 1) := by decide +kernel
theorem dX12_init_588 : decode cX12_init 588 = .ok (.aload_n 0, 1) := by decide +kernel
theorem dX12_init_589 : decode cX12_init 589 = .ok (.getfield 47, 3) := by decide +kernel
theorem dX12_init_592 : decode cX12_init 592 = .ok (.bipush 25, 2) := by decide +kernel
theorem dX12_init_594 : decode cX12_init 594 = .ok (.ldc2_w 207, 3) := by decide +kernel
theorem dX12_init_597 : decode cX12_init 597 = .ok (.lastore, 1) := by decide +kernel
theorem dX12_init_598 : decode cX12_init 598 = .ok (.aload_n 0, 1) := by decide +kernel
theorem dX12_init_599 : decode cX12_init 599 = .ok (.invokevirtual 209, 3) := by decide +kernel
theorem dX12_init_602 : decode cX12_init 602 = .ok (.iconst 0, 1) := by decide +kernel
theorem dX12_init_603 : decode cX12_init 603 = .ok (.istore_n 1, 1) := by decide +kernel
theorem dX12_init_604 : decode cX12_init 604 = .ok (.iload_n 1, 1) := by decide +kernel
theorem dX12_init_605 : decode cX12_init 605 = .ok (.sipush 172, 3) := by decide +kernel
theorem dX12_init_608 : decode cX12_init 608 = .ok (.if_icmp .ge 21, 3) := by decide +kernel
theorem dX12_init_611 : decode cX12_init 611 = .ok (.aload_n 0, 1) := by decide +kernel
theorem dX12_init_612 : decode cX12_init 612 = .ok (.getfield 33, 3) := by decide +kernel
theorem dX12_init_615 : decode cX12_init 615 = .ok (.iload_n 1, 1) := by decide +kernel
theorem dX12_init_616 : decode cX12_init 616 = .ok (.aload_n 0, 1) := by decide +kernel
theorem dX12_init_617 : decode cX12_init 617 = .ok (.getfield 37, 3) := by decide +kernel
theorem dX12_init_620 : decode cX12_init 620 = .ok (.iload_n 1, 1) := by decide +kernel
theorem dX12_init_621 : decode cX12_init 621 = .ok (.iaload, 1) := by decide +kernel
theorem dX12_init_622 : decode cX12_init 622 = .ok (.iastore, 1) := by decide +kernel
theorem dX12_init_623 : decode cX12_init 623 = .ok (.iinc 1 1, 3) := by decide +kernel
theorem dX12_init_626 : decode cX12_init 626 = .ok (.goto (-22), 3) := by decide +kernel
theorem dX12_init_629 : decode cX12_init 629 = .ok (.return_, 1) := by decide +kernel
theorem dX12_plainValley_0 : decode cX12_plainValley 0 = .ok (.iconst 0, 1) := by decide +kernel
theorem dX12_plainValley_1 : decode cX12_plainValley 1 = .ok (.istore_n 1, 1) := by decide +kernel
theorem dX12_plainValley_2 : decode cX12_plainValley 2 = .ok (.iload_n 1, 1) := by decide +kernel
theorem dX12_plainValley_3 : decode cX12_plainValley 3 = .ok (.sipush 172, 3) := by decide +kernel
theorem dX12_plainValley_6 : decode cX12_plainValley 6 = .ok (.if_icmp .ge 16, 3) := by decide +kernel
theorem dX12_plainValley_9 : decode cX12_plainValley 9 = .ok (.aload_n 0, 1) := by decide +kernel
theorem dX12_plainValley_10 : decode cX12_plainValley 10 = .ok (.getfield 37, 3) := by decide +kernel
theorem dX12_plainValley_13 : decode cX12_plainValley 13 = .ok (.iload_n 1, 1) := by decide +kernel
theorem dX12_plainValley_14 : decode cX12_plainValley 14 = .ok (.iconst 0, 1) := by decide +kernel
theorem dX12_plainValley_15 : decode cX12_plainValley 15 = .ok (.iastore, 1) := by decide +kernel
theorem dX12_plainValley_16 : decode cX12_plainValley 16 = .ok (.iinc 1 1, 3) := by decide +kernel
theorem dX12_plainValley_19 : decode cX12_plainValley 19 = .ok (.goto (-17), 3) := by decide +kernel
theorem dX12_plainValley_22 : decode cX12_plainValley 22 = .ok (.aload_n 0, 1) := by decide +kernel
theorem dX12_plainValley_23 : decode cX12_plainValley 23 = .ok (.getfield 37, 3) := by decide +kernel
theorem dX12_plainValley_26 : decode cX12_plainValley 26 = .ok (.iconst 3, 1) := by decide +kernel
theorem dX12_plainValley_27 : decode cX12_plainValley 27 = .ok (.bipush 28, 2) := by decide +kernel
theorem dX12_plainValley_29 : decode cX12_plainValley 29 = .ok (.iastore, 1) := by decide +kernel
theorem dX12_plainValley_30 : decode cX12_plainValley 30 = .ok (.aload_n 0, 1) := by decide +kernel
theorem dX12_plainValley_31 : decode cX12_plainValley 31 = .ok (.getfield 37, 3) := by decide +kernel
theorem dX12_plainValley_34 : decode cX12_plainValley 34 = .ok (.iconst 4, 1) := by decide +kernel
theorem dX12_plainValley_35 : decode cX12_plainValley 35 = .ok (.iconst 5, 1) := by decide +kernel
theorem dX12_plainValley_36 : decode cX12_plainValley 36 = .ok (.iastore, 1) := by decide +kernel
theorem dX12_plainValley_37 : decode cX12_plainValley 37 = .ok (.aload_n 0, 1) := by decide +kernel
theorem dX12_plainValley_38 : decode cX12_plainValley 38 = .ok (.getfield 37, 3) := by decide +kernel
theorem dX12_plainValley_41 : decode cX12_plainValley 41 = .ok (.iconst 5, 1) := by decide +kernel
theorem dX12_plainValley_42 : decode cX12_plainValley 42 = .ok (.bipush 15, 2) := by decide +kernel
theorem dX12_plainValley_44 : decode cX12_plainValley 44 = .ok (.iastore, 1) := by decide +kernel
theorem dX12_plainValley_45 : decode cX12_plainValley 45 = .ok (.aload_n 0, 1) := by decide +kernel
theorem dX12_plainValley_46 : decode cX12_plainValley 46 = .ok (.getfield 37, 3) := by decide +kernel
theorem dX12_plainValley_49 : decode cX12_plainValley 49 = .ok (.bipush 6, 2) := by decide +kernel
theorem dX12_plainValley_51 : decode cX12_plainValley 51 = .ok (.iconst 5, 1) := by decide +kernel
theorem dX12_plainValley_52 : decode cX12_plainValley 52 = .ok (.iastore, 1) := by decide +kernel
theorem dX12_plainValley_53 : decode cX12_plainValley 53 = .ok (.aload_n 0, 1) := by decide +kernel
theorem dX12_plainValley_54 : decode cX12_plainValley 54 = .ok (.getfield 37, 3) := by decide +kernel
theorem dX12_plainValley_57 : decode cX12_plainValley 57 = .ok (.bipush 7, 2) := by decide +kernel
theorem dX12_plainValley_59 : decode cX12_plainValley 59 = .ok (.bipush 20, 2) := by decide +kernel
theorem dX12_plainValley_61 : decode cX12_plainValley 61 = .ok (.iastore, 1) := by decide +kernel
theorem dX12_plainValley_62 : decode cX12_plainValley 62 = .ok (.return_, 1) := by decide +kernel
theorem dX12_peek_0 : decode cX12_peek 0 = .ok (.aload_n 0, 1) := by decide +kernel
theorem dX12_peek_1 : decode cX12_peek 1 = .ok (.getfield 21, 3) := by decide +kernel
theorem dX12_peek_4 : decode cX12_peek 4 = .ok (.aload_n 0, 1) := by decide +kernel
theorem dX12_peek_5 : decode cX12_peek 5 = .ok (.getfield 18, 3) := by decide +kernel
theorem dX12_peek_8 : decode cX12_peek 8 = .ok (.if_icmp .ge 19, 3) := by decide +kernel
theorem dX12_peek_11 : decode cX12_peek 11 = .ok (.aload_n 0, 1) := by decide +kernel
theorem dX12_peek_12 : decode cX12_peek 12 = .ok (.getfield 14, 3) := by decide +kernel
theorem dX12_peek_15 : decode cX12_peek 15 = .ok (.aload_n 0, 1) := by decide +kernel
theorem dX12_peek_16 : decode cX12_peek 16 = .ok (.getfield 21, 3) := by decide +kernel
theorem dX12_peek_19 : decode cX12_peek 19 = .ok (.baload, 1) := by decide +kernel
theorem dX12_peek_20 : decode cX12_peek 20 = .ok (.sipush 255, 3) := by decide +kernel
theorem dX12_peek_23 : decode cX12_peek 23 = .ok (.iand, 1) := by decide +kernel
theorem dX12_peek_24 : decode cX12_peek 24 = .ok (.goto 4, 3) := by decide +kernel
theorem dX12_peek_27 : decode cX12_peek 27 = .ok (.iconst (-1), 1) := by decide +kernel
theorem dX12_peek_28 : decode cX12_peek 28 = .ok (.ireturn, 1) := by decide +kernel
theorem dX12_isSmall_0 : decode cX12_isSmall 0 = .ok (.iload_n 0, 1) := by decide +kernel
theorem dX12_isSmall_1 : decode cX12_isSmall 1 = .ok (.bipush 97, 2) := by decide +kernel
theorem dX12_isSmall_3 : decode cX12_isSmall 3 = .ok (.if_icmp .lt 13, 3) := by decide +kernel
theorem dX12_isSmall_6 : decode cX12_isSmall 6 = .ok (.iload_n 0, 1) := by decide +kernel
theorem dX12_isSmall_7 : decode cX12_isSmall 7 = .ok (.bipush 122, 2) := by decide +kernel
theorem dX12_isSmall_9 : decode cX12_isSmall 9 = .ok (.if_icmp .gt 7, 3) := by decide +kernel
theorem dX12_isSmall_12 : decode cX12_isSmall 12 = .ok (.iconst 1, 1) := by decide +kernel
theorem dX12_isSmall_13 : decode cX12_isSmall 13 = .ok (.goto 4, 3) := by decide +kernel
theorem dX12_isSmall_16 : decode cX12_isSmall 16 = .ok (.iconst 0, 1) := by decide +kernel
theorem dX12_isSmall_17 : decode cX12_isSmall 17 = .ok (.ireturn, 1) := by decide +kernel
theorem dX12_isDigit_0 : decode cX12_isDigit 0 = .ok (.iload_n 0, 1) := by decide +kernel
theorem dX12_isDigit_1 : decode cX12_isDigit 1 = .ok (.bipush 48, 2) := by decide +kernel
theorem dX12_isDigit_3 : decode cX12_isDigit 3 = .ok (.if_icmp .lt 13, 3) := by decide +kernel
theorem dX12_isDigit_6 : decode cX12_isDigit 6 = .ok (.iload_n 0, 1) := by decide +kernel
theorem dX12_isDigit_7 : decode cX12_isDigit 7 = .ok (.bipush 57, 2) := by decide +kernel
theorem dX12_isDigit_9 : decode cX12_isDigit 9 = .ok (.if_icmp .gt 7, 3) := by decide +kernel
theorem dX12_isDigit_12 : decode cX12_isDigit 12 = .ok (.iconst 1, 1) := by decide +kernel
theorem dX12_isDigit_13 : decode cX12_isDigit 13 = .ok (.goto 4, 3) := by decide +kernel
theorem dX12_isDigit_16 : decode cX12_isDigit 16 = .ok (.iconst 0, 1) := by decide +kernel
theorem dX12_isDigit_17 : decode cX12_isDigit 17 = .ok (.ireturn, 1) := by decide +kernel
theorem dX12_next_0 : decode cX12_next 0 = .ok (.aload_n 0, 1) := by decide +kernel
theorem dX12_next_1 : decode cX12_next 1 = .ok (.invokevirtual 212, 3) := by decide +kernel
theorem dX12_next_4 : decode cX12_next 4 = .ok (.bipush 32, 2) := by decide +kernel
theorem dX12_next_6 : decode cX12_next 6 = .ok (.if_icmp .eq 12, 3) := by decide +kernel
theorem dX12_next_9 : decode cX12_next 9 = .ok (.aload_n 0, 1) := by decide +kernel
theorem dX12_next_10 : decode cX12_next 10 = .ok (.invokevirtual 212, 3) := by decide +kernel
theorem dX12_next_13 : decode cX12_next 13 = .ok (.bipush 10, 2) := by decide +kernel
theorem dX12_next_15 : decode cX12_next 15 = .ok (.if_icmp .ne 16, 3) := by decide +kernel
theorem dX12_next_18 : decode cX12_next 18 = .ok (.aload_n 0, 1) := by decide +kernel
theorem dX12_next_19 : decode cX12_next 19 = .ok (.dup, 1) := by decide +kernel
theorem dX12_next_20 : decode cX12_next 20 = .ok (.getfield 21, 3) := by decide +kernel
theorem dX12_next_23 : decode cX12_next 23 = .ok (.iconst 1, 1) := by decide +kernel
theorem dX12_next_24 : decode cX12_next 24 = .ok (.iadd, 1) := by decide +kernel
theorem dX12_next_25 : decode cX12_next 25 = .ok (.putfield 21, 3) := by decide +kernel
theorem dX12_next_28 : decode cX12_next 28 = .ok (.goto (-28), 3) := by decide +kernel
theorem dX12_next_31 : decode cX12_next 31 = .ok (.aload_n 0, 1) := by decide +kernel
theorem dX12_next_32 : decode cX12_next 32 = .ok (.aload_n 0, 1) := by decide +kernel
theorem dX12_next_33 : decode cX12_next 33 = .ok (.getfield 21, 3) := by decide +kernel
theorem dX12_next_36 : decode cX12_next 36 = .ok (.putfield 216, 3) := by decide +kernel
theorem dX12_next_39 : decode cX12_next 39 = .ok (.aload_n 0, 1) := by decide +kernel
theorem dX12_next_40 : decode cX12_next 40 = .ok (.iconst 0, 1) := by decide +kernel
theorem dX12_next_41 : decode cX12_next 41 = .ok (.putfield 219, 3) := by decide +kernel
theorem dX12_next_44 : decode cX12_next 44 = .ok (.aload_n 0, 1) := by decide +kernel
theorem dX12_next_45 : decode cX12_next 45 = .ok (.getfield 18, 3) := by decide +kernel
theorem dX12_next_48 : decode cX12_next 48 = .ok (.aload_n 0, 1) := by decide +kernel
theorem dX12_next_49 : decode cX12_next 49 = .ok (.getfield 24, 3) := by decide +kernel
theorem dX12_next_52 : decode cX12_next 52 = .ok (.if_icmp .le 28, 3) := by decide +kernel
theorem dX12_next_55 : decode cX12_next 55 = .ok (.aload_n 0, 1) := by decide +kernel
theorem dX12_next_56 : decode cX12_next 56 = .ok (.getfield 21, 3) := by decide +kernel
theorem dX12_next_59 : decode cX12_next 59 = .ok (.aload_n 0, 1) := by decide +kernel
theorem dX12_next_60 : decode cX12_next 60 = .ok (.getfield 24, 3) := by decide +kernel
theorem dX12_next_63 : decode cX12_next 63 = .ok (.if_icmp .lt 17, 3) := by decide +kernel
theorem dX12_next_66 : decode cX12_next 66 = .ok (.aload_n 0, 1) := by decide +kernel
theorem dX12_next_67 : decode cX12_next 67 = .ok (.aload_n 0, 1) := by decide +kernel
theorem dX12_next_68 : decode cX12_next 68 = .ok (.getfield 24, 3) := by decide +kernel
theorem dX12_next_71 : decode cX12_next 71 = .ok (.putfield 216, 3) := by decide +kernel
theorem dX12_next_74 : decode cX12_next 74 = .ok (.aload_n 0, 1) := by decide +kernel
theorem dX12_next_75 : decode cX12_next 75 = .ok (.iconst 4, 1) := by decide +kernel
theorem dX12_next_76 : decode cX12_next 76 = .ok (.putfield 222, 3) := by decide +kernel
theorem dX12_next_79 : decode cX12_next 79 = .ok (.return_, 1) := by decide +kernel
theorem dX12_next_80 : decode cX12_next 80 = .ok (.aload_n 0, 1) := by decide +kernel
theorem dX12_next_81 : decode cX12_next 81 = .ok (.invokevirtual 212, 3) := by decide +kernel
theorem dX12_next_84 : decode cX12_next 84 = .ok (.istore_n 1, 1) := by decide +kernel
theorem dX12_next_85 : decode cX12_next 85 = .ok (.iload_n 1, 1) := by decide +kernel
theorem dX12_next_86 : decode cX12_next 86 = .ok (.ifCond .ge 9, 3) := by decide +kernel
theorem dX12_next_89 : decode cX12_next 89 = .ok (.aload_n 0, 1) := by decide +kernel
theorem dX12_next_90 : decode cX12_next 90 = .ok (.iconst 0, 1) := by decide +kernel
theorem dX12_next_91 : decode cX12_next 91 = .ok (.putfield 222, 3) := by decide +kernel
theorem dX12_next_94 : decode cX12_next 94 = .ok (.return_, 1) := by decide +kernel
theorem dX12_next_95 : decode cX12_next 95 = .ok (.iload_n 1, 1) := by decide +kernel
theorem dX12_next_96 : decode cX12_next 96 = .ok (.invokestatic 225, 3) := by decide +kernel
theorem dX12_next_99 : decode cX12_next 99 = .ok (.ifCond .ne 65, 3) := by decide +kernel
theorem dX12_next_102 : decode cX12_next 102 = .ok (.iload_n 1, 1) := by decide +kernel
theorem dX12_next_103 : decode cX12_next 103 = .ok (.invokestatic 229, 3) := by decide +kernel
theorem dX12_next_106 : decode cX12_next 106 = .ok (.ifCond .ne 58, 3) := by decide +kernel
theorem dX12_next_109 : decode cX12_next 109 = .ok (.aload_n 0, 1) := by decide +kernel
theorem dX12_next_110 : decode cX12_next 110 = .ok (.iload_n 1, 1) := by decide +kernel
theorem dX12_next_111 : decode cX12_next 111 = .ok (.bipush 59, 2) := by decide +kernel
theorem dX12_next_113 : decode cX12_next 113 = .ok (.if_icmp .eq 27, 3) := by decide +kernel
theorem dX12_next_116 : decode cX12_next 116 = .ok (.iload_n 1, 1) := by decide +kernel
theorem dX12_next_117 : decode cX12_next 117 = .ok (.bipush 40, 2) := by decide +kernel
theorem dX12_next_119 : decode cX12_next 119 = .ok (.if_icmp .eq 21, 3) := by decide +kernel
theorem dX12_next_122 : decode cX12_next 122 = .ok (.iload_n 1, 1) := by decide +kernel
theorem dX12_next_123 : decode cX12_next 123 = .ok (.bipush 41, 2) := by decide +kernel
theorem dX12_next_125 : decode cX12_next 125 = .ok (.if_icmp .eq 15, 3) := by decide +kernel
theorem dX12_next_128 : decode cX12_next 128 = .ok (.iload_n 1, 1) := by decide +kernel
theorem dX12_next_129 : decode cX12_next 129 = .ok (.bipush 60, 2) := by decide +kernel
theorem dX12_next_131 : decode cX12_next 131 = .ok (.if_icmp .lt 13, 3) := by decide +kernel
theorem dX12_next_134 : decode cX12_next 134 = .ok (.iload_n 1, 1) := by decide +kernel
theorem dX12_next_135 : decode cX12_next 135 = .ok (.bipush 62, 2) := by decide +kernel
theorem dX12_next_137 : decode cX12_next 137 = .ok (.if_icmp .gt 7, 3) := by decide +kernel
theorem dX12_next_140 : decode cX12_next 140 = .ok (.iconst 3, 1) := by decide +kernel
theorem dX12_next_141 : decode cX12_next 141 = .ok (.goto 4, 3) := by decide +kernel
theorem dX12_next_144 : decode cX12_next 144 = .ok (.iconst 4, 1) := by decide +kernel
theorem dX12_next_145 : decode cX12_next 145 = .ok (.putfield 222, 3) := by decide +kernel
theorem dX12_next_148 : decode cX12_next 148 = .ok (.aload_n 0, 1) := by decide +kernel
theorem dX12_next_149 : decode cX12_next 149 = .ok (.iload_n 1, 1) := by decide +kernel
theorem dX12_next_150 : decode cX12_next 150 = .ok (.putfield 232, 3) := by decide +kernel
theorem dX12_next_153 : decode cX12_next 153 = .ok (.aload_n 0, 1) := by decide +kernel
theorem dX12_next_154 : decode cX12_next 154 = .ok (.dup, 1) := by decide +kernel
theorem dX12_next_155 : decode cX12_next 155 = .ok (.getfield 21, 3) := by decide +kernel
theorem dX12_next_158 : decode cX12_next 158 = .ok (.iconst 1, 1) := by decide +kernel
theorem dX12_next_159 : decode cX12_next 159 = .ok (.iadd, 1) := by decide +kernel
theorem dX12_next_160 : decode cX12_next 160 = .ok (.putfield 21, 3) := by decide +kernel
theorem dX12_next_163 : decode cX12_next 163 = .ok (.return_, 1) := by decide +kernel
theorem dX12_next_164 : decode cX12_next 164 = .ok (.iload_n 1, 1) := by decide +kernel
theorem dX12_next_165 : decode cX12_next 165 = .ok (.invokestatic 225, 3) := by decide +kernel
theorem dX12_next_168 : decode cX12_next 168 = .ok (.istore_n 2, 1) := by decide +kernel
theorem dX12_next_169 : decode cX12_next 169 = .ok (.iconst 1, 1) := by decide +kernel
theorem dX12_next_170 : decode cX12_next 170 = .ok (.istore_n 3, 1) := by decide +kernel
theorem dX12_next_171 : decode cX12_next 171 = .ok (.aload_n 0, 1) := by decide +kernel
theorem dX12_next_172 : decode cX12_next 172 = .ok (.lconst 0, 1) := by decide +kernel
theorem dX12_next_173 : decode cX12_next 173 = .ok (.putfield 235, 3) := by decide +kernel
theorem dX12_next_176 : decode cX12_next 176 = .ok (.aload_n 0, 1) := by decide +kernel
theorem dX12_next_177 : decode cX12_next 177 = .ok (.iconst 0, 1) := by decide +kernel
theorem dX12_next_178 : decode cX12_next 178 = .ok (.putfield 232, 3) := by decide +kernel
theorem dX12_next_181 : decode cX12_next 181 = .ok (.aload_n 0, 1) := by decide +kernel
theorem dX12_next_182 : decode cX12_next 182 = .ok (.invokevirtual 212, 3) := by decide +kernel
theorem dX12_next_185 : decode cX12_next 185 = .ok (.invokestatic 225, 3) := by decide +kernel
theorem dX12_next_188 : decode cX12_next 188 = .ok (.ifCond .ne 13, 3) := by decide +kernel
theorem dX12_next_191 : decode cX12_next 191 = .ok (.aload_n 0, 1) := by decide +kernel
theorem dX12_next_192 : decode cX12_next 192 = .ok (.invokevirtual 212, 3) := by decide +kernel
theorem dX12_next_195 : decode cX12_next 195 = .ok (.invokestatic 229, 3) := by decide +kernel
theorem dX12_next_198 : decode cX12_next 198 = .ok (.ifCond .eq 100, 3) := by decide +kernel
theorem dX12_next_201 : decode cX12_next 201 = .ok (.iload_n 3, 1) := by decide +kernel
theorem dX12_next_202 : decode cX12_next 202 = .ok (.ifCond .eq 18, 3) := by decide +kernel
theorem dX12_next_205 : decode cX12_next 205 = .ok (.aload_n 0, 1) := by decide +kernel
theorem dX12_next_206 : decode cX12_next 206 = .ok (.invokevirtual 212, 3) := by decide +kernel
theorem dX12_next_209 : decode cX12_next 209 = .ok (.invokestatic 225, 3) := by decide +kernel
theorem dX12_next_212 : decode cX12_next 212 = .ok (.iload_n 2, 1) := by decide +kernel
theorem dX12_next_213 : decode cX12_next 213 = .ok (.if_icmp .ne 7, 3) := by decide +kernel
theorem dX12_next_216 : decode cX12_next 216 = .ok (.iconst 1, 1) := by decide +kernel
theorem dX12_next_217 : decode cX12_next 217 = .ok (.goto 4, 3) := by decide +kernel
theorem dX12_next_220 : decode cX12_next 220 = .ok (.iconst 0, 1) := by decide +kernel
theorem dX12_next_221 : decode cX12_next 221 = .ok (.istore_n 3, 1) := by decide +kernel
theorem dX12_next_222 : decode cX12_next 222 = .ok (.aload_n 0, 1) := by decide +kernel
theorem dX12_next_223 : decode cX12_next 223 = .ok (.getfield 219, 3) := by decide +kernel
theorem dX12_next_226 : decode cX12_next 226 = .ok (.bipush 6, 2) := by decide +kernel
theorem dX12_next_228 : decode cX12_next 228 = .ok (.if_icmp .ge 20, 3) := by decide +kernel
theorem dX12_next_231 : decode cX12_next 231 = .ok (.aload_n 0, 1) := by decide +kernel
theorem dX12_next_232 : decode cX12_next 232 = .ok (.aload_n 0, 1) := by decide +kernel
theorem dX12_next_233 : decode cX12_next 233 = .ok (.getfield 235, 3) := by decide +kernel
theorem dX12_next_236 : decode cX12_next 236 = .ok (.bipush 8, 2) := by decide +kernel
theorem dX12_next_238 : decode cX12_next 238 = .ok (.lshl, 1) := by decide +kernel
theorem dX12_next_239 : decode cX12_next 239 = .ok (.aload_n 0, 1) := by decide +kernel
theorem dX12_next_240 : decode cX12_next 240 = .ok (.invokevirtual 212, 3) := by decide +kernel
theorem dX12_next_243 : decode cX12_next 243 = .ok (.i2l, 1) := by decide +kernel
theorem dX12_next_244 : decode cX12_next 244 = .ok (.lor, 1) := by decide +kernel
theorem dX12_next_245 : decode cX12_next 245 = .ok (.putfield 235, 3) := by decide +kernel
theorem dX12_next_248 : decode cX12_next 248 = .ok (.aload_n 0, 1) := by decide +kernel
theorem dX12_next_249 : decode cX12_next 249 = .ok (.getfield 219, 3) := by decide +kernel
theorem dX12_next_252 : decode cX12_next 252 = .ok (.iconst 3, 1) := by decide +kernel
theorem dX12_next_253 : decode cX12_next 253 = .ok (.if_icmp .ge 22, 3) := by decide +kernel
theorem dX12_next_256 : decode cX12_next 256 = .ok (.aload_n 0, 1) := by decide +kernel
theorem dX12_next_257 : decode cX12_next 257 = .ok (.bipush 10, 2) := by decide +kernel
theorem dX12_next_259 : decode cX12_next 259 = .ok (.aload_n 0, 1) := by decide +kernel
theorem dX12_next_260 : decode cX12_next 260 = .ok (.getfield 232, 3) := by decide +kernel
theorem dX12_next_263 : decode cX12_next 263 = .ok (.imul, 1) := by decide +kernel
theorem dX12_next_264 : decode cX12_next 264 = .ok (.aload_n 0, 1) := by decide +kernel
theorem dX12_next_265 : decode cX12_next 265 = .ok (.invokevirtual 212, 3) := by decide +kernel
theorem dX12_next_268 : decode cX12_next 268 = .ok (.iadd, 1) := by decide +kernel
theorem dX12_next_269 : decode cX12_next 269 = .ok (.bipush 48, 2) := by decide +kernel
theorem dX12_next_271 : decode cX12_next 271 = .ok (.isub, 1) := by decide +kernel
theorem dX12_next_272 : decode cX12_next 272 = .ok (.putfield 232, 3) := by decide +kernel
theorem dX12_next_275 : decode cX12_next 275 = .ok (.aload_n 0, 1) := by decide +kernel
theorem dX12_next_276 : decode cX12_next 276 = .ok (.dup, 1) := by decide +kernel
theorem dX12_next_277 : decode cX12_next 277 = .ok (.getfield 219, 3) := by decide +kernel
theorem dX12_next_280 : decode cX12_next 280 = .ok (.iconst 1, 1) := by decide +kernel
theorem dX12_next_281 : decode cX12_next 281 = .ok (.iadd, 1) := by decide +kernel
theorem dX12_next_282 : decode cX12_next 282 = .ok (.putfield 219, 3) := by decide +kernel
theorem dX12_next_285 : decode cX12_next 285 = .ok (.aload_n 0, 1) := by decide +kernel
theorem dX12_next_286 : decode cX12_next 286 = .ok (.dup, 1) := by decide +kernel
theorem dX12_next_287 : decode cX12_next 287 = .ok (.getfield 21, 3) := by decide +kernel
theorem dX12_next_290 : decode cX12_next 290 = .ok (.iconst 1, 1) := by decide +kernel
theorem dX12_next_291 : decode cX12_next 291 = .ok (.iadd, 1) := by decide +kernel
theorem dX12_next_292 : decode cX12_next 292 = .ok (.putfield 21, 3) := by decide +kernel
theorem dX12_next_295 : decode cX12_next 295 = .ok (.goto (-114), 3) := by decide +kernel
theorem dX12_next_298 : decode cX12_next 298 = .ok (.aload_n 0, 1) := by decide +kernel
theorem dX12_next_299 : decode cX12_next 299 = .ok (.iload_n 3, 1) := by decide +kernel
theorem dX12_next_300 : decode cX12_next 300 = .ok (.ifCond .eq 20, 3) := by decide +kernel
theorem dX12_next_303 : decode cX12_next 303 = .ok (.aload_n 0, 1) := by decide +kernel
theorem dX12_next_304 : decode cX12_next 304 = .ok (.getfield 219, 3) := by decide +kernel
theorem dX12_next_307 : decode cX12_next 307 = .ok (.iload_n 2, 1) := by decide +kernel
theorem dX12_next_308 : decode cX12_next 308 = .ok (.ifCond .eq 8, 3) := by decide +kernel
theorem dX12_next_311 : decode cX12_next 311 = .ok (.bipush 6, 2) := by decide +kernel
theorem dX12_next_313 : decode cX12_next 313 = .ok (.goto 4, 3) := by decide +kernel
theorem dX12_next_316 : decode cX12_next 316 = .ok (.iconst 3, 1) := by decide +kernel
theorem dX12_next_317 : decode cX12_next 317 = .ok (.if_icmp .le 7, 3) := by decide +kernel
theorem dX12_next_320 : decode cX12_next 320 = .ok (.iconst 4, 1) := by decide +kernel
theorem dX12_next_321 : decode cX12_next 321 = .ok (.goto 12, 3) := by decide +kernel
theorem dX12_next_324 : decode cX12_next 324 = .ok (.iload_n 2, 1) := by decide +kernel
theorem dX12_next_325 : decode cX12_next 325 = .ok (.ifCond .eq 7, 3) := by decide +kernel
theorem dX12_next_328 : decode cX12_next 328 = .ok (.iconst 1, 1) := by decide +kernel
theorem dX12_next_329 : decode cX12_next 329 = .ok (.goto 4, 3) := by decide +kernel
theorem dX12_next_332 : decode cX12_next 332 = .ok (.iconst 2, 1) := by decide +kernel
theorem dX12_next_333 : decode cX12_next 333 = .ok (.putfield 222, 3) := by decide +kernel
theorem dX12_next_336 : decode cX12_next 336 = .ok (.return_, 1) := by decide +kernel
theorem dX12_bad_0 : decode cX12_bad 0 = .ok (.aload_n 0, 1) := by decide +kernel
theorem dX12_bad_1 : decode cX12_bad 1 = .ok (.iload_n 1, 1) := by decide +kernel
theorem dX12_bad_2 : decode cX12_bad 2 = .ok (.putfield 239, 3) := by decide +kernel
theorem dX12_bad_5 : decode cX12_bad 5 = .ok (.aload_n 0, 1) := by decide +kernel
theorem dX12_bad_6 : decode cX12_bad 6 = .ok (.aload_n 0, 1) := by decide +kernel
theorem dX12_bad_7 : decode cX12_bad 7 = .ok (.getfield 216, 3) := by decide +kernel
theorem dX12_bad_10 : decode cX12_bad 10 = .ok (.putfield 242, 3) := by decide +kernel
theorem dX12_bad_13 : decode cX12_bad 13 = .ok (.iconst 0, 1) := by decide +kernel
theorem dX12_bad_14 : decode cX12_bad 14 = .ok (.ireturn, 1) := by decide +kernel
theorem dX12_isWord_0 : decode cX12_isWord 0 = .ok (.aload_n 0, 1) := by decide +kernel
theorem dX12_isWord_1 : decode cX12_isWord 1 = .ok (.getfield 222, 3) := by decide +kernel
theorem dX12_isWord_4 : decode cX12_isWord 4 = .ok (.iconst 1, 1) := by decide +kernel
theorem dX12_isWord_5 : decode cX12_isWord 5 = .ok (.if_icmp .ne 16, 3) := by decide +kernel
theorem dX12_isWord_8 : decode cX12_isWord 8 = .ok (.aload_n 0, 1) := by decide +kernel
theorem dX12_isWord_9 : decode cX12_isWord 9 = .ok (.getfield 235, 3) := by decide +kernel
theorem dX12_isWord_12 : decode cX12_isWord 12 = .ok (.lload_n 1, 1) := by decide +kernel
theorem dX12_isWord_13 : decode cX12_isWord 13 = .ok (.lcmp, 1) := by decide +kernel
theorem dX12_isWord_14 : decode cX12_isWord 14 = .ok (.ifCond .ne 7, 3) := by decide +kernel
theorem dX12_isWord_17 : decode cX12_isWord 17 = .ok (.iconst 1, 1) := by decide +kernel
theorem dX12_isWord_18 : decode cX12_isWord 18 = .ok (.goto 4, 3) := by decide +kernel
theorem dX12_isWord_21 : decode cX12_isWord 21 = .ok (.iconst 0, 1) := by decide +kernel
theorem dX12_isWord_22 : decode cX12_isWord 22 = .ok (.ireturn, 1) := by decide +kernel
theorem dX12_isSign_0 : decode cX12_isSign 0 = .ok (.aload_n 0, 1) := by decide +kernel
theorem dX12_isSign_1 : decode cX12_isSign 1 = .ok (.getfield 222, 3) := by decide +kernel
theorem dX12_isSign_4 : decode cX12_isSign 4 = .ok (.iconst 3, 1) := by decide +kernel
theorem dX12_isSign_5 : decode cX12_isSign 5 = .ok (.if_icmp .ne 15, 3) := by decide +kernel
theorem dX12_isSign_8 : decode cX12_isSign 8 = .ok (.aload_n 0, 1) := by decide +kernel
theorem dX12_isSign_9 : decode cX12_isSign 9 = .ok (.getfield 232, 3) := by decide +kernel
theorem dX12_isSign_12 : decode cX12_isSign 12 = .ok (.iload_n 1, 1) := by decide +kernel
theorem dX12_isSign_13 : decode cX12_isSign 13 = .ok (.if_icmp .ne 7, 3) := by decide +kernel
theorem dX12_isSign_16 : decode cX12_isSign 16 = .ok (.iconst 1, 1) := by decide +kernel
theorem dX12_isSign_17 : decode cX12_isSign 17 = .ok (.goto 4, 3) := by decide +kernel
theorem dX12_isSign_20 : decode cX12_isSign 20 = .ok (.iconst 0, 1) := by decide +kernel
theorem dX12_isSign_21 : decode cX12_isSign 21 = .ok (.ireturn, 1) := by decide +kernel
theorem dX12_sign_0 : decode cX12_sign 0 = .ok (.aload_n 0, 1) := by decide +kernel
theorem dX12_sign_1 : decode cX12_sign 1 = .ok (.iload_n 1, 1) := by decide +kernel
theorem dX12_sign_2 : decode cX12_sign 2 = .ok (.invokevirtual 245, 3) := by decide +kernel
theorem dX12_sign_5 : decode cX12_sign 5 = .ok (.ifCond .ne 9, 3) := by decide +kernel
theorem dX12_sign_8 : decode cX12_sign 8 = .ok (.aload_n 0, 1) := by decide +kernel
theorem dX12_sign_9 : decode cX12_sign 9 = .ok (.iconst 1, 1) := by decide +kernel
theorem dX12_sign_10 : decode cX12_sign 10 = .ok (.invokevirtual 248, 3) := by decide +kernel
theorem dX12_sign_13 : decode cX12_sign 13 = .ok (.ireturn, 1) := by decide +kernel
theorem dX12_sign_14 : decode cX12_sign 14 = .ok (.aload_n 0, 1) := by decide +kernel
theorem dX12_sign_15 : decode cX12_sign 15 = .ok (.invokevirtual 251, 3) := by decide +kernel
theorem dX12_sign_18 : decode cX12_sign 18 = .ok (.iconst 1, 1) := by decide +kernel
theorem dX12_sign_19 : decode cX12_sign 19 = .ok (.ireturn, 1) := by decide +kernel
theorem dX12_isName_0 : decode cX12_isName 0 = .ok (.aload_n 0, 1) := by decide +kernel
theorem dX12_isName_1 : decode cX12_isName 1 = .ok (.getfield 222, 3) := by decide +kernel
theorem dX12_isName_4 : decode cX12_isName 4 = .ok (.iconst 1, 1) := by decide +kernel
theorem dX12_isName_5 : decode cX12_isName 5 = .ok (.if_icmp .ne 7, 3) := by decide +kernel
theorem dX12_isName_8 : decode cX12_isName 8 = .ok (.iconst 1, 1) := by decide +kernel
theorem dX12_isName_9 : decode cX12_isName 9 = .ok (.goto 4, 3) := by decide +kernel
theorem dX12_isName_12 : decode cX12_isName 12 = .ok (.iconst 0, 1) := by decide +kernel
theorem dX12_isName_13 : decode cX12_isName 13 = .ok (.istore_n 1, 1) := by decide +kernel
theorem dX12_isName_14 : decode cX12_isName 14 = .ok (.iconst 0, 1) := by decide +kernel
theorem dX12_isName_15 : decode cX12_isName 15 = .ok (.istore_n 2, 1) := by decide +kernel
theorem dX12_isName_16 : decode cX12_isName 16 = .ok (.iload_n 2, 1) := by decide +kernel
theorem dX12_isName_17 : decode cX12_isName 17 = .ok (.bipush 26, 2) := by decide +kernel
theorem dX12_isName_19 : decode cX12_isName 19 = .ok (.if_icmp .ge 33, 3) := by decide +kernel
theorem dX12_isName_22 : decode cX12_isName 22 = .ok (.iload_n 1, 1) := by decide +kernel
theorem dX12_isName_23 : decode cX12_isName 23 = .ok (.ifCond .eq 21, 3) := by decide +kernel
theorem dX12_isName_26 : decode cX12_isName 26 = .ok (.aload_n 0, 1) := by decide +kernel
theorem dX12_isName_27 : decode cX12_isName 27 = .ok (.getfield 235, 3) := by decide +kernel
theorem dX12_isName_30 : decode cX12_isName 30 = .ok (.aload_n 0, 1) := by decide +kernel
theorem dX12_isName_31 : decode cX12_isName 31 = .ok (.getfield 47, 3) := by decide +kernel
theorem dX12_isName_34 : decode cX12_isName 34 = .ok (.iload_n 2, 1) := by decide +kernel
theorem dX12_isName_35 : decode cX12_isName 35 = .ok (.laload, 1) := by decide +kernel
theorem dX12_isName_36 : decode cX12_isName 36 = .ok (.lcmp, 1) := by decide +kernel
theorem dX12_isName_37 : decode cX12_isName 37 = .ok (.ifCond .eq 7, 3) := by decide +kernel
theorem dX12_isName_40 : decode cX12_isName 40 = .ok (.iconst 1, 1) := by decide +kernel
theorem dX12_isName_41 : decode cX12_isName 41 = .ok (.goto 4, 3) := by decide +kernel
theorem dX12_isName_44 : decode cX12_isName 44 = .ok (.iconst 0, 1) := by decide +kernel
theorem dX12_isName_45 : decode cX12_isName 45 = .ok (.istore_n 1, 1) := by decide +kernel
theorem dX12_isName_46 : decode cX12_isName 46 = .ok (.iinc 2 1, 3) := by decide +kernel
theorem dX12_isName_49 : decode cX12_isName 49 = .ok (.goto (-33), 3) := by decide +kernel
theorem dX12_isName_52 : decode cX12_isName 52 = .ok (.iload_n 1, 1) := by decide +kernel
theorem dX12_isName_53 : decode cX12_isName 53 = .ok (.ireturn, 1) := by decide +kernel
theorem dX12_takes_0 : decode cX12_takes 0 = .ok (.aload_n 0, 1) := by decide +kernel
theorem dX12_takes_1 : decode cX12_takes 1 = .ok (.getfield 222, 3) := by decide +kernel
theorem dX12_takes_4 : decode cX12_takes 4 = .ok (.iconst 2, 1) := by decide +kernel
theorem dX12_takes_5 : decode cX12_takes 5 = .ok (.if_icmp .eq 9, 3) := by decide +kernel
theorem dX12_takes_8 : decode cX12_takes 8 = .ok (.aload_n 0, 1) := by decide +kernel
theorem dX12_takes_9 : decode cX12_takes 9 = .ok (.iconst 1, 1) := by decide +kernel
theorem dX12_takes_10 : decode cX12_takes 10 = .ok (.invokevirtual 248, 3) := by decide +kernel
theorem dX12_takes_13 : decode cX12_takes 13 = .ok (.ireturn, 1) := by decide +kernel
theorem dX12_takes_14 : decode cX12_takes 14 = .ok (.aload_n 0, 1) := by decide +kernel
theorem dX12_takes_15 : decode cX12_takes 15 = .ok (.getfield 232, 3) := by decide +kernel
theorem dX12_takes_18 : decode cX12_takes 18 = .ok (.iload_n 1, 1) := by decide +kernel
theorem dX12_takes_19 : decode cX12_takes 19 = .ok (.iload_n 2, 1) := by decide +kernel
theorem dX12_takes_20 : decode cX12_takes 20 = .ok (.invokestatic 254, 3) := by decide +kernel
theorem dX12_takes_23 : decode cX12_takes 23 = .ok (.ifCond .ne 9, 3) := by decide +kernel
theorem dX12_takes_26 : decode cX12_takes 26 = .ok (.aload_n 0, 1) := by decide +kernel
theorem dX12_takes_27 : decode cX12_takes 27 = .ok (.iconst 2, 1) := by decide +kernel
theorem dX12_takes_28 : decode cX12_takes 28 = .ok (.invokevirtual 248, 3) := by decide +kernel
theorem dX12_takes_31 : decode cX12_takes 31 = .ok (.ireturn, 1) := by decide +kernel
theorem dX12_takes_32 : decode cX12_takes 32 = .ok (.aload_n 0, 1) := by decide +kernel
theorem dX12_takes_33 : decode cX12_takes 33 = .ok (.aload_n 0, 1) := by decide +kernel
theorem dX12_takes_34 : decode cX12_takes 34 = .ok (.getfield 232, 3) := by decide +kernel
theorem dX12_takes_37 : decode cX12_takes 37 = .ok (.putfield 258, 3) := by decide +kernel
theorem dX12_takes_40 : decode cX12_takes 40 = .ok (.aload_n 0, 1) := by decide +kernel
theorem dX12_takes_41 : decode cX12_takes 41 = .ok (.invokevirtual 251, 3) := by decide +kernel
theorem dX12_takes_44 : decode cX12_takes 44 = .ok (.iconst 1, 1) := by decide +kernel
theorem dX12_takes_45 : decode cX12_takes 45 = .ok (.ireturn, 1) := by decide +kernel
theorem dX12_find_0 : decode cX12_find 0 = .ok (.iconst 0, 1) := by decide +kernel
theorem dX12_find_1 : decode cX12_find 1 = .ok (.istore_n 3, 1) := by decide +kernel
theorem dX12_find_2 : decode cX12_find 2 = .ok (.iload_n 3, 1) := by decide +kernel
theorem dX12_find_3 : decode cX12_find 3 = .ok (.iload_n 2, 1) := by decide +kernel
theorem dX12_find_4 : decode cX12_find 4 = .ok (.if_icmp .ge 27, 3) := by decide +kernel
theorem dX12_find_7 : decode cX12_find 7 = .ok (.aload_n 0, 1) := by decide +kernel
theorem dX12_find_8 : decode cX12_find 8 = .ok (.getfield 43, 3) := by decide +kernel
theorem dX12_find_11 : decode cX12_find 11 = .ok (.iload_n 1, 1) := by decide +kernel
theorem dX12_find_12 : decode cX12_find 12 = .ok (.iload_n 3, 1) := by decide +kernel
theorem dX12_find_13 : decode cX12_find 13 = .ok (.iadd, 1) := by decide +kernel
theorem dX12_find_14 : decode cX12_find 14 = .ok (.laload, 1) := by decide +kernel
theorem dX12_find_15 : decode cX12_find 15 = .ok (.aload_n 0, 1) := by decide +kernel
theorem dX12_find_16 : decode cX12_find 16 = .ok (.getfield 235, 3) := by decide +kernel
theorem dX12_find_19 : decode cX12_find 19 = .ok (.lcmp, 1) := by decide +kernel
theorem dX12_find_20 : decode cX12_find 20 = .ok (.ifCond .ne 5, 3) := by decide +kernel
theorem dX12_find_23 : decode cX12_find 23 = .ok (.iload_n 3, 1) := by decide +kernel
theorem dX12_find_24 : decode cX12_find 24 = .ok (.ireturn, 1) := by decide +kernel
theorem dX12_find_25 : decode cX12_find 25 = .ok (.iinc 3 1, 3) := by decide +kernel
theorem dX12_find_28 : decode cX12_find 28 = .ok (.goto (-26), 3) := by decide +kernel
theorem dX12_find_31 : decode cX12_find 31 = .ok (.iconst (-1), 1) := by decide +kernel
theorem dX12_find_32 : decode cX12_find 32 = .ok (.ireturn, 1) := by decide +kernel
theorem dX12_takesName_0 : decode cX12_takesName 0 = .ok (.aload_n 0, 1) := by decide +kernel
theorem dX12_takesName_1 : decode cX12_takesName 1 = .ok (.invokevirtual 261, 3) := by decide +kernel
theorem dX12_takesName_4 : decode cX12_takesName 4 = .ok (.ifCond .ne 9, 3) := by decide +kernel
theorem dX12_takesName_7 : decode cX12_takesName 7 = .ok (.aload_n 0, 1) := by decide +kernel
theorem dX12_takesName_8 : decode cX12_takesName 8 = .ok (.iconst 1, 1) := by decide +kernel
theorem dX12_takesName_9 : decode cX12_takesName 9 = .ok (.invokevirtual 248, 3) := by decide +kernel
theorem dX12_takesName_12 : decode cX12_takesName 12 = .ok (.ireturn, 1) := by decide +kernel
theorem dX12_takesName_13 : decode cX12_takesName 13 = .ok (.aload_n 0, 1) := by decide +kernel
theorem dX12_takesName_14 : decode cX12_takesName 14 = .ok (.aload_n 0, 1) := by decide +kernel
theorem dX12_takesName_15 : decode cX12_takesName 15 = .ok (.iload_n 1, 1) := by decide +kernel
theorem dX12_takesName_16 : decode cX12_takesName 16 = .ok (.iload_n 2, 1) := by decide +kernel
theorem dX12_takesName_17 : decode cX12_takesName 17 = .ok (.invokevirtual 265, 3) := by decide +kernel
theorem dX12_takesName_20 : decode cX12_takesName 20 = .ok (.putfield 258, 3) := by decide +kernel
theorem dX12_takesName_23 : decode cX12_takesName 23 = .ok (.aload_n 0, 1) := by decide +kernel
theorem dX12_takesName_24 : decode cX12_takesName 24 = .ok (.getfield 258, 3) := by decide +kernel
theorem dX12_takesName_27 : decode cX12_takesName 27 = .ok (.ifCond .ge 9, 3) := by decide +kernel
theorem dX12_takesName_30 : decode cX12_takesName 30 = .ok (.aload_n 0, 1) := by decide +kernel
theorem dX12_takesName_31 : decode cX12_takesName 31 = .ok (.iconst 3, 1) := by decide +kernel
theorem dX12_takesName_32 : decode cX12_takesName 32 = .ok (.invokevirtual 248, 3) := by decide +kernel
theorem dX12_takesName_35 : decode cX12_takesName 35 = .ok (.ireturn, 1) := by decide +kernel
theorem dX12_takesName_36 : decode cX12_takesName 36 = .ok (.aload_n 0, 1) := by decide +kernel
theorem dX12_takesName_37 : decode cX12_takesName 37 = .ok (.invokevirtual 251, 3) := by decide +kernel
theorem dX12_takesName_40 : decode cX12_takesName 40 = .ok (.iconst 1, 1) := by decide +kernel
theorem dX12_takesName_41 : decode cX12_takesName 41 = .ok (.ireturn, 1) := by decide +kernel
theorem dX12_fresh_0 : decode cX12_fresh 0 = .ok (.aload_n 0, 1) := by decide +kernel
theorem dX12_fresh_1 : decode cX12_fresh 1 = .ok (.invokevirtual 261, 3) := by decide +kernel
theorem dX12_fresh_4 : decode cX12_fresh 4 = .ok (.ifCond .ne 9, 3) := by decide +kernel
theorem dX12_fresh_7 : decode cX12_fresh 7 = .ok (.aload_n 0, 1) := by decide +kernel
theorem dX12_fresh_8 : decode cX12_fresh 8 = .ok (.iconst 1, 1) := by decide +kernel
theorem dX12_fresh_9 : decode cX12_fresh 9 = .ok (.invokevirtual 248, 3) := by decide +kernel
theorem dX12_fresh_12 : decode cX12_fresh 12 = .ok (.ireturn, 1) := by decide +kernel
theorem dX12_fresh_13 : decode cX12_fresh 13 = .ok (.aload_n 0, 1) := by decide +kernel
theorem dX12_fresh_14 : decode cX12_fresh 14 = .ok (.bipush 20, 2) := by decide +kernel
theorem dX12_fresh_16 : decode cX12_fresh 16 = .ok (.aload_n 0, 1) := by decide +kernel
theorem dX12_fresh_17 : decode cX12_fresh 17 = .ok (.getfield 37, 3) := by decide +kernel
theorem dX12_fresh_20 : decode cX12_fresh 20 = .ok (.iconst 0, 1) := by decide +kernel
theorem dX12_fresh_21 : decode cX12_fresh 21 = .ok (.iaload, 1) := by decide +kernel
theorem dX12_fresh_22 : decode cX12_fresh 22 = .ok (.invokevirtual 265, 3) := by decide +kernel
theorem dX12_fresh_25 : decode cX12_fresh 25 = .ok (.ifCond .ge 18, 3) := by decide +kernel
theorem dX12_fresh_28 : decode cX12_fresh 28 = .ok (.aload_n 0, 1) := by decide +kernel
theorem dX12_fresh_29 : decode cX12_fresh 29 = .ok (.bipush 28, 2) := by decide +kernel
theorem dX12_fresh_31 : decode cX12_fresh 31 = .ok (.aload_n 0, 1) := by decide +kernel
theorem dX12_fresh_32 : decode cX12_fresh 32 = .ok (.getfield 37, 3) := by decide +kernel
theorem dX12_fresh_35 : decode cX12_fresh 35 = .ok (.iconst 1, 1) := by decide +kernel
theorem dX12_fresh_36 : decode cX12_fresh 36 = .ok (.iaload, 1) := by decide +kernel
theorem dX12_fresh_37 : decode cX12_fresh 37 = .ok (.invokevirtual 265, 3) := by decide +kernel
theorem dX12_fresh_40 : decode cX12_fresh 40 = .ok (.ifCond .lt 9, 3) := by decide +kernel
theorem dX12_fresh_43 : decode cX12_fresh 43 = .ok (.aload_n 0, 1) := by decide +kernel
theorem dX12_fresh_44 : decode cX12_fresh 44 = .ok (.iconst 3, 1) := by decide +kernel
theorem dX12_fresh_45 : decode cX12_fresh 45 = .ok (.invokevirtual 248, 3) := by decide +kernel
theorem dX12_fresh_48 : decode cX12_fresh 48 = .ok (.ireturn, 1) := by decide +kernel
theorem dX12_fresh_49 : decode cX12_fresh 49 = .ok (.aload_n 0, 1) := by decide +kernel
theorem dX12_fresh_50 : decode cX12_fresh 50 = .ok (.getfield 43, 3) := by decide +kernel
theorem dX12_fresh_53 : decode cX12_fresh 53 = .ok (.iload_n 1, 1) := by decide +kernel
theorem dX12_fresh_54 : decode cX12_fresh 54 = .ok (.aload_n 0, 1) := by decide +kernel
theorem dX12_fresh_55 : decode cX12_fresh 55 = .ok (.getfield 235, 3) := by decide +kernel
theorem dX12_fresh_58 : decode cX12_fresh 58 = .ok (.lastore, 1) := by decide +kernel
theorem dX12_fresh_59 : decode cX12_fresh 59 = .ok (.aload_n 0, 1) := by decide +kernel
theorem dX12_fresh_60 : decode cX12_fresh 60 = .ok (.invokevirtual 251, 3) := by decide +kernel
theorem dX12_fresh_63 : decode cX12_fresh 63 = .ok (.iconst 1, 1) := by decide +kernel
theorem dX12_fresh_64 : decode cX12_fresh 64 = .ok (.ireturn, 1) := by decide +kernel
theorem dX12_once_0 : decode cX12_once 0 = .ok (.aload_n 0, 1) := by decide +kernel
theorem dX12_once_1 : decode cX12_once 1 = .ok (.getfield 269, 3) := by decide +kernel
theorem dX12_once_4 : decode cX12_once 4 = .ok (.iload_n 1, 1) := by decide +kernel
theorem dX12_once_5 : decode cX12_once 5 = .ok (.invokestatic 272, 3) := by decide +kernel
theorem dX12_once_8 : decode cX12_once 8 = .ok (.ifCond .eq 9, 3) := by decide +kernel
theorem dX12_once_11 : decode cX12_once 11 = .ok (.aload_n 0, 1) := by decide +kernel
theorem dX12_once_12 : decode cX12_once 12 = .ok (.iconst 3, 1) := by decide +kernel
theorem dX12_once_13 : decode cX12_once 13 = .ok (.invokevirtual 248, 3) := by decide +kernel
theorem dX12_once_16 : decode cX12_once 16 = .ok (.ireturn, 1) := by decide +kernel
theorem dX12_once_17 : decode cX12_once 17 = .ok (.aload_n 0, 1) := by decide +kernel
theorem dX12_once_18 : decode cX12_once 18 = .ok (.dup, 1) := by decide +kernel
theorem dX12_once_19 : decode cX12_once 19 = .ok (.getfield 269, 3) := by decide +kernel
theorem dX12_once_22 : decode cX12_once 22 = .ok (.iconst 1, 1) := by decide +kernel
theorem dX12_once_23 : decode cX12_once 23 = .ok (.iload_n 1, 1) := by decide +kernel
theorem dX12_once_24 : decode cX12_once 24 = .ok (.ishl, 1) := by decide +kernel
theorem dX12_once_25 : decode cX12_once 25 = .ok (.ior, 1) := by decide +kernel
theorem dX12_once_26 : decode cX12_once 26 = .ok (.putfield 269, 3) := by decide +kernel
theorem dX12_once_29 : decode cX12_once 29 = .ok (.aload_n 0, 1) := by decide +kernel
theorem dX12_once_30 : decode cX12_once 30 = .ok (.invokevirtual 251, 3) := by decide +kernel
theorem dX12_once_33 : decode cX12_once 33 = .ok (.aload_n 0, 1) := by decide +kernel
theorem dX12_once_34 : decode cX12_once 34 = .ok (.iload_n 2, 1) := by decide +kernel
theorem dX12_once_35 : decode cX12_once 35 = .ok (.iload_n 3, 1) := by decide +kernel
theorem dX12_once_36 : decode cX12_once 36 = .ok (.invokevirtual 276, 3) := by decide +kernel
theorem dX12_once_39 : decode cX12_once 39 = .ok (.ifCond .ne 5, 3) := by decide +kernel
theorem dX12_once_42 : decode cX12_once 42 = .ok (.iconst 0, 1) := by decide +kernel
theorem dX12_once_43 : decode cX12_once 43 = .ok (.ireturn, 1) := by decide +kernel
theorem dX12_once_44 : decode cX12_once 44 = .ok (.aload_n 0, 1) := by decide +kernel
theorem dX12_once_45 : decode cX12_once 45 = .ok (.getfield 37, 3) := by decide +kernel
theorem dX12_once_48 : decode cX12_once 48 = .ok (.iload_n 1, 1) := by decide +kernel
theorem dX12_once_49 : decode cX12_once 49 = .ok (.aload_n 0, 1) := by decide +kernel
theorem dX12_once_50 : decode cX12_once 50 = .ok (.getfield 258, 3) := by decide +kernel
theorem dX12_once_53 : decode cX12_once 53 = .ok (.iastore, 1) := by decide +kernel
theorem dX12_once_54 : decode cX12_once 54 = .ok (.iconst 1, 1) := by decide +kernel
theorem dX12_once_55 : decode cX12_once 55 = .ok (.ireturn, 1) := by decide +kernel
theorem dX12_valleyLine_0 : decode cX12_valleyLine 0 = .ok (.aload_n 0, 1) := by decide +kernel
theorem dX12_valleyLine_1 : decode cX12_valleyLine 1 = .ok (.ldc2_w 157, 3) := by decide +kernel
theorem dX12_valleyLine_4 : decode cX12_valleyLine 4 = .ok (.invokevirtual 279, 3) := by decide +kernel
theorem dX12_valleyLine_7 : decode cX12_valleyLine 7 = .ok (.ifCond .eq 54, 3) := by decide +kernel
theorem dX12_valleyLine_10 : decode cX12_valleyLine 10 = .ok (.aload_n 0, 1) := by decide +kernel
theorem dX12_valleyLine_11 : decode cX12_valleyLine 11 = .ok (.getfield 37, 3) := by decide +kernel
theorem dX12_valleyLine_14 : decode cX12_valleyLine 14 = .ok (.iconst 0, 1) := by decide +kernel
theorem dX12_valleyLine_15 : decode cX12_valleyLine 15 = .ok (.iaload, 1) := by decide +kernel
theorem dX12_valleyLine_16 : decode cX12_valleyLine 16 = .ok (.bipush 8, 2) := by decide +kernel
theorem dX12_valleyLine_18 : decode cX12_valleyLine 18 = .ok (.if_icmp .ne 9, 3) := by decide +kernel
theorem dX12_valleyLine_21 : decode cX12_valleyLine 21 = .ok (.aload_n 0, 1) := by decide +kernel
theorem dX12_valleyLine_22 : decode cX12_valleyLine 22 = .ok (.iconst 4, 1) := by decide +kernel
theorem dX12_valleyLine_23 : decode cX12_valleyLine 23 = .ok (.invokevirtual 248, 3) := by decide +kernel
theorem dX12_valleyLine_26 : decode cX12_valleyLine 26 = .ok (.ireturn, 1) := by decide +kernel
theorem dX12_valleyLine_27 : decode cX12_valleyLine 27 = .ok (.aload_n 0, 1) := by decide +kernel
theorem dX12_valleyLine_28 : decode cX12_valleyLine 28 = .ok (.invokevirtual 251, 3) := by decide +kernel
theorem dX12_valleyLine_31 : decode cX12_valleyLine 31 = .ok (.aload_n 0, 1) := by decide +kernel
theorem dX12_valleyLine_32 : decode cX12_valleyLine 32 = .ok (.bipush 20, 2) := by decide +kernel
theorem dX12_valleyLine_34 : decode cX12_valleyLine 34 = .ok (.aload_n 0, 1) := by decide +kernel
theorem dX12_valleyLine_35 : decode cX12_valleyLine 35 = .ok (.getfield 37, 3) := by decide +kernel
theorem dX12_valleyLine_38 : decode cX12_valleyLine 38 = .ok (.iconst 0, 1) := by decide +kernel
theorem dX12_valleyLine_39 : decode cX12_valleyLine 39 = .ok (.iaload, 1) := by decide +kernel
theorem dX12_valleyLine_40 : decode cX12_valleyLine 40 = .ok (.iadd, 1) := by decide +kernel
theorem dX12_valleyLine_41 : decode cX12_valleyLine 41 = .ok (.invokevirtual 283, 3) := by decide +kernel
theorem dX12_valleyLine_44 : decode cX12_valleyLine 44 = .ok (.ifCond .ne 5, 3) := by decide +kernel
theorem dX12_valleyLine_47 : decode cX12_valleyLine 47 = .ok (.iconst 0, 1) := by decide +kernel
theorem dX12_valleyLine_48 : decode cX12_valleyLine 48 = .ok (.ireturn, 1) := by decide +kernel
theorem dX12_valleyLine_49 : decode cX12_valleyLine 49 = .ok (.aload_n 0, 1) := by decide +kernel
theorem dX12_valleyLine_50 : decode cX12_valleyLine 50 = .ok (.getfield 37, 3) := by decide +kernel
theorem dX12_valleyLine_53 : decode cX12_valleyLine 53 = .ok (.iconst 0, 1) := by decide +kernel
theorem dX12_valleyLine_54 : decode cX12_valleyLine 54 = .ok (.dup2, 1) := by decide +kernel
theorem dX12_valleyLine_55 : decode cX12_valleyLine 55 = .ok (.iaload, 1) := by decide +kernel
theorem dX12_valleyLine_56 : decode cX12_valleyLine 56 = .ok (.iconst 1, 1) := by decide +kernel
theorem dX12_valleyLine_57 : decode cX12_valleyLine 57 = .ok (.iadd, 1) := by decide +kernel
theorem dX12_valleyLine_58 : decode cX12_valleyLine 58 = .ok (.iastore, 1) := by decide +kernel
theorem dX12_valleyLine_59 : decode cX12_valleyLine 59 = .ok (.iconst 1, 1) := by decide +kernel
theorem dX12_valleyLine_60 : decode cX12_valleyLine 60 = .ok (.ireturn, 1) := by decide +kernel
theorem dX12_valleyLine_61 : decode cX12_valleyLine 61 = .ok (.aload_n 0, 1) := by decide +kernel
theorem dX12_valleyLine_62 : decode cX12_valleyLine 62 = .ok (.ldc2_w 159, 3) := by decide +kernel
theorem dX12_valleyLine_65 : decode cX12_valleyLine 65 = .ok (.invokevirtual 279, 3) := by decide +kernel
theorem dX12_valleyLine_68 : decode cX12_valleyLine 68 = .ok (.ifCond .eq 8, 3) := by decide +kernel
theorem dX12_valleyLine_71 : decode cX12_valleyLine 71 = .ok (.aload_n 0, 1) := by decide +kernel
theorem dX12_valleyLine_72 : decode cX12_valleyLine 72 = .ok (.invokevirtual 286, 3) := by decide +kernel
theorem dX12_valleyLine_75 : decode cX12_valleyLine 75 = .ok (.ireturn, 1) := by decide +kernel
theorem dX12_valleyLine_76 : decode cX12_valleyLine 76 = .ok (.aload_n 0, 1) := by decide +kernel
theorem dX12_valleyLine_77 : decode cX12_valleyLine 77 = .ok (.ldc2_w 161, 3) := by decide +kernel
theorem dX12_valleyLine_80 : decode cX12_valleyLine 80 = .ok (.invokevirtual 279, 3) := by decide +kernel
theorem dX12_valleyLine_83 : decode cX12_valleyLine 83 = .ok (.ifCond .eq 8, 3) := by decide +kernel
theorem dX12_valleyLine_86 : decode cX12_valleyLine 86 = .ok (.aload_n 0, 1) := by decide +kernel
theorem dX12_valleyLine_87 : decode cX12_valleyLine 87 = .ok (.invokevirtual 289, 3) := by decide +kernel
theorem dX12_valleyLine_90 : decode cX12_valleyLine 90 = .ok (.ireturn, 1) := by decide +kernel
theorem dX12_valleyLine_91 : decode cX12_valleyLine 91 = .ok (.aload_n 0, 1) := by decide +kernel
theorem dX12_valleyLine_92 : decode cX12_valleyLine 92 = .ok (.ldc2_w 163, 3) := by decide +kernel
theorem dX12_valleyLine_95 : decode cX12_valleyLine 95 = .ok (.invokevirtual 279, 3) := by decide +kernel
theorem dX12_valleyLine_98 : decode cX12_valleyLine 98 = .ok (.ifCond .eq 8, 3) := by decide +kernel
theorem dX12_valleyLine_101 : decode cX12_valleyLine 101 = .ok (.aload_n 0, 1) := by decide +kernel
theorem dX12_valleyLine_102 : decode cX12_valleyLine 102 = .ok (.invokevirtual 292, 3) := by decide +kernel
theorem dX12_valleyLine_105 : decode cX12_valleyLine 105 = .ok (.ireturn, 1) := by decide +kernel
theorem dX12_valleyLine_106 : decode cX12_valleyLine 106 = .ok (.aload_n 0, 1) := by decide +kernel
theorem dX12_valleyLine_107 : decode cX12_valleyLine 107 = .ok (.ldc2_w 165, 3) := by decide +kernel
theorem dX12_valleyLine_110 : decode cX12_valleyLine 110 = .ok (.invokevirtual 279, 3) := by decide +kernel
theorem dX12_valleyLine_113 : decode cX12_valleyLine 113 = .ok (.ifCond .eq 8, 3) := by decide +kernel
theorem dX12_valleyLine_116 : decode cX12_valleyLine 116 = .ok (.aload_n 0, 1) := by decide +kernel
theorem dX12_valleyLine_117 : decode cX12_valleyLine 117 = .ok (.invokevirtual 295, 3) := by decide +kernel
theorem dX12_valleyLine_120 : decode cX12_valleyLine 120 = .ok (.ireturn, 1) := by decide +kernel
theorem dX12_valleyLine_121 : decode cX12_valleyLine 121 = .ok (.aload_n 0, 1) := by decide +kernel
theorem dX12_valleyLine_122 : decode cX12_valleyLine 122 = .ok (.ldc2_w 167, 3) := by decide +kernel
theorem dX12_valleyLine_125 : decode cX12_valleyLine 125 = .ok (.invokevirtual 279, 3) := by decide +kernel
theorem dX12_valleyLine_128 : decode cX12_valleyLine 128 = .ok (.ifCond .eq 12, 3) := by decide +kernel
theorem dX12_valleyLine_131 : decode cX12_valleyLine 131 = .ok (.aload_n 0, 1) := by decide +kernel
theorem dX12_valleyLine_132 : decode cX12_valleyLine 132 = .ok (.iconst 3, 1) := by decide +kernel
theorem dX12_valleyLine_133 : decode cX12_valleyLine 133 = .ok (.iconst 1, 1) := by decide +kernel
theorem dX12_valleyLine_134 : decode cX12_valleyLine 134 = .ok (.bipush 99, 2) := by decide +kernel
theorem dX12_valleyLine_136 : decode cX12_valleyLine 136 = .ok (.invokevirtual 298, 3) := by decide +kernel
theorem dX12_valleyLine_139 : decode cX12_valleyLine 139 = .ok (.ireturn, 1) := by decide +kernel
theorem dX12_valleyLine_140 : decode cX12_valleyLine 140 = .ok (.aload_n 0, 1) := by decide +kernel
theorem dX12_valleyLine_141 : decode cX12_valleyLine 141 = .ok (.ldc2_w 169, 3) := by decide +kernel
theorem dX12_valleyLine_144 : decode cX12_valleyLine 144 = .ok (.invokevirtual 279, 3) := by decide +kernel
theorem dX12_valleyLine_147 : decode cX12_valleyLine 147 = .ok (.ifCond .eq 12, 3) := by decide +kernel
theorem dX12_valleyLine_150 : decode cX12_valleyLine 150 = .ok (.aload_n 0, 1) := by decide +kernel
theorem dX12_valleyLine_151 : decode cX12_valleyLine 151 = .ok (.iconst 4, 1) := by decide +kernel
theorem dX12_valleyLine_152 : decode cX12_valleyLine 152 = .ok (.iconst 0, 1) := by decide +kernel
theorem dX12_valleyLine_153 : decode cX12_valleyLine 153 = .ok (.bipush 10, 2) := by decide +kernel
theorem dX12_valleyLine_155 : decode cX12_valleyLine 155 = .ok (.invokevirtual 298, 3) := by decide +kernel
theorem dX12_valleyLine_158 : decode cX12_valleyLine 158 = .ok (.ireturn, 1) := by decide +kernel
theorem dX12_valleyLine_159 : decode cX12_valleyLine 159 = .ok (.aload_n 0, 1) := by decide +kernel
theorem dX12_valleyLine_160 : decode cX12_valleyLine 160 = .ok (.ldc2_w 171, 3) := by decide +kernel
theorem dX12_valleyLine_163 : decode cX12_valleyLine 163 = .ok (.invokevirtual 279, 3) := by decide +kernel
theorem dX12_valleyLine_166 : decode cX12_valleyLine 166 = .ok (.ifCond .eq 13, 3) := by decide +kernel
theorem dX12_valleyLine_169 : decode cX12_valleyLine 169 = .ok (.aload_n 0, 1) := by decide +kernel
theorem dX12_valleyLine_170 : decode cX12_valleyLine 170 = .ok (.iconst 5, 1) := by decide +kernel
theorem dX12_valleyLine_171 : decode cX12_valleyLine 171 = .ok (.bipush 10, 2) := by decide +kernel
theorem dX12_valleyLine_173 : decode cX12_valleyLine 173 = .ok (.bipush 30, 2) := by decide +kernel
theorem dX12_valleyLine_175 : decode cX12_valleyLine 175 = .ok (.invokevirtual 298, 3) := by decide +kernel
theorem dX12_valleyLine_178 : decode cX12_valleyLine 178 = .ok (.ireturn, 1) := by decide +kernel
theorem dX12_valleyLine_179 : decode cX12_valleyLine 179 = .ok (.aload_n 0, 1) := by decide +kernel
theorem dX12_valleyLine_180 : decode cX12_valleyLine 180 = .ok (.ldc2_w 173, 3) := by decide +kernel
theorem dX12_valleyLine_183 : decode cX12_valleyLine 183 = .ok (.invokevirtual 279, 3) := by decide +kernel
theorem dX12_valleyLine_186 : decode cX12_valleyLine 186 = .ok (.ifCond .eq 13, 3) := by decide +kernel
theorem dX12_valleyLine_189 : decode cX12_valleyLine 189 = .ok (.aload_n 0, 1) := by decide +kernel
theorem dX12_valleyLine_190 : decode cX12_valleyLine 190 = .ok (.bipush 6, 2) := by decide +kernel
theorem dX12_valleyLine_192 : decode cX12_valleyLine 192 = .ok (.iconst 0, 1) := by decide +kernel
theorem dX12_valleyLine_193 : decode cX12_valleyLine 193 = .ok (.bipush 20, 2) := by decide +kernel
theorem dX12_valleyLine_195 : decode cX12_valleyLine 195 = .ok (.invokevirtual 298, 3) := by decide +kernel
theorem dX12_valleyLine_198 : decode cX12_valleyLine 198 = .ok (.ireturn, 1) := by decide +kernel
theorem dX12_valleyLine_199 : decode cX12_valleyLine 199 = .ok (.aload_n 0, 1) := by decide +kernel
theorem dX12_valleyLine_200 : decode cX12_valleyLine 200 = .ok (.ldc2_w 175, 3) := by decide +kernel
theorem dX12_valleyLine_203 : decode cX12_valleyLine 203 = .ok (.invokevirtual 279, 3) := by decide +kernel
theorem dX12_valleyLine_206 : decode cX12_valleyLine 206 = .ok (.ifCond .eq 16, 3) := by decide +kernel
theorem dX12_valleyLine_209 : decode cX12_valleyLine 209 = .ok (.aload_n 0, 1) := by decide +kernel
theorem dX12_valleyLine_210 : decode cX12_valleyLine 210 = .ok (.bipush 7, 2) := by decide +kernel
theorem dX12_valleyLine_212 : decode cX12_valleyLine 212 = .ok (.bipush 10, 2) := by decide +kernel
theorem dX12_valleyLine_214 : decode cX12_valleyLine 214 = .ok (.bipush 40, 2) := by decide +kernel
theorem dX12_valleyLine_216 : decode cX12_valleyLine 216 = .ok (.invokevirtual 298, 3) := by decide +kernel
theorem dX12_valleyLine_219 : decode cX12_valleyLine 219 = .ok (.goto 8, 3) := by decide +kernel
theorem dX12_valleyLine_222 : decode cX12_valleyLine 222 = .ok (.aload_n 0, 1) := by decide +kernel
theorem dX12_valleyLine_223 : decode cX12_valleyLine 223 = .ok (.iconst 1, 1) := by decide +kernel
theorem dX12_valleyLine_224 : decode cX12_valleyLine 224 = .ok (.invokevirtual 248, 3) := by decide +kernel
theorem dX12_valleyLine_227 : decode cX12_valleyLine 227 = .ok (.ireturn, 1) := by decide +kernel
theorem dX12_readFact_0 : decode cX12_readFact 0 = .ok (.aload_n 0, 1) := by decide +kernel
theorem dX12_readFact_1 : decode cX12_readFact 1 = .ok (.getfield 37, 3) := by decide +kernel
theorem dX12_readFact_4 : decode cX12_readFact 4 = .ok (.iconst 1, 1) := by decide +kernel
theorem dX12_readFact_5 : decode cX12_readFact 5 = .ok (.iaload, 1) := by decide +kernel
theorem dX12_readFact_6 : decode cX12_readFact 6 = .ok (.istore_n 1, 1) := by decide +kernel
theorem dX12_readFact_7 : decode cX12_readFact 7 = .ok (.iload_n 1, 1) := by decide +kernel
theorem dX12_readFact_8 : decode cX12_readFact 8 = .ok (.bipush 12, 2) := by decide +kernel
theorem dX12_readFact_10 : decode cX12_readFact 10 = .ok (.if_icmp .ne 9, 3) := by decide +kernel
theorem dX12_readFact_13 : decode cX12_readFact 13 = .ok (.aload_n 0, 1) := by decide +kernel
theorem dX12_readFact_14 : decode cX12_readFact 14 = .ok (.iconst 4, 1) := by decide +kernel
theorem dX12_readFact_15 : decode cX12_readFact 15 = .ok (.invokevirtual 248, 3) := by decide +kernel
theorem dX12_readFact_18 : decode cX12_readFact 18 = .ok (.ireturn, 1) := by decide +kernel
theorem dX12_readFact_19 : decode cX12_readFact 19 = .ok (.aload_n 0, 1) := by decide +kernel
theorem dX12_readFact_20 : decode cX12_readFact 20 = .ok (.invokevirtual 251, 3) := by decide +kernel
theorem dX12_readFact_23 : decode cX12_readFact 23 = .ok (.aload_n 0, 1) := by decide +kernel
theorem dX12_readFact_24 : decode cX12_readFact 24 = .ok (.bipush 28, 2) := by decide +kernel
theorem dX12_readFact_26 : decode cX12_readFact 26 = .ok (.iload_n 1, 1) := by decide +kernel
theorem dX12_readFact_27 : decode cX12_readFact 27 = .ok (.iadd, 1) := by decide +kernel
theorem dX12_readFact_28 : decode cX12_readFact 28 = .ok (.invokevirtual 283, 3) := by decide +kernel
theorem dX12_readFact_31 : decode cX12_readFact 31 = .ok (.ifCond .ne 5, 3) := by decide +kernel
theorem dX12_readFact_34 : decode cX12_readFact 34 = .ok (.iconst 0, 1) := by decide +kernel
theorem dX12_readFact_35 : decode cX12_readFact 35 = .ok (.ireturn, 1) := by decide +kernel
theorem dX12_readFact_36 : decode cX12_readFact 36 = .ok (.aload_n 0, 1) := by decide +kernel
theorem dX12_readFact_37 : decode cX12_readFact 37 = .ok (.iconst 1, 1) := by decide +kernel
theorem dX12_readFact_38 : decode cX12_readFact 38 = .ok (.bipush 99, 2) := by decide +kernel
theorem dX12_readFact_40 : decode cX12_readFact 40 = .ok (.invokevirtual 276, 3) := by decide +kernel
theorem dX12_readFact_43 : decode cX12_readFact 43 = .ok (.ifCond .ne 5, 3) := by decide +kernel
theorem dX12_readFact_46 : decode cX12_readFact 46 = .ok (.iconst 0, 1) := by decide +kernel
theorem dX12_readFact_47 : decode cX12_readFact 47 = .ok (.ireturn, 1) := by decide +kernel
theorem dX12_readFact_48 : decode cX12_readFact 48 = .ok (.aload_n 0, 1) := by decide +kernel
theorem dX12_readFact_49 : decode cX12_readFact 49 = .ok (.getfield 37, 3) := by decide +kernel
theorem dX12_readFact_52 : decode cX12_readFact 52 = .ok (.bipush 8, 2) := by decide +kernel
theorem dX12_readFact_54 : decode cX12_readFact 54 = .ok (.iconst 3, 1) := by decide +kernel
theorem dX12_readFact_55 : decode cX12_readFact 55 = .ok (.iload_n 1, 1) := by decide +kernel
theorem dX12_readFact_56 : decode cX12_readFact 56 = .ok (.imul, 1) := by decide +kernel
theorem dX12_readFact_57 : decode cX12_readFact 57 = .ok (.iadd, 1) := by decide +kernel
theorem dX12_readFact_58 : decode cX12_readFact 58 = .ok (.aload_n 0, 1) := by decide +kernel
theorem dX12_readFact_59 : decode cX12_readFact 59 = .ok (.getfield 258, 3) := by decide +kernel
theorem dX12_readFact_62 : decode cX12_readFact 62 = .ok (.iastore, 1) := by decide +kernel
theorem dX12_readFact_63 : decode cX12_readFact 63 = .ok (.aload_n 0, 1) := by decide +kernel
theorem dX12_readFact_64 : decode cX12_readFact 64 = .ok (.iconst 0, 1) := by decide +kernel
theorem dX12_readFact_65 : decode cX12_readFact 65 = .ok (.bipush 99, 2) := by decide +kernel
theorem dX12_readFact_67 : decode cX12_readFact 67 = .ok (.invokevirtual 276, 3) := by decide +kernel
theorem dX12_readFact_70 : decode cX12_readFact 70 = .ok (.ifCond .ne 5, 3) := by decide +kernel
theorem dX12_readFact_73 : decode cX12_readFact 73 = .ok (.iconst 0, 1) := by decide +kernel
theorem dX12_readFact_74 : decode cX12_readFact 74 = .ok (.ireturn, 1) := by decide +kernel
theorem dX12_readFact_75 : decode cX12_readFact 75 = .ok (.aload_n 0, 1) := by decide +kernel
theorem dX12_readFact_76 : decode cX12_readFact 76 = .ok (.getfield 37, 3) := by decide +kernel
theorem dX12_readFact_79 : decode cX12_readFact 79 = .ok (.bipush 8, 2) := by decide +kernel
theorem dX12_readFact_81 : decode cX12_readFact 81 = .ok (.iconst 3, 1) := by decide +kernel
theorem dX12_readFact_82 : decode cX12_readFact 82 = .ok (.iload_n 1, 1) := by decide +kernel
theorem dX12_readFact_83 : decode cX12_readFact 83 = .ok (.imul, 1) := by decide +kernel
theorem dX12_readFact_84 : decode cX12_readFact 84 = .ok (.iadd, 1) := by decide +kernel
theorem dX12_readFact_85 : decode cX12_readFact 85 = .ok (.iconst 1, 1) := by decide +kernel
theorem dX12_readFact_86 : decode cX12_readFact 86 = .ok (.iadd, 1) := by decide +kernel
theorem dX12_readFact_87 : decode cX12_readFact 87 = .ok (.aload_n 0, 1) := by decide +kernel
theorem dX12_readFact_88 : decode cX12_readFact 88 = .ok (.getfield 258, 3) := by decide +kernel
theorem dX12_readFact_91 : decode cX12_readFact 91 = .ok (.iastore, 1) := by decide +kernel
theorem dX12_readFact_92 : decode cX12_readFact 92 = .ok (.aload_n 0, 1) := by decide +kernel
theorem dX12_readFact_93 : decode cX12_readFact 93 = .ok (.bipush 20, 2) := by decide +kernel
theorem dX12_readFact_95 : decode cX12_readFact 95 = .ok (.aload_n 0, 1) := by decide +kernel
theorem dX12_readFact_96 : decode cX12_readFact 96 = .ok (.getfield 37, 3) := by decide +kernel
theorem dX12_readFact_99 : decode cX12_readFact 99 = .ok (.iconst 0, 1) := by decide +kernel
theorem dX12_readFact_100 : decode cX12_readFact 100 = .ok (.iaload, 1) := by decide +kernel
theorem dX12_readFact_101 : decode cX12_readFact 101 = .ok (.invokevirtual 301, 3) := by decide +kernel
theorem dX12_readFact_104 : decode cX12_readFact 104 = .ok (.ifCond .ne 5, 3) := by decide +kernel
theorem dX12_readFact_107 : decode cX12_readFact 107 = .ok (.iconst 0, 1) := by decide +kernel
theorem dX12_readFact_108 : decode cX12_readFact 108 = .ok (.ireturn, 1) := by decide +kernel
theorem dX12_readFact_109 : decode cX12_readFact 109 = .ok (.aload_n 0, 1) := by decide +kernel
theorem dX12_readFact_110 : decode cX12_readFact 110 = .ok (.getfield 37, 3) := by decide +kernel
theorem dX12_readFact_113 : decode cX12_readFact 113 = .ok (.bipush 8, 2) := by decide +kernel
theorem dX12_readFact_115 : decode cX12_readFact 115 = .ok (.iconst 3, 1) := by decide +kernel
theorem dX12_readFact_116 : decode cX12_readFact 116 = .ok (.iload_n 1, 1) := by decide +kernel
theorem dX12_readFact_117 : decode cX12_readFact 117 = .ok (.imul, 1) := by decide +kernel
theorem dX12_readFact_118 : decode cX12_readFact 118 = .ok (.iadd, 1) := by decide +kernel
theorem dX12_readFact_119 : decode cX12_readFact 119 = .ok (.iconst 2, 1) := by decide +kernel
theorem dX12_readFact_120 : decode cX12_readFact 120 = .ok (.iadd, 1) := by decide +kernel
theorem dX12_readFact_121 : decode cX12_readFact 121 = .ok (.aload_n 0, 1) := by decide +kernel
theorem dX12_readFact_122 : decode cX12_readFact 122 = .ok (.getfield 258, 3) := by decide +kernel
theorem dX12_readFact_125 : decode cX12_readFact 125 = .ok (.iastore, 1) := by decide +kernel
theorem dX12_readFact_126 : decode cX12_readFact 126 = .ok (.aload_n 0, 1) := by decide +kernel
theorem dX12_readFact_127 : decode cX12_readFact 127 = .ok (.getfield 37, 3) := by decide +kernel
theorem dX12_readFact_130 : decode cX12_readFact 130 = .ok (.iconst 1, 1) := by decide +kernel
theorem dX12_readFact_131 : decode cX12_readFact 131 = .ok (.dup2, 1) := by decide +kernel
theorem dX12_readFact_132 : decode cX12_readFact 132 = .ok (.iaload, 1) := by decide +kernel
theorem dX12_readFact_133 : decode cX12_readFact 133 = .ok (.iconst 1, 1) := by decide +kernel
theorem dX12_readFact_134 : decode cX12_readFact 134 = .ok (.iadd, 1) := by decide +kernel
theorem dX12_readFact_135 : decode cX12_readFact 135 = .ok (.iastore, 1) := by decide +kernel
theorem dX12_readFact_136 : decode cX12_readFact 136 = .ok (.iconst 1, 1) := by decide +kernel
theorem dX12_readFact_137 : decode cX12_readFact 137 = .ok (.ireturn, 1) := by decide +kernel
theorem dX12_readKnows_0 : decode cX12_readKnows 0 = .ok (.aload_n 0, 1) := by decide +kernel
theorem dX12_readKnows_1 : decode cX12_readKnows 1 = .ok (.invokevirtual 251, 3) := by decide +kernel
theorem dX12_readKnows_4 : decode cX12_readKnows 4 = .ok (.aload_n 0, 1) := by decide +kernel
theorem dX12_readKnows_5 : decode cX12_readKnows 5 = .ok (.bipush 20, 2) := by decide +kernel
theorem dX12_readKnows_7 : decode cX12_readKnows 7 = .ok (.aload_n 0, 1) := by decide +kernel
theorem dX12_readKnows_8 : decode cX12_readKnows 8 = .ok (.getfield 37, 3) := by decide +kernel
theorem dX12_readKnows_11 : decode cX12_readKnows 11 = .ok (.iconst 0, 1) := by decide +kernel
theorem dX12_readKnows_12 : decode cX12_readKnows 12 = .ok (.iaload, 1) := by decide +kernel
theorem dX12_readKnows_13 : decode cX12_readKnows 13 = .ok (.invokevirtual 301, 3) := by decide +kernel
theorem dX12_readKnows_16 : decode cX12_readKnows 16 = .ok (.ifCond .ne 5, 3) := by decide +kernel
theorem dX12_readKnows_19 : decode cX12_readKnows 19 = .ok (.iconst 0, 1) := by decide +kernel
theorem dX12_readKnows_20 : decode cX12_readKnows 20 = .ok (.ireturn, 1) := by decide +kernel
theorem dX12_readKnows_21 : decode cX12_readKnows 21 = .ok (.aload_n 0, 1) := by decide +kernel
theorem dX12_readKnows_22 : decode cX12_readKnows 22 = .ok (.getfield 258, 3) := by decide +kernel
theorem dX12_readKnows_25 : decode cX12_readKnows 25 = .ok (.istore_n 1, 1) := by decide +kernel
theorem dX12_readKnows_26 : decode cX12_readKnows 26 = .ok (.aload_n 0, 1) := by decide +kernel
theorem dX12_readKnows_27 : decode cX12_readKnows 27 = .ok (.invokevirtual 261, 3) := by decide +kernel
theorem dX12_readKnows_30 : decode cX12_readKnows 30 = .ok (.ifCond .ne 9, 3) := by decide +kernel
theorem dX12_readKnows_33 : decode cX12_readKnows 33 = .ok (.aload_n 0, 1) := by decide +kernel
theorem dX12_readKnows_34 : decode cX12_readKnows 34 = .ok (.iconst 1, 1) := by decide +kernel
theorem dX12_readKnows_35 : decode cX12_readKnows 35 = .ok (.invokevirtual 248, 3) := by decide +kernel
theorem dX12_readKnows_38 : decode cX12_readKnows 38 = .ok (.ireturn, 1) := by decide +kernel
theorem dX12_readKnows_39 : decode cX12_readKnows 39 = .ok (.aload_n 0, 1) := by decide +kernel
theorem dX12_readKnows_40 : decode cX12_readKnows 40 = .ok (.bipush 28, 2) := by decide +kernel
theorem dX12_readKnows_42 : decode cX12_readKnows 42 = .ok (.aload_n 0, 1) := by decide +kernel
theorem dX12_readKnows_43 : decode cX12_readKnows 43 = .ok (.getfield 37, 3) := by decide +kernel
theorem dX12_readKnows_46 : decode cX12_readKnows 46 = .ok (.iconst 1, 1) := by decide +kernel
theorem dX12_readKnows_47 : decode cX12_readKnows 47 = .ok (.iaload, 1) := by decide +kernel
theorem dX12_readKnows_48 : decode cX12_readKnows 48 = .ok (.invokevirtual 265, 3) := by decide +kernel
theorem dX12_readKnows_51 : decode cX12_readKnows 51 = .ok (.istore_n 2, 1) := by decide +kernel
theorem dX12_readKnows_52 : decode cX12_readKnows 52 = .ok (.iload_n 2, 1) := by decide +kernel
theorem dX12_readKnows_53 : decode cX12_readKnows 53 = .ok (.ifCond .lt 19, 3) := by decide +kernel
theorem dX12_readKnows_56 : decode cX12_readKnows 56 = .ok (.aload_n 0, 1) := by decide +kernel
theorem dX12_readKnows_57 : decode cX12_readKnows 57 = .ok (.getfield 37, 3) := by decide +kernel
theorem dX12_readKnows_60 : decode cX12_readKnows 60 = .ok (.bipush 44, 2) := by decide +kernel
theorem dX12_readKnows_62 : decode cX12_readKnows 62 = .ok (.iload_n 1, 1) := by decide +kernel
theorem dX12_readKnows_63 : decode cX12_readKnows 63 = .ok (.iadd, 1) := by decide +kernel
theorem dX12_readKnows_64 : decode cX12_readKnows 64 = .ok (.iaload, 1) := by decide +kernel
theorem dX12_readKnows_65 : decode cX12_readKnows 65 = .ok (.iload_n 2, 1) := by decide +kernel
theorem dX12_readKnows_66 : decode cX12_readKnows 66 = .ok (.invokestatic 272, 3) := by decide +kernel
theorem dX12_readKnows_69 : decode cX12_readKnows 69 = .ok (.ifCond .eq 9, 3) := by decide +kernel
theorem dX12_readKnows_72 : decode cX12_readKnows 72 = .ok (.aload_n 0, 1) := by decide +kernel
theorem dX12_readKnows_73 : decode cX12_readKnows 73 = .ok (.iconst 3, 1) := by decide +kernel
theorem dX12_readKnows_74 : decode cX12_readKnows 74 = .ok (.invokevirtual 248, 3) := by decide +kernel
theorem dX12_readKnows_77 : decode cX12_readKnows 77 = .ok (.ireturn, 1) := by decide +kernel
theorem dX12_readKnows_78 : decode cX12_readKnows 78 = .ok (.aload_n 0, 1) := by decide +kernel
theorem dX12_readKnows_79 : decode cX12_readKnows 79 = .ok (.getfield 37, 3) := by decide +kernel
theorem dX12_readKnows_82 : decode cX12_readKnows 82 = .ok (.bipush 44, 2) := by decide +kernel
theorem dX12_readKnows_84 : decode cX12_readKnows 84 = .ok (.iload_n 1, 1) := by decide +kernel
theorem dX12_readKnows_85 : decode cX12_readKnows 85 = .ok (.iadd, 1) := by decide +kernel
theorem dX12_readKnows_86 : decode cX12_readKnows 86 = .ok (.aload_n 0, 1) := by decide +kernel
theorem dX12_readKnows_87 : decode cX12_readKnows 87 = .ok (.getfield 37, 3) := by decide +kernel
theorem dX12_readKnows_90 : decode cX12_readKnows 90 = .ok (.bipush 44, 2) := by decide +kernel
theorem dX12_readKnows_92 : decode cX12_readKnows 92 = .ok (.iload_n 1, 1) := by decide +kernel
theorem dX12_readKnows_93 : decode cX12_readKnows 93 = .ok (.iadd, 1) := by decide +kernel
theorem dX12_readKnows_94 : decode cX12_readKnows 94 = .ok (.iaload, 1) := by decide +kernel
theorem dX12_readKnows_95 : decode cX12_readKnows 95 = .ok (.iconst 1, 1) := by decide +kernel
theorem dX12_readKnows_96 : decode cX12_readKnows 96 = .ok (.iload_n 2, 1) := by decide +kernel
theorem dX12_readKnows_97 : decode cX12_readKnows 97 = .ok (.ishl, 1) := by decide +kernel
theorem dX12_readKnows_98 : decode cX12_readKnows 98 = .ok (.ior, 1) := by decide +kernel
theorem dX12_readKnows_99 : decode cX12_readKnows 99 = .ok (.iastore, 1) := by decide +kernel
theorem dX12_readKnows_100 : decode cX12_readKnows 100 = .ok (.aload_n 0, 1) := by decide +kernel
theorem dX12_readKnows_101 : decode cX12_readKnows 101 = .ok (.invokevirtual 251, 3) := by decide +kernel
theorem dX12_readKnows_104 : decode cX12_readKnows 104 = .ok (.iconst 1, 1) := by decide +kernel
theorem dX12_readKnows_105 : decode cX12_readKnows 105 = .ok (.ireturn, 1) := by decide +kernel
theorem dX12_readSince_0 : decode cX12_readSince 0 = .ok (.bipush 52, 2) := by decide +kernel
theorem dX12_readSince_2 : decode cX12_readSince 2 = .ok (.iconst 3, 1) := by decide +kernel
theorem dX12_readSince_3 : decode cX12_readSince 3 = .ok (.aload_n 0, 1) := by decide +kernel
theorem dX12_readSince_4 : decode cX12_readSince 4 = .ok (.getfield 37, 3) := by decide +kernel
theorem dX12_readSince_7 : decode cX12_readSince 7 = .ok (.iconst 2, 1) := by decide +kernel
theorem dX12_readSince_8 : decode cX12_readSince 8 = .ok (.iaload, 1) := by decide +kernel
theorem dX12_readSince_9 : decode cX12_readSince 9 = .ok (.imul, 1) := by decide +kernel
theorem dX12_readSince_10 : decode cX12_readSince 10 = .ok (.iadd, 1) := by decide +kernel
theorem dX12_readSince_11 : decode cX12_readSince 11 = .ok (.istore_n 1, 1) := by decide +kernel
theorem dX12_readSince_12 : decode cX12_readSince 12 = .ok (.aload_n 0, 1) := by decide +kernel
theorem dX12_readSince_13 : decode cX12_readSince 13 = .ok (.getfield 37, 3) := by decide +kernel
theorem dX12_readSince_16 : decode cX12_readSince 16 = .ok (.iconst 2, 1) := by decide +kernel
theorem dX12_readSince_17 : decode cX12_readSince 17 = .ok (.iaload, 1) := by decide +kernel
theorem dX12_readSince_18 : decode cX12_readSince 18 = .ok (.bipush 8, 2) := by decide +kernel
theorem dX12_readSince_20 : decode cX12_readSince 20 = .ok (.if_icmp .ne 9, 3) := by decide +kernel
theorem dX12_readSince_23 : decode cX12_readSince 23 = .ok (.aload_n 0, 1) := by decide +kernel
theorem dX12_readSince_24 : decode cX12_readSince 24 = .ok (.iconst 4, 1) := by decide +kernel
theorem dX12_readSince_25 : decode cX12_readSince 25 = .ok (.invokevirtual 248, 3) := by decide +kernel
theorem dX12_readSince_28 : decode cX12_readSince 28 = .ok (.ireturn, 1) := by decide +kernel
theorem dX12_readSince_29 : decode cX12_readSince 29 = .ok (.aload_n 0, 1) := by decide +kernel
theorem dX12_readSince_30 : decode cX12_readSince 30 = .ok (.invokevirtual 251, 3) := by decide +kernel
theorem dX12_readSince_33 : decode cX12_readSince 33 = .ok (.iconst 0, 1) := by decide +kernel
theorem dX12_readSince_34 : decode cX12_readSince 34 = .ok (.istore_n 2, 1) := by decide +kernel
theorem dX12_readSince_35 : decode cX12_readSince 35 = .ok (.iload_n 2, 1) := by decide +kernel
theorem dX12_readSince_36 : decode cX12_readSince 36 = .ok (.iconst 3, 1) := by decide +kernel
theorem dX12_readSince_37 : decode cX12_readSince 37 = .ok (.if_icmp .ge 89, 3) := by decide +kernel
theorem dX12_readSince_40 : decode cX12_readSince 40 = .ok (.aload_n 0, 1) := by decide +kernel
theorem dX12_readSince_41 : decode cX12_readSince 41 = .ok (.invokevirtual 261, 3) := by decide +kernel
theorem dX12_readSince_44 : decode cX12_readSince 44 = .ok (.ifCond .ne 9, 3) := by decide +kernel
theorem dX12_readSince_47 : decode cX12_readSince 47 = .ok (.aload_n 0, 1) := by decide +kernel
theorem dX12_readSince_48 : decode cX12_readSince 48 = .ok (.iconst 1, 1) := by decide +kernel
theorem dX12_readSince_49 : decode cX12_readSince 49 = .ok (.invokevirtual 248, 3) := by decide +kernel
theorem dX12_readSince_52 : decode cX12_readSince 52 = .ok (.ireturn, 1) := by decide +kernel
theorem dX12_readSince_53 : decode cX12_readSince 53 = .ok (.aload_n 0, 1) := by decide +kernel
theorem dX12_readSince_54 : decode cX12_readSince 54 = .ok (.bipush 28, 2) := by decide +kernel
theorem dX12_readSince_56 : decode cX12_readSince 56 = .ok (.aload_n 0, 1) := by decide +kernel
theorem dX12_readSince_57 : decode cX12_readSince 57 = .ok (.getfield 37, 3) := by decide +kernel
theorem dX12_readSince_60 : decode cX12_readSince 60 = .ok (.iconst 1, 1) := by decide +kernel
theorem dX12_readSince_61 : decode cX12_readSince 61 = .ok (.iaload, 1) := by decide +kernel
theorem dX12_readSince_62 : decode cX12_readSince 62 = .ok (.invokevirtual 265, 3) := by decide +kernel
theorem dX12_readSince_65 : decode cX12_readSince 65 = .ok (.istore_n 3, 1) := by decide +kernel
theorem dX12_readSince_66 : decode cX12_readSince 66 = .ok (.iload_n 3, 1) := by decide +kernel
theorem dX12_readSince_67 : decode cX12_readSince 67 = .ok (.ifCond .lt 34, 3) := by decide +kernel
theorem dX12_readSince_70 : decode cX12_readSince 70 = .ok (.iload_n 2, 1) := by decide +kernel
theorem dX12_readSince_71 : decode cX12_readSince 71 = .ok (.ifCond .le 13, 3) := by decide +kernel
theorem dX12_readSince_74 : decode cX12_readSince 74 = .ok (.iload_n 3, 1) := by decide +kernel
theorem dX12_readSince_75 : decode cX12_readSince 75 = .ok (.aload_n 0, 1) := by decide +kernel
theorem dX12_readSince_76 : decode cX12_readSince 76 = .ok (.getfield 37, 3) := by decide +kernel
theorem dX12_readSince_79 : decode cX12_readSince 79 = .ok (.iload_n 1, 1) := by decide +kernel
theorem dX12_readSince_80 : decode cX12_readSince 80 = .ok (.iaload, 1) := by decide +kernel
theorem dX12_readSince_81 : decode cX12_readSince 81 = .ok (.if_icmp .eq 20, 3) := by decide +kernel
theorem dX12_readSince_84 : decode cX12_readSince 84 = .ok (.iload_n 2, 1) := by decide +kernel
theorem dX12_readSince_85 : decode cX12_readSince 85 = .ok (.iconst 1, 1) := by decide +kernel
theorem dX12_readSince_86 : decode cX12_readSince 86 = .ok (.if_icmp .le 21, 3) := by decide +kernel
theorem dX12_readSince_89 : decode cX12_readSince 89 = .ok (.iload_n 3, 1) := by decide +kernel
theorem dX12_readSince_90 : decode cX12_readSince 90 = .ok (.aload_n 0, 1) := by decide +kernel
theorem dX12_readSince_91 : decode cX12_readSince 91 = .ok (.getfield 37, 3) := by decide +kernel
theorem dX12_readSince_94 : decode cX12_readSince 94 = .ok (.iload_n 1, 1) := by decide +kernel
theorem dX12_readSince_95 : decode cX12_readSince 95 = .ok (.iconst 1, 1) := by decide +kernel
theorem dX12_readSince_96 : decode cX12_readSince 96 = .ok (.iadd, 1) := by decide +kernel
theorem dX12_readSince_97 : decode cX12_readSince 97 = .ok (.iaload, 1) := by decide +kernel
theorem dX12_readSince_98 : decode cX12_readSince 98 = .ok (.if_icmp .ne 9, 3) := by decide +kernel
theorem dX12_readSince_101 : decode cX12_readSince 101 = .ok (.aload_n 0, 1) := by decide +kernel
theorem dX12_readSince_102 : decode cX12_readSince 102 = .ok (.iconst 3, 1) := by decide +kernel
theorem dX12_readSince_103 : decode cX12_readSince 103 = .ok (.invokevirtual 248, 3) := by decide +kernel
theorem dX12_readSince_106 : decode cX12_readSince 106 = .ok (.ireturn, 1) := by decide +kernel
theorem dX12_readSince_107 : decode cX12_readSince 107 = .ok (.aload_n 0, 1) := by decide +kernel
theorem dX12_readSince_108 : decode cX12_readSince 108 = .ok (.getfield 37, 3) := by decide +kernel
theorem dX12_readSince_111 : decode cX12_readSince 111 = .ok (.iload_n 1, 1) := by decide +kernel
theorem dX12_readSince_112 : decode cX12_readSince 112 = .ok (.iload_n 2, 1) := by decide +kernel
theorem dX12_readSince_113 : decode cX12_readSince 113 = .ok (.iadd, 1) := by decide +kernel
theorem dX12_readSince_114 : decode cX12_readSince 114 = .ok (.iload_n 3, 1) := by decide +kernel
theorem dX12_readSince_115 : decode cX12_readSince 115 = .ok (.iastore, 1) := by decide +kernel
theorem dX12_readSince_116 : decode cX12_readSince 116 = .ok (.aload_n 0, 1) := by decide +kernel
theorem dX12_readSince_117 : decode cX12_readSince 117 = .ok (.invokevirtual 251, 3) := by decide +kernel
theorem dX12_readSince_120 : decode cX12_readSince 120 = .ok (.iinc 2 1, 3) := by decide +kernel
theorem dX12_readSince_123 : decode cX12_readSince 123 = .ok (.goto (-88), 3) := by decide +kernel
theorem dX12_readSince_126 : decode cX12_readSince 126 = .ok (.aload_n 0, 1) := by decide +kernel
theorem dX12_readSince_127 : decode cX12_readSince 127 = .ok (.getfield 37, 3) := by decide +kernel
theorem dX12_readSince_130 : decode cX12_readSince 130 = .ok (.iconst 2, 1) := by decide +kernel
theorem dX12_readSince_131 : decode cX12_readSince 131 = .ok (.dup2, 1) := by decide +kernel
theorem dX12_readSince_132 : decode cX12_readSince 132 = .ok (.iaload, 1) := by decide +kernel
theorem dX12_readSince_133 : decode cX12_readSince 133 = .ok (.iconst 1, 1) := by decide +kernel
theorem dX12_readSince_134 : decode cX12_readSince 134 = .ok (.iadd, 1) := by decide +kernel
theorem dX12_readSince_135 : decode cX12_readSince 135 = .ok (.iastore, 1) := by decide +kernel
theorem dX12_readSince_136 : decode cX12_readSince 136 = .ok (.iconst 1, 1) := by decide +kernel
theorem dX12_readSince_137 : decode cX12_readSince 137 = .ok (.ireturn, 1) := by decide +kernel
theorem dX12_readAsks_0 : decode cX12_readAsks 0 = .ok (.aload_n 0, 1) := by decide +kernel
theorem dX12_readAsks_1 : decode cX12_readAsks 1 = .ok (.invokevirtual 251, 3) := by decide +kernel
theorem dX12_readAsks_4 : decode cX12_readAsks 4 = .ok (.aload_n 0, 1) := by decide +kernel
theorem dX12_readAsks_5 : decode cX12_readAsks 5 = .ok (.bipush 20, 2) := by decide +kernel
theorem dX12_readAsks_7 : decode cX12_readAsks 7 = .ok (.aload_n 0, 1) := by decide +kernel
theorem dX12_readAsks_8 : decode cX12_readAsks 8 = .ok (.getfield 37, 3) := by decide +kernel
theorem dX12_readAsks_11 : decode cX12_readAsks 11 = .ok (.iconst 0, 1) := by decide +kernel
theorem dX12_readAsks_12 : decode cX12_readAsks 12 = .ok (.iaload, 1) := by decide +kernel
theorem dX12_readAsks_13 : decode cX12_readAsks 13 = .ok (.invokevirtual 301, 3) := by decide +kernel
theorem dX12_readAsks_16 : decode cX12_readAsks 16 = .ok (.ifCond .ne 5, 3) := by decide +kernel
theorem dX12_readAsks_19 : decode cX12_readAsks 19 = .ok (.iconst 0, 1) := by decide +kernel
theorem dX12_readAsks_20 : decode cX12_readAsks 20 = .ok (.ireturn, 1) := by decide +kernel
theorem dX12_readAsks_21 : decode cX12_readAsks 21 = .ok (.aload_n 0, 1) := by decide +kernel
theorem dX12_readAsks_22 : decode cX12_readAsks 22 = .ok (.getfield 258, 3) := by decide +kernel
theorem dX12_readAsks_25 : decode cX12_readAsks 25 = .ok (.istore_n 1, 1) := by decide +kernel
theorem dX12_readAsks_26 : decode cX12_readAsks 26 = .ok (.aload_n 0, 1) := by decide +kernel
theorem dX12_readAsks_27 : decode cX12_readAsks 27 = .ok (.invokevirtual 261, 3) := by decide +kernel
theorem dX12_readAsks_30 : decode cX12_readAsks 30 = .ok (.ifCond .ne 9, 3) := by decide +kernel
theorem dX12_readAsks_33 : decode cX12_readAsks 33 = .ok (.aload_n 0, 1) := by decide +kernel
theorem dX12_readAsks_34 : decode cX12_readAsks 34 = .ok (.iconst 1, 1) := by decide +kernel
theorem dX12_readAsks_35 : decode cX12_readAsks 35 = .ok (.invokevirtual 248, 3) := by decide +kernel
theorem dX12_readAsks_38 : decode cX12_readAsks 38 = .ok (.ireturn, 1) := by decide +kernel
theorem dX12_readAsks_39 : decode cX12_readAsks 39 = .ok (.aload_n 0, 1) := by decide +kernel
theorem dX12_readAsks_40 : decode cX12_readAsks 40 = .ok (.bipush 28, 2) := by decide +kernel
theorem dX12_readAsks_42 : decode cX12_readAsks 42 = .ok (.aload_n 0, 1) := by decide +kernel
theorem dX12_readAsks_43 : decode cX12_readAsks 43 = .ok (.getfield 37, 3) := by decide +kernel
theorem dX12_readAsks_46 : decode cX12_readAsks 46 = .ok (.iconst 1, 1) := by decide +kernel
theorem dX12_readAsks_47 : decode cX12_readAsks 47 = .ok (.iaload, 1) := by decide +kernel
theorem dX12_readAsks_48 : decode cX12_readAsks 48 = .ok (.invokevirtual 265, 3) := by decide +kernel
theorem dX12_readAsks_51 : decode cX12_readAsks 51 = .ok (.istore_n 2, 1) := by decide +kernel
theorem dX12_readAsks_52 : decode cX12_readAsks 52 = .ok (.iload_n 2, 1) := by decide +kernel
theorem dX12_readAsks_53 : decode cX12_readAsks 53 = .ok (.ifCond .lt 20, 3) := by decide +kernel
theorem dX12_readAsks_56 : decode cX12_readAsks 56 = .ok (.aload_n 0, 1) := by decide +kernel
theorem dX12_readAsks_57 : decode cX12_readAsks 57 = .ok (.getfield 37, 3) := by decide +kernel
theorem dX12_readAsks_60 : decode cX12_readAsks 60 = .ok (.bipush 76, 2) := by decide +kernel
theorem dX12_readAsks_62 : decode cX12_readAsks 62 = .ok (.bipush 12, 2) := by decide +kernel
theorem dX12_readAsks_64 : decode cX12_readAsks 64 = .ok (.iload_n 1, 1) := by decide +kernel
theorem dX12_readAsks_65 : decode cX12_readAsks 65 = .ok (.imul, 1) := by decide +kernel
theorem dX12_readAsks_66 : decode cX12_readAsks 66 = .ok (.iadd, 1) := by decide +kernel
theorem dX12_readAsks_67 : decode cX12_readAsks 67 = .ok (.iload_n 2, 1) := by decide +kernel
theorem dX12_readAsks_68 : decode cX12_readAsks 68 = .ok (.iadd, 1) := by decide +kernel
theorem dX12_readAsks_69 : decode cX12_readAsks 69 = .ok (.iaload, 1) := by decide +kernel
theorem dX12_readAsks_70 : decode cX12_readAsks 70 = .ok (.ifCond .le 9, 3) := by decide +kernel
theorem dX12_readAsks_73 : decode cX12_readAsks 73 = .ok (.aload_n 0, 1) := by decide +kernel
theorem dX12_readAsks_74 : decode cX12_readAsks 74 = .ok (.iconst 3, 1) := by decide +kernel
theorem dX12_readAsks_75 : decode cX12_readAsks 75 = .ok (.invokevirtual 248, 3) := by decide +kernel
theorem dX12_readAsks_78 : decode cX12_readAsks 78 = .ok (.ireturn, 1) := by decide +kernel
theorem dX12_readAsks_79 : decode cX12_readAsks 79 = .ok (.aload_n 0, 1) := by decide +kernel
theorem dX12_readAsks_80 : decode cX12_readAsks 80 = .ok (.invokevirtual 251, 3) := by decide +kernel
theorem dX12_readAsks_83 : decode cX12_readAsks 83 = .ok (.aload_n 0, 1) := by decide +kernel
theorem dX12_readAsks_84 : decode cX12_readAsks 84 = .ok (.iconst 0, 1) := by decide +kernel
theorem dX12_readAsks_85 : decode cX12_readAsks 85 = .ok (.bipush 99, 2) := by decide +kernel
theorem dX12_readAsks_87 : decode cX12_readAsks 87 = .ok (.invokevirtual 276, 3) := by decide +kernel
theorem dX12_readAsks_90 : decode cX12_readAsks 90 = .ok (.ifCond .ne 5, 3) := by decide +kernel
theorem dX12_readAsks_93 : decode cX12_readAsks 93 = .ok (.iconst 0, 1) := by decide +kernel
theorem dX12_readAsks_94 : decode cX12_readAsks 94 = .ok (.ireturn, 1) := by decide +kernel
theorem dX12_readAsks_95 : decode cX12_readAsks 95 = .ok (.aload_n 0, 1) := by decide +kernel
theorem dX12_readAsks_96 : decode cX12_readAsks 96 = .ok (.getfield 37, 3) := by decide +kernel
theorem dX12_readAsks_99 : decode cX12_readAsks 99 = .ok (.bipush 76, 2) := by decide +kernel
theorem dX12_readAsks_101 : decode cX12_readAsks 101 = .ok (.bipush 12, 2) := by decide +kernel
theorem dX12_readAsks_103 : decode cX12_readAsks 103 = .ok (.iload_n 1, 1) := by decide +kernel
theorem dX12_readAsks_104 : decode cX12_readAsks 104 = .ok (.imul, 1) := by decide +kernel
theorem dX12_readAsks_105 : decode cX12_readAsks 105 = .ok (.iadd, 1) := by decide +kernel
theorem dX12_readAsks_106 : decode cX12_readAsks 106 = .ok (.iload_n 2, 1) := by decide +kernel
theorem dX12_readAsks_107 : decode cX12_readAsks 107 = .ok (.iadd, 1) := by decide +kernel
theorem dX12_readAsks_108 : decode cX12_readAsks 108 = .ok (.aload_n 0, 1) := by decide +kernel
theorem dX12_readAsks_109 : decode cX12_readAsks 109 = .ok (.getfield 258, 3) := by decide +kernel
theorem dX12_readAsks_112 : decode cX12_readAsks 112 = .ok (.iconst 1, 1) := by decide +kernel
theorem dX12_readAsks_113 : decode cX12_readAsks 113 = .ok (.iadd, 1) := by decide +kernel
theorem dX12_readAsks_114 : decode cX12_readAsks 114 = .ok (.iastore, 1) := by decide +kernel
theorem dX12_readAsks_115 : decode cX12_readAsks 115 = .ok (.iconst 1, 1) := by decide +kernel
theorem dX12_readAsks_116 : decode cX12_readAsks 116 = .ok (.ireturn, 1) := by decide +kernel
theorem dX12_valley_0 : decode cX12_valley 0 = .ok (.aload_n 0, 1) := by decide +kernel
theorem dX12_valley_1 : decode cX12_valley 1 = .ok (.iconst 0, 1) := by decide +kernel
theorem dX12_valley_2 : decode cX12_valley 2 = .ok (.putfield 1, 3) := by decide +kernel
theorem dX12_valley_5 : decode cX12_valley 5 = .ok (.aload_n 0, 1) := by decide +kernel
theorem dX12_valley_6 : decode cX12_valley 6 = .ok (.sipush 900, 3) := by decide +kernel
theorem dX12_valley_9 : decode cX12_valley 9 = .ok (.invokevirtual 304, 3) := by decide +kernel
theorem dX12_valley_12 : decode cX12_valley 12 = .ok (.aload_n 0, 1) := by decide +kernel
theorem dX12_valley_13 : decode cX12_valley 13 = .ok (.iconst 0, 1) := by decide +kernel
theorem dX12_valley_14 : decode cX12_valley 14 = .ok (.putfield 239, 3) := by decide +kernel
theorem dX12_valley_17 : decode cX12_valley 17 = .ok (.aload_n 0, 1) := by decide +kernel
theorem dX12_valley_18 : decode cX12_valley 18 = .ok (.iconst 0, 1) := by decide +kernel
theorem dX12_valley_19 : decode cX12_valley 19 = .ok (.putfield 269, 3) := by decide +kernel
theorem dX12_valley_22 : decode cX12_valley 22 = .ok (.aload_n 0, 1) := by decide +kernel
theorem dX12_valley_23 : decode cX12_valley 23 = .ok (.iconst 0, 1) := by decide +kernel
theorem dX12_valley_24 : decode cX12_valley 24 = .ok (.putfield 307, 3) := by decide +kernel
theorem dX12_valley_27 : decode cX12_valley 27 = .ok (.aload_n 0, 1) := by decide +kernel
theorem dX12_valley_28 : decode cX12_valley 28 = .ok (.invokevirtual 209, 3) := by decide +kernel
theorem dX12_valley_31 : decode cX12_valley 31 = .ok (.aload_n 0, 1) := by decide +kernel
theorem dX12_valley_32 : decode cX12_valley 32 = .ok (.invokevirtual 251, 3) := by decide +kernel
theorem dX12_valley_35 : decode cX12_valley 35 = .ok (.aload_n 0, 1) := by decide +kernel
theorem dX12_valley_36 : decode cX12_valley 36 = .ok (.getfield 222, 3) := by decide +kernel
theorem dX12_valley_39 : decode cX12_valley 39 = .ok (.ifCond .eq 39, 3) := by decide +kernel
theorem dX12_valley_42 : decode cX12_valley 42 = .ok (.aload_n 0, 1) := by decide +kernel
theorem dX12_valley_43 : decode cX12_valley 43 = .ok (.invokevirtual 310, 3) := by decide +kernel
theorem dX12_valley_46 : decode cX12_valley 46 = .ok (.ifCond .eq 12, 3) := by decide +kernel
theorem dX12_valley_49 : decode cX12_valley 49 = .ok (.aload_n 0, 1) := by decide +kernel
theorem dX12_valley_50 : decode cX12_valley 50 = .ok (.bipush 59, 2) := by decide +kernel
theorem dX12_valley_52 : decode cX12_valley 52 = .ok (.invokevirtual 313, 3) := by decide +kernel
theorem dX12_valley_55 : decode cX12_valley 55 = .ok (.ifCond .ne 10, 3) := by decide +kernel
theorem dX12_valley_58 : decode cX12_valley 58 = .ok (.iconst (-1), 1) := by decide +kernel
theorem dX12_valley_59 : decode cX12_valley 59 = .ok (.aload_n 0, 1) := by decide +kernel
theorem dX12_valley_60 : decode cX12_valley 60 = .ok (.getfield 242, 3) := by decide +kernel
theorem dX12_valley_63 : decode cX12_valley 63 = .ok (.isub, 1) := by decide +kernel
theorem dX12_valley_64 : decode cX12_valley 64 = .ok (.ireturn, 1) := by decide +kernel
theorem dX12_valley_65 : decode cX12_valley 65 = .ok (.aload_n 0, 1) := by decide +kernel
theorem dX12_valley_66 : decode cX12_valley 66 = .ok (.dup, 1) := by decide +kernel
theorem dX12_valley_67 : decode cX12_valley 67 = .ok (.getfield 307, 3) := by decide +kernel
theorem dX12_valley_70 : decode cX12_valley 70 = .ok (.iconst 1, 1) := by decide +kernel
theorem dX12_valley_71 : decode cX12_valley 71 = .ok (.iadd, 1) := by decide +kernel
theorem dX12_valley_72 : decode cX12_valley 72 = .ok (.putfield 307, 3) := by decide +kernel
theorem dX12_valley_75 : decode cX12_valley 75 = .ok (.goto (-40), 3) := by decide +kernel
theorem dX12_valley_78 : decode cX12_valley 78 = .ok (.iconst 0, 1) := by decide +kernel
theorem dX12_valley_79 : decode cX12_valley 79 = .ok (.istore_n 1, 1) := by decide +kernel
theorem dX12_valley_80 : decode cX12_valley 80 = .ok (.iload_n 1, 1) := by decide +kernel
theorem dX12_valley_81 : decode cX12_valley 81 = .ok (.sipush 666, 3) := by decide +kernel
theorem dX12_valley_84 : decode cX12_valley 84 = .ok (.if_icmp .ge 32, 3) := by decide +kernel
theorem dX12_valley_87 : decode cX12_valley 87 = .ok (.aload_n 0, 1) := by decide +kernel
theorem dX12_valley_88 : decode cX12_valley 88 = .ok (.getfield 33, 3) := by decide +kernel
theorem dX12_valley_91 : decode cX12_valley 91 = .ok (.iload_n 1, 1) := by decide +kernel
theorem dX12_valley_92 : decode cX12_valley 92 = .ok (.iload_n 1, 1) := by decide +kernel
theorem dX12_valley_93 : decode cX12_valley 93 = .ok (.sipush 172, 3) := by decide +kernel
theorem dX12_valley_96 : decode cX12_valley 96 = .ok (.if_icmp .ge 12, 3) := by decide +kernel
theorem dX12_valley_99 : decode cX12_valley 99 = .ok (.aload_n 0, 1) := by decide +kernel
theorem dX12_valley_100 : decode cX12_valley 100 = .ok (.getfield 37, 3) := by decide +kernel
theorem dX12_valley_103 : decode cX12_valley 103 = .ok (.iload_n 1, 1) := by decide +kernel
theorem dX12_valley_104 : decode cX12_valley 104 = .ok (.iaload, 1) := by decide +kernel
theorem dX12_valley_105 : decode cX12_valley 105 = .ok (.goto 4, 3) := by decide +kernel
theorem dX12_valley_108 : decode cX12_valley 108 = .ok (.iconst 0, 1) := by decide +kernel
theorem dX12_valley_109 : decode cX12_valley 109 = .ok (.iastore, 1) := by decide +kernel
theorem dX12_valley_110 : decode cX12_valley 110 = .ok (.iinc 1 1, 3) := by decide +kernel
theorem dX12_valley_113 : decode cX12_valley 113 = .ok (.goto (-33), 3) := by decide +kernel
theorem dX12_valley_116 : decode cX12_valley 116 = .ok (.iconst 0, 1) := by decide +kernel
theorem dX12_valley_117 : decode cX12_valley 117 = .ok (.istore_n 1, 1) := by decide +kernel
theorem dX12_valley_118 : decode cX12_valley 118 = .ok (.iload_n 1, 1) := by decide +kernel
theorem dX12_valley_119 : decode cX12_valley 119 = .ok (.bipush 20, 2) := by decide +kernel
theorem dX12_valley_121 : decode cX12_valley 121 = .ok (.if_icmp .ge 24, 3) := by decide +kernel
theorem dX12_valley_124 : decode cX12_valley 124 = .ok (.aload_n 0, 1) := by decide +kernel
theorem dX12_valley_125 : decode cX12_valley 125 = .ok (.getfield 43, 3) := by decide +kernel
theorem dX12_valley_128 : decode cX12_valley 128 = .ok (.iload_n 1, 1) := by decide +kernel
theorem dX12_valley_129 : decode cX12_valley 129 = .ok (.aload_n 0, 1) := by decide +kernel
theorem dX12_valley_130 : decode cX12_valley 130 = .ok (.getfield 43, 3) := by decide +kernel
theorem dX12_valley_133 : decode cX12_valley 133 = .ok (.bipush 20, 2) := by decide +kernel
theorem dX12_valley_135 : decode cX12_valley 135 = .ok (.iload_n 1, 1) := by decide +kernel
theorem dX12_valley_136 : decode cX12_valley 136 = .ok (.iadd, 1) := by decide +kernel
