theorem dX6_init_0 : decode cX6_init 0 = .ok (.aload_n 0, 1) := by decide +kernel
theorem dX6_init_1 : decode cX6_init 1 = .ok (.invokespecial 3, 3) := by decide +kernel
theorem dX6_init_4 : decode cX6_init 4 = .ok (.aload_n 0, 1) := by decide +kernel
theorem dX6_init_5 : decode cX6_init 5 = .ok (.bipush 40, 2) := by decide +kernel
theorem dX6_init_7 : decode cX6_init 7 = .ok (.newarray .int, 2) := by decide +kernel
theorem dX6_init_9 : decode cX6_init 9 = .ok (.putfield 11, 3) := by decide +kernel
theorem dX6_init_12 : decode cX6_init 12 = .ok (.aload_n 0, 1) := by decide +kernel
theorem dX6_init_13 : decode cX6_init 13 = .ok (.bipush 40, 2) := by decide +kernel
theorem dX6_init_15 : decode cX6_init 15 = .ok (.newarray .int, 2) := by decide +kernel
theorem dX6_init_17 : decode cX6_init 17 = .ok (.putfield 15, 3) := by decide +kernel
theorem dX6_init_20 : decode cX6_init 20 = .ok (.aload_n 0, 1) := by decide +kernel
theorem dX6_init_21 : decode cX6_init 21 = .ok (.bipush 40, 2) := by decide +kernel
theorem dX6_init_23 : decode cX6_init 23 = .ok (.newarray .int, 2) := by decide +kernel
theorem dX6_init_25 : decode cX6_init 25 = .ok (.putfield 18, 3) := by decide +kernel
theorem dX6_init_28 : decode cX6_init 28 = .ok (.aload_n 0, 1) := by decide +kernel
theorem dX6_init_29 : decode cX6_init 29 = .ok (.bipush 40, 2) := by decide +kernel
theorem dX6_init_31 : decode cX6_init 31 = .ok (.newarray .int, 2) := by decide +kernel
theorem dX6_init_33 : decode cX6_init 33 = .ok (.putfield 21, 3) := by decide +kernel
theorem dX6_init_36 : decode cX6_init 36 = .ok (.return_, 1) := by decide +kernel
theorem dX6_clear_0 : decode cX6_clear 0 = .ok (.aload_n 0, 1) := by decide +kernel
theorem dX6_clear_1 : decode cX6_clear 1 = .ok (.iconst 0, 1) := by decide +kernel
theorem dX6_clear_2 : decode cX6_clear 2 = .ok (.putfield 24, 3) := by decide +kernel
theorem dX6_clear_5 : decode cX6_clear 5 = .ok (.aload_n 0, 1) := by decide +kernel
theorem dX6_clear_6 : decode cX6_clear 6 = .ok (.iconst 0, 1) := by decide +kernel
theorem dX6_clear_7 : decode cX6_clear 7 = .ok (.putfield 28, 3) := by decide +kernel
theorem dX6_clear_10 : decode cX6_clear 10 = .ok (.return_, 1) := by decide +kernel
theorem dX6_copy_0 : decode cX6_copy 0 = .ok (.aload_n 0, 1) := by decide +kernel
theorem dX6_copy_1 : decode cX6_copy 1 = .ok (.aload_n 1, 1) := by decide +kernel
theorem dX6_copy_2 : decode cX6_copy 2 = .ok (.getfield 24, 3) := by decide +kernel
theorem dX6_copy_5 : decode cX6_copy 5 = .ok (.putfield 24, 3) := by decide +kernel
theorem dX6_copy_8 : decode cX6_copy 8 = .ok (.aload_n 0, 1) := by decide +kernel
theorem dX6_copy_9 : decode cX6_copy 9 = .ok (.aload_n 1, 1) := by decide +kernel
theorem dX6_copy_10 : decode cX6_copy 10 = .ok (.getfield 28, 3) := by decide +kernel
theorem dX6_copy_13 : decode cX6_copy 13 = .ok (.putfield 28, 3) := by decide +kernel
theorem dX6_copy_16 : decode cX6_copy 16 = .ok (.aload_n 1, 1) := by decide +kernel
theorem dX6_copy_17 : decode cX6_copy 17 = .ok (.getfield 11, 3) := by decide +kernel
theorem dX6_copy_20 : decode cX6_copy 20 = .ok (.iconst 0, 1) := by decide +kernel
theorem dX6_copy_21 : decode cX6_copy 21 = .ok (.aload_n 0, 1) := by decide +kernel
theorem dX6_copy_22 : decode cX6_copy 22 = .ok (.getfield 11, 3) := by decide +kernel
theorem dX6_copy_25 : decode cX6_copy 25 = .ok (.iconst 0, 1) := by decide +kernel
theorem dX6_copy_26 : decode cX6_copy 26 = .ok (.bipush 40, 2) := by decide +kernel
theorem dX6_copy_28 : decode cX6_copy 28 = .ok (.invokestatic 31, 3) := by decide +kernel
theorem dX6_copy_31 : decode cX6_copy 31 = .ok (.aload_n 1, 1) := by decide +kernel
theorem dX6_copy_32 : decode cX6_copy 32 = .ok (.getfield 15, 3) := by decide +kernel
theorem dX6_copy_35 : decode cX6_copy 35 = .ok (.iconst 0, 1) := by decide +kernel
theorem dX6_copy_36 : decode cX6_copy 36 = .ok (.aload_n 0, 1) := by decide +kernel
theorem dX6_copy_37 : decode cX6_copy 37 = .ok (.getfield 15, 3) := by decide +kernel
theorem dX6_copy_40 : decode cX6_copy 40 = .ok (.iconst 0, 1) := by decide +kernel
theorem dX6_copy_41 : decode cX6_copy 41 = .ok (.bipush 40, 2) := by decide +kernel
theorem dX6_copy_43 : decode cX6_copy 43 = .ok (.invokestatic 31, 3) := by decide +kernel
theorem dX6_copy_46 : decode cX6_copy 46 = .ok (.aload_n 1, 1) := by decide +kernel
theorem dX6_copy_47 : decode cX6_copy 47 = .ok (.getfield 18, 3) := by decide +kernel
theorem dX6_copy_50 : decode cX6_copy 50 = .ok (.iconst 0, 1) := by decide +kernel
theorem dX6_copy_51 : decode cX6_copy 51 = .ok (.aload_n 0, 1) := by decide +kernel
theorem dX6_copy_52 : decode cX6_copy 52 = .ok (.getfield 18, 3) := by decide +kernel
theorem dX6_copy_55 : decode cX6_copy 55 = .ok (.iconst 0, 1) := by decide +kernel
theorem dX6_copy_56 : decode cX6_copy 56 = .ok (.bipush 40, 2) := by decide +kernel
theorem dX6_copy_58 : decode cX6_copy 58 = .ok (.invokestatic 31, 3) := by decide +kernel
theorem dX6_copy_61 : decode cX6_copy 61 = .ok (.return_, 1) := by decide +kernel
theorem dX6_take_0 : decode cX6_take 0 = .ok (.aload_n 0, 1) := by decide +kernel
theorem dX6_take_1 : decode cX6_take 1 = .ok (.invokevirtual 37, 3) := by decide +kernel
theorem dX6_take_4 : decode cX6_take 4 = .ok (.aload_n 1, 1) := by decide +kernel
theorem dX6_take_5 : decode cX6_take 5 = .ok (.invokevirtual 40, 3) := by decide +kernel
theorem dX6_take_8 : decode cX6_take 8 = .ok (.aload_n 0, 1) := by decide +kernel
theorem dX6_take_9 : decode cX6_take 9 = .ok (.aload_n 1, 1) := by decide +kernel
theorem dX6_take_10 : decode cX6_take 10 = .ok (.aload_n 2, 1) := by decide +kernel
theorem dX6_take_11 : decode cX6_take 11 = .ok (.iconst 1, 1) := by decide +kernel
theorem dX6_take_12 : decode cX6_take 12 = .ok (.invokevirtual 45, 3) := by decide +kernel
theorem dX6_take_15 : decode cX6_take 15 = .ok (.ifCond .ne 5, 3) := by decide +kernel
theorem dX6_take_18 : decode cX6_take 18 = .ok (.iconst 0, 1) := by decide +kernel
theorem dX6_take_19 : decode cX6_take 19 = .ok (.ireturn, 1) := by decide +kernel
theorem dX6_take_20 : decode cX6_take 20 = .ok (.aload_n 1, 1) := by decide +kernel
theorem dX6_take_21 : decode cX6_take 21 = .ok (.getfield 49, 3) := by decide +kernel
theorem dX6_take_24 : decode cX6_take 24 = .ok (.ifCond .eq 11, 3) := by decide +kernel
theorem dX6_take_27 : decode cX6_take 27 = .ok (.aload_n 1, 1) := by decide +kernel
theorem dX6_take_28 : decode cX6_take 28 = .ok (.iconst 1, 1) := by decide +kernel
theorem dX6_take_29 : decode cX6_take 29 = .ok (.invokevirtual 52, 3) := by decide +kernel
theorem dX6_take_32 : decode cX6_take 32 = .ok (.ifCond .eq 7, 3) := by decide +kernel
theorem dX6_take_35 : decode cX6_take 35 = .ok (.iconst 1, 1) := by decide +kernel
theorem dX6_take_36 : decode cX6_take 36 = .ok (.goto 4, 3) := by decide +kernel
theorem dX6_take_39 : decode cX6_take 39 = .ok (.iconst 0, 1) := by decide +kernel
theorem dX6_take_40 : decode cX6_take 40 = .ok (.ireturn, 1) := by decide +kernel
theorem dX6_takeCond_0 : decode cX6_takeCond 0 = .ok (.aload_n 0, 1) := by decide +kernel
theorem dX6_takeCond_1 : decode cX6_takeCond 1 = .ok (.aload_n 1, 1) := by decide +kernel
theorem dX6_takeCond_2 : decode cX6_takeCond 2 = .ok (.aload_n 2, 1) := by decide +kernel
theorem dX6_takeCond_3 : decode cX6_takeCond 3 = .ok (.iload_n 3, 1) := by decide +kernel
theorem dX6_takeCond_4 : decode cX6_takeCond 4 = .ok (.invokevirtual 56, 3) := by decide +kernel
theorem dX6_takeCond_7 : decode cX6_takeCond 7 = .ok (.ifCond .ne 5, 3) := by decide +kernel
theorem dX6_takeCond_10 : decode cX6_takeCond 10 = .ok (.iconst 0, 1) := by decide +kernel
theorem dX6_takeCond_11 : decode cX6_takeCond 11 = .ok (.ireturn, 1) := by decide +kernel
theorem dX6_takeCond_12 : decode cX6_takeCond 12 = .ok (.iconst 0, 1) := by decide +kernel
theorem dX6_takeCond_13 : decode cX6_takeCond 13 = .ok (.istore 4, 2) := by decide +kernel
theorem dX6_takeCond_15 : decode cX6_takeCond 15 = .ok (.iload 4, 2) := by decide +kernel
theorem dX6_takeCond_17 : decode cX6_takeCond 17 = .ok (.sipush 200, 3) := by decide +kernel
theorem dX6_takeCond_20 : decode cX6_takeCond 20 = .ok (.if_icmp .ge 42, 3) := by decide +kernel
theorem dX6_takeCond_23 : decode cX6_takeCond 23 = .ok (.aload_n 1, 1) := by decide +kernel
theorem dX6_takeCond_24 : decode cX6_takeCond 24 = .ok (.invokevirtual 59, 3) := by decide +kernel
theorem dX6_takeCond_27 : decode cX6_takeCond 27 = .ok (.bipush 16, 2) := by decide +kernel
theorem dX6_takeCond_29 : decode cX6_takeCond 29 = .ok (.if_icmp .ne 33, 3) := by decide +kernel
theorem dX6_takeCond_32 : decode cX6_takeCond 32 = .ok (.aload_n 1, 1) := by decide +kernel
theorem dX6_takeCond_33 : decode cX6_takeCond 33 = .ok (.invokevirtual 40, 3) := by decide +kernel
theorem dX6_takeCond_36 : decode cX6_takeCond 36 = .ok (.aload_n 0, 1) := by decide +kernel
theorem dX6_takeCond_37 : decode cX6_takeCond 37 = .ok (.aload_n 1, 1) := by decide +kernel
theorem dX6_takeCond_38 : decode cX6_takeCond 38 = .ok (.aload_n 2, 1) := by decide +kernel
theorem dX6_takeCond_39 : decode cX6_takeCond 39 = .ok (.iload_n 3, 1) := by decide +kernel
theorem dX6_takeCond_40 : decode cX6_takeCond 40 = .ok (.invokevirtual 56, 3) := by decide +kernel
theorem dX6_takeCond_43 : decode cX6_takeCond 43 = .ok (.ifCond .ne 5, 3) := by decide +kernel
theorem dX6_takeCond_46 : decode cX6_takeCond 46 = .ok (.iconst 0, 1) := by decide +kernel
theorem dX6_takeCond_47 : decode cX6_takeCond 47 = .ok (.ireturn, 1) := by decide +kernel
theorem dX6_takeCond_48 : decode cX6_takeCond 48 = .ok (.aload_n 0, 1) := by decide +kernel
theorem dX6_takeCond_49 : decode cX6_takeCond 49 = .ok (.bipush 16, 2) := by decide +kernel
theorem dX6_takeCond_51 : decode cX6_takeCond 51 = .ok (.iconst 0, 1) := by decide +kernel
theorem dX6_takeCond_52 : decode cX6_takeCond 52 = .ok (.iconst 0, 1) := by decide +kernel
theorem dX6_takeCond_53 : decode cX6_takeCond 53 = .ok (.invokevirtual 63, 3) := by decide +kernel
theorem dX6_takeCond_56 : decode cX6_takeCond 56 = .ok (.iinc 4 1, 3) := by decide +kernel
theorem dX6_takeCond_59 : decode cX6_takeCond 59 = .ok (.goto (-44), 3) := by decide +kernel
theorem dX6_takeCond_62 : decode cX6_takeCond 62 = .ok (.iconst 1, 1) := by decide +kernel
theorem dX6_takeCond_63 : decode cX6_takeCond 63 = .ok (.ireturn, 1) := by decide +kernel
theorem dX6_takeAll_0 : decode cX6_takeAll 0 = .ok (.aload_n 0, 1) := by decide +kernel
theorem dX6_takeAll_1 : decode cX6_takeAll 1 = .ok (.aload_n 1, 1) := by decide +kernel
theorem dX6_takeAll_2 : decode cX6_takeAll 2 = .ok (.aload_n 2, 1) := by decide +kernel
theorem dX6_takeAll_3 : decode cX6_takeAll 3 = .ok (.iload_n 3, 1) := by decide +kernel
theorem dX6_takeAll_4 : decode cX6_takeAll 4 = .ok (.invokevirtual 67, 3) := by decide +kernel
theorem dX6_takeAll_7 : decode cX6_takeAll 7 = .ok (.ifCond .ne 5, 3) := by decide +kernel
theorem dX6_takeAll_10 : decode cX6_takeAll 10 = .ok (.iconst 0, 1) := by decide +kernel
theorem dX6_takeAll_11 : decode cX6_takeAll 11 = .ok (.ireturn, 1) := by decide +kernel
theorem dX6_takeAll_12 : decode cX6_takeAll 12 = .ok (.iconst 0, 1) := by decide +kernel
theorem dX6_takeAll_13 : decode cX6_takeAll 13 = .ok (.istore 4, 2) := by decide +kernel
theorem dX6_takeAll_15 : decode cX6_takeAll 15 = .ok (.iload 4, 2) := by decide +kernel
theorem dX6_takeAll_17 : decode cX6_takeAll 17 = .ok (.sipush 200, 3) := by decide +kernel
theorem dX6_takeAll_20 : decode cX6_takeAll 20 = .ok (.if_icmp .ge 42, 3) := by decide +kernel
theorem dX6_takeAll_23 : decode cX6_takeAll 23 = .ok (.aload_n 1, 1) := by decide +kernel
theorem dX6_takeAll_24 : decode cX6_takeAll 24 = .ok (.invokevirtual 59, 3) := by decide +kernel
theorem dX6_takeAll_27 : decode cX6_takeAll 27 = .ok (.bipush 17, 2) := by decide +kernel
theorem dX6_takeAll_29 : decode cX6_takeAll 29 = .ok (.if_icmp .ne 33, 3) := by decide +kernel
theorem dX6_takeAll_32 : decode cX6_takeAll 32 = .ok (.aload_n 1, 1) := by decide +kernel
theorem dX6_takeAll_33 : decode cX6_takeAll 33 = .ok (.invokevirtual 40, 3) := by decide +kernel
theorem dX6_takeAll_36 : decode cX6_takeAll 36 = .ok (.aload_n 0, 1) := by decide +kernel
theorem dX6_takeAll_37 : decode cX6_takeAll 37 = .ok (.aload_n 1, 1) := by decide +kernel
theorem dX6_takeAll_38 : decode cX6_takeAll 38 = .ok (.aload_n 2, 1) := by decide +kernel
theorem dX6_takeAll_39 : decode cX6_takeAll 39 = .ok (.iload_n 3, 1) := by decide +kernel
theorem dX6_takeAll_40 : decode cX6_takeAll 40 = .ok (.invokevirtual 67, 3) := by decide +kernel
theorem dX6_takeAll_43 : decode cX6_takeAll 43 = .ok (.ifCond .ne 5, 3) := by decide +kernel
theorem dX6_takeAll_46 : decode cX6_takeAll 46 = .ok (.iconst 0, 1) := by decide +kernel
theorem dX6_takeAll_47 : decode cX6_takeAll 47 = .ok (.ireturn, 1) := by decide +kernel
theorem dX6_takeAll_48 : decode cX6_takeAll 48 = .ok (.aload_n 0, 1) := by decide +kernel
theorem dX6_takeAll_49 : decode cX6_takeAll 49 = .ok (.bipush 17, 2) := by decide +kernel
theorem dX6_takeAll_51 : decode cX6_takeAll 51 = .ok (.iconst 0, 1) := by decide +kernel
theorem dX6_takeAll_52 : decode cX6_takeAll 52 = .ok (.iconst 0, 1) := by decide +kernel
theorem dX6_takeAll_53 : decode cX6_takeAll 53 = .ok (.invokevirtual 63, 3) := by decide +kernel
theorem dX6_takeAll_56 : decode cX6_takeAll 56 = .ok (.iinc 4 1, 3) := by decide +kernel
theorem dX6_takeAll_59 : decode cX6_takeAll 59 = .ok (.goto (-44), 3) := by decide +kernel
theorem dX6_takeAll_62 : decode cX6_takeAll 62 = .ok (.iconst 1, 1) := by decide +kernel
theorem dX6_takeAll_63 : decode cX6_takeAll 63 = .ok (.ireturn, 1) := by decide +kernel
theorem dX6_takeOne_0 : decode cX6_takeOne 0 = .ok (.aload_n 1, 1) := by decide +kernel
theorem dX6_takeOne_1 : decode cX6_takeOne 1 = .ok (.invokevirtual 59, 3) := by decide +kernel
theorem dX6_takeOne_4 : decode cX6_takeOne 4 = .ok (.istore 4, 2) := by decide +kernel
theorem dX6_takeOne_6 : decode cX6_takeOne 6 = .ok (.aload_n 1, 1) := by decide +kernel
theorem dX6_takeOne_7 : decode cX6_takeOne 7 = .ok (.bipush 40, 2) := by decide +kernel
theorem dX6_takeOne_9 : decode cX6_takeOne 9 = .ok (.invokevirtual 70, 3) := by decide +kernel
theorem dX6_takeOne_12 : decode cX6_takeOne 12 = .ok (.istore 5, 2) := by decide +kernel
theorem dX6_takeOne_14 : decode cX6_takeOne 14 = .ok (.iload 5, 2) := by decide +kernel
theorem dX6_takeOne_16 : decode cX6_takeOne 16 = .ok (.ifCond .ne 23, 3) := by decide +kernel
theorem dX6_takeOne_19 : decode cX6_takeOne 19 = .ok (.iload 4, 2) := by decide +kernel
theorem dX6_takeOne_21 : decode cX6_takeOne 21 = .ok (.bipush 18, 2) := by decide +kernel
theorem dX6_takeOne_23 : decode cX6_takeOne 23 = .ok (.if_icmp .lt 10, 3) := by decide +kernel
theorem dX6_takeOne_26 : decode cX6_takeOne 26 = .ok (.iload 4, 2) := by decide +kernel
theorem dX6_takeOne_28 : decode cX6_takeOne 28 = .ok (.bipush 25, 2) := by decide +kernel
theorem dX6_takeOne_30 : decode cX6_takeOne 30 = .ok (.if_icmp .le 9, 3) := by decide +kernel
theorem dX6_takeOne_33 : decode cX6_takeOne 33 = .ok (.aload_n 1, 1) := by decide +kernel
theorem dX6_takeOne_34 : decode cX6_takeOne 34 = .ok (.iconst 1, 1) := by decide +kernel
theorem dX6_takeOne_35 : decode cX6_takeOne 35 = .ok (.invokevirtual 52, 3) := by decide +kernel
theorem dX6_takeOne_38 : decode cX6_takeOne 38 = .ok (.ireturn, 1) := by decide +kernel
theorem dX6_takeOne_39 : decode cX6_takeOne 39 = .ok (.aload_n 0, 1) := by decide +kernel
theorem dX6_takeOne_40 : decode cX6_takeOne 40 = .ok (.getfield 24, 3) := by decide +kernel
theorem dX6_takeOne_43 : decode cX6_takeOne 43 = .ok (.bipush 20, 2) := by decide +kernel
theorem dX6_takeOne_45 : decode cX6_takeOne 45 = .ok (.if_icmp .ge 9, 3) := by decide +kernel
theorem dX6_takeOne_48 : decode cX6_takeOne 48 = .ok (.iload_n 3, 1) := by decide +kernel
theorem dX6_takeOne_49 : decode cX6_takeOne 49 = .ok (.bipush 8, 2) := by decide +kernel
theorem dX6_takeOne_51 : decode cX6_takeOne 51 = .ok (.if_icmp .le 9, 3) := by decide +kernel
theorem dX6_takeOne_54 : decode cX6_takeOne 54 = .ok (.aload_n 1, 1) := by decide +kernel
theorem dX6_takeOne_55 : decode cX6_takeOne 55 = .ok (.iconst 4, 1) := by decide +kernel
theorem dX6_takeOne_56 : decode cX6_takeOne 56 = .ok (.invokevirtual 52, 3) := by decide +kernel
theorem dX6_takeOne_59 : decode cX6_takeOne 59 = .ok (.ireturn, 1) := by decide +kernel
theorem dX6_takeOne_60 : decode cX6_takeOne 60 = .ok (.aload_n 0, 1) := by decide +kernel
theorem dX6_takeOne_61 : decode cX6_takeOne 61 = .ok (.dup, 1) := by decide +kernel
theorem dX6_takeOne_62 : decode cX6_takeOne 62 = .ok (.getfield 24, 3) := by decide +kernel
theorem dX6_takeOne_65 : decode cX6_takeOne 65 = .ok (.iconst 1, 1) := by decide +kernel
theorem dX6_takeOne_66 : decode cX6_takeOne 66 = .ok (.iadd, 1) := by decide +kernel
theorem dX6_takeOne_67 : decode cX6_takeOne 67 = .ok (.putfield 24, 3) := by decide +kernel
theorem dX6_takeOne_70 : decode cX6_takeOne 70 = .ok (.iload 5, 2) := by decide +kernel
theorem dX6_takeOne_72 : decode cX6_takeOne 72 = .ok (.ifCond .ne 19, 3) := by decide +kernel
theorem dX6_takeOne_75 : decode cX6_takeOne 75 = .ok (.iload 4, 2) := by decide +kernel
theorem dX6_takeOne_77 : decode cX6_takeOne 77 = .ok (.bipush 18, 2) := by decide +kernel
theorem dX6_takeOne_79 : decode cX6_takeOne 79 = .ok (.if_icmp .eq 12, 3) := by decide +kernel
theorem dX6_takeOne_82 : decode cX6_takeOne 82 = .ok (.aload_n 0, 1) := by decide +kernel
theorem dX6_takeOne_83 : decode cX6_takeOne 83 = .ok (.aload_n 1, 1) := by decide +kernel
theorem dX6_takeOne_84 : decode cX6_takeOne 84 = .ok (.aload_n 2, 1) := by decide +kernel
theorem dX6_takeOne_85 : decode cX6_takeOne 85 = .ok (.iload 4, 2) := by decide +kernel
theorem dX6_takeOne_87 : decode cX6_takeOne 87 = .ok (.invokevirtual 74, 3) := by decide +kernel
theorem dX6_takeOne_90 : decode cX6_takeOne 90 = .ok (.ireturn, 1) := by decide +kernel
theorem dX6_takeOne_91 : decode cX6_takeOne 91 = .ok (.aload_n 1, 1) := by decide +kernel
theorem dX6_takeOne_92 : decode cX6_takeOne 92 = .ok (.invokevirtual 40, 3) := by decide +kernel
theorem dX6_takeOne_95 : decode cX6_takeOne 95 = .ok (.iload 5, 2) := by decide +kernel
theorem dX6_takeOne_97 : decode cX6_takeOne 97 = .ok (.ifCond .ne 27, 3) := by decide +kernel
theorem dX6_takeOne_100 : decode cX6_takeOne 100 = .ok (.aload_n 0, 1) := by decide +kernel
theorem dX6_takeOne_101 : decode cX6_takeOne 101 = .ok (.aload_n 1, 1) := by decide +kernel
theorem dX6_takeOne_102 : decode cX6_takeOne 102 = .ok (.aload_n 2, 1) := by decide +kernel
theorem dX6_takeOne_103 : decode cX6_takeOne 103 = .ok (.iload_n 3, 1) := by decide +kernel
theorem dX6_takeOne_104 : decode cX6_takeOne 104 = .ok (.iconst 1, 1) := by decide +kernel
theorem dX6_takeOne_105 : decode cX6_takeOne 105 = .ok (.iadd, 1) := by decide +kernel
theorem dX6_takeOne_106 : decode cX6_takeOne 106 = .ok (.invokevirtual 67, 3) := by decide +kernel
theorem dX6_takeOne_109 : decode cX6_takeOne 109 = .ok (.ifCond .ne 5, 3) := by decide +kernel
theorem dX6_takeOne_112 : decode cX6_takeOne 112 = .ok (.iconst 0, 1) := by decide +kernel
theorem dX6_takeOne_113 : decode cX6_takeOne 113 = .ok (.ireturn, 1) := by decide +kernel
theorem dX6_takeOne_114 : decode cX6_takeOne 114 = .ok (.aload_n 0, 1) := by decide +kernel
theorem dX6_takeOne_115 : decode cX6_takeOne 115 = .ok (.bipush 18, 2) := by decide +kernel
theorem dX6_takeOne_117 : decode cX6_takeOne 117 = .ok (.iconst 0, 1) := by decide +kernel
theorem dX6_takeOne_118 : decode cX6_takeOne 118 = .ok (.iconst 0, 1) := by decide +kernel
theorem dX6_takeOne_119 : decode cX6_takeOne 119 = .ok (.invokevirtual 63, 3) := by decide +kernel
theorem dX6_takeOne_122 : decode cX6_takeOne 122 = .ok (.iconst 1, 1) := by decide +kernel
theorem dX6_takeOne_123 : decode cX6_takeOne 123 = .ok (.ireturn, 1) := by decide +kernel
theorem dX6_takeOne_124 : decode cX6_takeOne 124 = .ok (.aload_n 0, 1) := by decide +kernel
theorem dX6_takeOne_125 : decode cX6_takeOne 125 = .ok (.aload_n 1, 1) := by decide +kernel
theorem dX6_takeOne_126 : decode cX6_takeOne 126 = .ok (.aload_n 2, 1) := by decide +kernel
theorem dX6_takeOne_127 : decode cX6_takeOne 127 = .ok (.iload_n 3, 1) := by decide +kernel
theorem dX6_takeOne_128 : decode cX6_takeOne 128 = .ok (.iconst 1, 1) := by decide +kernel
theorem dX6_takeOne_129 : decode cX6_takeOne 129 = .ok (.iadd, 1) := by decide +kernel
theorem dX6_takeOne_130 : decode cX6_takeOne 130 = .ok (.invokevirtual 45, 3) := by decide +kernel
theorem dX6_takeOne_133 : decode cX6_takeOne 133 = .ok (.ifCond .ne 5, 3) := by decide +kernel
theorem dX6_takeOne_136 : decode cX6_takeOne 136 = .ok (.iconst 0, 1) := by decide +kernel
theorem dX6_takeOne_137 : decode cX6_takeOne 137 = .ok (.ireturn, 1) := by decide +kernel
theorem dX6_takeOne_138 : decode cX6_takeOne 138 = .ok (.aload_n 1, 1) := by decide +kernel
theorem dX6_takeOne_139 : decode cX6_takeOne 139 = .ok (.bipush 41, 2) := by decide +kernel
theorem dX6_takeOne_141 : decode cX6_takeOne 141 = .ok (.invokevirtual 70, 3) := by decide +kernel
theorem dX6_takeOne_144 : decode cX6_takeOne 144 = .ok (.ifCond .ne 9, 3) := by decide +kernel
theorem dX6_takeOne_147 : decode cX6_takeOne 147 = .ok (.aload_n 1, 1) := by decide +kernel
theorem dX6_takeOne_148 : decode cX6_takeOne 148 = .ok (.iconst 1, 1) := by decide +kernel
theorem dX6_takeOne_149 : decode cX6_takeOne 149 = .ok (.invokevirtual 52, 3) := by decide +kernel
theorem dX6_takeOne_152 : decode cX6_takeOne 152 = .ok (.ireturn, 1) := by decide +kernel
theorem dX6_takeOne_153 : decode cX6_takeOne 153 = .ok (.aload_n 1, 1) := by decide +kernel
theorem dX6_takeOne_154 : decode cX6_takeOne 154 = .ok (.invokevirtual 40, 3) := by decide +kernel
theorem dX6_takeOne_157 : decode cX6_takeOne 157 = .ok (.iconst 1, 1) := by decide +kernel
theorem dX6_takeOne_158 : decode cX6_takeOne 158 = .ok (.ireturn, 1) := by decide +kernel
theorem dX6_takePlain_0 : decode cX6_takePlain 0 = .ok (.iconst 0, 1) := by decide +kernel
theorem dX6_takePlain_1 : decode cX6_takePlain 1 = .ok (.istore 4, 2) := by decide +kernel
theorem dX6_takePlain_3 : decode cX6_takePlain 3 = .ok (.iconst 0, 1) := by decide +kernel
theorem dX6_takePlain_4 : decode cX6_takePlain 4 = .ok (.istore 5, 2) := by decide +kernel
theorem dX6_takePlain_6 : decode cX6_takePlain 6 = .ok (.iload_n 3, 1) := by decide +kernel
theorem dX6_takePlain_7 : decode cX6_takePlain 7 = .ok (.bipush 19, 2) := by decide +kernel
theorem dX6_takePlain_9 : decode cX6_takePlain 9 = .ok (.if_icmp .ne 25, 3) := by decide +kernel
theorem dX6_takePlain_12 : decode cX6_takePlain 12 = .ok (.aload_n 1, 1) := by decide +kernel
theorem dX6_takePlain_13 : decode cX6_takePlain 13 = .ok (.aload_n 2, 1) := by decide +kernel
theorem dX6_takePlain_14 : decode cX6_takePlain 14 = .ok (.getfield 77, 3) := by decide +kernel
theorem dX6_takePlain_17 : decode cX6_takePlain 17 = .ok (.aload_n 2, 1) := by decide +kernel
theorem dX6_takePlain_18 : decode cX6_takePlain 18 = .ok (.getfield 82, 3) := by decide +kernel
theorem dX6_takePlain_21 : decode cX6_takePlain 21 = .ok (.invokevirtual 85, 3) := by decide +kernel
theorem dX6_takePlain_24 : decode cX6_takePlain 24 = .ok (.istore 4, 2) := by decide +kernel
theorem dX6_takePlain_26 : decode cX6_takePlain 26 = .ok (.iload 4, 2) := by decide +kernel
theorem dX6_takePlain_28 : decode cX6_takePlain 28 = .ok (.iconst (-1), 1) := by decide +kernel
theorem dX6_takePlain_29 : decode cX6_takePlain 29 = .ok (.if_icmp .ne 72, 3) := by decide +kernel
theorem dX6_takePlain_32 : decode cX6_takePlain 32 = .ok (.iconst 0, 1) := by decide +kernel
theorem dX6_takePlain_33 : decode cX6_takePlain 33 = .ok (.ireturn, 1) := by decide +kernel
theorem dX6_takePlain_34 : decode cX6_takePlain 34 = .ok (.iload_n 3, 1) := by decide +kernel
theorem dX6_takePlain_35 : decode cX6_takePlain 35 = .ok (.bipush 20, 2) := by decide +kernel
theorem dX6_takePlain_37 : decode cX6_takePlain 37 = .ok (.if_icmp .eq 64, 3) := by decide +kernel
theorem dX6_takePlain_40 : decode cX6_takePlain 40 = .ok (.aload_n 1, 1) := by decide +kernel
theorem dX6_takePlain_41 : decode cX6_takePlain 41 = .ok (.invokevirtual 40, 3) := by decide +kernel
theorem dX6_takePlain_44 : decode cX6_takePlain 44 = .ok (.aload_n 1, 1) := by decide +kernel
theorem dX6_takePlain_45 : decode cX6_takePlain 45 = .ok (.getfield 89, 3) := by decide +kernel
theorem dX6_takePlain_48 : decode cX6_takePlain 48 = .ok (.istore 5, 2) := by decide +kernel
theorem dX6_takePlain_50 : decode cX6_takePlain 50 = .ok (.aload_n 1, 1) := by decide +kernel
theorem dX6_takePlain_51 : decode cX6_takePlain 51 = .ok (.bipush 60, 2) := by decide +kernel
theorem dX6_takePlain_53 : decode cX6_takePlain 53 = .ok (.invokevirtual 70, 3) := by decide +kernel
theorem dX6_takePlain_56 : decode cX6_takePlain 56 = .ok (.ifCond .ne 27, 3) := by decide +kernel
theorem dX6_takePlain_59 : decode cX6_takePlain 59 = .ok (.aload_n 1, 1) := by decide +kernel
theorem dX6_takePlain_60 : decode cX6_takePlain 60 = .ok (.bipush 61, 2) := by decide +kernel
theorem dX6_takePlain_62 : decode cX6_takePlain 62 = .ok (.invokevirtual 70, 3) := by decide +kernel
theorem dX6_takePlain_65 : decode cX6_takePlain 65 = .ok (.ifCond .ne 18, 3) := by decide +kernel
theorem dX6_takePlain_68 : decode cX6_takePlain 68 = .ok (.aload_n 1, 1) := by decide +kernel
theorem dX6_takePlain_69 : decode cX6_takePlain 69 = .ok (.bipush 62, 2) := by decide +kernel
theorem dX6_takePlain_71 : decode cX6_takePlain 71 = .ok (.invokevirtual 70, 3) := by decide +kernel
theorem dX6_takePlain_74 : decode cX6_takePlain 74 = .ok (.ifCond .ne 9, 3) := by decide +kernel
theorem dX6_takePlain_77 : decode cX6_takePlain 77 = .ok (.aload_n 1, 1) := by decide +kernel
theorem dX6_takePlain_78 : decode cX6_takePlain 78 = .ok (.iconst 1, 1) := by decide +kernel
theorem dX6_takePlain_79 : decode cX6_takePlain 79 = .ok (.invokevirtual 52, 3) := by decide +kernel
theorem dX6_takePlain_82 : decode cX6_takePlain 82 = .ok (.ireturn, 1) := by decide +kernel
theorem dX6_takePlain_83 : decode cX6_takePlain 83 = .ok (.aload_n 1, 1) := by decide +kernel
theorem dX6_takePlain_84 : decode cX6_takePlain 84 = .ok (.iconst 0, 1) := by decide +kernel
theorem dX6_takePlain_85 : decode cX6_takePlain 85 = .ok (.sipush 999, 3) := by decide +kernel
theorem dX6_takePlain_88 : decode cX6_takePlain 88 = .ok (.invokevirtual 92, 3) := by decide +kernel
theorem dX6_takePlain_91 : decode cX6_takePlain 91 = .ok (.istore 4, 2) := by decide +kernel
theorem dX6_takePlain_93 : decode cX6_takePlain 93 = .ok (.iload 4, 2) := by decide +kernel
theorem dX6_takePlain_95 : decode cX6_takePlain 95 = .ok (.iconst (-1), 1) := by decide +kernel
theorem dX6_takePlain_96 : decode cX6_takePlain 96 = .ok (.if_icmp .ne 5, 3) := by decide +kernel
theorem dX6_takePlain_99 : decode cX6_takePlain 99 = .ok (.iconst 0, 1) := by decide +kernel
theorem dX6_takePlain_100 : decode cX6_takePlain 100 = .ok (.ireturn, 1) := by decide +kernel
theorem dX6_takePlain_101 : decode cX6_takePlain 101 = .ok (.aload_n 0, 1) := by decide +kernel
theorem dX6_takePlain_102 : decode cX6_takePlain 102 = .ok (.iload_n 3, 1) := by decide +kernel
theorem dX6_takePlain_103 : decode cX6_takePlain 103 = .ok (.iload 5, 2) := by decide +kernel
theorem dX6_takePlain_105 : decode cX6_takePlain 105 = .ok (.iload 4, 2) := by decide +kernel
theorem dX6_takePlain_107 : decode cX6_takePlain 107 = .ok (.invokevirtual 63, 3) := by decide +kernel
theorem dX6_takePlain_110 : decode cX6_takePlain 110 = .ok (.aload_n 1, 1) := by decide +kernel
theorem dX6_takePlain_111 : decode cX6_takePlain 111 = .ok (.invokevirtual 40, 3) := by decide +kernel
theorem dX6_takePlain_114 : decode cX6_takePlain 114 = .ok (.iconst 1, 1) := by decide +kernel
theorem dX6_takePlain_115 : decode cX6_takePlain 115 = .ok (.ireturn, 1) := by decide +kernel
theorem dX6_addStep_0 : decode cX6_addStep 0 = .ok (.aload_n 0, 1) := by decide +kernel
theorem dX6_addStep_1 : decode cX6_addStep 1 = .ok (.getfield 28, 3) := by decide +kernel
theorem dX6_addStep_4 : decode cX6_addStep 4 = .ok (.bipush 40, 2) := by decide +kernel
theorem dX6_addStep_6 : decode cX6_addStep 6 = .ok (.if_icmp .ge 43, 3) := by decide +kernel
theorem dX6_addStep_9 : decode cX6_addStep 9 = .ok (.aload_n 0, 1) := by decide +kernel
theorem dX6_addStep_10 : decode cX6_addStep 10 = .ok (.getfield 11, 3) := by decide +kernel
theorem dX6_addStep_13 : decode cX6_addStep 13 = .ok (.aload_n 0, 1) := by decide +kernel
theorem dX6_addStep_14 : decode cX6_addStep 14 = .ok (.getfield 28, 3) := by decide +kernel
theorem dX6_addStep_17 : decode cX6_addStep 17 = .ok (.iload_n 1, 1) := by decide +kernel
theorem dX6_addStep_18 : decode cX6_addStep 18 = .ok (.iastore, 1) := by decide +kernel
theorem dX6_addStep_19 : decode cX6_addStep 19 = .ok (.aload_n 0, 1) := by decide +kernel
theorem dX6_addStep_20 : decode cX6_addStep 20 = .ok (.getfield 15, 3) := by decide +kernel
theorem dX6_addStep_23 : decode cX6_addStep 23 = .ok (.aload_n 0, 1) := by decide +kernel
theorem dX6_addStep_24 : decode cX6_addStep 24 = .ok (.getfield 28, 3) := by decide +kernel
theorem dX6_addStep_27 : decode cX6_addStep 27 = .ok (.iload_n 2, 1) := by decide +kernel
theorem dX6_addStep_28 : decode cX6_addStep 28 = .ok (.iastore, 1) := by decide +kernel
theorem dX6_addStep_29 : decode cX6_addStep 29 = .ok (.aload_n 0, 1) := by decide +kernel
theorem dX6_addStep_30 : decode cX6_addStep 30 = .ok (.getfield 18, 3) := by decide +kernel
theorem dX6_addStep_33 : decode cX6_addStep 33 = .ok (.aload_n 0, 1) := by decide +kernel
theorem dX6_addStep_34 : decode cX6_addStep 34 = .ok (.getfield 28, 3) := by decide +kernel
theorem dX6_addStep_37 : decode cX6_addStep 37 = .ok (.iload_n 3, 1) := by decide +kernel
theorem dX6_addStep_38 : decode cX6_addStep 38 = .ok (.iastore, 1) := by decide +kernel
theorem dX6_addStep_39 : decode cX6_addStep 39 = .ok (.aload_n 0, 1) := by decide +kernel
theorem dX6_addStep_40 : decode cX6_addStep 40 = .ok (.dup, 1) := by decide +kernel
theorem dX6_addStep_41 : decode cX6_addStep 41 = .ok (.getfield 28, 3) := by decide +kernel
theorem dX6_addStep_44 : decode cX6_addStep 44 = .ok (.iconst 1, 1) := by decide +kernel
theorem dX6_addStep_45 : decode cX6_addStep 45 = .ok (.iadd, 1) := by decide +kernel
theorem dX6_addStep_46 : decode cX6_addStep 46 = .ok (.putfield 28, 3) := by decide +kernel
theorem dX6_addStep_49 : decode cX6_addStep 49 = .ok (.return_, 1) := by decide +kernel
theorem dX6_holdsFor_0 : decode cX6_holdsFor 0 = .ok (.iconst 1, 1) := by decide +kernel
theorem dX6_holdsFor_1 : decode cX6_holdsFor 1 = .ok (.aload_n 1, 1) := by decide +kernel
theorem dX6_holdsFor_2 : decode cX6_holdsFor 2 = .ok (.getfield 96, 3) := by decide +kernel
theorem dX6_holdsFor_5 : decode cX6_holdsFor 5 = .ok (.getfield 102, 3) := by decide +kernel
theorem dX6_holdsFor_8 : decode cX6_holdsFor 8 = .ok (.ishl, 1) := by decide +kernel
theorem dX6_holdsFor_9 : decode cX6_holdsFor 9 = .ok (.iconst 1, 1) := by decide +kernel
theorem dX6_holdsFor_10 : decode cX6_holdsFor 10 = .ok (.isub, 1) := by decide +kernel
theorem dX6_holdsFor_11 : decode cX6_holdsFor 11 = .ok (.istore_n 2, 1) := by decide +kernel
theorem dX6_holdsFor_12 : decode cX6_holdsFor 12 = .ok (.iconst 0, 1) := by decide +kernel
theorem dX6_holdsFor_13 : decode cX6_holdsFor 13 = .ok (.istore_n 3, 1) := by decide +kernel
theorem dX6_holdsFor_14 : decode cX6_holdsFor 14 = .ok (.iconst 0, 1) := by decide +kernel
theorem dX6_holdsFor_15 : decode cX6_holdsFor 15 = .ok (.istore 4, 2) := by decide +kernel
theorem dX6_holdsFor_17 : decode cX6_holdsFor 17 = .ok (.iload 4, 2) := by decide +kernel
theorem dX6_holdsFor_19 : decode cX6_holdsFor 19 = .ok (.aload_n 0, 1) := by decide +kernel
theorem dX6_holdsFor_20 : decode cX6_holdsFor 20 = .ok (.getfield 28, 3) := by decide +kernel
theorem dX6_holdsFor_23 : decode cX6_holdsFor 23 = .ok (.if_icmp .ge 137, 3) := by decide +kernel
theorem dX6_holdsFor_26 : decode cX6_holdsFor 26 = .ok (.aload_n 0, 1) := by decide +kernel
theorem dX6_holdsFor_27 : decode cX6_holdsFor 27 = .ok (.getfield 11, 3) := by decide +kernel
theorem dX6_holdsFor_30 : decode cX6_holdsFor 30 = .ok (.iload 4, 2) := by decide +kernel
theorem dX6_holdsFor_32 : decode cX6_holdsFor 32 = .ok (.iaload, 1) := by decide +kernel
theorem dX6_holdsFor_33 : decode cX6_holdsFor 33 = .ok (.istore 5, 2) := by decide +kernel
theorem dX6_holdsFor_35 : decode cX6_holdsFor 35 = .ok (.iload 5, 2) := by decide +kernel
theorem dX6_holdsFor_37 : decode cX6_holdsFor 37 = .ok (.bipush 18, 2) := by decide +kernel
theorem dX6_holdsFor_39 : decode cX6_holdsFor 39 = .ok (.if_icmp .ne 23, 3) := by decide +kernel
theorem dX6_holdsFor_42 : decode cX6_holdsFor 42 = .ok (.iload_n 3, 1) := by decide +kernel
theorem dX6_holdsFor_43 : decode cX6_holdsFor 43 = .ok (.iconst 1, 1) := by decide +kernel
theorem dX6_holdsFor_44 : decode cX6_holdsFor 44 = .ok (.if_icmp .lt 18, 3) := by decide +kernel
theorem dX6_holdsFor_47 : decode cX6_holdsFor 47 = .ok (.aload_n 0, 1) := by decide +kernel
theorem dX6_holdsFor_48 : decode cX6_holdsFor 48 = .ok (.getfield 21, 3) := by decide +kernel
theorem dX6_holdsFor_51 : decode cX6_holdsFor 51 = .ok (.iload_n 3, 1) := by decide +kernel
theorem dX6_holdsFor_52 : decode cX6_holdsFor 52 = .ok (.iconst 1, 1) := by decide +kernel
theorem dX6_holdsFor_53 : decode cX6_holdsFor 53 = .ok (.isub, 1) := by decide +kernel
theorem dX6_holdsFor_54 : decode cX6_holdsFor 54 = .ok (.dup2, 1) := by decide +kernel
theorem dX6_holdsFor_55 : decode cX6_holdsFor 55 = .ok (.iaload, 1) := by decide +kernel
theorem dX6_holdsFor_56 : decode cX6_holdsFor 56 = .ok (.iload_n 2, 1) := by decide +kernel
theorem dX6_holdsFor_57 : decode cX6_holdsFor 57 = .ok (.ixor, 1) := by decide +kernel
theorem dX6_holdsFor_58 : decode cX6_holdsFor 58 = .ok (.iastore, 1) := by decide +kernel
theorem dX6_holdsFor_59 : decode cX6_holdsFor 59 = .ok (.goto 95, 3) := by decide +kernel
theorem dX6_holdsFor_62 : decode cX6_holdsFor 62 = .ok (.iload 5, 2) := by decide +kernel
theorem dX6_holdsFor_64 : decode cX6_holdsFor 64 = .ok (.bipush 17, 2) := by decide +kernel
theorem dX6_holdsFor_66 : decode cX6_holdsFor 66 = .ok (.if_icmp .ne 31, 3) := by decide +kernel
theorem dX6_holdsFor_69 : decode cX6_holdsFor 69 = .ok (.iload_n 3, 1) := by decide +kernel
theorem dX6_holdsFor_70 : decode cX6_holdsFor 70 = .ok (.iconst 2, 1) := by decide +kernel
theorem dX6_holdsFor_71 : decode cX6_holdsFor 71 = .ok (.if_icmp .lt 26, 3) := by decide +kernel
theorem dX6_holdsFor_74 : decode cX6_holdsFor 74 = .ok (.iinc 3 (-1), 3) := by decide +kernel
theorem dX6_holdsFor_77 : decode cX6_holdsFor 77 = .ok (.aload_n 0, 1) := by decide +kernel
theorem dX6_holdsFor_78 : decode cX6_holdsFor 78 = .ok (.getfield 21, 3) := by decide +kernel
theorem dX6_holdsFor_81 : decode cX6_holdsFor 81 = .ok (.iload_n 3, 1) := by decide +kernel
theorem dX6_holdsFor_82 : decode cX6_holdsFor 82 = .ok (.iconst 1, 1) := by decide +kernel
theorem dX6_holdsFor_83 : decode cX6_holdsFor 83 = .ok (.isub, 1) := by decide +kernel
theorem dX6_holdsFor_84 : decode cX6_holdsFor 84 = .ok (.dup2, 1) := by decide +kernel
theorem dX6_holdsFor_85 : decode cX6_holdsFor 85 = .ok (.iaload, 1) := by decide +kernel
theorem dX6_holdsFor_86 : decode cX6_holdsFor 86 = .ok (.aload_n 0, 1) := by decide +kernel
theorem dX6_holdsFor_87 : decode cX6_holdsFor 87 = .ok (.getfield 21, 3) := by decide +kernel
theorem dX6_holdsFor_90 : decode cX6_holdsFor 90 = .ok (.iload_n 3, 1) := by decide +kernel
theorem dX6_holdsFor_91 : decode cX6_holdsFor 91 = .ok (.iaload, 1) := by decide +kernel
theorem dX6_holdsFor_92 : decode cX6_holdsFor 92 = .ok (.iand, 1) := by decide +kernel
theorem dX6_holdsFor_93 : decode cX6_holdsFor 93 = .ok (.iastore, 1) := by decide +kernel
theorem dX6_holdsFor_94 : decode cX6_holdsFor 94 = .ok (.goto 60, 3) := by decide +kernel
theorem dX6_holdsFor_97 : decode cX6_holdsFor 97 = .ok (.iload 5, 2) := by decide +kernel
theorem dX6_holdsFor_99 : decode cX6_holdsFor 99 = .ok (.bipush 16, 2) := by decide +kernel
theorem dX6_holdsFor_101 : decode cX6_holdsFor 101 = .ok (.if_icmp .ne 31, 3) := by decide +kernel
theorem dX6_holdsFor_104 : decode cX6_holdsFor 104 = .ok (.iload_n 3, 1) := by decide +kernel
theorem dX6_holdsFor_105 : decode cX6_holdsFor 105 = .ok (.iconst 2, 1) := by decide +kernel
theorem dX6_holdsFor_106 : decode cX6_holdsFor 106 = .ok (.if_icmp .lt 26, 3) := by decide +kernel
theorem dX6_holdsFor_109 : decode cX6_holdsFor 109 = .ok (.iinc 3 (-1), 3) := by decide +kernel
theorem dX6_holdsFor_112 : decode cX6_holdsFor 112 = .ok (.aload_n 0, 1) := by decide +kernel
theorem dX6_holdsFor_113 : decode cX6_holdsFor 113 = .ok (.getfield 21, 3) := by decide +kernel
theorem dX6_holdsFor_116 : decode cX6_holdsFor 116 = .ok (.iload_n 3, 1) := by decide +kernel
theorem dX6_holdsFor_117 : decode cX6_holdsFor 117 = .ok (.iconst 1, 1) := by decide +kernel
theorem dX6_holdsFor_118 : decode cX6_holdsFor 118 = .ok (.isub, 1) := by decide +kernel
theorem dX6_holdsFor_119 : decode cX6_holdsFor 119 = .ok (.dup2, 1) := by decide +kernel
theorem dX6_holdsFor_120 : decode cX6_holdsFor 120 = .ok (.iaload, 1) := by decide +kernel
theorem dX6_holdsFor_121 : decode cX6_holdsFor 121 = .ok (.aload_n 0, 1) := by decide +kernel
theorem dX6_holdsFor_122 : decode cX6_holdsFor 122 = .ok (.getfield 21, 3) := by decide +kernel
theorem dX6_holdsFor_125 : decode cX6_holdsFor 125 = .ok (.iload_n 3, 1) := by decide +kernel
theorem dX6_holdsFor_126 : decode cX6_holdsFor 126 = .ok (.iaload, 1) := by decide +kernel
theorem dX6_holdsFor_127 : decode cX6_holdsFor 127 = .ok (.ior, 1) := by decide +kernel
theorem dX6_holdsFor_128 : decode cX6_holdsFor 128 = .ok (.iastore, 1) := by decide +kernel
theorem dX6_holdsFor_129 : decode cX6_holdsFor 129 = .ok (.goto 25, 3) := by decide +kernel
theorem dX6_holdsFor_132 : decode cX6_holdsFor 132 = .ok (.iload_n 3, 1) := by decide +kernel
theorem dX6_holdsFor_133 : decode cX6_holdsFor 133 = .ok (.bipush 40, 2) := by decide +kernel
theorem dX6_holdsFor_135 : decode cX6_holdsFor 135 = .ok (.if_icmp .ge 19, 3) := by decide +kernel
theorem dX6_holdsFor_138 : decode cX6_holdsFor 138 = .ok (.aload_n 0, 1) := by decide +kernel
theorem dX6_holdsFor_139 : decode cX6_holdsFor 139 = .ok (.getfield 21, 3) := by decide +kernel
theorem dX6_holdsFor_142 : decode cX6_holdsFor 142 = .ok (.iload_n 3, 1) := by decide +kernel
theorem dX6_holdsFor_143 : decode cX6_holdsFor 143 = .ok (.aload_n 0, 1) := by decide +kernel
theorem dX6_holdsFor_144 : decode cX6_holdsFor 144 = .ok (.aload_n 1, 1) := by decide +kernel
theorem dX6_holdsFor_145 : decode cX6_holdsFor 145 = .ok (.iload 4, 2) := by decide +kernel
theorem dX6_holdsFor_147 : decode cX6_holdsFor 147 = .ok (.invokevirtual 105, 3) := by decide +kernel
theorem dX6_holdsFor_150 : decode cX6_holdsFor 150 = .ok (.iastore, 1) := by decide +kernel
theorem dX6_holdsFor_151 : decode cX6_holdsFor 151 = .ok (.iinc 3 1, 3) := by decide +kernel
theorem dX6_holdsFor_154 : decode cX6_holdsFor 154 = .ok (.iinc 4 1, 3) := by decide +kernel
theorem dX6_holdsFor_157 : decode cX6_holdsFor 157 = .ok (.goto (-140), 3) := by decide +kernel
theorem dX6_holdsFor_160 : decode cX6_holdsFor 160 = .ok (.iload_n 3, 1) := by decide +kernel
theorem dX6_holdsFor_161 : decode cX6_holdsFor 161 = .ok (.ifCond .le 12, 3) := by decide +kernel
theorem dX6_holdsFor_164 : decode cX6_holdsFor 164 = .ok (.aload_n 0, 1) := by decide +kernel
theorem dX6_holdsFor_165 : decode cX6_holdsFor 165 = .ok (.getfield 21, 3) := by decide +kernel
theorem dX6_holdsFor_168 : decode cX6_holdsFor 168 = .ok (.iconst 0, 1) := by decide +kernel
theorem dX6_holdsFor_169 : decode cX6_holdsFor 169 = .ok (.iaload, 1) := by decide +kernel
theorem dX6_holdsFor_170 : decode cX6_holdsFor 170 = .ok (.goto 4, 3) := by decide +kernel
theorem dX6_holdsFor_173 : decode cX6_holdsFor 173 = .ok (.iconst 0, 1) := by decide +kernel
theorem dX6_holdsFor_174 : decode cX6_holdsFor 174 = .ok (.ireturn, 1) := by decide +kernel
theorem dX6_plainFor_0 : decode cX6_plainFor 0 = .ok (.iconst 0, 1) := by decide +kernel
theorem dX6_plainFor_1 : decode cX6_plainFor 1 = .ok (.istore_n 3, 1) := by decide +kernel
theorem dX6_plainFor_2 : decode cX6_plainFor 2 = .ok (.iconst 0, 1) := by decide +kernel
theorem dX6_plainFor_3 : decode cX6_plainFor 3 = .ok (.istore 4, 2) := by decide +kernel
theorem dX6_plainFor_5 : decode cX6_plainFor 5 = .ok (.iload 4, 2) := by decide +kernel
theorem dX6_plainFor_7 : decode cX6_plainFor 7 = .ok (.aload_n 1, 1) := by decide +kernel
theorem dX6_plainFor_8 : decode cX6_plainFor 8 = .ok (.getfield 96, 3) := by decide +kernel
theorem dX6_plainFor_11 : decode cX6_plainFor 11 = .ok (.getfield 102, 3) := by decide +kernel
theorem dX6_plainFor_14 : decode cX6_plainFor 14 = .ok (.if_icmp .ge 27, 3) := by decide +kernel
theorem dX6_plainFor_17 : decode cX6_plainFor 17 = .ok (.aload_n 0, 1) := by decide +kernel
theorem dX6_plainFor_18 : decode cX6_plainFor 18 = .ok (.aload_n 1, 1) := by decide +kernel
theorem dX6_plainFor_19 : decode cX6_plainFor 19 = .ok (.iload 4, 2) := by decide +kernel
theorem dX6_plainFor_21 : decode cX6_plainFor 21 = .ok (.iload_n 2, 1) := by decide +kernel
theorem dX6_plainFor_22 : decode cX6_plainFor 22 = .ok (.invokevirtual 109, 3) := by decide +kernel
theorem dX6_plainFor_25 : decode cX6_plainFor 25 = .ok (.ifCond .eq 10, 3) := by decide +kernel
theorem dX6_plainFor_28 : decode cX6_plainFor 28 = .ok (.iload_n 3, 1) := by decide +kernel
theorem dX6_plainFor_29 : decode cX6_plainFor 29 = .ok (.iconst 1, 1) := by decide +kernel
theorem dX6_plainFor_30 : decode cX6_plainFor 30 = .ok (.iload 4, 2) := by decide +kernel
theorem dX6_plainFor_32 : decode cX6_plainFor 32 = .ok (.ishl, 1) := by decide +kernel
theorem dX6_plainFor_33 : decode cX6_plainFor 33 = .ok (.ior, 1) := by decide +kernel
theorem dX6_plainFor_34 : decode cX6_plainFor 34 = .ok (.istore_n 3, 1) := by decide +kernel
theorem dX6_plainFor_35 : decode cX6_plainFor 35 = .ok (.iinc 4 1, 3) := by decide +kernel
theorem dX6_plainFor_38 : decode cX6_plainFor 38 = .ok (.goto (-33), 3) := by decide +kernel
theorem dX6_plainFor_41 : decode cX6_plainFor 41 = .ok (.iload_n 3, 1) := by decide +kernel
theorem dX6_plainFor_42 : decode cX6_plainFor 42 = .ok (.ireturn, 1) := by decide +kernel
theorem dX6_isPlainOf_0 : decode cX6_isPlainOf 0 = .ok (.aload_n 0, 1) := by decide +kernel
theorem dX6_isPlainOf_1 : decode cX6_isPlainOf 1 = .ok (.getfield 11, 3) := by decide +kernel
theorem dX6_isPlainOf_4 : decode cX6_isPlainOf 4 = .ok (.iload_n 3, 1) := by decide +kernel
theorem dX6_isPlainOf_5 : decode cX6_isPlainOf 5 = .ok (.iaload, 1) := by decide +kernel
theorem dX6_isPlainOf_6 : decode cX6_isPlainOf 6 = .ok (.bipush 19, 2) := by decide +kernel
theorem dX6_isPlainOf_8 : decode cX6_isPlainOf 8 = .ok (.if_icmp .ne 15, 3) := by decide +kernel
theorem dX6_isPlainOf_11 : decode cX6_isPlainOf 11 = .ok (.aload_n 1, 1) := by decide +kernel
theorem dX6_isPlainOf_12 : decode cX6_isPlainOf 12 = .ok (.iload_n 2, 1) := by decide +kernel
theorem dX6_isPlainOf_13 : decode cX6_isPlainOf 13 = .ok (.aload_n 0, 1) := by decide +kernel
theorem dX6_isPlainOf_14 : decode cX6_isPlainOf 14 = .ok (.getfield 18, 3) := by decide +kernel
theorem dX6_isPlainOf_17 : decode cX6_isPlainOf 17 = .ok (.iload_n 3, 1) := by decide +kernel
theorem dX6_isPlainOf_18 : decode cX6_isPlainOf 18 = .ok (.iaload, 1) := by decide +kernel
theorem dX6_isPlainOf_19 : decode cX6_isPlainOf 19 = .ok (.invokevirtual 113, 3) := by decide +kernel
theorem dX6_isPlainOf_22 : decode cX6_isPlainOf 22 = .ok (.ireturn, 1) := by decide +kernel
theorem dX6_isPlainOf_23 : decode cX6_isPlainOf 23 = .ok (.aload_n 0, 1) := by decide +kernel
theorem dX6_isPlainOf_24 : decode cX6_isPlainOf 24 = .ok (.getfield 11, 3) := by decide +kernel
theorem dX6_isPlainOf_27 : decode cX6_isPlainOf 27 = .ok (.iload_n 3, 1) := by decide +kernel
theorem dX6_isPlainOf_28 : decode cX6_isPlainOf 28 = .ok (.iaload, 1) := by decide +kernel
theorem dX6_isPlainOf_29 : decode cX6_isPlainOf 29 = .ok (.bipush 20, 2) := by decide +kernel
theorem dX6_isPlainOf_31 : decode cX6_isPlainOf 31 = .ok (.if_icmp .ne 9, 3) := by decide +kernel
theorem dX6_isPlainOf_34 : decode cX6_isPlainOf 34 = .ok (.aload_n 1, 1) := by decide +kernel
theorem dX6_isPlainOf_35 : decode cX6_isPlainOf 35 = .ok (.iload_n 2, 1) := by decide +kernel
theorem dX6_isPlainOf_36 : decode cX6_isPlainOf 36 = .ok (.invokevirtual 117, 3) := by decide +kernel
theorem dX6_isPlainOf_39 : decode cX6_isPlainOf 39 = .ok (.ireturn, 1) := by decide +kernel
theorem dX6_isPlainOf_40 : decode cX6_isPlainOf 40 = .ok (.aload_n 1, 1) := by decide +kernel
theorem dX6_isPlainOf_41 : decode cX6_isPlainOf 41 = .ok (.iload_n 2, 1) := by decide +kernel
theorem dX6_isPlainOf_42 : decode cX6_isPlainOf 42 = .ok (.aload_n 0, 1) := by decide +kernel
theorem dX6_isPlainOf_43 : decode cX6_isPlainOf 43 = .ok (.getfield 11, 3) := by decide +kernel
theorem dX6_isPlainOf_46 : decode cX6_isPlainOf 46 = .ok (.iload_n 3, 1) := by decide +kernel
theorem dX6_isPlainOf_47 : decode cX6_isPlainOf 47 = .ok (.iaload, 1) := by decide +kernel
theorem dX6_isPlainOf_48 : decode cX6_isPlainOf 48 = .ok (.bipush 21, 2) := by decide +kernel
theorem dX6_isPlainOf_50 : decode cX6_isPlainOf 50 = .ok (.isub, 1) := by decide +kernel
theorem dX6_isPlainOf_51 : decode cX6_isPlainOf 51 = .ok (.invokevirtual 120, 3) := by decide +kernel
theorem dX6_isPlainOf_54 : decode cX6_isPlainOf 54 = .ok (.istore 4, 2) := by decide +kernel
theorem dX6_isPlainOf_56 : decode cX6_isPlainOf 56 = .ok (.aload_n 0, 1) := by decide +kernel
theorem dX6_isPlainOf_57 : decode cX6_isPlainOf 57 = .ok (.getfield 15, 3) := by decide +kernel
theorem dX6_isPlainOf_60 : decode cX6_isPlainOf 60 = .ok (.iload_n 3, 1) := by decide +kernel
theorem dX6_isPlainOf_61 : decode cX6_isPlainOf 61 = .ok (.iaload, 1) := by decide +kernel
theorem dX6_isPlainOf_62 : decode cX6_isPlainOf 62 = .ok (.lookupswitch 60 #[(60, 26), (62, 43)], 26) := by decide +kernel
theorem dX6_isPlainOf_88 : decode cX6_isPlainOf 88 = .ok (.iload 4, 2) := by decide +kernel
theorem dX6_isPlainOf_90 : decode cX6_isPlainOf 90 = .ok (.aload_n 0, 1) := by decide +kernel
theorem dX6_isPlainOf_91 : decode cX6_isPlainOf 91 = .ok (.getfield 18, 3) := by decide +kernel
theorem dX6_isPlainOf_94 : decode cX6_isPlainOf 94 = .ok (.iload_n 3, 1) := by decide +kernel
theorem dX6_isPlainOf_95 : decode cX6_isPlainOf 95 = .ok (.iaload, 1) := by decide +kernel
theorem dX6_isPlainOf_96 : decode cX6_isPlainOf 96 = .ok (.if_icmp .ge 7, 3) := by decide +kernel
theorem dX6_isPlainOf_99 : decode cX6_isPlainOf 99 = .ok (.iconst 1, 1) := by decide +kernel
theorem dX6_isPlainOf_100 : decode cX6_isPlainOf 100 = .ok (.goto 4, 3) := by decide +kernel
theorem dX6_isPlainOf_103 : decode cX6_isPlainOf 103 = .ok (.iconst 0, 1) := by decide +kernel
theorem dX6_isPlainOf_104 : decode cX6_isPlainOf 104 = .ok (.ireturn, 1) := by decide +kernel
theorem dX6_isPlainOf_105 : decode cX6_isPlainOf 105 = .ok (.iload 4, 2) := by decide +kernel
theorem dX6_isPlainOf_107 : decode cX6_isPlainOf 107 = .ok (.aload_n 0, 1) := by decide +kernel
theorem dX6_isPlainOf_108 : decode cX6_isPlainOf 108 = .ok (.getfield 18, 3) := by decide +kernel
theorem dX6_isPlainOf_111 : decode cX6_isPlainOf 111 = .ok (.iload_n 3, 1) := by decide +kernel
theorem dX6_isPlainOf_112 : decode cX6_isPlainOf 112 = .ok (.iaload, 1) := by decide +kernel
theorem dX6_isPlainOf_113 : decode cX6_isPlainOf 113 = .ok (.if_icmp .le 7, 3) := by decide +kernel
theorem dX6_isPlainOf_116 : decode cX6_isPlainOf 116 = .ok (.iconst 1, 1) := by decide +kernel
theorem dX6_isPlainOf_117 : decode cX6_isPlainOf 117 = .ok (.goto 4, 3) := by decide +kernel
theorem dX6_isPlainOf_120 : decode cX6_isPlainOf 120 = .ok (.iconst 0, 1) := by decide +kernel
theorem dX6_isPlainOf_121 : decode cX6_isPlainOf 121 = .ok (.ireturn, 1) := by decide +kernel
theorem dX6_isPlainOf_122 : decode cX6_isPlainOf 122 = .ok (.iload 4, 2) := by decide +kernel
theorem dX6_isPlainOf_124 : decode cX6_isPlainOf 124 = .ok (.aload_n 0, 1) := by decide +kernel
theorem dX6_isPlainOf_125 : decode cX6_isPlainOf 125 = .ok (.getfield 18, 3) := by decide +kernel
theorem dX6_isPlainOf_128 : decode cX6_isPlainOf 128 = .ok (.iload_n 3, 1) := by decide +kernel
theorem dX6_isPlainOf_129 : decode cX6_isPlainOf 129 = .ok (.iaload, 1) := by decide +kernel
theorem dX6_isPlainOf_130 : decode cX6_isPlainOf 130 = .ok (.if_icmp .ne 7, 3) := by decide +kernel
theorem dX6_isPlainOf_133 : decode cX6_isPlainOf 133 = .ok (.iconst 1, 1) := by decide +kernel
theorem dX6_isPlainOf_134 : decode cX6_isPlainOf 134 = .ok (.goto 4, 3) := by decide +kernel
theorem dX6_isPlainOf_137 : decode cX6_isPlainOf 137 = .ok (.iconst 0, 1) := by decide +kernel
theorem dX6_isPlainOf_138 : decode cX6_isPlainOf 138 = .ok (.ireturn, 1) := by decide +kernel
theorem dX3_init_0 : decode cX3_init 0 = .ok (.aload_n 0, 1) := by decide +kernel
theorem dX3_init_1 : decode cX3_init 1 = .ok (.invokespecial 1, 3) := by decide +kernel
theorem dX3_init_4 : decode cX3_init 4 = .ok (.aload_n 0, 1) := by decide +kernel
theorem dX3_init_5 : decode cX3_init 5 = .ok (.new 7, 3) := by decide +kernel
theorem dX3_init_8 : decode cX3_init 8 = .ok (.dup, 1) := by decide +kernel
theorem dX3_init_9 : decode cX3_init 9 = .ok (.invokespecial 9, 3) := by decide +kernel
theorem dX3_init_12 : decode cX3_init 12 = .ok (.putfield 10, 3) := by decide +kernel
theorem dX3_init_15 : decode cX3_init 15 = .ok (.aload_n 0, 1) := by decide +kernel
theorem dX3_init_16 : decode cX3_init 16 = .ok (.new 16, 3) := by decide +kernel
theorem dX3_init_19 : decode cX3_init 19 = .ok (.dup, 1) := by decide +kernel
theorem dX3_init_20 : decode cX3_init 20 = .ok (.invokespecial 18, 3) := by decide +kernel
theorem dX3_init_23 : decode cX3_init 23 = .ok (.putfield 19, 3) := by decide +kernel
theorem dX3_init_26 : decode cX3_init 26 = .ok (.aload_n 0, 1) := by decide +kernel
theorem dX3_init_27 : decode cX3_init 27 = .ok (.new 23, 3) := by decide +kernel
theorem dX3_init_30 : decode cX3_init 30 = .ok (.dup, 1) := by decide +kernel
theorem dX3_init_31 : decode cX3_init 31 = .ok (.invokespecial 25, 3) := by decide +kernel
theorem dX3_init_34 : decode cX3_init 34 = .ok (.putfield 26, 3) := by decide +kernel
theorem dX3_init_37 : decode cX3_init 37 = .ok (.return_, 1) := by decide +kernel
theorem dX3_keep_0 : decode cX3_keep 0 = .ok (.aload_n 0, 1) := by decide +kernel
theorem dX3_keep_1 : decode cX3_keep 1 = .ok (.getfield 10, 3) := by decide +kernel
theorem dX3_keep_4 : decode cX3_keep 4 = .ok (.aload_n 1, 1) := by decide +kernel
theorem dX3_keep_5 : decode cX3_keep 5 = .ok (.invokevirtual 30, 3) := by decide +kernel
theorem dX3_keep_8 : decode cX3_keep 8 = .ok (.aload_n 0, 1) := by decide +kernel
theorem dX3_keep_9 : decode cX3_keep 9 = .ok (.getfield 19, 3) := by decide +kernel
theorem dX3_keep_12 : decode cX3_keep 12 = .ok (.aload_n 2, 1) := by decide +kernel
theorem dX3_keep_13 : decode cX3_keep 13 = .ok (.invokevirtual 34, 3) := by decide +kernel
theorem dX3_keep_16 : decode cX3_keep 16 = .ok (.aload_n 0, 1) := by decide +kernel
theorem dX3_keep_17 : decode cX3_keep 17 = .ok (.getfield 26, 3) := by decide +kernel
theorem dX3_keep_20 : decode cX3_keep 20 = .ok (.aload_n 3, 1) := by decide +kernel
theorem dX3_keep_21 : decode cX3_keep 21 = .ok (.invokevirtual 37, 3) := by decide +kernel
theorem dX3_keep_24 : decode cX3_keep 24 = .ok (.aload_n 0, 1) := by decide +kernel
theorem dX3_keep_25 : decode cX3_keep 25 = .ok (.iconst 1, 1) := by decide +kernel
theorem dX3_keep_26 : decode cX3_keep 26 = .ok (.putfield 40, 3) := by decide +kernel
theorem dX3_keep_29 : decode cX3_keep 29 = .ok (.return_, 1) := by decide +kernel
