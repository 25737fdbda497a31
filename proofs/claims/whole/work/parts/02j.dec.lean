theorem dX12_wrong_16 : decode cX12_wrong 16 = .ok (.isub, 1) := by decide +kernel
theorem dX12_wrong_17 : decode cX12_wrong 17 = .ok (.invokestatic 254, 3) := by decide +kernel
theorem dX12_wrong_20 : decode cX12_wrong 20 = .ok (.ifCond .ne 5, 3) := by decide +kernel
theorem dX12_wrong_23 : decode cX12_wrong 23 = .ok (.iconst (-1), 1) := by decide +kernel
theorem dX12_wrong_24 : decode cX12_wrong 24 = .ok (.ireturn, 1) := by decide +kernel
theorem dX12_wrong_25 : decode cX12_wrong 25 = .ok (.aload_n 0, 1) := by decide +kernel
theorem dX12_wrong_26 : decode cX12_wrong 26 = .ok (.iconst (-1), 1) := by decide +kernel
theorem dX12_wrong_27 : decode cX12_wrong 27 = .ok (.invokevirtual 400, 3) := by decide +kernel
theorem dX12_wrong_30 : decode cX12_wrong 30 = .ok (.aload_n 0, 1) := by decide +kernel
theorem dX12_wrong_31 : decode cX12_wrong 31 = .ok (.getfield 74, 3) := by decide +kernel
theorem dX12_wrong_34 : decode cX12_wrong 34 = .ok (.iload_n 1, 1) := by decide +kernel
theorem dX12_wrong_35 : decode cX12_wrong 35 = .ok (.iaload, 1) := by decide +kernel
theorem dX12_wrong_36 : decode cX12_wrong 36 = .ok (.ireturn, 1) := by decide +kernel
theorem dX12_debts_0 : decode cX12_debts 0 = .ok (.aload_n 0, 1) := by decide +kernel
theorem dX12_debts_1 : decode cX12_debts 1 = .ok (.iconst 0, 1) := by decide +kernel
theorem dX12_debts_2 : decode cX12_debts 2 = .ok (.putfield 1, 3) := by decide +kernel
theorem dX12_debts_5 : decode cX12_debts 5 = .ok (.aload_n 0, 1) := by decide +kernel
theorem dX12_debts_6 : decode cX12_debts 6 = .ok (.iconst (-1), 1) := by decide +kernel
theorem dX12_debts_7 : decode cX12_debts 7 = .ok (.invokevirtual 400, 3) := by decide +kernel
theorem dX12_debts_10 : decode cX12_debts 10 = .ok (.aload_n 0, 1) := by decide +kernel
theorem dX12_debts_11 : decode cX12_debts 11 = .ok (.getfield 357, 3) := by decide +kernel
theorem dX12_debts_14 : decode cX12_debts 14 = .ok (.ireturn, 1) := by decide +kernel
theorem dX12_debt_0 : decode cX12_debt 0 = .ok (.aload_n 0, 1) := by decide +kernel
theorem dX12_debt_1 : decode cX12_debt 1 = .ok (.iconst (-1), 1) := by decide +kernel
theorem dX12_debt_2 : decode cX12_debt 2 = .ok (.invokevirtual 400, 3) := by decide +kernel
theorem dX12_debt_5 : decode cX12_debt 5 = .ok (.aload_n 0, 1) := by decide +kernel
theorem dX12_debt_6 : decode cX12_debt 6 = .ok (.iload_n 1, 1) := by decide +kernel
theorem dX12_debt_7 : decode cX12_debt 7 = .ok (.iconst 0, 1) := by decide +kernel
theorem dX12_debt_8 : decode cX12_debt 8 = .ok (.aload_n 0, 1) := by decide +kernel
theorem dX12_debt_9 : decode cX12_debt 9 = .ok (.getfield 357, 3) := by decide +kernel
theorem dX12_debt_12 : decode cX12_debt 12 = .ok (.iconst 1, 1) := by decide +kernel
theorem dX12_debt_13 : decode cX12_debt 13 = .ok (.isub, 1) := by decide +kernel
theorem dX12_debt_14 : decode cX12_debt 14 = .ok (.invokestatic 254, 3) := by decide +kernel
theorem dX12_debt_17 : decode cX12_debt 17 = .ok (.ifCond .eq 13, 3) := by decide +kernel
theorem dX12_debt_20 : decode cX12_debt 20 = .ok (.iload_n 2, 1) := by decide +kernel
theorem dX12_debt_21 : decode cX12_debt 21 = .ok (.iconst 0, 1) := by decide +kernel
theorem dX12_debt_22 : decode cX12_debt 22 = .ok (.bipush 8, 2) := by decide +kernel
theorem dX12_debt_24 : decode cX12_debt 24 = .ok (.invokestatic 254, 3) := by decide +kernel
theorem dX12_debt_27 : decode cX12_debt 27 = .ok (.ifCond .ne 7, 3) := by decide +kernel
theorem dX12_debt_30 : decode cX12_debt 30 = .ok (.iconst 1, 1) := by decide +kernel
theorem dX12_debt_31 : decode cX12_debt 31 = .ok (.goto 4, 3) := by decide +kernel
theorem dX12_debt_34 : decode cX12_debt 34 = .ok (.iconst 0, 1) := by decide +kernel
theorem dX12_debt_35 : decode cX12_debt 35 = .ok (.invokevirtual 319, 3) := by decide +kernel
theorem dX12_debt_38 : decode cX12_debt 38 = .ok (.ifCond .eq 5, 3) := by decide +kernel
theorem dX12_debt_41 : decode cX12_debt 41 = .ok (.iconst 0, 1) := by decide +kernel
theorem dX12_debt_42 : decode cX12_debt 42 = .ok (.ireturn, 1) := by decide +kernel
theorem dX12_debt_43 : decode cX12_debt 43 = .ok (.iload_n 2, 1) := by decide +kernel
theorem dX12_debt_44 : decode cX12_debt 44 = .ok (.tableswitch 104 0 7 #[48, 55, 62, 69, 76, 83, 90, 97], 48) := by decide +kernel
theorem dX12_debt_92 : decode cX12_debt 92 = .ok (.aload_n 0, 1) := by decide +kernel
theorem dX12_debt_93 : decode cX12_debt 93 = .ok (.getfield 77, 3) := by decide +kernel
theorem dX12_debt_96 : decode cX12_debt 96 = .ok (.iload_n 1, 1) := by decide +kernel
theorem dX12_debt_97 : decode cX12_debt 97 = .ok (.iaload, 1) := by decide +kernel
theorem dX12_debt_98 : decode cX12_debt 98 = .ok (.ireturn, 1) := by decide +kernel
theorem dX12_debt_99 : decode cX12_debt 99 = .ok (.aload_n 0, 1) := by decide +kernel
theorem dX12_debt_100 : decode cX12_debt 100 = .ok (.getfield 80, 3) := by decide +kernel
theorem dX12_debt_103 : decode cX12_debt 103 = .ok (.iload_n 1, 1) := by decide +kernel
theorem dX12_debt_104 : decode cX12_debt 104 = .ok (.iaload, 1) := by decide +kernel
theorem dX12_debt_105 : decode cX12_debt 105 = .ok (.ireturn, 1) := by decide +kernel
theorem dX12_debt_106 : decode cX12_debt 106 = .ok (.aload_n 0, 1) := by decide +kernel
theorem dX12_debt_107 : decode cX12_debt 107 = .ok (.getfield 83, 3) := by decide +kernel
theorem dX12_debt_110 : decode cX12_debt 110 = .ok (.iload_n 1, 1) := by decide +kernel
theorem dX12_debt_111 : decode cX12_debt 111 = .ok (.iaload, 1) := by decide +kernel
theorem dX12_debt_112 : decode cX12_debt 112 = .ok (.ireturn, 1) := by decide +kernel
theorem dX12_debt_113 : decode cX12_debt 113 = .ok (.aload_n 0, 1) := by decide +kernel
theorem dX12_debt_114 : decode cX12_debt 114 = .ok (.getfield 86, 3) := by decide +kernel
theorem dX12_debt_117 : decode cX12_debt 117 = .ok (.iload_n 1, 1) := by decide +kernel
theorem dX12_debt_118 : decode cX12_debt 118 = .ok (.iaload, 1) := by decide +kernel
theorem dX12_debt_119 : decode cX12_debt 119 = .ok (.ireturn, 1) := by decide +kernel
theorem dX12_debt_120 : decode cX12_debt 120 = .ok (.aload_n 0, 1) := by decide +kernel
theorem dX12_debt_121 : decode cX12_debt 121 = .ok (.getfield 89, 3) := by decide +kernel
theorem dX12_debt_124 : decode cX12_debt 124 = .ok (.iload_n 1, 1) := by decide +kernel
theorem dX12_debt_125 : decode cX12_debt 125 = .ok (.iaload, 1) := by decide +kernel
theorem dX12_debt_126 : decode cX12_debt 126 = .ok (.ireturn, 1) := by decide +kernel
theorem dX12_debt_127 : decode cX12_debt 127 = .ok (.aload_n 0, 1) := by decide +kernel
theorem dX12_debt_128 : decode cX12_debt 128 = .ok (.getfield 92, 3) := by decide +kernel
theorem dX12_debt_131 : decode cX12_debt 131 = .ok (.iload_n 1, 1) := by decide +kernel
theorem dX12_debt_132 : decode cX12_debt 132 = .ok (.iaload, 1) := by decide +kernel
theorem dX12_debt_133 : decode cX12_debt 133 = .ok (.ireturn, 1) := by decide +kernel
theorem dX12_debt_134 : decode cX12_debt 134 = .ok (.aload_n 0, 1) := by decide +kernel
theorem dX12_debt_135 : decode cX12_debt 135 = .ok (.getfield 95, 3) := by decide +kernel
theorem dX12_debt_138 : decode cX12_debt 138 = .ok (.iload_n 1, 1) := by decide +kernel
theorem dX12_debt_139 : decode cX12_debt 139 = .ok (.iaload, 1) := by decide +kernel
theorem dX12_debt_140 : decode cX12_debt 140 = .ok (.ireturn, 1) := by decide +kernel
theorem dX12_debt_141 : decode cX12_debt 141 = .ok (.aload_n 0, 1) := by decide +kernel
theorem dX12_debt_142 : decode cX12_debt 142 = .ok (.getfield 98, 3) := by decide +kernel
theorem dX12_debt_145 : decode cX12_debt 145 = .ok (.iload_n 1, 1) := by decide +kernel
theorem dX12_debt_146 : decode cX12_debt 146 = .ok (.iaload, 1) := by decide +kernel
theorem dX12_debt_147 : decode cX12_debt 147 = .ok (.ireturn, 1) := by decide +kernel
theorem dX12_debt_148 : decode cX12_debt 148 = .ok (.aload_n 0, 1) := by decide +kernel
theorem dX12_debt_149 : decode cX12_debt 149 = .ok (.iload_n 1, 1) := by decide +kernel
theorem dX12_debt_150 : decode cX12_debt 150 = .ok (.invokevirtual 403, 3) := by decide +kernel
theorem dX12_debt_153 : decode cX12_debt 153 = .ok (.ifCond .eq 7, 3) := by decide +kernel
theorem dX12_debt_156 : decode cX12_debt 156 = .ok (.iconst 1, 1) := by decide +kernel
theorem dX12_debt_157 : decode cX12_debt 157 = .ok (.goto 4, 3) := by decide +kernel
theorem dX12_debt_160 : decode cX12_debt 160 = .ok (.iconst 0, 1) := by decide +kernel
theorem dX12_debt_161 : decode cX12_debt 161 = .ok (.ireturn, 1) := by decide +kernel
theorem dX12_worth_0 : decode cX12_worth 0 = .ok (.aload_n 0, 1) := by decide +kernel
theorem dX12_worth_1 : decode cX12_worth 1 = .ok (.iconst 0, 1) := by decide +kernel
theorem dX12_worth_2 : decode cX12_worth 2 = .ok (.putfield 1, 3) := by decide +kernel
theorem dX12_worth_5 : decode cX12_worth 5 = .ok (.aload_n 0, 1) := by decide +kernel
theorem dX12_worth_6 : decode cX12_worth 6 = .ok (.iload_n 1, 1) := by decide +kernel
theorem dX12_worth_7 : decode cX12_worth 7 = .ok (.invokevirtual 397, 3) := by decide +kernel
theorem dX12_worth_10 : decode cX12_worth 10 = .ok (.ifCond .eq 11, 3) := by decide +kernel
theorem dX12_worth_13 : decode cX12_worth 13 = .ok (.aload_n 0, 1) := by decide +kernel
theorem dX12_worth_14 : decode cX12_worth 14 = .ok (.iload_n 2, 1) := by decide +kernel
theorem dX12_worth_15 : decode cX12_worth 15 = .ok (.invokevirtual 316, 3) := by decide +kernel
theorem dX12_worth_18 : decode cX12_worth 18 = .ok (.ifCond .ne 5, 3) := by decide +kernel
theorem dX12_worth_21 : decode cX12_worth 21 = .ok (.iconst (-1), 1) := by decide +kernel
theorem dX12_worth_22 : decode cX12_worth 22 = .ok (.ireturn, 1) := by decide +kernel
theorem dX12_worth_23 : decode cX12_worth 23 = .ok (.aload_n 0, 1) := by decide +kernel
theorem dX12_worth_24 : decode cX12_worth 24 = .ok (.iconst (-1), 1) := by decide +kernel
theorem dX12_worth_25 : decode cX12_worth 25 = .ok (.invokevirtual 400, 3) := by decide +kernel
theorem dX12_worth_28 : decode cX12_worth 28 = .ok (.aload_n 0, 1) := by decide +kernel
theorem dX12_worth_29 : decode cX12_worth 29 = .ok (.getfield 62, 3) := by decide +kernel
theorem dX12_worth_32 : decode cX12_worth 32 = .ok (.iload_n 1, 1) := by decide +kernel
theorem dX12_worth_33 : decode cX12_worth 33 = .ok (.iaload, 1) := by decide +kernel
theorem dX12_worth_34 : decode cX12_worth 34 = .ok (.iload_n 2, 1) := by decide +kernel
theorem dX12_worth_35 : decode cX12_worth 35 = .ok (.invokestatic 272, 3) := by decide +kernel
theorem dX12_worth_38 : decode cX12_worth 38 = .ok (.ifCond .eq 12, 3) := by decide +kernel
theorem dX12_worth_41 : decode cX12_worth 41 = .ok (.aload_n 0, 1) := by decide +kernel
theorem dX12_worth_42 : decode cX12_worth 42 = .ok (.iload_n 1, 1) := by decide +kernel
theorem dX12_worth_43 : decode cX12_worth 43 = .ok (.iload_n 2, 1) := by decide +kernel
theorem dX12_worth_44 : decode cX12_worth 44 = .ok (.invokevirtual 372, 3) := by decide +kernel
theorem dX12_worth_47 : decode cX12_worth 47 = .ok (.goto 4, 3) := by decide +kernel
theorem dX12_worth_50 : decode cX12_worth 50 = .ok (.iconst (-1), 1) := by decide +kernel
theorem dX12_worth_51 : decode cX12_worth 51 = .ok (.ireturn, 1) := by decide +kernel
theorem dX12_cameOf_0 : decode cX12_cameOf 0 = .ok (.iconst 0, 1) := by decide +kernel
theorem dX12_cameOf_1 : decode cX12_cameOf 1 = .ok (.istore_n 3, 1) := by decide +kernel
theorem dX12_cameOf_2 : decode cX12_cameOf 2 = .ok (.iconst 0, 1) := by decide +kernel
theorem dX12_cameOf_3 : decode cX12_cameOf 3 = .ok (.istore 4, 2) := by decide +kernel
theorem dX12_cameOf_5 : decode cX12_cameOf 5 = .ok (.iload 4, 2) := by decide +kernel
theorem dX12_cameOf_7 : decode cX12_cameOf 7 = .ok (.aload_n 0, 1) := by decide +kernel
theorem dX12_cameOf_8 : decode cX12_cameOf 8 = .ok (.getfield 357, 3) := by decide +kernel
theorem dX12_cameOf_11 : decode cX12_cameOf 11 = .ok (.if_icmp .ge 64, 3) := by decide +kernel
theorem dX12_cameOf_14 : decode cX12_cameOf 14 = .ok (.aload_n 0, 1) := by decide +kernel
theorem dX12_cameOf_15 : decode cX12_cameOf 15 = .ok (.getfield 77, 3) := by decide +kernel
theorem dX12_cameOf_18 : decode cX12_cameOf 18 = .ok (.iload 4, 2) := by decide +kernel
theorem dX12_cameOf_20 : decode cX12_cameOf 20 = .ok (.iaload, 1) := by decide +kernel
theorem dX12_cameOf_21 : decode cX12_cameOf 21 = .ok (.iload_n 1, 1) := by decide +kernel
theorem dX12_cameOf_22 : decode cX12_cameOf 22 = .ok (.if_icmp .eq 6, 3) := by decide +kernel
theorem dX12_cameOf_25 : decode cX12_cameOf 25 = .ok (.goto 44, 3) := by decide +kernel
theorem dX12_cameOf_28 : decode cX12_cameOf 28 = .ok (.iload_n 3, 1) := by decide +kernel
theorem dX12_cameOf_29 : decode cX12_cameOf 29 = .ok (.iload_n 2, 1) := by decide +kernel
theorem dX12_cameOf_30 : decode cX12_cameOf 30 = .ok (.ifCond .ne 13, 3) := by decide +kernel
theorem dX12_cameOf_33 : decode cX12_cameOf 33 = .ok (.aload_n 0, 1) := by decide +kernel
theorem dX12_cameOf_34 : decode cX12_cameOf 34 = .ok (.getfield 89, 3) := by decide +kernel
theorem dX12_cameOf_37 : decode cX12_cameOf 37 = .ok (.iload 4, 2) := by decide +kernel
theorem dX12_cameOf_39 : decode cX12_cameOf 39 = .ok (.iaload, 1) := by decide +kernel
theorem dX12_cameOf_40 : decode cX12_cameOf 40 = .ok (.goto 27, 3) := by decide +kernel
theorem dX12_cameOf_43 : decode cX12_cameOf 43 = .ok (.iload_n 2, 1) := by decide +kernel
theorem dX12_cameOf_44 : decode cX12_cameOf 44 = .ok (.iconst 1, 1) := by decide +kernel
theorem dX12_cameOf_45 : decode cX12_cameOf 45 = .ok (.if_icmp .ne 7, 3) := by decide +kernel
theorem dX12_cameOf_48 : decode cX12_cameOf 48 = .ok (.iconst 1, 1) := by decide +kernel
theorem dX12_cameOf_49 : decode cX12_cameOf 49 = .ok (.goto 18, 3) := by decide +kernel
theorem dX12_cameOf_52 : decode cX12_cameOf 52 = .ok (.aload_n 0, 1) := by decide +kernel
theorem dX12_cameOf_53 : decode cX12_cameOf 53 = .ok (.getfield 89, 3) := by decide +kernel
theorem dX12_cameOf_56 : decode cX12_cameOf 56 = .ok (.iload 4, 2) := by decide +kernel
theorem dX12_cameOf_58 : decode cX12_cameOf 58 = .ok (.iaload, 1) := by decide +kernel
theorem dX12_cameOf_59 : decode cX12_cameOf 59 = .ok (.ifCond .ne 7, 3) := by decide +kernel
theorem dX12_cameOf_62 : decode cX12_cameOf 62 = .ok (.iconst 1, 1) := by decide +kernel
theorem dX12_cameOf_63 : decode cX12_cameOf 63 = .ok (.goto 4, 3) := by decide +kernel
theorem dX12_cameOf_66 : decode cX12_cameOf 66 = .ok (.iconst 0, 1) := by decide +kernel
theorem dX12_cameOf_67 : decode cX12_cameOf 67 = .ok (.iadd, 1) := by decide +kernel
theorem dX12_cameOf_68 : decode cX12_cameOf 68 = .ok (.istore_n 3, 1) := by decide +kernel
theorem dX12_cameOf_69 : decode cX12_cameOf 69 = .ok (.iinc 4 1, 3) := by decide +kernel
theorem dX12_cameOf_72 : decode cX12_cameOf 72 = .ok (.goto (-67), 3) := by decide +kernel
theorem dX12_cameOf_75 : decode cX12_cameOf 75 = .ok (.iload_n 2, 1) := by decide +kernel
theorem dX12_cameOf_76 : decode cX12_cameOf 76 = .ok (.iconst 3, 1) := by decide +kernel
theorem dX12_cameOf_77 : decode cX12_cameOf 77 = .ok (.if_icmp .ge 7, 3) := by decide +kernel
theorem dX12_cameOf_80 : decode cX12_cameOf 80 = .ok (.iload_n 3, 1) := by decide +kernel
theorem dX12_cameOf_81 : decode cX12_cameOf 81 = .ok (.goto 23, 3) := by decide +kernel
theorem dX12_cameOf_84 : decode cX12_cameOf 84 = .ok (.iload_n 2, 1) := by decide +kernel
theorem dX12_cameOf_85 : decode cX12_cameOf 85 = .ok (.iconst 3, 1) := by decide +kernel
theorem dX12_cameOf_86 : decode cX12_cameOf 86 = .ok (.if_icmp .ne 12, 3) := by decide +kernel
theorem dX12_cameOf_89 : decode cX12_cameOf 89 = .ok (.aload_n 0, 1) := by decide +kernel
theorem dX12_cameOf_90 : decode cX12_cameOf 90 = .ok (.getfield 68, 3) := by decide +kernel
theorem dX12_cameOf_93 : decode cX12_cameOf 93 = .ok (.iload_n 1, 1) := by decide +kernel
theorem dX12_cameOf_94 : decode cX12_cameOf 94 = .ok (.iaload, 1) := by decide +kernel
theorem dX12_cameOf_95 : decode cX12_cameOf 95 = .ok (.goto 9, 3) := by decide +kernel
theorem dX12_cameOf_98 : decode cX12_cameOf 98 = .ok (.aload_n 0, 1) := by decide +kernel
theorem dX12_cameOf_99 : decode cX12_cameOf 99 = .ok (.getfield 71, 3) := by decide +kernel
theorem dX12_cameOf_102 : decode cX12_cameOf 102 = .ok (.iload_n 1, 1) := by decide +kernel
theorem dX12_cameOf_103 : decode cX12_cameOf 103 = .ok (.iaload, 1) := by decide +kernel
theorem dX12_cameOf_104 : decode cX12_cameOf 104 = .ok (.ireturn, 1) := by decide +kernel
theorem dX12_came_0 : decode cX12_came 0 = .ok (.aload_n 0, 1) := by decide +kernel
theorem dX12_came_1 : decode cX12_came 1 = .ok (.iconst (-1), 1) := by decide +kernel
theorem dX12_came_2 : decode cX12_came 2 = .ok (.invokevirtual 400, 3) := by decide +kernel
theorem dX12_came_5 : decode cX12_came 5 = .ok (.aload_n 0, 1) := by decide +kernel
theorem dX12_came_6 : decode cX12_came 6 = .ok (.aload_n 0, 1) := by decide +kernel
theorem dX12_came_7 : decode cX12_came 7 = .ok (.iload_n 1, 1) := by decide +kernel
theorem dX12_came_8 : decode cX12_came 8 = .ok (.invokevirtual 397, 3) := by decide +kernel
theorem dX12_came_11 : decode cX12_came 11 = .ok (.ifCond .eq 12, 3) := by decide +kernel
theorem dX12_came_14 : decode cX12_came 14 = .ok (.iload_n 2, 1) := by decide +kernel
theorem dX12_came_15 : decode cX12_came 15 = .ok (.iconst 0, 1) := by decide +kernel
theorem dX12_came_16 : decode cX12_came 16 = .ok (.iconst 4, 1) := by decide +kernel
theorem dX12_came_17 : decode cX12_came 17 = .ok (.invokestatic 254, 3) := by decide +kernel
theorem dX12_came_20 : decode cX12_came 20 = .ok (.ifCond .ne 7, 3) := by decide +kernel
theorem dX12_came_23 : decode cX12_came 23 = .ok (.iconst 1, 1) := by decide +kernel
theorem dX12_came_24 : decode cX12_came 24 = .ok (.goto 4, 3) := by decide +kernel
theorem dX12_came_27 : decode cX12_came 27 = .ok (.iconst 0, 1) := by decide +kernel
theorem dX12_came_28 : decode cX12_came 28 = .ok (.invokevirtual 319, 3) := by decide +kernel
theorem dX12_came_31 : decode cX12_came 31 = .ok (.ifCond .eq 7, 3) := by decide +kernel
theorem dX12_came_34 : decode cX12_came 34 = .ok (.iconst 0, 1) := by decide +kernel
theorem dX12_came_35 : decode cX12_came 35 = .ok (.goto 9, 3) := by decide +kernel
theorem dX12_came_38 : decode cX12_came 38 = .ok (.aload_n 0, 1) := by decide +kernel
theorem dX12_came_39 : decode cX12_came 39 = .ok (.iload_n 1, 1) := by decide +kernel
theorem dX12_came_40 : decode cX12_came 40 = .ok (.iload_n 2, 1) := by decide +kernel
theorem dX12_came_41 : decode cX12_came 41 = .ok (.invokevirtual 406, 3) := by decide +kernel
theorem dX12_came_44 : decode cX12_came 44 = .ok (.ireturn, 1) := by decide +kernel
theorem dX12_autumn_0 : decode cX12_autumn 0 = .ok (.aload_n 0, 1) := by decide +kernel
theorem dX12_autumn_1 : decode cX12_autumn 1 = .ok (.iconst 0, 1) := by decide +kernel
theorem dX12_autumn_2 : decode cX12_autumn 2 = .ok (.putfield 1, 3) := by decide +kernel
theorem dX12_autumn_5 : decode cX12_autumn 5 = .ok (.iload_n 1, 1) := by decide +kernel
theorem dX12_autumn_6 : decode cX12_autumn 6 = .ok (.iconst 0, 1) := by decide +kernel
theorem dX12_autumn_7 : decode cX12_autumn 7 = .ok (.bipush 6, 2) := by decide +kernel
theorem dX12_autumn_9 : decode cX12_autumn 9 = .ok (.invokestatic 254, 3) := by decide +kernel
theorem dX12_autumn_12 : decode cX12_autumn 12 = .ok (.ifCond .ne 5, 3) := by decide +kernel
theorem dX12_autumn_15 : decode cX12_autumn 15 = .ok (.iconst (-1), 1) := by decide +kernel
theorem dX12_autumn_16 : decode cX12_autumn 16 = .ok (.ireturn, 1) := by decide +kernel
theorem dX12_autumn_17 : decode cX12_autumn 17 = .ok (.aload_n 0, 1) := by decide +kernel
theorem dX12_autumn_18 : decode cX12_autumn 18 = .ok (.iconst (-1), 1) := by decide +kernel
theorem dX12_autumn_19 : decode cX12_autumn 19 = .ok (.invokevirtual 400, 3) := by decide +kernel
theorem dX12_autumn_22 : decode cX12_autumn 22 = .ok (.iload_n 1, 1) := by decide +kernel
theorem dX12_autumn_23 : decode cX12_autumn 23 = .ok (.ifCond .ne 8, 3) := by decide +kernel
theorem dX12_autumn_26 : decode cX12_autumn 26 = .ok (.aload_n 0, 1) := by decide +kernel
theorem dX12_autumn_27 : decode cX12_autumn 27 = .ok (.invokevirtual 409, 3) := by decide +kernel
theorem dX12_autumn_30 : decode cX12_autumn 30 = .ok (.ireturn, 1) := by decide +kernel
theorem dX12_autumn_31 : decode cX12_autumn 31 = .ok (.iload_n 1, 1) := by decide +kernel
theorem dX12_autumn_32 : decode cX12_autumn 32 = .ok (.iconst 5, 1) := by decide +kernel
theorem dX12_autumn_33 : decode cX12_autumn 33 = .ok (.if_icmp .ne 8, 3) := by decide +kernel
theorem dX12_autumn_36 : decode cX12_autumn 36 = .ok (.aload_n 0, 1) := by decide +kernel
theorem dX12_autumn_37 : decode cX12_autumn 37 = .ok (.getfield 366, 3) := by decide +kernel
theorem dX12_autumn_40 : decode cX12_autumn 40 = .ok (.ireturn, 1) := by decide +kernel
theorem dX12_autumn_41 : decode cX12_autumn 41 = .ok (.iload_n 1, 1) := by decide +kernel
theorem dX12_autumn_42 : decode cX12_autumn 42 = .ok (.bipush 6, 2) := by decide +kernel
theorem dX12_autumn_44 : decode cX12_autumn 44 = .ok (.if_icmp .ne 8, 3) := by decide +kernel
theorem dX12_autumn_47 : decode cX12_autumn 47 = .ok (.aload_n 0, 1) := by decide +kernel
theorem dX12_autumn_48 : decode cX12_autumn 48 = .ok (.getfield 360, 3) := by decide +kernel
theorem dX12_autumn_51 : decode cX12_autumn 51 = .ok (.ireturn, 1) := by decide +kernel
theorem dX12_autumn_52 : decode cX12_autumn 52 = .ok (.iconst 0, 1) := by decide +kernel
theorem dX12_autumn_53 : decode cX12_autumn 53 = .ok (.istore_n 2, 1) := by decide +kernel
theorem dX12_autumn_54 : decode cX12_autumn 54 = .ok (.iconst 0, 1) := by decide +kernel
theorem dX12_autumn_55 : decode cX12_autumn 55 = .ok (.istore_n 3, 1) := by decide +kernel
theorem dX12_autumn_56 : decode cX12_autumn 56 = .ok (.iload_n 3, 1) := by decide +kernel
theorem dX12_autumn_57 : decode cX12_autumn 57 = .ok (.bipush 8, 2) := by decide +kernel
theorem dX12_autumn_59 : decode cX12_autumn 59 = .ok (.if_icmp .ge 23, 3) := by decide +kernel
theorem dX12_autumn_62 : decode cX12_autumn 62 = .ok (.iload_n 1, 1) := by decide +kernel
theorem dX12_autumn_63 : decode cX12_autumn 63 = .ok (.iconst 4, 1) := by decide +kernel
theorem dX12_autumn_64 : decode cX12_autumn 64 = .ok (.if_icmp .ne 18, 3) := by decide +kernel
theorem dX12_autumn_67 : decode cX12_autumn 67 = .ok (.iload_n 2, 1) := by decide +kernel
theorem dX12_autumn_68 : decode cX12_autumn 68 = .ok (.aload_n 0, 1) := by decide +kernel
theorem dX12_autumn_69 : decode cX12_autumn 69 = .ok (.getfield 68, 3) := by decide +kernel
theorem dX12_autumn_72 : decode cX12_autumn 72 = .ok (.iload_n 3, 1) := by decide +kernel
theorem dX12_autumn_73 : decode cX12_autumn 73 = .ok (.iaload, 1) := by decide +kernel
theorem dX12_autumn_74 : decode cX12_autumn 74 = .ok (.iadd, 1) := by decide +kernel
theorem dX12_autumn_75 : decode cX12_autumn 75 = .ok (.istore_n 2, 1) := by decide +kernel
theorem dX12_autumn_76 : decode cX12_autumn 76 = .ok (.iinc 3 1, 3) := by decide +kernel
theorem dX12_autumn_79 : decode cX12_autumn 79 = .ok (.goto (-23), 3) := by decide +kernel
theorem dX12_autumn_82 : decode cX12_autumn 82 = .ok (.iconst 0, 1) := by decide +kernel
theorem dX12_autumn_83 : decode cX12_autumn 83 = .ok (.istore_n 3, 1) := by decide +kernel
theorem dX12_autumn_84 : decode cX12_autumn 84 = .ok (.iload_n 3, 1) := by decide +kernel
theorem dX12_autumn_85 : decode cX12_autumn 85 = .ok (.aload_n 0, 1) := by decide +kernel
theorem dX12_autumn_86 : decode cX12_autumn 86 = .ok (.getfield 357, 3) := by decide +kernel
theorem dX12_autumn_89 : decode cX12_autumn 89 = .ok (.if_icmp .ge 66, 3) := by decide +kernel
theorem dX12_autumn_92 : decode cX12_autumn 92 = .ok (.iload_n 1, 1) := by decide +kernel
theorem dX12_autumn_93 : decode cX12_autumn 93 = .ok (.iconst 4, 1) := by decide +kernel
theorem dX12_autumn_94 : decode cX12_autumn 94 = .ok (.if_icmp .eq 61, 3) := by decide +kernel
theorem dX12_autumn_97 : decode cX12_autumn 97 = .ok (.iload_n 2, 1) := by decide +kernel
theorem dX12_autumn_98 : decode cX12_autumn 98 = .ok (.iload_n 1, 1) := by decide +kernel
theorem dX12_autumn_99 : decode cX12_autumn 99 = .ok (.iconst 1, 1) := by decide +kernel
theorem dX12_autumn_100 : decode cX12_autumn 100 = .ok (.if_icmp .ne 20, 3) := by decide +kernel
theorem dX12_autumn_103 : decode cX12_autumn 103 = .ok (.aload_n 0, 1) := by decide +kernel
theorem dX12_autumn_104 : decode cX12_autumn 104 = .ok (.getfield 89, 3) := by decide +kernel
theorem dX12_autumn_107 : decode cX12_autumn 107 = .ok (.iload_n 3, 1) := by decide +kernel
theorem dX12_autumn_108 : decode cX12_autumn 108 = .ok (.iaload, 1) := by decide +kernel
theorem dX12_autumn_109 : decode cX12_autumn 109 = .ok (.ifCond .le 7, 3) := by decide +kernel
theorem dX12_autumn_112 : decode cX12_autumn 112 = .ok (.iconst 1, 1) := by decide +kernel
theorem dX12_autumn_113 : decode cX12_autumn 113 = .ok (.goto 34, 3) := by decide +kernel
theorem dX12_autumn_116 : decode cX12_autumn 116 = .ok (.iconst 0, 1) := by decide +kernel
theorem dX12_autumn_117 : decode cX12_autumn 117 = .ok (.goto 30, 3) := by decide +kernel
theorem dX12_autumn_120 : decode cX12_autumn 120 = .ok (.iload_n 1, 1) := by decide +kernel
theorem dX12_autumn_121 : decode cX12_autumn 121 = .ok (.iconst 2, 1) := by decide +kernel
theorem dX12_autumn_122 : decode cX12_autumn 122 = .ok (.if_icmp .ne 19, 3) := by decide +kernel
theorem dX12_autumn_125 : decode cX12_autumn 125 = .ok (.aload_n 0, 1) := by decide +kernel
theorem dX12_autumn_126 : decode cX12_autumn 126 = .ok (.iload_n 3, 1) := by decide +kernel
theorem dX12_autumn_127 : decode cX12_autumn 127 = .ok (.invokevirtual 403, 3) := by decide +kernel
theorem dX12_autumn_130 : decode cX12_autumn 130 = .ok (.ifCond .eq 7, 3) := by decide +kernel
theorem dX12_autumn_133 : decode cX12_autumn 133 = .ok (.iconst 1, 1) := by decide +kernel
theorem dX12_autumn_134 : decode cX12_autumn 134 = .ok (.goto 13, 3) := by decide +kernel
theorem dX12_autumn_137 : decode cX12_autumn 137 = .ok (.iconst 0, 1) := by decide +kernel
theorem dX12_autumn_138 : decode cX12_autumn 138 = .ok (.goto 9, 3) := by decide +kernel
theorem dX12_autumn_141 : decode cX12_autumn 141 = .ok (.aload_n 0, 1) := by decide +kernel
theorem dX12_autumn_142 : decode cX12_autumn 142 = .ok (.getfield 98, 3) := by decide +kernel
theorem dX12_autumn_145 : decode cX12_autumn 145 = .ok (.iload_n 3, 1) := by decide +kernel
theorem dX12_autumn_146 : decode cX12_autumn 146 = .ok (.iaload, 1) := by decide +kernel
theorem dX12_autumn_147 : decode cX12_autumn 147 = .ok (.iadd, 1) := by decide +kernel
theorem dX12_autumn_148 : decode cX12_autumn 148 = .ok (.istore_n 2, 1) := by decide +kernel
theorem dX12_autumn_149 : decode cX12_autumn 149 = .ok (.iinc 3 1, 3) := by decide +kernel
theorem dX12_autumn_152 : decode cX12_autumn 152 = .ok (.goto (-68), 3) := by decide +kernel
theorem dX12_autumn_155 : decode cX12_autumn 155 = .ok (.iload_n 2, 1) := by decide +kernel
theorem dX12_autumn_156 : decode cX12_autumn 156 = .ok (.ireturn, 1) := by decide +kernel
theorem dX12_mayPay_0 : decode cX12_mayPay 0 = .ok (.aload_n 0, 1) := by decide +kernel
theorem dX12_mayPay_1 : decode cX12_mayPay 1 = .ok (.getfield 77, 3) := by decide +kernel
theorem dX12_mayPay_4 : decode cX12_mayPay 4 = .ok (.iload_n 1, 1) := by decide +kernel
theorem dX12_mayPay_5 : decode cX12_mayPay 5 = .ok (.iaload, 1) := by decide +kernel
theorem dX12_mayPay_6 : decode cX12_mayPay 6 = .ok (.istore_n 3, 1) := by decide +kernel
theorem dX12_mayPay_7 : decode cX12_mayPay 7 = .ok (.aload_n 0, 1) := by decide +kernel
theorem dX12_mayPay_8 : decode cX12_mayPay 8 = .ok (.getfield 62, 3) := by decide +kernel
theorem dX12_mayPay_11 : decode cX12_mayPay 11 = .ok (.iload_n 3, 1) := by decide +kernel
theorem dX12_mayPay_12 : decode cX12_mayPay 12 = .ok (.iaload, 1) := by decide +kernel
theorem dX12_mayPay_13 : decode cX12_mayPay 13 = .ok (.iload_n 2, 1) := by decide +kernel
theorem dX12_mayPay_14 : decode cX12_mayPay 14 = .ok (.invokestatic 272, 3) := by decide +kernel
theorem dX12_mayPay_17 : decode cX12_mayPay 17 = .ok (.ifCond .eq 18, 3) := by decide +kernel
theorem dX12_mayPay_20 : decode cX12_mayPay 20 = .ok (.aload_n 0, 1) := by decide +kernel
theorem dX12_mayPay_21 : decode cX12_mayPay 21 = .ok (.iload_n 3, 1) := by decide +kernel
theorem dX12_mayPay_22 : decode cX12_mayPay 22 = .ok (.iload_n 2, 1) := by decide +kernel
theorem dX12_mayPay_23 : decode cX12_mayPay 23 = .ok (.invokevirtual 372, 3) := by decide +kernel
theorem dX12_mayPay_26 : decode cX12_mayPay 26 = .ok (.aload_n 0, 1) := by decide +kernel
theorem dX12_mayPay_27 : decode cX12_mayPay 27 = .ok (.getfield 89, 3) := by decide +kernel
theorem dX12_mayPay_30 : decode cX12_mayPay 30 = .ok (.iload_n 1, 1) := by decide +kernel
theorem dX12_mayPay_31 : decode cX12_mayPay 31 = .ok (.iaload, 1) := by decide +kernel
theorem dX12_mayPay_32 : decode cX12_mayPay 32 = .ok (.if_icmp .ge 5, 3) := by decide +kernel
theorem dX12_mayPay_35 : decode cX12_mayPay 35 = .ok (.iconst 0, 1) := by decide +kernel
theorem dX12_mayPay_36 : decode cX12_mayPay 36 = .ok (.ireturn, 1) := by decide +kernel
theorem dX12_mayPay_37 : decode cX12_mayPay 37 = .ok (.iconst 0, 1) := by decide +kernel
theorem dX12_mayPay_38 : decode cX12_mayPay 38 = .ok (.istore 4, 2) := by decide +kernel
theorem dX12_mayPay_40 : decode cX12_mayPay 40 = .ok (.iload 4, 2) := by decide +kernel
theorem dX12_mayPay_42 : decode cX12_mayPay 42 = .ok (.aload_n 0, 1) := by decide +kernel
theorem dX12_mayPay_43 : decode cX12_mayPay 43 = .ok (.getfield 33, 3) := by decide +kernel
theorem dX12_mayPay_46 : decode cX12_mayPay 46 = .ok (.iconst 0, 1) := by decide +kernel
theorem dX12_mayPay_47 : decode cX12_mayPay 47 = .ok (.iaload, 1) := by decide +kernel
theorem dX12_mayPay_48 : decode cX12_mayPay 48 = .ok (.if_icmp .ge 25, 3) := by decide +kernel
theorem dX12_mayPay_51 : decode cX12_mayPay 51 = .ok (.aload_n 0, 1) := by decide +kernel
theorem dX12_mayPay_52 : decode cX12_mayPay 52 = .ok (.getfield 62, 3) := by decide +kernel
theorem dX12_mayPay_55 : decode cX12_mayPay 55 = .ok (.iload 4, 2) := by decide +kernel
theorem dX12_mayPay_57 : decode cX12_mayPay 57 = .ok (.iaload, 1) := by decide +kernel
theorem dX12_mayPay_58 : decode cX12_mayPay 58 = .ok (.iload_n 2, 1) := by decide +kernel
theorem dX12_mayPay_59 : decode cX12_mayPay 59 = .ok (.invokestatic 272, 3) := by decide +kernel
theorem dX12_mayPay_62 : decode cX12_mayPay 62 = .ok (.ifCond .ne 5, 3) := by decide +kernel
theorem dX12_mayPay_65 : decode cX12_mayPay 65 = .ok (.iconst 1, 1) := by decide +kernel
theorem dX12_mayPay_66 : decode cX12_mayPay 66 = .ok (.ireturn, 1) := by decide +kernel
theorem dX12_mayPay_67 : decode cX12_mayPay 67 = .ok (.iinc 4 1, 3) := by decide +kernel
theorem dX12_mayPay_70 : decode cX12_mayPay 70 = .ok (.goto (-30), 3) := by decide +kernel
theorem dX12_mayPay_73 : decode cX12_mayPay 73 = .ok (.iconst 0, 1) := by decide +kernel
theorem dX12_mayPay_74 : decode cX12_mayPay 74 = .ok (.ireturn, 1) := by decide +kernel
theorem dX12_feasts_0 : decode cX12_feasts 0 = .ok (.aload_n 0, 1) := by decide +kernel
theorem dX12_feasts_1 : decode cX12_feasts 1 = .ok (.iconst (-1), 1) := by decide +kernel
theorem dX12_feasts_2 : decode cX12_feasts 2 = .ok (.invokevirtual 400, 3) := by decide +kernel
theorem dX12_feasts_5 : decode cX12_feasts 5 = .ok (.aload_n 0, 1) := by decide +kernel
theorem dX12_feasts_6 : decode cX12_feasts 6 = .ok (.iconst 0, 1) := by decide +kernel
theorem dX12_feasts_7 : decode cX12_feasts 7 = .ok (.putfield 412, 3) := by decide +kernel
theorem dX12_feasts_10 : decode cX12_feasts 10 = .ok (.iconst 0, 1) := by decide +kernel
theorem dX12_feasts_11 : decode cX12_feasts 11 = .ok (.istore_n 1, 1) := by decide +kernel
theorem dX12_feasts_12 : decode cX12_feasts 12 = .ok (.iload_n 1, 1) := by decide +kernel
theorem dX12_feasts_13 : decode cX12_feasts 13 = .ok (.aload_n 0, 1) := by decide +kernel
theorem dX12_feasts_14 : decode cX12_feasts 14 = .ok (.getfield 357, 3) := by decide +kernel
theorem dX12_feasts_17 : decode cX12_feasts 17 = .ok (.if_icmp .ge 50, 3) := by decide +kernel
theorem dX12_feasts_20 : decode cX12_feasts 20 = .ok (.aload_n 0, 1) := by decide +kernel
theorem dX12_feasts_21 : decode cX12_feasts 21 = .ok (.getfield 412, 3) := by decide +kernel
theorem dX12_feasts_24 : decode cX12_feasts 24 = .ok (.bipush 8, 2) := by decide +kernel
theorem dX12_feasts_26 : decode cX12_feasts 26 = .ok (.if_icmp .ge 41, 3) := by decide +kernel
theorem dX12_feasts_29 : decode cX12_feasts 29 = .ok (.aload_n 0, 1) := by decide +kernel
theorem dX12_feasts_30 : decode cX12_feasts 30 = .ok (.getfield 89, 3) := by decide +kernel
theorem dX12_feasts_33 : decode cX12_feasts 33 = .ok (.iload_n 1, 1) := by decide +kernel
theorem dX12_feasts_34 : decode cX12_feasts 34 = .ok (.iaload, 1) := by decide +kernel
theorem dX12_feasts_35 : decode cX12_feasts 35 = .ok (.ifCond .ne 6, 3) := by decide +kernel
theorem dX12_feasts_38 : decode cX12_feasts 38 = .ok (.goto 23, 3) := by decide +kernel
theorem dX12_feasts_41 : decode cX12_feasts 41 = .ok (.aload_n 0, 1) := by decide +kernel
theorem dX12_feasts_42 : decode cX12_feasts 42 = .ok (.getfield 114, 3) := by decide +kernel
theorem dX12_feasts_45 : decode cX12_feasts 45 = .ok (.aload_n 0, 1) := by decide +kernel
theorem dX12_feasts_46 : decode cX12_feasts 46 = .ok (.getfield 412, 3) := by decide +kernel
theorem dX12_feasts_49 : decode cX12_feasts 49 = .ok (.iload_n 1, 1) := by decide +kernel
theorem dX12_feasts_50 : decode cX12_feasts 50 = .ok (.iastore, 1) := by decide +kernel
theorem dX12_feasts_51 : decode cX12_feasts 51 = .ok (.aload_n 0, 1) := by decide +kernel
theorem dX12_feasts_52 : decode cX12_feasts 52 = .ok (.dup, 1) := by decide +kernel
theorem dX12_feasts_53 : decode cX12_feasts 53 = .ok (.getfield 412, 3) := by decide +kernel
theorem dX12_feasts_56 : decode cX12_feasts 56 = .ok (.iconst 1, 1) := by decide +kernel
theorem dX12_feasts_57 : decode cX12_feasts 57 = .ok (.iadd, 1) := by decide +kernel
theorem dX12_feasts_58 : decode cX12_feasts 58 = .ok (.putfield 412, 3) := by decide +kernel
theorem dX12_feasts_61 : decode cX12_feasts 61 = .ok (.iinc 1 1, 3) := by decide +kernel
theorem dX12_feasts_64 : decode cX12_feasts 64 = .ok (.goto (-52), 3) := by decide +kernel
theorem dX12_feasts_67 : decode cX12_feasts 67 = .ok (.iconst 0, 1) := by decide +kernel
theorem dX12_feasts_68 : decode cX12_feasts 68 = .ok (.istore_n 1, 1) := by decide +kernel
theorem dX12_feasts_69 : decode cX12_feasts 69 = .ok (.iload_n 1, 1) := by decide +kernel
theorem dX12_feasts_70 : decode cX12_feasts 70 = .ok (.sipush 4096, 3) := by decide +kernel
theorem dX12_feasts_73 : decode cX12_feasts 73 = .ok (.if_icmp .ge 25, 3) := by decide +kernel
theorem dX12_feasts_76 : decode cX12_feasts 76 = .ok (.aload_n 0, 1) := by decide +kernel
theorem dX12_feasts_77 : decode cX12_feasts 77 = .ok (.getfield 108, 3) := by decide +kernel
theorem dX12_feasts_80 : decode cX12_feasts 80 = .ok (.sipush 4096, 3) := by decide +kernel
theorem dX12_feasts_83 : decode cX12_feasts 83 = .ok (.aload_n 0, 1) := by decide +kernel
theorem dX12_feasts_84 : decode cX12_feasts 84 = .ok (.getfield 412, 3) := by decide +kernel
theorem dX12_feasts_87 : decode cX12_feasts 87 = .ok (.imul, 1) := by decide +kernel
theorem dX12_feasts_88 : decode cX12_feasts 88 = .ok (.iload_n 1, 1) := by decide +kernel
theorem dX12_feasts_89 : decode cX12_feasts 89 = .ok (.iadd, 1) := by decide +kernel
theorem dX12_feasts_90 : decode cX12_feasts 90 = .ok (.iconst 0, 1) := by decide +kernel
theorem dX12_feasts_91 : decode cX12_feasts 91 = .ok (.iastore, 1) := by decide +kernel
theorem dX12_feasts_92 : decode cX12_feasts 92 = .ok (.iinc 1 1, 3) := by decide +kernel
theorem dX12_feasts_95 : decode cX12_feasts 95 = .ok (.goto (-26), 3) := by decide +kernel
theorem dX12_feasts_98 : decode cX12_feasts 98 = .ok (.aload_n 0, 1) := by decide +kernel
theorem dX12_feasts_99 : decode cX12_feasts 99 = .ok (.getfield 412, 3) := by decide +kernel
theorem dX12_feasts_102 : decode cX12_feasts 102 = .ok (.iconst 1, 1) := by decide +kernel
theorem dX12_feasts_103 : decode cX12_feasts 103 = .ok (.isub, 1) := by decide +kernel
theorem dX12_feasts_104 : decode cX12_feasts 104 = .ok (.istore_n 1, 1) := by decide +kernel
theorem dX12_feasts_105 : decode cX12_feasts 105 = .ok (.iload_n 1, 1) := by decide +kernel
theorem dX12_feasts_106 : decode cX12_feasts 106 = .ok (.ifCond .lt 195, 3) := by decide +kernel
theorem dX12_feasts_109 : decode cX12_feasts 109 = .ok (.iconst 0, 1) := by decide +kernel
theorem dX12_feasts_110 : decode cX12_feasts 110 = .ok (.istore_n 2, 1) := by decide +kernel
theorem dX12_feasts_111 : decode cX12_feasts 111 = .ok (.iconst 0, 1) := by decide +kernel
theorem dX12_feasts_112 : decode cX12_feasts 112 = .ok (.istore_n 3, 1) := by decide +kernel
theorem dX12_feasts_113 : decode cX12_feasts 113 = .ok (.iload_n 3, 1) := by decide +kernel
theorem dX12_feasts_114 : decode cX12_feasts 114 = .ok (.aload_n 0, 1) := by decide +kernel
theorem dX12_feasts_115 : decode cX12_feasts 115 = .ok (.getfield 33, 3) := by decide +kernel
theorem dX12_feasts_118 : decode cX12_feasts 118 = .ok (.iconst 1, 1) := by decide +kernel
theorem dX12_feasts_119 : decode cX12_feasts 119 = .ok (.iaload, 1) := by decide +kernel
theorem dX12_feasts_120 : decode cX12_feasts 120 = .ok (.if_icmp .ge 33, 3) := by decide +kernel
theorem dX12_feasts_123 : decode cX12_feasts 123 = .ok (.iload_n 2, 1) := by decide +kernel
theorem dX12_feasts_124 : decode cX12_feasts 124 = .ok (.aload_n 0, 1) := by decide +kernel
theorem dX12_feasts_125 : decode cX12_feasts 125 = .ok (.aload_n 0, 1) := by decide +kernel
theorem dX12_feasts_126 : decode cX12_feasts 126 = .ok (.getfield 114, 3) := by decide +kernel
theorem dX12_feasts_129 : decode cX12_feasts 129 = .ok (.iload_n 1, 1) := by decide +kernel
theorem dX12_feasts_130 : decode cX12_feasts 130 = .ok (.iaload, 1) := by decide +kernel
theorem dX12_feasts_131 : decode cX12_feasts 131 = .ok (.iload_n 3, 1) := by decide +kernel
theorem dX12_feasts_132 : decode cX12_feasts 132 = .ok (.invokevirtual 415, 3) := by decide +kernel
theorem dX12_feasts_135 : decode cX12_feasts 135 = .ok (.ifCond .eq 9, 3) := by decide +kernel
theorem dX12_feasts_138 : decode cX12_feasts 138 = .ok (.iconst 1, 1) := by decide +kernel
theorem dX12_feasts_139 : decode cX12_feasts 139 = .ok (.iload_n 3, 1) := by decide +kernel
theorem dX12_feasts_140 : decode cX12_feasts 140 = .ok (.ishl, 1) := by decide +kernel
theorem dX12_feasts_141 : decode cX12_feasts 141 = .ok (.goto 4, 3) := by decide +kernel
theorem dX12_feasts_144 : decode cX12_feasts 144 = .ok (.iconst 0, 1) := by decide +kernel
theorem dX12_feasts_145 : decode cX12_feasts 145 = .ok (.ior, 1) := by decide +kernel
theorem dX12_feasts_146 : decode cX12_feasts 146 = .ok (.istore_n 2, 1) := by decide +kernel
theorem dX12_feasts_147 : decode cX12_feasts 147 = .ok (.iinc 3 1, 3) := by decide +kernel
theorem dX12_feasts_150 : decode cX12_feasts 150 = .ok (.goto (-37), 3) := by decide +kernel
theorem dX12_feasts_153 : decode cX12_feasts 153 = .ok (.iconst 0, 1) := by decide +kernel
theorem dX12_feasts_154 : decode cX12_feasts 154 = .ok (.istore_n 3, 1) := by decide +kernel
theorem dX12_feasts_155 : decode cX12_feasts 155 = .ok (.iload_n 3, 1) := by decide +kernel
theorem dX12_feasts_156 : decode cX12_feasts 156 = .ok (.sipush 4096, 3) := by decide +kernel
theorem dX12_feasts_159 : decode cX12_feasts 159 = .ok (.if_icmp .ge 136, 3) := by decide +kernel
theorem dX12_feasts_162 : decode cX12_feasts 162 = .ok (.aload_n 0, 1) := by decide +kernel
theorem dX12_feasts_163 : decode cX12_feasts 163 = .ok (.getfield 108, 3) := by decide +kernel
theorem dX12_feasts_166 : decode cX12_feasts 166 = .ok (.sipush 4096, 3) := by decide +kernel
theorem dX12_feasts_169 : decode cX12_feasts 169 = .ok (.iload_n 1, 1) := by decide +kernel
theorem dX12_feasts_170 : decode cX12_feasts 170 = .ok (.iconst 1, 1) := by decide +kernel
theorem dX12_feasts_171 : decode cX12_feasts 171 = .ok (.iadd, 1) := by decide +kernel
theorem dX12_feasts_172 : decode cX12_feasts 172 = .ok (.imul, 1) := by decide +kernel
theorem dX12_feasts_173 : decode cX12_feasts 173 = .ok (.iload_n 3, 1) := by decide +kernel
theorem dX12_feasts_174 : decode cX12_feasts 174 = .ok (.iadd, 1) := by decide +kernel
theorem dX12_feasts_175 : decode cX12_feasts 175 = .ok (.iaload, 1) := by decide +kernel
theorem dX12_feasts_176 : decode cX12_feasts 176 = .ok (.istore 4, 2) := by decide +kernel
theorem dX12_feasts_178 : decode cX12_feasts 178 = .ok (.iconst 0, 1) := by decide +kernel
theorem dX12_feasts_179 : decode cX12_feasts 179 = .ok (.istore 5, 2) := by decide +kernel
theorem dX12_feasts_181 : decode cX12_feasts 181 = .ok (.iload 5, 2) := by decide +kernel
theorem dX12_feasts_183 : decode cX12_feasts 183 = .ok (.aload_n 0, 1) := by decide +kernel
theorem dX12_feasts_184 : decode cX12_feasts 184 = .ok (.getfield 33, 3) := by decide +kernel
theorem dX12_feasts_187 : decode cX12_feasts 187 = .ok (.iconst 1, 1) := by decide +kernel
theorem dX12_feasts_188 : decode cX12_feasts 188 = .ok (.iaload, 1) := by decide +kernel
theorem dX12_feasts_189 : decode cX12_feasts 189 = .ok (.if_icmp .ge 86, 3) := by decide +kernel
theorem dX12_feasts_192 : decode cX12_feasts 192 = .ok (.iload_n 3, 1) := by decide +kernel
theorem dX12_feasts_193 : decode cX12_feasts 193 = .ok (.iload 5, 2) := by decide +kernel
theorem dX12_feasts_195 : decode cX12_feasts 195 = .ok (.invokestatic 272, 3) := by decide +kernel
theorem dX12_feasts_198 : decode cX12_feasts 198 = .ok (.ifCond .ne 71, 3) := by decide +kernel
theorem dX12_feasts_201 : decode cX12_feasts 201 = .ok (.iload_n 2, 1) := by decide +kernel
theorem dX12_feasts_202 : decode cX12_feasts 202 = .ok (.iload 5, 2) := by decide +kernel
theorem dX12_feasts_204 : decode cX12_feasts 204 = .ok (.invokestatic 272, 3) := by decide +kernel
theorem dX12_feasts_207 : decode cX12_feasts 207 = .ok (.ifCond .ne 6, 3) := by decide +kernel
theorem dX12_feasts_210 : decode cX12_feasts 210 = .ok (.goto 59, 3) := by decide +kernel
theorem dX12_feasts_213 : decode cX12_feasts 213 = .ok (.ldc_w 418, 3) := by decide +kernel
theorem dX12_feasts_216 : decode cX12_feasts 216 = .ok (.aload_n 0, 1) := by decide +kernel
theorem dX12_feasts_217 : decode cX12_feasts 217 = .ok (.getfield 33, 3) := by decide +kernel
theorem dX12_feasts_220 : decode cX12_feasts 220 = .ok (.bipush 8, 2) := by decide +kernel
theorem dX12_feasts_222 : decode cX12_feasts 222 = .ok (.iconst 3, 1) := by decide +kernel
theorem dX12_feasts_223 : decode cX12_feasts 223 = .ok (.iload 5, 2) := by decide +kernel
theorem dX12_feasts_225 : decode cX12_feasts 225 = .ok (.imul, 1) := by decide +kernel
theorem dX12_feasts_226 : decode cX12_feasts 226 = .ok (.iadd, 1) := by decide +kernel
theorem dX12_feasts_227 : decode cX12_feasts 227 = .ok (.iconst 1, 1) := by decide +kernel
theorem dX12_feasts_228 : decode cX12_feasts 228 = .ok (.iadd, 1) := by decide +kernel
theorem dX12_feasts_229 : decode cX12_feasts 229 = .ok (.iaload, 1) := by decide +kernel
theorem dX12_feasts_230 : decode cX12_feasts 230 = .ok (.isub, 1) := by decide +kernel
theorem dX12_feasts_231 : decode cX12_feasts 231 = .ok (.aload_n 0, 1) := by decide +kernel
theorem dX12_feasts_232 : decode cX12_feasts 232 = .ok (.getfield 108, 3) := by decide +kernel
theorem dX12_feasts_235 : decode cX12_feasts 235 = .ok (.sipush 4096, 3) := by decide +kernel
theorem dX12_feasts_238 : decode cX12_feasts 238 = .ok (.iload_n 1, 1) := by decide +kernel
theorem dX12_feasts_239 : decode cX12_feasts 239 = .ok (.iconst 1, 1) := by decide +kernel
theorem dX12_feasts_240 : decode cX12_feasts 240 = .ok (.iadd, 1) := by decide +kernel
theorem dX12_feasts_241 : decode cX12_feasts 241 = .ok (.imul, 1) := by decide +kernel
theorem dX12_feasts_242 : decode cX12_feasts 242 = .ok (.iload_n 3, 1) := by decide +kernel
theorem dX12_feasts_243 : decode cX12_feasts 243 = .ok (.iconst 1, 1) := by decide +kernel
theorem dX12_feasts_244 : decode cX12_feasts 244 = .ok (.iload 5, 2) := by decide +kernel
theorem dX12_feasts_246 : decode cX12_feasts 246 = .ok (.ishl, 1) := by decide +kernel
theorem dX12_feasts_247 : decode cX12_feasts 247 = .ok (.ior, 1) := by decide +kernel
theorem dX12_feasts_248 : decode cX12_feasts 248 = .ok (.iadd, 1) := by decide +kernel
theorem dX12_feasts_249 : decode cX12_feasts 249 = .ok (.iaload, 1) := by decide +kernel
theorem dX12_feasts_250 : decode cX12_feasts 250 = .ok (.iadd, 1) := by decide +kernel
theorem dX12_feasts_251 : decode cX12_feasts 251 = .ok (.istore 6, 2) := by decide +kernel
theorem dX12_feasts_253 : decode cX12_feasts 253 = .ok (.iload 6, 2) := by decide +kernel
theorem dX12_feasts_255 : decode cX12_feasts 255 = .ok (.iload 4, 2) := by decide +kernel
theorem dX12_feasts_257 : decode cX12_feasts 257 = .ok (.if_icmp .le 8, 3) := by decide +kernel
theorem dX12_feasts_260 : decode cX12_feasts 260 = .ok (.iload 6, 2) := by decide +kernel
theorem dX12_feasts_262 : decode cX12_feasts 262 = .ok (.goto 5, 3) := by decide +kernel
theorem dX12_feasts_265 : decode cX12_feasts 265 = .ok (.iload 4, 2) := by decide +kernel
theorem dX12_feasts_267 : decode cX12_feasts 267 = .ok (.istore 4, 2) := by decide +kernel
theorem dX12_feasts_269 : decode cX12_feasts 269 = .ok (.iinc 5 1, 3) := by decide +kernel
theorem dX12_feasts_272 : decode cX12_feasts 272 = .ok (.goto (-91), 3) := by decide +kernel
theorem dX12_feasts_275 : decode cX12_feasts 275 = .ok (.aload_n 0, 1) := by decide +kernel
theorem dX12_feasts_276 : decode cX12_feasts 276 = .ok (.getfield 108, 3) := by decide +kernel
theorem dX12_feasts_279 : decode cX12_feasts 279 = .ok (.sipush 4096, 3) := by decide +kernel
theorem dX12_feasts_282 : decode cX12_feasts 282 = .ok (.iload_n 1, 1) := by decide +kernel
theorem dX12_feasts_283 : decode cX12_feasts 283 = .ok (.imul, 1) := by decide +kernel
theorem dX12_feasts_284 : decode cX12_feasts 284 = .ok (.iload_n 3, 1) := by decide +kernel
theorem dX12_feasts_285 : decode cX12_feasts 285 = .ok (.iadd, 1) := by decide +kernel
theorem dX12_feasts_286 : decode cX12_feasts 286 = .ok (.iload 4, 2) := by decide +kernel
theorem dX12_feasts_288 : decode cX12_feasts 288 = .ok (.iastore, 1) := by decide +kernel
theorem dX12_feasts_289 : decode cX12_feasts 289 = .ok (.iinc 3 1, 3) := by decide +kernel
theorem dX12_feasts_292 : decode cX12_feasts 292 = .ok (.goto (-137), 3) := by decide +kernel
theorem dX12_feasts_295 : decode cX12_feasts 295 = .ok (.iinc 1 (-1), 3) := by decide +kernel
theorem dX12_feasts_298 : decode cX12_feasts 298 = .ok (.goto (-193), 3) := by decide +kernel
theorem dX12_feasts_301 : decode cX12_feasts 301 = .ok (.iconst 0, 1) := by decide +kernel
theorem dX12_feasts_302 : decode cX12_feasts 302 = .ok (.istore_n 1, 1) := by decide +kernel
theorem dX12_feasts_303 : decode cX12_feasts 303 = .ok (.iconst 0, 1) := by decide +kernel
theorem dX12_feasts_304 : decode cX12_feasts 304 = .ok (.istore_n 2, 1) := by decide +kernel
theorem dX12_feasts_305 : decode cX12_feasts 305 = .ok (.iload_n 2, 1) := by decide +kernel
theorem dX12_feasts_306 : decode cX12_feasts 306 = .ok (.aload_n 0, 1) := by decide +kernel
theorem dX12_feasts_307 : decode cX12_feasts 307 = .ok (.getfield 412, 3) := by decide +kernel
theorem dX12_feasts_310 : decode cX12_feasts 310 = .ok (.if_icmp .ge 139, 3) := by decide +kernel
theorem dX12_feasts_313 : decode cX12_feasts 313 = .ok (.aload_n 0, 1) := by decide +kernel
theorem dX12_feasts_314 : decode cX12_feasts 314 = .ok (.getfield 111, 3) := by decide +kernel
theorem dX12_feasts_317 : decode cX12_feasts 317 = .ok (.iload_n 2, 1) := by decide +kernel
theorem dX12_feasts_318 : decode cX12_feasts 318 = .ok (.iconst (-1), 1) := by decide +kernel
theorem dX12_feasts_319 : decode cX12_feasts 319 = .ok (.iastore, 1) := by decide +kernel
theorem dX12_feasts_320 : decode cX12_feasts 320 = .ok (.aload_n 0, 1) := by decide +kernel
theorem dX12_feasts_321 : decode cX12_feasts 321 = .ok (.getfield 33, 3) := by decide +kernel
theorem dX12_feasts_324 : decode cX12_feasts 324 = .ok (.iconst 1, 1) := by decide +kernel
theorem dX12_feasts_325 : decode cX12_feasts 325 = .ok (.iaload, 1) := by decide +kernel
theorem dX12_feasts_326 : decode cX12_feasts 326 = .ok (.iconst 1, 1) := by decide +kernel
theorem dX12_feasts_327 : decode cX12_feasts 327 = .ok (.isub, 1) := by decide +kernel
theorem dX12_feasts_328 : decode cX12_feasts 328 = .ok (.istore_n 3, 1) := by decide +kernel
theorem dX12_feasts_329 : decode cX12_feasts 329 = .ok (.iload_n 3, 1) := by decide +kernel
theorem dX12_feasts_330 : decode cX12_feasts 330 = .ok (.ifCond .lt 89, 3) := by decide +kernel
theorem dX12_feasts_333 : decode cX12_feasts 333 = .ok (.iload_n 1, 1) := by decide +kernel
theorem dX12_feasts_334 : decode cX12_feasts 334 = .ok (.iload_n 3, 1) := by decide +kernel
theorem dX12_feasts_335 : decode cX12_feasts 335 = .ok (.invokestatic 272, 3) := by decide +kernel
theorem dX12_feasts_338 : decode cX12_feasts 338 = .ok (.ifCond .ne 75, 3) := by decide +kernel
theorem dX12_feasts_341 : decode cX12_feasts 341 = .ok (.aload_n 0, 1) := by decide +kernel
theorem dX12_feasts_342 : decode cX12_feasts 342 = .ok (.aload_n 0, 1) := by decide +kernel
theorem dX12_feasts_343 : decode cX12_feasts 343 = .ok (.getfield 114, 3) := by decide +kernel
theorem dX12_feasts_346 : decode cX12_feasts 346 = .ok (.iload_n 2, 1) := by decide +kernel
theorem dX12_feasts_347 : decode cX12_feasts 347 = .ok (.iaload, 1) := by decide +kernel
theorem dX12_feasts_348 : decode cX12_feasts 348 = .ok (.iload_n 3, 1) := by decide +kernel
theorem dX12_feasts_349 : decode cX12_feasts 349 = .ok (.invokevirtual 415, 3) := by decide +kernel
theorem dX12_feasts_352 : decode cX12_feasts 352 = .ok (.ifCond .eq 61, 3) := by decide +kernel
theorem dX12_feasts_355 : decode cX12_feasts 355 = .ok (.ldc_w 418, 3) := by decide +kernel
theorem dX12_feasts_358 : decode cX12_feasts 358 = .ok (.aload_n 0, 1) := by decide +kernel
theorem dX12_feasts_359 : decode cX12_feasts 359 = .ok (.getfield 33, 3) := by decide +kernel
theorem dX12_feasts_362 : decode cX12_feasts 362 = .ok (.bipush 8, 2) := by decide +kernel
theorem dX12_feasts_364 : decode cX12_feasts 364 = .ok (.iconst 3, 1) := by decide +kernel
theorem dX12_feasts_365 : decode cX12_feasts 365 = .ok (.iload_n 3, 1) := by decide +kernel
theorem dX12_feasts_366 : decode cX12_feasts 366 = .ok (.imul, 1) := by decide +kernel
theorem dX12_feasts_367 : decode cX12_feasts 367 = .ok (.iadd, 1) := by decide +kernel
theorem dX12_feasts_368 : decode cX12_feasts 368 = .ok (.iconst 1, 1) := by decide +kernel
theorem dX12_feasts_369 : decode cX12_feasts 369 = .ok (.iadd, 1) := by decide +kernel
theorem dX12_feasts_370 : decode cX12_feasts 370 = .ok (.iaload, 1) := by decide +kernel
theorem dX12_feasts_371 : decode cX12_feasts 371 = .ok (.isub, 1) := by decide +kernel
theorem dX12_feasts_372 : decode cX12_feasts 372 = .ok (.aload_n 0, 1) := by decide +kernel
theorem dX12_feasts_373 : decode cX12_feasts 373 = .ok (.getfield 108, 3) := by decide +kernel
theorem dX12_feasts_376 : decode cX12_feasts 376 = .ok (.sipush 4096, 3) := by decide +kernel
theorem dX12_feasts_379 : decode cX12_feasts 379 = .ok (.iload_n 2, 1) := by decide +kernel
theorem dX12_feasts_380 : decode cX12_feasts 380 = .ok (.iconst 1, 1) := by decide +kernel
theorem dX12_feasts_381 : decode cX12_feasts 381 = .ok (.iadd, 1) := by decide +kernel
theorem dX12_feasts_382 : decode cX12_feasts 382 = .ok (.imul, 1) := by decide +kernel
theorem dX12_feasts_383 : decode cX12_feasts 383 = .ok (.iload_n 1, 1) := by decide +kernel
theorem dX12_feasts_384 : decode cX12_feasts 384 = .ok (.iconst 1, 1) := by decide +kernel
theorem dX12_feasts_385 : decode cX12_feasts 385 = .ok (.iload_n 3, 1) := by decide +kernel
theorem dX12_feasts_386 : decode cX12_feasts 386 = .ok (.ishl, 1) := by decide +kernel
theorem dX12_feasts_387 : decode cX12_feasts 387 = .ok (.ior, 1) := by decide +kernel
theorem dX12_feasts_388 : decode cX12_feasts 388 = .ok (.iadd, 1) := by decide +kernel
theorem dX12_feasts_389 : decode cX12_feasts 389 = .ok (.iaload, 1) := by decide +kernel
theorem dX12_feasts_390 : decode cX12_feasts 390 = .ok (.iadd, 1) := by decide +kernel
theorem dX12_feasts_391 : decode cX12_feasts 391 = .ok (.aload_n 0, 1) := by decide +kernel
theorem dX12_feasts_392 : decode cX12_feasts 392 = .ok (.getfield 108, 3) := by decide +kernel
theorem dX12_feasts_395 : decode cX12_feasts 395 = .ok (.sipush 4096, 3) := by decide +kernel
theorem dX12_feasts_398 : decode cX12_feasts 398 = .ok (.iload_n 2, 1) := by decide +kernel
theorem dX12_feasts_399 : decode cX12_feasts 399 = .ok (.imul, 1) := by decide +kernel
theorem dX12_feasts_400 : decode cX12_feasts 400 = .ok (.iload_n 1, 1) := by decide +kernel
theorem dX12_feasts_401 : decode cX12_feasts 401 = .ok (.iadd, 1) := by decide +kernel
theorem dX12_feasts_402 : decode cX12_feasts 402 = .ok (.iaload, 1) := by decide +kernel
theorem dX12_feasts_403 : decode cX12_feasts 403 = .ok (.if_icmp .ne 10, 3) := by decide +kernel
theorem dX12_feasts_406 : decode cX12_feasts 406 = .ok (.aload_n 0, 1) := by decide +kernel
theorem dX12_feasts_407 : decode cX12_feasts 407 = .ok (.getfield 111, 3) := by decide +kernel
theorem dX12_feasts_410 : decode cX12_feasts 410 = .ok (.iload_n 2, 1) := by decide +kernel
theorem dX12_feasts_411 : decode cX12_feasts 411 = .ok (.iload_n 3, 1) := by decide +kernel
theorem dX12_feasts_412 : decode cX12_feasts 412 = .ok (.iastore, 1) := by decide +kernel
theorem dX12_feasts_413 : decode cX12_feasts 413 = .ok (.iinc 3 (-1), 3) := by decide +kernel
theorem dX12_feasts_416 : decode cX12_feasts 416 = .ok (.goto (-87), 3) := by decide +kernel
theorem dX12_feasts_419 : decode cX12_feasts 419 = .ok (.iload_n 1, 1) := by decide +kernel
theorem dX12_feasts_420 : decode cX12_feasts 420 = .ok (.aload_n 0, 1) := by decide +kernel
theorem dX12_feasts_421 : decode cX12_feasts 421 = .ok (.getfield 111, 3) := by decide +kernel
theorem dX12_feasts_424 : decode cX12_feasts 424 = .ok (.iload_n 2, 1) := by decide +kernel
theorem dX12_feasts_425 : decode cX12_feasts 425 = .ok (.iaload, 1) := by decide +kernel
theorem dX12_feasts_426 : decode cX12_feasts 426 = .ok (.ifCond .ge 7, 3) := by decide +kernel
theorem dX12_feasts_429 : decode cX12_feasts 429 = .ok (.iconst 0, 1) := by decide +kernel
theorem dX12_feasts_430 : decode cX12_feasts 430 = .ok (.goto 11, 3) := by decide +kernel
theorem dX12_feasts_433 : decode cX12_feasts 433 = .ok (.iconst 1, 1) := by decide +kernel
theorem dX12_feasts_434 : decode cX12_feasts 434 = .ok (.aload_n 0, 1) := by decide +kernel
theorem dX12_feasts_435 : decode cX12_feasts 435 = .ok (.getfield 111, 3) := by decide +kernel
theorem dX12_feasts_438 : decode cX12_feasts 438 = .ok (.iload_n 2, 1) := by decide +kernel
theorem dX12_feasts_439 : decode cX12_feasts 439 = .ok (.iaload, 1) := by decide +kernel
theorem dX12_feasts_440 : decode cX12_feasts 440 = .ok (.ishl, 1) := by decide +kernel
theorem dX12_feasts_441 : decode cX12_feasts 441 = .ok (.ior, 1) := by decide +kernel
theorem dX12_feasts_442 : decode cX12_feasts 442 = .ok (.istore_n 1, 1) := by decide +kernel
theorem dX12_feasts_443 : decode cX12_feasts 443 = .ok (.iinc 2 1, 3) := by decide +kernel
theorem dX12_feasts_446 : decode cX12_feasts 446 = .ok (.goto (-141), 3) := by decide +kernel
theorem dX12_feasts_449 : decode cX12_feasts 449 = .ok (.return_, 1) := by decide +kernel
theorem dX12_feast_0 : decode cX12_feast 0 = .ok (.aload_n 0, 1) := by decide +kernel
theorem dX12_feast_1 : decode cX12_feast 1 = .ok (.iconst 0, 1) := by decide +kernel
theorem dX12_feast_2 : decode cX12_feast 2 = .ok (.putfield 1, 3) := by decide +kernel
theorem dX12_feast_5 : decode cX12_feast 5 = .ok (.iload_n 1, 1) := by decide +kernel
theorem dX12_feast_6 : decode cX12_feast 6 = .ok (.iconst 0, 1) := by decide +kernel
theorem dX12_feast_7 : decode cX12_feast 7 = .ok (.iconst 1, 1) := by decide +kernel
theorem dX12_feast_8 : decode cX12_feast 8 = .ok (.invokestatic 254, 3) := by decide +kernel
theorem dX12_feast_11 : decode cX12_feast 11 = .ok (.ifCond .ne 5, 3) := by decide +kernel
theorem dX12_feast_14 : decode cX12_feast 14 = .ok (.iconst (-1), 1) := by decide +kernel
theorem dX12_feast_15 : decode cX12_feast 15 = .ok (.ireturn, 1) := by decide +kernel
theorem dX12_feast_16 : decode cX12_feast 16 = .ok (.aload_n 0, 1) := by decide +kernel
theorem dX12_feast_17 : decode cX12_feast 17 = .ok (.invokevirtual 419, 3) := by decide +kernel
theorem dX12_feast_20 : decode cX12_feast 20 = .ok (.iconst 0, 1) := by decide +kernel
theorem dX12_feast_21 : decode cX12_feast 21 = .ok (.istore_n 2, 1) := by decide +kernel
theorem dX12_feast_22 : decode cX12_feast 22 = .ok (.iconst 0, 1) := by decide +kernel
theorem dX12_feast_23 : decode cX12_feast 23 = .ok (.istore_n 3, 1) := by decide +kernel
theorem dX12_feast_24 : decode cX12_feast 24 = .ok (.iconst 0, 1) := by decide +kernel
theorem dX12_feast_25 : decode cX12_feast 25 = .ok (.istore 4, 2) := by decide +kernel
theorem dX12_feast_27 : decode cX12_feast 27 = .ok (.iload 4, 2) := by decide +kernel
theorem dX12_feast_29 : decode cX12_feast 29 = .ok (.aload_n 0, 1) := by decide +kernel
theorem dX12_feast_30 : decode cX12_feast 30 = .ok (.getfield 412, 3) := by decide +kernel
theorem dX12_feast_33 : decode cX12_feast 33 = .ok (.if_icmp .ge 47, 3) := by decide +kernel
theorem dX12_feast_36 : decode cX12_feast 36 = .ok (.aload_n 0, 1) := by decide +kernel
theorem dX12_feast_37 : decode cX12_feast 37 = .ok (.getfield 111, 3) := by decide +kernel
theorem dX12_feast_40 : decode cX12_feast 40 = .ok (.iload 4, 2) := by decide +kernel
theorem dX12_feast_42 : decode cX12_feast 42 = .ok (.iaload, 1) := by decide +kernel
theorem dX12_feast_43 : decode cX12_feast 43 = .ok (.ifCond .ge 6, 3) := by decide +kernel
theorem dX12_feast_46 : decode cX12_feast 46 = .ok (.goto 28, 3) := by decide +kernel
theorem dX12_feast_49 : decode cX12_feast 49 = .ok (.iinc 2 1, 3) := by decide +kernel
theorem dX12_feast_52 : decode cX12_feast 52 = .ok (.iload_n 3, 1) := by decide +kernel
theorem dX12_feast_53 : decode cX12_feast 53 = .ok (.aload_n 0, 1) := by decide +kernel
theorem dX12_feast_54 : decode cX12_feast 54 = .ok (.getfield 33, 3) := by decide +kernel
theorem dX12_feast_57 : decode cX12_feast 57 = .ok (.bipush 8, 2) := by decide +kernel
theorem dX12_feast_59 : decode cX12_feast 59 = .ok (.iconst 3, 1) := by decide +kernel
theorem dX12_feast_60 : decode cX12_feast 60 = .ok (.aload_n 0, 1) := by decide +kernel
theorem dX12_feast_61 : decode cX12_feast 61 = .ok (.getfield 111, 3) := by decide +kernel
theorem dX12_feast_64 : decode cX12_feast 64 = .ok (.iload 4, 2) := by decide +kernel
theorem dX12_feast_66 : decode cX12_feast 66 = .ok (.iaload, 1) := by decide +kernel
theorem dX12_feast_67 : decode cX12_feast 67 = .ok (.imul, 1) := by decide +kernel
theorem dX12_feast_68 : decode cX12_feast 68 = .ok (.iadd, 1) := by decide +kernel
theorem dX12_feast_69 : decode cX12_feast 69 = .ok (.iconst 1, 1) := by decide +kernel
theorem dX12_feast_70 : decode cX12_feast 70 = .ok (.iadd, 1) := by decide +kernel
theorem dX12_feast_71 : decode cX12_feast 71 = .ok (.iaload, 1) := by decide +kernel
theorem dX12_feast_72 : decode cX12_feast 72 = .ok (.iadd, 1) := by decide +kernel
theorem dX12_feast_73 : decode cX12_feast 73 = .ok (.istore_n 3, 1) := by decide +kernel
theorem dX12_feast_74 : decode cX12_feast 74 = .ok (.iinc 4 1, 3) := by decide +kernel
theorem dX12_feast_77 : decode cX12_feast 77 = .ok (.goto (-50), 3) := by decide +kernel
theorem dX12_feast_80 : decode cX12_feast 80 = .ok (.iload_n 1, 1) := by decide +kernel
theorem dX12_feast_81 : decode cX12_feast 81 = .ok (.ifCond .ne 7, 3) := by decide +kernel
theorem dX12_feast_84 : decode cX12_feast 84 = .ok (.iload_n 2, 1) := by decide +kernel
theorem dX12_feast_85 : decode cX12_feast 85 = .ok (.goto 4, 3) := by decide +kernel
theorem dX12_feast_88 : decode cX12_feast 88 = .ok (.iload_n 3, 1) := by decide +kernel
theorem dX12_feast_89 : decode cX12_feast 89 = .ok (.ireturn, 1) := by decide +kernel
theorem dX12_feastAt_0 : decode cX12_feastAt 0 = .ok (.aload_n 0, 1) := by decide +kernel
theorem dX12_feastAt_1 : decode cX12_feastAt 1 = .ok (.iconst 0, 1) := by decide +kernel
theorem dX12_feastAt_2 : decode cX12_feastAt 2 = .ok (.putfield 1, 3) := by decide +kernel
theorem dX12_feastAt_5 : decode cX12_feastAt 5 = .ok (.aload_n 0, 1) := by decide +kernel
theorem dX12_feastAt_6 : decode cX12_feastAt 6 = .ok (.invokevirtual 419, 3) := by decide +kernel
theorem dX12_feastAt_9 : decode cX12_feastAt 9 = .ok (.iload_n 1, 1) := by decide +kernel
theorem dX12_feastAt_10 : decode cX12_feastAt 10 = .ok (.iconst 0, 1) := by decide +kernel
theorem dX12_feastAt_11 : decode cX12_feastAt 11 = .ok (.aload_n 0, 1) := by decide +kernel
theorem dX12_feastAt_12 : decode cX12_feastAt 12 = .ok (.getfield 412, 3) := by decide +kernel
theorem dX12_feastAt_15 : decode cX12_feastAt 15 = .ok (.iconst 1, 1) := by decide +kernel
theorem dX12_feastAt_16 : decode cX12_feastAt 16 = .ok (.isub, 1) := by decide +kernel
theorem dX12_feastAt_17 : decode cX12_feastAt 17 = .ok (.invokestatic 254, 3) := by decide +kernel
theorem dX12_feastAt_20 : decode cX12_feastAt 20 = .ok (.ifCond .eq 12, 3) := by decide +kernel
theorem dX12_feastAt_23 : decode cX12_feastAt 23 = .ok (.aload_n 0, 1) := by decide +kernel
theorem dX12_feastAt_24 : decode cX12_feastAt 24 = .ok (.getfield 111, 3) := by decide +kernel
theorem dX12_feastAt_27 : decode cX12_feastAt 27 = .ok (.iload_n 1, 1) := by decide +kernel
theorem dX12_feastAt_28 : decode cX12_feastAt 28 = .ok (.iaload, 1) := by decide +kernel
theorem dX12_feastAt_29 : decode cX12_feastAt 29 = .ok (.goto 4, 3) := by decide +kernel
theorem dX12_feastAt_32 : decode cX12_feastAt 32 = .ok (.iconst (-1), 1) := by decide +kernel
theorem dX12_feastAt_33 : decode cX12_feastAt 33 = .ok (.ireturn, 1) := by decide +kernel
theorem dX12_duesOf_0 : decode cX12_duesOf 0 = .ok (.aload_n 0, 1) := by decide +kernel
theorem dX12_duesOf_1 : decode cX12_duesOf 1 = .ok (.iconst 0, 1) := by decide +kernel
theorem dX12_duesOf_2 : decode cX12_duesOf 2 = .ok (.putfield 422, 3) := by decide +kernel
theorem dX12_duesOf_5 : decode cX12_duesOf 5 = .ok (.iconst 0, 1) := by decide +kernel
theorem dX12_duesOf_6 : decode cX12_duesOf 6 = .ok (.istore_n 2, 1) := by decide +kernel
theorem dX12_duesOf_7 : decode cX12_duesOf 7 = .ok (.iload_n 2, 1) := by decide +kernel
theorem dX12_duesOf_8 : decode cX12_duesOf 8 = .ok (.aload_n 0, 1) := by decide +kernel
theorem dX12_duesOf_9 : decode cX12_duesOf 9 = .ok (.getfield 357, 3) := by decide +kernel
theorem dX12_duesOf_12 : decode cX12_duesOf 12 = .ok (.if_icmp .ge 99, 3) := by decide +kernel
theorem dX12_duesOf_15 : decode cX12_duesOf 15 = .ok (.aload_n 0, 1) := by decide +kernel
theorem dX12_duesOf_16 : decode cX12_duesOf 16 = .ok (.getfield 77, 3) := by decide +kernel
theorem dX12_duesOf_19 : decode cX12_duesOf 19 = .ok (.iload_n 2, 1) := by decide +kernel
theorem dX12_duesOf_20 : decode cX12_duesOf 20 = .ok (.iaload, 1) := by decide +kernel
theorem dX12_duesOf_21 : decode cX12_duesOf 21 = .ok (.iload_n 1, 1) := by decide +kernel
theorem dX12_duesOf_22 : decode cX12_duesOf 22 = .ok (.if_icmp .ne 83, 3) := by decide +kernel
theorem dX12_duesOf_25 : decode cX12_duesOf 25 = .ok (.aload_n 0, 1) := by decide +kernel
theorem dX12_duesOf_26 : decode cX12_duesOf 26 = .ok (.getfield 89, 3) := by decide +kernel
theorem dX12_duesOf_29 : decode cX12_duesOf 29 = .ok (.iload_n 2, 1) := by decide +kernel
theorem dX12_duesOf_30 : decode cX12_duesOf 30 = .ok (.iaload, 1) := by decide +kernel
theorem dX12_duesOf_31 : decode cX12_duesOf 31 = .ok (.ifCond .ne 6, 3) := by decide +kernel
theorem dX12_duesOf_34 : decode cX12_duesOf 34 = .ok (.goto 71, 3) := by decide +kernel
theorem dX12_duesOf_37 : decode cX12_duesOf 37 = .ok (.aload_n 0, 1) := by decide +kernel
theorem dX12_duesOf_38 : decode cX12_duesOf 38 = .ok (.getfield 422, 3) := by decide +kernel
theorem dX12_duesOf_41 : decode cX12_duesOf 41 = .ok (.istore_n 3, 1) := by decide +kernel
theorem dX12_duesOf_42 : decode cX12_duesOf 42 = .ok (.iload_n 3, 1) := by decide +kernel
theorem dX12_duesOf_43 : decode cX12_duesOf 43 = .ok (.ifCond .le 40, 3) := by decide +kernel
theorem dX12_duesOf_46 : decode cX12_duesOf 46 = .ok (.aload_n 0, 1) := by decide +kernel
theorem dX12_duesOf_47 : decode cX12_duesOf 47 = .ok (.getfield 117, 3) := by decide +kernel
theorem dX12_duesOf_50 : decode cX12_duesOf 50 = .ok (.iload_n 3, 1) := by decide +kernel
theorem dX12_duesOf_51 : decode cX12_duesOf 51 = .ok (.iconst 1, 1) := by decide +kernel
theorem dX12_duesOf_52 : decode cX12_duesOf 52 = .ok (.isub, 1) := by decide +kernel
theorem dX12_duesOf_53 : decode cX12_duesOf 53 = .ok (.iaload, 1) := by decide +kernel
theorem dX12_duesOf_54 : decode cX12_duesOf 54 = .ok (.aload_n 0, 1) := by decide +kernel
theorem dX12_duesOf_55 : decode cX12_duesOf 55 = .ok (.getfield 89, 3) := by decide +kernel
theorem dX12_duesOf_58 : decode cX12_duesOf 58 = .ok (.iload_n 2, 1) := by decide +kernel
theorem dX12_duesOf_59 : decode cX12_duesOf 59 = .ok (.iaload, 1) := by decide +kernel
theorem dX12_duesOf_60 : decode cX12_duesOf 60 = .ok (.if_icmp .ge 23, 3) := by decide +kernel
theorem dX12_duesOf_63 : decode cX12_duesOf 63 = .ok (.aload_n 0, 1) := by decide +kernel
theorem dX12_duesOf_64 : decode cX12_duesOf 64 = .ok (.getfield 117, 3) := by decide +kernel
theorem dX12_duesOf_67 : decode cX12_duesOf 67 = .ok (.iload_n 3, 1) := by decide +kernel
theorem dX12_duesOf_68 : decode cX12_duesOf 68 = .ok (.aload_n 0, 1) := by decide +kernel
theorem dX12_duesOf_69 : decode cX12_duesOf 69 = .ok (.getfield 117, 3) := by decide +kernel
theorem dX12_duesOf_72 : decode cX12_duesOf 72 = .ok (.iload_n 3, 1) := by decide +kernel
theorem dX12_duesOf_73 : decode cX12_duesOf 73 = .ok (.iconst 1, 1) := by decide +kernel
theorem dX12_duesOf_74 : decode cX12_duesOf 74 = .ok (.isub, 1) := by decide +kernel
theorem dX12_duesOf_75 : decode cX12_duesOf 75 = .ok (.iaload, 1) := by decide +kernel
theorem dX12_duesOf_76 : decode cX12_duesOf 76 = .ok (.iastore, 1) := by decide +kernel
theorem dX12_duesOf_77 : decode cX12_duesOf 77 = .ok (.iinc 3 (-1), 3) := by decide +kernel
theorem dX12_duesOf_80 : decode cX12_duesOf 80 = .ok (.goto (-38), 3) := by decide +kernel
theorem dX12_duesOf_83 : decode cX12_duesOf 83 = .ok (.aload_n 0, 1) := by decide +kernel
theorem dX12_duesOf_84 : decode cX12_duesOf 84 = .ok (.getfield 117, 3) := by decide +kernel
theorem dX12_duesOf_87 : decode cX12_duesOf 87 = .ok (.iload_n 3, 1) := by decide +kernel
theorem dX12_duesOf_88 : decode cX12_duesOf 88 = .ok (.aload_n 0, 1) := by decide +kernel
theorem dX12_duesOf_89 : decode cX12_duesOf 89 = .ok (.getfield 89, 3) := by decide +kernel
theorem dX12_duesOf_92 : decode cX12_duesOf 92 = .ok (.iload_n 2, 1) := by decide +kernel
theorem dX12_duesOf_93 : decode cX12_duesOf 93 = .ok (.iaload, 1) := by decide +kernel
theorem dX12_duesOf_94 : decode cX12_duesOf 94 = .ok (.iastore, 1) := by decide +kernel
theorem dX12_duesOf_95 : decode cX12_duesOf 95 = .ok (.aload_n 0, 1) := by decide +kernel
theorem dX12_duesOf_96 : decode cX12_duesOf 96 = .ok (.dup, 1) := by decide +kernel
theorem dX12_duesOf_97 : decode cX12_duesOf 97 = .ok (.getfield 422, 3) := by decide +kernel
theorem dX12_duesOf_100 : decode cX12_duesOf 100 = .ok (.iconst 1, 1) := by decide +kernel
theorem dX12_duesOf_101 : decode cX12_duesOf 101 = .ok (.iadd, 1) := by decide +kernel
theorem dX12_duesOf_102 : decode cX12_duesOf 102 = .ok (.putfield 422, 3) := by decide +kernel
theorem dX12_duesOf_105 : decode cX12_duesOf 105 = .ok (.iinc 2 1, 3) := by decide +kernel
theorem dX12_duesOf_108 : decode cX12_duesOf 108 = .ok (.goto (-101), 3) := by decide +kernel
theorem dX12_duesOf_111 : decode cX12_duesOf 111 = .ok (.return_, 1) := by decide +kernel
theorem dX12_canPay_0 : decode cX12_canPay 0 = .ok (.aload_n 0, 1) := by decide +kernel
theorem dX12_canPay_1 : decode cX12_canPay 1 = .ok (.getfield 422, 3) := by decide +kernel
theorem dX12_canPay_4 : decode cX12_canPay 4 = .ok (.aload_n 0, 1) := by decide +kernel
theorem dX12_canPay_5 : decode cX12_canPay 5 = .ok (.getfield 33, 3) := by decide +kernel
theorem dX12_canPay_8 : decode cX12_canPay 8 = .ok (.iconst 1, 1) := by decide +kernel
theorem dX12_canPay_9 : decode cX12_canPay 9 = .ok (.iaload, 1) := by decide +kernel
theorem dX12_canPay_10 : decode cX12_canPay 10 = .ok (.if_icmp .le 5, 3) := by decide +kernel
theorem dX12_canPay_13 : decode cX12_canPay 13 = .ok (.iconst 0, 1) := by decide +kernel
theorem dX12_canPay_14 : decode cX12_canPay 14 = .ok (.ireturn, 1) := by decide +kernel
theorem dX12_canPay_15 : decode cX12_canPay 15 = .ok (.aload_n 0, 1) := by decide +kernel
theorem dX12_canPay_16 : decode cX12_canPay 16 = .ok (.iconst 0, 1) := by decide +kernel
theorem dX12_canPay_17 : decode cX12_canPay 17 = .ok (.putfield 425, 3) := by decide +kernel
theorem dX12_canPay_20 : decode cX12_canPay 20 = .ok (.iconst 0, 1) := by decide +kernel
theorem dX12_canPay_21 : decode cX12_canPay 21 = .ok (.istore_n 3, 1) := by decide +kernel
theorem dX12_canPay_22 : decode cX12_canPay 22 = .ok (.iload_n 3, 1) := by decide +kernel
theorem dX12_canPay_23 : decode cX12_canPay 23 = .ok (.aload_n 0, 1) := by decide +kernel
theorem dX12_canPay_24 : decode cX12_canPay 24 = .ok (.getfield 33, 3) := by decide +kernel
theorem dX12_canPay_27 : decode cX12_canPay 27 = .ok (.iconst 1, 1) := by decide +kernel
theorem dX12_canPay_28 : decode cX12_canPay 28 = .ok (.iaload, 1) := by decide +kernel
theorem dX12_canPay_29 : decode cX12_canPay 29 = .ok (.if_icmp .ge 140, 3) := by decide +kernel
theorem dX12_canPay_32 : decode cX12_canPay 32 = .ok (.aload_n 0, 1) := by decide +kernel
theorem dX12_canPay_33 : decode cX12_canPay 33 = .ok (.getfield 62, 3) := by decide +kernel
theorem dX12_canPay_36 : decode cX12_canPay 36 = .ok (.iload_n 1, 1) := by decide +kernel
theorem dX12_canPay_37 : decode cX12_canPay 37 = .ok (.iaload, 1) := by decide +kernel
theorem dX12_canPay_38 : decode cX12_canPay 38 = .ok (.iload_n 3, 1) := by decide +kernel
theorem dX12_canPay_39 : decode cX12_canPay 39 = .ok (.invokestatic 272, 3) := by decide +kernel
theorem dX12_canPay_42 : decode cX12_canPay 42 = .ok (.istore 4, 2) := by decide +kernel
theorem dX12_canPay_44 : decode cX12_canPay 44 = .ok (.iload 4, 2) := by decide +kernel
theorem dX12_canPay_46 : decode cX12_canPay 46 = .ok (.ifCond .ne 14, 3) := by decide +kernel
theorem dX12_canPay_49 : decode cX12_canPay 49 = .ok (.iload_n 2, 1) := by decide +kernel
theorem dX12_canPay_50 : decode cX12_canPay 50 = .ok (.iload_n 3, 1) := by decide +kernel
theorem dX12_canPay_51 : decode cX12_canPay 51 = .ok (.invokestatic 272, 3) := by decide +kernel
theorem dX12_canPay_54 : decode cX12_canPay 54 = .ok (.ifCond .ne 6, 3) := by decide +kernel
theorem dX12_canPay_57 : decode cX12_canPay 57 = .ok (.goto 106, 3) := by decide +kernel
theorem dX12_canPay_60 : decode cX12_canPay 60 = .ok (.iload 4, 2) := by decide +kernel
theorem dX12_canPay_62 : decode cX12_canPay 62 = .ok (.ifCond .eq 12, 3) := by decide +kernel
theorem dX12_canPay_65 : decode cX12_canPay 65 = .ok (.aload_n 0, 1) := by decide +kernel
theorem dX12_canPay_66 : decode cX12_canPay 66 = .ok (.iload_n 1, 1) := by decide +kernel
theorem dX12_canPay_67 : decode cX12_canPay 67 = .ok (.iload_n 3, 1) := by decide +kernel
theorem dX12_canPay_68 : decode cX12_canPay 68 = .ok (.invokevirtual 372, 3) := by decide +kernel
theorem dX12_canPay_71 : decode cX12_canPay 71 = .ok (.goto 24, 3) := by decide +kernel
theorem dX12_canPay_74 : decode cX12_canPay 74 = .ok (.aload_n 0, 1) := by decide +kernel
theorem dX12_canPay_75 : decode cX12_canPay 75 = .ok (.getfield 33, 3) := by decide +kernel
theorem dX12_canPay_78 : decode cX12_canPay 78 = .ok (.bipush 8, 2) := by decide +kernel
theorem dX12_canPay_80 : decode cX12_canPay 80 = .ok (.iconst 3, 1) := by decide +kernel
theorem dX12_canPay_81 : decode cX12_canPay 81 = .ok (.iload_n 3, 1) := by decide +kernel
theorem dX12_canPay_82 : decode cX12_canPay 82 = .ok (.imul, 1) := by decide +kernel
theorem dX12_canPay_83 : decode cX12_canPay 83 = .ok (.iadd, 1) := by decide +kernel
theorem dX12_canPay_84 : decode cX12_canPay 84 = .ok (.iaload, 1) := by decide +kernel
theorem dX12_canPay_85 : decode cX12_canPay 85 = .ok (.aload_n 0, 1) := by decide +kernel
theorem dX12_canPay_86 : decode cX12_canPay 86 = .ok (.getfield 33, 3) := by decide +kernel
theorem dX12_canPay_89 : decode cX12_canPay 89 = .ok (.iconst 4, 1) := by decide +kernel
theorem dX12_canPay_90 : decode cX12_canPay 90 = .ok (.iaload, 1) := by decide +kernel
theorem dX12_canPay_91 : decode cX12_canPay 91 = .ok (.imul, 1) := by decide +kernel
theorem dX12_canPay_92 : decode cX12_canPay 92 = .ok (.bipush 10, 2) := by decide +kernel
theorem dX12_canPay_94 : decode cX12_canPay 94 = .ok (.idiv, 1) := by decide +kernel
theorem dX12_canPay_95 : decode cX12_canPay 95 = .ok (.istore 5, 2) := by decide +kernel
theorem dX12_canPay_97 : decode cX12_canPay 97 = .ok (.aload_n 0, 1) := by decide +kernel
theorem dX12_canPay_98 : decode cX12_canPay 98 = .ok (.getfield 425, 3) := by decide +kernel
theorem dX12_canPay_101 : decode cX12_canPay 101 = .ok (.istore 6, 2) := by decide +kernel
theorem dX12_canPay_103 : decode cX12_canPay 103 = .ok (.iload 6, 2) := by decide +kernel
theorem dX12_canPay_105 : decode cX12_canPay 105 = .ok (.ifCond .le 39, 3) := by decide +kernel
theorem dX12_canPay_108 : decode cX12_canPay 108 = .ok (.aload_n 0, 1) := by decide +kernel
theorem dX12_canPay_109 : decode cX12_canPay 109 = .ok (.getfield 120, 3) := by decide +kernel
theorem dX12_canPay_112 : decode cX12_canPay 112 = .ok (.iload 6, 2) := by decide +kernel
theorem dX12_canPay_114 : decode cX12_canPay 114 = .ok (.iconst 1, 1) := by decide +kernel
theorem dX12_canPay_115 : decode cX12_canPay 115 = .ok (.isub, 1) := by decide +kernel
theorem dX12_canPay_116 : decode cX12_canPay 116 = .ok (.iaload, 1) := by decide +kernel
theorem dX12_canPay_117 : decode cX12_canPay 117 = .ok (.iload 5, 2) := by decide +kernel
theorem dX12_canPay_119 : decode cX12_canPay 119 = .ok (.if_icmp .ge 25, 3) := by decide +kernel
theorem dX12_canPay_122 : decode cX12_canPay 122 = .ok (.aload_n 0, 1) := by decide +kernel
theorem dX12_canPay_123 : decode cX12_canPay 123 = .ok (.getfield 120, 3) := by decide +kernel
theorem dX12_canPay_126 : decode cX12_canPay 126 = .ok (.iload 6, 2) := by decide +kernel
theorem dX12_canPay_128 : decode cX12_canPay 128 = .ok (.aload_n 0, 1) := by decide +kernel
theorem dX12_canPay_129 : decode cX12_canPay 129 = .ok (.getfield 120, 3) := by decide +kernel
theorem dX12_canPay_132 : decode cX12_canPay 132 = .ok (.iload 6, 2) := by decide +kernel
theorem dX12_canPay_134 : decode cX12_canPay 134 = .ok (.iconst 1, 1) := by decide +kernel
theorem dX12_canPay_135 : decode cX12_canPay 135 = .ok (.isub, 1) := by decide +kernel
theorem dX12_canPay_136 : decode cX12_canPay 136 = .ok (.iaload, 1) := by decide +kernel
theorem dX12_canPay_137 : decode cX12_canPay 137 = .ok (.iastore, 1) := by decide +kernel
theorem dX12_canPay_138 : decode cX12_canPay 138 = .ok (.iinc 6 (-1), 3) := by decide +kernel
theorem dX12_canPay_141 : decode cX12_canPay 141 = .ok (.goto (-38), 3) := by decide +kernel
theorem dX12_canPay_144 : decode cX12_canPay 144 = .ok (.aload_n 0, 1) := by decide +kernel
theorem dX12_canPay_145 : decode cX12_canPay 145 = .ok (.getfield 120, 3) := by decide +kernel
theorem dX12_canPay_148 : decode cX12_canPay 148 = .ok (.iload 6, 2) := by decide +kernel
theorem dX12_canPay_150 : decode cX12_canPay 150 = .ok (.iload 5, 2) := by decide +kernel
theorem dX12_canPay_152 : decode cX12_canPay 152 = .ok (.iastore, 1) := by decide +kernel
theorem dX12_canPay_153 : decode cX12_canPay 153 = .ok (.aload_n 0, 1) := by decide +kernel
theorem dX12_canPay_154 : decode cX12_canPay 154 = .ok (.dup, 1) := by decide +kernel
theorem dX12_canPay_155 : decode cX12_canPay 155 = .ok (.getfield 425, 3) := by decide +kernel
theorem dX12_canPay_158 : decode cX12_canPay 158 = .ok (.iconst 1, 1) := by decide +kernel
theorem dX12_canPay_159 : decode cX12_canPay 159 = .ok (.iadd, 1) := by decide +kernel
theorem dX12_canPay_160 : decode cX12_canPay 160 = .ok (.putfield 425, 3) := by decide +kernel
theorem dX12_canPay_163 : decode cX12_canPay 163 = .ok (.iinc 3 1, 3) := by decide +kernel
theorem dX12_canPay_166 : decode cX12_canPay 166 = .ok (.goto (-144), 3) := by decide +kernel
theorem dX12_canPay_169 : decode cX12_canPay 169 = .ok (.aload_n 0, 1) := by decide +kernel
theorem dX12_canPay_170 : decode cX12_canPay 170 = .ok (.getfield 425, 3) := by decide +kernel
theorem dX12_canPay_173 : decode cX12_canPay 173 = .ok (.aload_n 0, 1) := by decide +kernel
theorem dX12_canPay_174 : decode cX12_canPay 174 = .ok (.getfield 422, 3) := by decide +kernel
theorem dX12_canPay_177 : decode cX12_canPay 177 = .ok (.if_icmp .ge 5, 3) := by decide +kernel
theorem dX12_canPay_180 : decode cX12_canPay 180 = .ok (.iconst 0, 1) := by decide +kernel
theorem dX12_canPay_181 : decode cX12_canPay 181 = .ok (.ireturn, 1) := by decide +kernel
theorem dX12_canPay_182 : decode cX12_canPay 182 = .ok (.iconst 0, 1) := by decide +kernel
theorem dX12_canPay_183 : decode cX12_canPay 183 = .ok (.istore_n 3, 1) := by decide +kernel
theorem dX12_canPay_184 : decode cX12_canPay 184 = .ok (.iload_n 3, 1) := by decide +kernel
theorem dX12_canPay_185 : decode cX12_canPay 185 = .ok (.aload_n 0, 1) := by decide +kernel
theorem dX12_canPay_186 : decode cX12_canPay 186 = .ok (.getfield 422, 3) := by decide +kernel
theorem dX12_canPay_189 : decode cX12_canPay 189 = .ok (.if_icmp .ge 26, 3) := by decide +kernel
theorem dX12_canPay_192 : decode cX12_canPay 192 = .ok (.aload_n 0, 1) := by decide +kernel
theorem dX12_canPay_193 : decode cX12_canPay 193 = .ok (.getfield 120, 3) := by decide +kernel
theorem dX12_canPay_196 : decode cX12_canPay 196 = .ok (.iload_n 3, 1) := by decide +kernel
theorem dX12_canPay_197 : decode cX12_canPay 197 = .ok (.iaload, 1) := by decide +kernel
theorem dX12_canPay_198 : decode cX12_canPay 198 = .ok (.aload_n 0, 1) := by decide +kernel
theorem dX12_canPay_199 : decode cX12_canPay 199 = .ok (.getfield 117, 3) := by decide +kernel
theorem dX12_canPay_202 : decode cX12_canPay 202 = .ok (.iload_n 3, 1) := by decide +kernel
theorem dX12_canPay_203 : decode cX12_canPay 203 = .ok (.iaload, 1) := by decide +kernel
theorem dX12_canPay_204 : decode cX12_canPay 204 = .ok (.if_icmp .ge 5, 3) := by decide +kernel
theorem dX12_canPay_207 : decode cX12_canPay 207 = .ok (.iconst 0, 1) := by decide +kernel
theorem dX12_canPay_208 : decode cX12_canPay 208 = .ok (.ireturn, 1) := by decide +kernel
theorem dX12_canPay_209 : decode cX12_canPay 209 = .ok (.iinc 3 1, 3) := by decide +kernel
theorem dX12_canPay_212 : decode cX12_canPay 212 = .ok (.goto (-28), 3) := by decide +kernel
theorem dX12_canPay_215 : decode cX12_canPay 215 = .ok (.iconst 1, 1) := by decide +kernel
theorem dX12_canPay_216 : decode cX12_canPay 216 = .ok (.ireturn, 1) := by decide +kernel
theorem dX12_price_0 : decode cX12_price 0 = .ok (.ldc_w 428, 3) := by decide +kernel
theorem dX12_price_3 : decode cX12_price 3 = .ok (.istore_n 3, 1) := by decide +kernel
theorem dX12_price_4 : decode cX12_price 4 = .ok (.iconst 0, 1) := by decide +kernel
theorem dX12_price_5 : decode cX12_price 5 = .ok (.istore 4, 2) := by decide +kernel
theorem dX12_price_7 : decode cX12_price 7 = .ok (.iload 4, 2) := by decide +kernel
theorem dX12_price_9 : decode cX12_price 9 = .ok (.aload_n 0, 1) := by decide +kernel
theorem dX12_price_10 : decode cX12_price 10 = .ok (.getfield 33, 3) := by decide +kernel
theorem dX12_price_13 : decode cX12_price 13 = .ok (.iconst 0, 1) := by decide +kernel
theorem dX12_price_14 : decode cX12_price 14 = .ok (.iaload, 1) := by decide +kernel
theorem dX12_price_15 : decode cX12_price 15 = .ok (.if_icmp .ge 64, 3) := by decide +kernel
theorem dX12_price_18 : decode cX12_price 18 = .ok (.aload_n 0, 1) := by decide +kernel
theorem dX12_price_19 : decode cX12_price 19 = .ok (.getfield 33, 3) := by decide +kernel
theorem dX12_price_22 : decode cX12_price 22 = .ok (.bipush 76, 2) := by decide +kernel
theorem dX12_price_24 : decode cX12_price 24 = .ok (.bipush 12, 2) := by decide +kernel
theorem dX12_price_26 : decode cX12_price 26 = .ok (.iload 4, 2) := by decide +kernel
theorem dX12_price_28 : decode cX12_price 28 = .ok (.imul, 1) := by decide +kernel
theorem dX12_price_29 : decode cX12_price 29 = .ok (.iadd, 1) := by decide +kernel
theorem dX12_price_30 : decode cX12_price 30 = .ok (.iload_n 2, 1) := by decide +kernel
theorem dX12_price_31 : decode cX12_price 31 = .ok (.iadd, 1) := by decide +kernel
theorem dX12_price_32 : decode cX12_price 32 = .ok (.iaload, 1) := by decide +kernel
theorem dX12_price_33 : decode cX12_price 33 = .ok (.istore 5, 2) := by decide +kernel
theorem dX12_price_35 : decode cX12_price 35 = .ok (.iload 4, 2) := by decide +kernel
theorem dX12_price_37 : decode cX12_price 37 = .ok (.iload_n 1, 1) := by decide +kernel
theorem dX12_price_38 : decode cX12_price 38 = .ok (.if_icmp .eq 35, 3) := by decide +kernel
theorem dX12_price_41 : decode cX12_price 41 = .ok (.iload 5, 2) := by decide +kernel
theorem dX12_price_43 : decode cX12_price 43 = .ok (.ifCond .le 30, 3) := by decide +kernel
theorem dX12_price_46 : decode cX12_price 46 = .ok (.aload_n 0, 1) := by decide +kernel
theorem dX12_price_47 : decode cX12_price 47 = .ok (.getfield 62, 3) := by decide +kernel
theorem dX12_price_50 : decode cX12_price 50 = .ok (.iload 4, 2) := by decide +kernel
theorem dX12_price_52 : decode cX12_price 52 = .ok (.iaload, 1) := by decide +kernel
theorem dX12_price_53 : decode cX12_price 53 = .ok (.iload_n 2, 1) := by decide +kernel
theorem dX12_price_54 : decode cX12_price 54 = .ok (.invokestatic 272, 3) := by decide +kernel
theorem dX12_price_57 : decode cX12_price 57 = .ok (.ifCond .eq 16, 3) := by decide +kernel
theorem dX12_price_60 : decode cX12_price 60 = .ok (.iload 5, 2) := by decide +kernel
theorem dX12_price_62 : decode cX12_price 62 = .ok (.iconst 1, 1) := by decide +kernel
theorem dX12_price_63 : decode cX12_price 63 = .ok (.isub, 1) := by decide +kernel
theorem dX12_price_64 : decode cX12_price 64 = .ok (.iload_n 3, 1) := by decide +kernel
theorem dX12_price_65 : decode cX12_price 65 = .ok (.if_icmp .ge 8, 3) := by decide +kernel
theorem dX12_price_68 : decode cX12_price 68 = .ok (.iload 5, 2) := by decide +kernel
theorem dX12_price_70 : decode cX12_price 70 = .ok (.iconst 1, 1) := by decide +kernel
theorem dX12_price_71 : decode cX12_price 71 = .ok (.isub, 1) := by decide +kernel
theorem dX12_price_72 : decode cX12_price 72 = .ok (.istore_n 3, 1) := by decide +kernel
theorem dX12_price_73 : decode cX12_price 73 = .ok (.iinc 4 1, 3) := by decide +kernel
theorem dX12_price_76 : decode cX12_price 76 = .ok (.goto (-69), 3) := by decide +kernel
theorem dX12_price_79 : decode cX12_price 79 = .ok (.iload_n 3, 1) := by decide +kernel
theorem dX12_price_80 : decode cX12_price 80 = .ok (.ireturn, 1) := by decide +kernel
theorem dX12_needed_0 : decode cX12_needed 0 = .ok (.aload_n 0, 1) := by decide +kernel
theorem dX12_needed_1 : decode cX12_needed 1 = .ok (.iconst (-1), 1) := by decide +kernel
theorem dX12_needed_2 : decode cX12_needed 2 = .ok (.invokevirtual 400, 3) := by decide +kernel
theorem dX12_needed_5 : decode cX12_needed 5 = .ok (.aload_n 0, 1) := by decide +kernel
theorem dX12_needed_6 : decode cX12_needed 6 = .ok (.iload_n 1, 1) := by decide +kernel
theorem dX12_needed_7 : decode cX12_needed 7 = .ok (.invokevirtual 429, 3) := by decide +kernel
theorem dX12_needed_10 : decode cX12_needed 10 = .ok (.aload_n 0, 1) := by decide +kernel
theorem dX12_needed_11 : decode cX12_needed 11 = .ok (.iconst (-1), 1) := by decide +kernel
theorem dX12_needed_12 : decode cX12_needed 12 = .ok (.putfield 432, 3) := by decide +kernel
theorem dX12_needed_15 : decode cX12_needed 15 = .ok (.aload_n 0, 1) := by decide +kernel
theorem dX12_needed_16 : decode cX12_needed 16 = .ok (.ldc_w 428, 3) := by decide +kernel
theorem dX12_needed_19 : decode cX12_needed 19 = .ok (.putfield 435, 3) := by decide +kernel
theorem dX12_needed_22 : decode cX12_needed 22 = .ok (.iconst 0, 1) := by decide +kernel
theorem dX12_needed_23 : decode cX12_needed 23 = .ok (.istore_n 3, 1) := by decide +kernel
theorem dX12_needed_24 : decode cX12_needed 24 = .ok (.iload_n 3, 1) := by decide +kernel
theorem dX12_needed_25 : decode cX12_needed 25 = .ok (.iconst 1, 1) := by decide +kernel
theorem dX12_needed_26 : decode cX12_needed 26 = .ok (.aload_n 0, 1) := by decide +kernel
theorem dX12_needed_27 : decode cX12_needed 27 = .ok (.getfield 33, 3) := by decide +kernel
theorem dX12_needed_30 : decode cX12_needed 30 = .ok (.iconst 1, 1) := by decide +kernel
theorem dX12_needed_31 : decode cX12_needed 31 = .ok (.iaload, 1) := by decide +kernel
theorem dX12_needed_32 : decode cX12_needed 32 = .ok (.ishl, 1) := by decide +kernel
theorem dX12_needed_33 : decode cX12_needed 33 = .ok (.if_icmp .ge 173, 3) := by decide +kernel
theorem dX12_needed_36 : decode cX12_needed 36 = .ok (.iload_n 3, 1) := by decide +kernel
theorem dX12_needed_37 : decode cX12_needed 37 = .ok (.aload_n 0, 1) := by decide +kernel
theorem dX12_needed_38 : decode cX12_needed 38 = .ok (.getfield 62, 3) := by decide +kernel
theorem dX12_needed_41 : decode cX12_needed 41 = .ok (.iload_n 1, 1) := by decide +kernel
theorem dX12_needed_42 : decode cX12_needed 42 = .ok (.iaload, 1) := by decide +kernel
theorem dX12_needed_43 : decode cX12_needed 43 = .ok (.iand, 1) := by decide +kernel
theorem dX12_needed_44 : decode cX12_needed 44 = .ok (.ifCond .eq 6, 3) := by decide +kernel
theorem dX12_needed_47 : decode cX12_needed 47 = .ok (.goto 153, 3) := by decide +kernel
theorem dX12_needed_50 : decode cX12_needed 50 = .ok (.iconst 0, 1) := by decide +kernel
theorem dX12_needed_51 : decode cX12_needed 51 = .ok (.istore 4, 2) := by decide +kernel
theorem dX12_needed_53 : decode cX12_needed 53 = .ok (.iconst 0, 1) := by decide +kernel
theorem dX12_needed_54 : decode cX12_needed 54 = .ok (.istore 5, 2) := by decide +kernel
theorem dX12_needed_56 : decode cX12_needed 56 = .ok (.iload 5, 2) := by decide +kernel
theorem dX12_needed_58 : decode cX12_needed 58 = .ok (.aload_n 0, 1) := by decide +kernel
theorem dX12_needed_59 : decode cX12_needed 59 = .ok (.getfield 33, 3) := by decide +kernel
theorem dX12_needed_62 : decode cX12_needed 62 = .ok (.iconst 1, 1) := by decide +kernel
theorem dX12_needed_63 : decode cX12_needed 63 = .ok (.iaload, 1) := by decide +kernel
theorem dX12_needed_64 : decode cX12_needed 64 = .ok (.if_icmp .ge 66, 3) := by decide +kernel
theorem dX12_needed_67 : decode cX12_needed 67 = .ok (.iload_n 2, 1) := by decide +kernel
theorem dX12_needed_68 : decode cX12_needed 68 = .ok (.ifCond .eq 62, 3) := by decide +kernel
theorem dX12_needed_71 : decode cX12_needed 71 = .ok (.iload_n 3, 1) := by decide +kernel
theorem dX12_needed_72 : decode cX12_needed 72 = .ok (.iload 5, 2) := by decide +kernel
theorem dX12_needed_74 : decode cX12_needed 74 = .ok (.invokestatic 272, 3) := by decide +kernel
theorem dX12_needed_77 : decode cX12_needed 77 = .ok (.ifCond .eq 43, 3) := by decide +kernel
theorem dX12_needed_80 : decode cX12_needed 80 = .ok (.iload 4, 2) := by decide +kernel
theorem dX12_needed_82 : decode cX12_needed 82 = .ok (.ldc_w 428, 3) := by decide +kernel
theorem dX12_needed_85 : decode cX12_needed 85 = .ok (.if_icmp .ge 35, 3) := by decide +kernel
theorem dX12_needed_88 : decode cX12_needed 88 = .ok (.aload_n 0, 1) := by decide +kernel
theorem dX12_needed_89 : decode cX12_needed 89 = .ok (.iload_n 1, 1) := by decide +kernel
theorem dX12_needed_90 : decode cX12_needed 90 = .ok (.iload 5, 2) := by decide +kernel
theorem dX12_needed_92 : decode cX12_needed 92 = .ok (.invokevirtual 438, 3) := by decide +kernel
theorem dX12_needed_95 : decode cX12_needed 95 = .ok (.ldc_w 428, 3) := by decide +kernel
theorem dX12_needed_98 : decode cX12_needed 98 = .ok (.if_icmp .ge 16, 3) := by decide +kernel
theorem dX12_needed_101 : decode cX12_needed 101 = .ok (.iload 4, 2) := by decide +kernel
theorem dX12_needed_103 : decode cX12_needed 103 = .ok (.aload_n 0, 1) := by decide +kernel
theorem dX12_needed_104 : decode cX12_needed 104 = .ok (.iload_n 1, 1) := by decide +kernel
theorem dX12_needed_105 : decode cX12_needed 105 = .ok (.iload 5, 2) := by decide +kernel
theorem dX12_needed_107 : decode cX12_needed 107 = .ok (.invokevirtual 438, 3) := by decide +kernel
theorem dX12_needed_110 : decode cX12_needed 110 = .ok (.iadd, 1) := by decide +kernel
theorem dX12_needed_111 : decode cX12_needed 111 = .ok (.goto 11, 3) := by decide +kernel
theorem dX12_needed_114 : decode cX12_needed 114 = .ok (.ldc_w 428, 3) := by decide +kernel
theorem dX12_needed_117 : decode cX12_needed 117 = .ok (.goto 5, 3) := by decide +kernel
theorem dX12_needed_120 : decode cX12_needed 120 = .ok (.iload 4, 2) := by decide +kernel
theorem dX12_needed_122 : decode cX12_needed 122 = .ok (.istore 4, 2) := by decide +kernel
theorem dX12_needed_124 : decode cX12_needed 124 = .ok (.iinc 5 1, 3) := by decide +kernel
theorem dX12_needed_127 : decode cX12_needed 127 = .ok (.goto (-71), 3) := by decide +kernel
theorem dX12_needed_130 : decode cX12_needed 130 = .ok (.iload 4, 2) := by decide +kernel
theorem dX12_needed_132 : decode cX12_needed 132 = .ok (.ldc_w 428, 3) := by decide +kernel
theorem dX12_needed_135 : decode cX12_needed 135 = .ok (.if_icmp .eq 65, 3) := by decide +kernel
theorem dX12_needed_138 : decode cX12_needed 138 = .ok (.iload 4, 2) := by decide +kernel
theorem dX12_needed_140 : decode cX12_needed 140 = .ok (.aload_n 0, 1) := by decide +kernel
theorem dX12_needed_141 : decode cX12_needed 141 = .ok (.getfield 435, 3) := by decide +kernel
theorem dX12_needed_144 : decode cX12_needed 144 = .ok (.if_icmp .gt 56, 3) := by decide +kernel
theorem dX12_needed_147 : decode cX12_needed 147 = .ok (.aload_n 0, 1) := by decide +kernel
theorem dX12_needed_148 : decode cX12_needed 148 = .ok (.getfield 432, 3) := by decide +kernel
theorem dX12_needed_151 : decode cX12_needed 151 = .ok (.ifCond .lt 26, 3) := by decide +kernel
theorem dX12_needed_154 : decode cX12_needed 154 = .ok (.iload 4, 2) := by decide +kernel
theorem dX12_needed_156 : decode cX12_needed 156 = .ok (.aload_n 0, 1) := by decide +kernel
theorem dX12_needed_157 : decode cX12_needed 157 = .ok (.getfield 435, 3) := by decide +kernel
theorem dX12_needed_160 : decode cX12_needed 160 = .ok (.if_icmp .ne 17, 3) := by decide +kernel
theorem dX12_needed_163 : decode cX12_needed 163 = .ok (.iload_n 3, 1) := by decide +kernel
theorem dX12_needed_164 : decode cX12_needed 164 = .ok (.invokestatic 333, 3) := by decide +kernel
theorem dX12_needed_167 : decode cX12_needed 167 = .ok (.aload_n 0, 1) := by decide +kernel
theorem dX12_needed_168 : decode cX12_needed 168 = .ok (.getfield 432, 3) := by decide +kernel
theorem dX12_needed_171 : decode cX12_needed 171 = .ok (.invokestatic 333, 3) := by decide +kernel
theorem dX12_needed_174 : decode cX12_needed 174 = .ok (.if_icmp .ge 26, 3) := by decide +kernel
theorem dX12_needed_177 : decode cX12_needed 177 = .ok (.aload_n 0, 1) := by decide +kernel
theorem dX12_needed_178 : decode cX12_needed 178 = .ok (.iload_n 1, 1) := by decide +kernel
theorem dX12_needed_179 : decode cX12_needed 179 = .ok (.iload_n 3, 1) := by decide +kernel
theorem dX12_needed_180 : decode cX12_needed 180 = .ok (.invokevirtual 441, 3) := by decide +kernel
theorem dX12_needed_183 : decode cX12_needed 183 = .ok (.ifCond .ne 6, 3) := by decide +kernel
theorem dX12_needed_186 : decode cX12_needed 186 = .ok (.goto 14, 3) := by decide +kernel
theorem dX12_needed_189 : decode cX12_needed 189 = .ok (.aload_n 0, 1) := by decide +kernel
theorem dX12_needed_190 : decode cX12_needed 190 = .ok (.iload_n 3, 1) := by decide +kernel
theorem dX12_needed_191 : decode cX12_needed 191 = .ok (.putfield 432, 3) := by decide +kernel
theorem dX12_needed_194 : decode cX12_needed 194 = .ok (.aload_n 0, 1) := by decide +kernel
theorem dX12_needed_195 : decode cX12_needed 195 = .ok (.iload 4, 2) := by decide +kernel
theorem dX12_needed_197 : decode cX12_needed 197 = .ok (.putfield 435, 3) := by decide +kernel
theorem dX12_needed_200 : decode cX12_needed 200 = .ok (.iinc 3 1, 3) := by decide +kernel
theorem dX12_needed_203 : decode cX12_needed 203 = .ok (.goto (-179), 3) := by decide +kernel
theorem dX12_needed_206 : decode cX12_needed 206 = .ok (.aload_n 0, 1) := by decide +kernel
theorem dX12_needed_207 : decode cX12_needed 207 = .ok (.getfield 432, 3) := by decide +kernel
theorem dX12_needed_210 : decode cX12_needed 210 = .ok (.ifCond .lt 7, 3) := by decide +kernel
theorem dX12_needed_213 : decode cX12_needed 213 = .ok (.iconst 1, 1) := by decide +kernel
theorem dX12_needed_214 : decode cX12_needed 214 = .ok (.goto 4, 3) := by decide +kernel
theorem dX12_needed_217 : decode cX12_needed 217 = .ok (.iconst 0, 1) := by decide +kernel
theorem dX12_needed_218 : decode cX12_needed 218 = .ok (.ireturn, 1) := by decide +kernel
theorem dX12_needs_0 : decode cX12_needs 0 = .ok (.aload_n 0, 1) := by decide +kernel
theorem dX12_needs_1 : decode cX12_needs 1 = .ok (.iconst 0, 1) := by decide +kernel
theorem dX12_needs_2 : decode cX12_needs 2 = .ok (.putfield 1, 3) := by decide +kernel
theorem dX12_needs_5 : decode cX12_needs 5 = .ok (.aload_n 0, 1) := by decide +kernel
theorem dX12_needs_6 : decode cX12_needs 6 = .ok (.iload_n 1, 1) := by decide +kernel
theorem dX12_needs_7 : decode cX12_needs 7 = .ok (.invokevirtual 397, 3) := by decide +kernel
theorem dX12_needs_10 : decode cX12_needs 10 = .ok (.ifCond .eq 21, 3) := by decide +kernel
theorem dX12_needs_13 : decode cX12_needs 13 = .ok (.iload_n 2, 1) := by decide +kernel
theorem dX12_needs_14 : decode cX12_needs 14 = .ok (.iconst 0, 1) := by decide +kernel
theorem dX12_needs_15 : decode cX12_needs 15 = .ok (.iconst 1, 1) := by decide +kernel
theorem dX12_needs_16 : decode cX12_needs 16 = .ok (.invokestatic 254, 3) := by decide +kernel
theorem dX12_needs_19 : decode cX12_needs 19 = .ok (.ifCond .eq 12, 3) := by decide +kernel
theorem dX12_needs_22 : decode cX12_needs 22 = .ok (.aload_n 0, 1) := by decide +kernel
theorem dX12_needs_23 : decode cX12_needs 23 = .ok (.iload_n 1, 1) := by decide +kernel
theorem dX12_needs_24 : decode cX12_needs 24 = .ok (.iconst 0, 1) := by decide +kernel
theorem dX12_needs_25 : decode cX12_needs 25 = .ok (.invokevirtual 444, 3) := by decide +kernel
theorem dX12_needs_28 : decode cX12_needs 28 = .ok (.ifCond .ne 5, 3) := by decide +kernel
theorem dX12_needs_31 : decode cX12_needs 31 = .ok (.iconst (-1), 1) := by decide +kernel
theorem dX12_needs_32 : decode cX12_needs 32 = .ok (.ireturn, 1) := by decide +kernel
theorem dX12_needs_33 : decode cX12_needs 33 = .ok (.iload_n 2, 1) := by decide +kernel
theorem dX12_needs_34 : decode cX12_needs 34 = .ok (.ifCond .ne 13, 3) := by decide +kernel
theorem dX12_needs_37 : decode cX12_needs 37 = .ok (.aload_n 0, 1) := by decide +kernel
theorem dX12_needs_38 : decode cX12_needs 38 = .ok (.getfield 432, 3) := by decide +kernel
theorem dX12_needs_41 : decode cX12_needs 41 = .ok (.invokestatic 333, 3) := by decide +kernel
theorem dX12_needs_44 : decode cX12_needs 44 = .ok (.goto 7, 3) := by decide +kernel
theorem dX12_needs_47 : decode cX12_needs 47 = .ok (.aload_n 0, 1) := by decide +kernel
theorem dX12_needs_48 : decode cX12_needs 48 = .ok (.getfield 432, 3) := by decide +kernel
theorem dX12_needs_51 : decode cX12_needs 51 = .ok (.ireturn, 1) := by decide +kernel
theorem dX12_buys_0 : decode cX12_buys 0 = .ok (.aload_n 0, 1) := by decide +kernel
theorem dX12_buys_1 : decode cX12_buys 1 = .ok (.iconst 0, 1) := by decide +kernel
theorem dX12_buys_2 : decode cX12_buys 2 = .ok (.putfield 1, 3) := by decide +kernel
theorem dX12_buys_5 : decode cX12_buys 5 = .ok (.aload_n 0, 1) := by decide +kernel
theorem dX12_buys_6 : decode cX12_buys 6 = .ok (.iload_n 1, 1) := by decide +kernel
theorem dX12_buys_7 : decode cX12_buys 7 = .ok (.invokevirtual 397, 3) := by decide +kernel
theorem dX12_buys_10 : decode cX12_buys 10 = .ok (.ifCond .eq 21, 3) := by decide +kernel
theorem dX12_buys_13 : decode cX12_buys 13 = .ok (.iload_n 2, 1) := by decide +kernel
theorem dX12_buys_14 : decode cX12_buys 14 = .ok (.iconst 0, 1) := by decide +kernel
theorem dX12_buys_15 : decode cX12_buys 15 = .ok (.iconst 1, 1) := by decide +kernel
theorem dX12_buys_16 : decode cX12_buys 16 = .ok (.invokestatic 254, 3) := by decide +kernel
theorem dX12_buys_19 : decode cX12_buys 19 = .ok (.ifCond .eq 12, 3) := by decide +kernel
theorem dX12_buys_22 : decode cX12_buys 22 = .ok (.aload_n 0, 1) := by decide +kernel
theorem dX12_buys_23 : decode cX12_buys 23 = .ok (.iload_n 1, 1) := by decide +kernel
theorem dX12_buys_24 : decode cX12_buys 24 = .ok (.iconst 1, 1) := by decide +kernel
theorem dX12_buys_25 : decode cX12_buys 25 = .ok (.invokevirtual 444, 3) := by decide +kernel
theorem dX12_buys_28 : decode cX12_buys 28 = .ok (.ifCond .ne 5, 3) := by decide +kernel
theorem dX12_buys_31 : decode cX12_buys 31 = .ok (.iconst (-1), 1) := by decide +kernel
theorem dX12_buys_32 : decode cX12_buys 32 = .ok (.ireturn, 1) := by decide +kernel
theorem dX12_buys_33 : decode cX12_buys 33 = .ok (.iload_n 2, 1) := by decide +kernel
theorem dX12_buys_34 : decode cX12_buys 34 = .ok (.ifCond .ne 10, 3) := by decide +kernel
theorem dX12_buys_37 : decode cX12_buys 37 = .ok (.aload_n 0, 1) := by decide +kernel
theorem dX12_buys_38 : decode cX12_buys 38 = .ok (.getfield 435, 3) := by decide +kernel
theorem dX12_buys_41 : decode cX12_buys 41 = .ok (.goto 7, 3) := by decide +kernel
theorem dX12_buys_44 : decode cX12_buys 44 = .ok (.aload_n 0, 1) := by decide +kernel
theorem dX12_buys_45 : decode cX12_buys 45 = .ok (.getfield 432, 3) := by decide +kernel
theorem dX12_buys_48 : decode cX12_buys 48 = .ok (.ireturn, 1) := by decide +kernel
theorem dX12_terms_0 : decode cX12_terms 0 = .ok (.aload_n 0, 1) := by decide +kernel
theorem dX12_terms_1 : decode cX12_terms 1 = .ok (.iconst 0, 1) := by decide +kernel
theorem dX12_terms_2 : decode cX12_terms 2 = .ok (.putfield 1, 3) := by decide +kernel
theorem dX12_terms_5 : decode cX12_terms 5 = .ok (.aload_n 0, 1) := by decide +kernel
theorem dX12_terms_6 : decode cX12_terms 6 = .ok (.iload_n 1, 1) := by decide +kernel
theorem dX12_terms_7 : decode cX12_terms 7 = .ok (.invokevirtual 397, 3) := by decide +kernel
theorem dX12_terms_10 : decode cX12_terms 10 = .ok (.ifCond .ne 7, 3) := by decide +kernel
theorem dX12_terms_13 : decode cX12_terms 13 = .ok (.sipush (-10000), 3) := by decide +kernel
theorem dX12_terms_16 : decode cX12_terms 16 = .ok (.ireturn, 1) := by decide +kernel
theorem dX12_terms_17 : decode cX12_terms 17 = .ok (.aload_n 0, 1) := by decide +kernel
theorem dX12_terms_18 : decode cX12_terms 18 = .ok (.iconst (-1), 1) := by decide +kernel
theorem dX12_terms_19 : decode cX12_terms 19 = .ok (.invokevirtual 400, 3) := by decide +kernel
theorem dX12_terms_22 : decode cX12_terms 22 = .ok (.ldc_w 428, 3) := by decide +kernel
theorem dX12_terms_25 : decode cX12_terms 25 = .ok (.istore_n 2, 1) := by decide +kernel
theorem dX12_terms_26 : decode cX12_terms 26 = .ok (.iconst 0, 1) := by decide +kernel
theorem dX12_terms_27 : decode cX12_terms 27 = .ok (.istore_n 3, 1) := by decide +kernel
theorem dX12_terms_28 : decode cX12_terms 28 = .ok (.iload_n 3, 1) := by decide +kernel
theorem dX12_terms_29 : decode cX12_terms 29 = .ok (.aload_n 0, 1) := by decide +kernel
theorem dX12_terms_30 : decode cX12_terms 30 = .ok (.getfield 357, 3) := by decide +kernel
theorem dX12_terms_33 : decode cX12_terms 33 = .ok (.if_icmp .ge 45, 3) := by decide +kernel
theorem dX12_terms_36 : decode cX12_terms 36 = .ok (.aload_n 0, 1) := by decide +kernel
theorem dX12_terms_37 : decode cX12_terms 37 = .ok (.getfield 77, 3) := by decide +kernel
theorem dX12_terms_40 : decode cX12_terms 40 = .ok (.iload_n 3, 1) := by decide +kernel
theorem dX12_terms_41 : decode cX12_terms 41 = .ok (.iaload, 1) := by decide +kernel
theorem dX12_terms_42 : decode cX12_terms 42 = .ok (.iload_n 1, 1) := by decide +kernel
theorem dX12_terms_43 : decode cX12_terms 43 = .ok (.if_icmp .ne 29, 3) := by decide +kernel
theorem dX12_terms_46 : decode cX12_terms 46 = .ok (.aload_n 0, 1) := by decide +kernel
theorem dX12_terms_47 : decode cX12_terms 47 = .ok (.getfield 89, 3) := by decide +kernel
theorem dX12_terms_50 : decode cX12_terms 50 = .ok (.iload_n 3, 1) := by decide +kernel
theorem dX12_terms_51 : decode cX12_terms 51 = .ok (.iaload, 1) := by decide +kernel
theorem dX12_terms_52 : decode cX12_terms 52 = .ok (.ifCond .le 20, 3) := by decide +kernel
theorem dX12_terms_55 : decode cX12_terms 55 = .ok (.aload_n 0, 1) := by decide +kernel
theorem dX12_terms_56 : decode cX12_terms 56 = .ok (.getfield 101, 3) := by decide +kernel
theorem dX12_terms_59 : decode cX12_terms 59 = .ok (.iload_n 3, 1) := by decide +kernel
theorem dX12_terms_60 : decode cX12_terms 60 = .ok (.iaload, 1) := by decide +kernel
theorem dX12_terms_61 : decode cX12_terms 61 = .ok (.iload_n 2, 1) := by decide +kernel
theorem dX12_terms_62 : decode cX12_terms 62 = .ok (.if_icmp .ge 10, 3) := by decide +kernel
theorem dX12_terms_65 : decode cX12_terms 65 = .ok (.aload_n 0, 1) := by decide +kernel
theorem dX12_terms_66 : decode cX12_terms 66 = .ok (.getfield 101, 3) := by decide +kernel
theorem dX12_terms_69 : decode cX12_terms 69 = .ok (.iload_n 3, 1) := by decide +kernel
theorem dX12_terms_70 : decode cX12_terms 70 = .ok (.iaload, 1) := by decide +kernel
theorem dX12_terms_71 : decode cX12_terms 71 = .ok (.istore_n 2, 1) := by decide +kernel
theorem dX12_terms_72 : decode cX12_terms 72 = .ok (.iinc 3 1, 3) := by decide +kernel
theorem dX12_terms_75 : decode cX12_terms 75 = .ok (.goto (-47), 3) := by decide +kernel
theorem dX12_terms_78 : decode cX12_terms 78 = .ok (.iload_n 2, 1) := by decide +kernel
theorem dX12_terms_79 : decode cX12_terms 79 = .ok (.ldc_w 428, 3) := by decide +kernel
theorem dX12_terms_82 : decode cX12_terms 82 = .ok (.if_icmp .ne 9, 3) := by decide +kernel
theorem dX12_terms_85 : decode cX12_terms 85 = .ok (.sipush (-10000), 3) := by decide +kernel
theorem dX12_terms_88 : decode cX12_terms 88 = .ok (.goto 18, 3) := by decide +kernel
theorem dX12_terms_91 : decode cX12_terms 91 = .ok (.iload_n 2, 1) := by decide +kernel
theorem dX12_terms_92 : decode cX12_terms 92 = .ok (.aload_n 0, 1) := by decide +kernel
theorem dX12_terms_93 : decode cX12_terms 93 = .ok (.getfield 33, 3) := by decide +kernel
theorem dX12_terms_96 : decode cX12_terms 96 = .ok (.iconst 3, 1) := by decide +kernel
theorem dX12_terms_97 : decode cX12_terms 97 = .ok (.iaload, 1) := by decide +kernel
theorem dX12_terms_98 : decode cX12_terms 98 = .ok (.iadd, 1) := by decide +kernel
theorem dX12_terms_99 : decode cX12_terms 99 = .ok (.iconst 1, 1) := by decide +kernel
theorem dX12_terms_100 : decode cX12_terms 100 = .ok (.iadd, 1) := by decide +kernel
theorem dX12_terms_101 : decode cX12_terms 101 = .ok (.aload_n 0, 1) := by decide +kernel
theorem dX12_terms_102 : decode cX12_terms 102 = .ok (.getfield 360, 3) := by decide +kernel
theorem dX12_terms_105 : decode cX12_terms 105 = .ok (.isub, 1) := by decide +kernel
theorem dX12_terms_106 : decode cX12_terms 106 = .ok (.ireturn, 1) := by decide +kernel
theorem dX12_source_0 : decode cX12_source 0 = .ok (.aload_n 0, 1) := by decide +kernel
theorem dX12_source_1 : decode cX12_source 1 = .ok (.iconst 0, 1) := by decide +kernel
theorem dX12_source_2 : decode cX12_source 2 = .ok (.putfield 1, 3) := by decide +kernel
theorem dX12_source_5 : decode cX12_source 5 = .ok (.aload_n 0, 1) := by decide +kernel
theorem dX12_source_6 : decode cX12_source 6 = .ok (.iload_n 1, 1) := by decide +kernel
theorem dX12_source_7 : decode cX12_source 7 = .ok (.invokevirtual 397, 3) := by decide +kernel
theorem dX12_source_10 : decode cX12_source 10 = .ok (.ifCond .eq 11, 3) := by decide +kernel
theorem dX12_source_13 : decode cX12_source 13 = .ok (.aload_n 0, 1) := by decide +kernel
theorem dX12_source_14 : decode cX12_source 14 = .ok (.iload_n 2, 1) := by decide +kernel
theorem dX12_source_15 : decode cX12_source 15 = .ok (.invokevirtual 316, 3) := by decide +kernel
theorem dX12_source_18 : decode cX12_source 18 = .ok (.ifCond .ne 5, 3) := by decide +kernel
theorem dX12_source_21 : decode cX12_source 21 = .ok (.iconst (-1), 1) := by decide +kernel
theorem dX12_source_22 : decode cX12_source 22 = .ok (.ireturn, 1) := by decide +kernel
theorem dX12_source_23 : decode cX12_source 23 = .ok (.aload_n 0, 1) := by decide +kernel
theorem dX12_source_24 : decode cX12_source 24 = .ok (.iconst (-1), 1) := by decide +kernel
theorem dX12_source_25 : decode cX12_source 25 = .ok (.invokevirtual 400, 3) := by decide +kernel
theorem dX12_source_28 : decode cX12_source 28 = .ok (.aload_n 0, 1) := by decide +kernel
theorem dX12_source_29 : decode cX12_source 29 = .ok (.getfield 65, 3) := by decide +kernel
theorem dX12_source_32 : decode cX12_source 32 = .ok (.bipush 12, 2) := by decide +kernel
theorem dX12_source_34 : decode cX12_source 34 = .ok (.iload_n 1, 1) := by decide +kernel
theorem dX12_source_35 : decode cX12_source 35 = .ok (.imul, 1) := by decide +kernel
theorem dX12_source_36 : decode cX12_source 36 = .ok (.iload_n 2, 1) := by decide +kernel
theorem dX12_source_37 : decode cX12_source 37 = .ok (.iadd, 1) := by decide +kernel
theorem dX12_source_38 : decode cX12_source 38 = .ok (.iaload, 1) := by decide +kernel
theorem dX12_source_39 : decode cX12_source 39 = .ok (.ireturn, 1) := by decide +kernel
theorem dX12_led_0 : decode cX12_led 0 = .ok (.aload_n 0, 1) := by decide +kernel
theorem dX12_led_1 : decode cX12_led 1 = .ok (.iconst 0, 1) := by decide +kernel
theorem dX12_led_2 : decode cX12_led 2 = .ok (.putfield 1, 3) := by decide +kernel
theorem dX12_led_5 : decode cX12_led 5 = .ok (.aload_n 0, 1) := by decide +kernel
theorem dX12_led_6 : decode cX12_led 6 = .ok (.iload_n 1, 1) := by decide +kernel
theorem dX12_led_7 : decode cX12_led 7 = .ok (.invokevirtual 316, 3) := by decide +kernel
theorem dX12_led_10 : decode cX12_led 10 = .ok (.ifCond .eq 8, 3) := by decide +kernel
theorem dX12_led_13 : decode cX12_led 13 = .ok (.iload_n 2, 1) := by decide +kernel
theorem dX12_led_14 : decode cX12_led 14 = .ok (.iconst (-1), 1) := by decide +kernel
theorem dX12_led_15 : decode cX12_led 15 = .ok (.if_icmp .ge 5, 3) := by decide +kernel
theorem dX12_led_18 : decode cX12_led 18 = .ok (.iconst (-1), 1) := by decide +kernel
theorem dX12_led_19 : decode cX12_led 19 = .ok (.ireturn, 1) := by decide +kernel
theorem dX12_led_20 : decode cX12_led 20 = .ok (.aload_n 0, 1) := by decide +kernel
theorem dX12_led_21 : decode cX12_led 21 = .ok (.iconst (-1), 1) := by decide +kernel
theorem dX12_led_22 : decode cX12_led 22 = .ok (.invokevirtual 400, 3) := by decide +kernel
theorem dX12_led_25 : decode cX12_led 25 = .ok (.iconst 0, 1) := by decide +kernel
theorem dX12_led_26 : decode cX12_led 26 = .ok (.istore_n 3, 1) := by decide +kernel
theorem dX12_led_27 : decode cX12_led 27 = .ok (.iconst 0, 1) := by decide +kernel
theorem dX12_led_28 : decode cX12_led 28 = .ok (.istore 4, 2) := by decide +kernel
theorem dX12_led_30 : decode cX12_led 30 = .ok (.iload 4, 2) := by decide +kernel
theorem dX12_led_32 : decode cX12_led 32 = .ok (.aload_n 0, 1) := by decide +kernel
theorem dX12_led_33 : decode cX12_led 33 = .ok (.getfield 357, 3) := by decide +kernel
theorem dX12_led_36 : decode cX12_led 36 = .ok (.if_icmp .ge 57, 3) := by decide +kernel
theorem dX12_led_39 : decode cX12_led 39 = .ok (.aload_n 0, 1) := by decide +kernel
theorem dX12_led_40 : decode cX12_led 40 = .ok (.getfield 95, 3) := by decide +kernel
theorem dX12_led_43 : decode cX12_led 43 = .ok (.iload 4, 2) := by decide +kernel
theorem dX12_led_45 : decode cX12_led 45 = .ok (.iaload, 1) := by decide +kernel
theorem dX12_led_46 : decode cX12_led 46 = .ok (.ifCond .lt 41, 3) := by decide +kernel
theorem dX12_led_49 : decode cX12_led 49 = .ok (.aload_n 0, 1) := by decide +kernel
theorem dX12_led_50 : decode cX12_led 50 = .ok (.getfield 33, 3) := by decide +kernel
theorem dX12_led_53 : decode cX12_led 53 = .ok (.sipush 173, 3) := by decide +kernel
theorem dX12_led_56 : decode cX12_led 56 = .ok (.iconst 5, 1) := by decide +kernel
theorem dX12_led_57 : decode cX12_led 57 = .ok (.aload_n 0, 1) := by decide +kernel
theorem dX12_led_58 : decode cX12_led 58 = .ok (.getfield 95, 3) := by decide +kernel
theorem dX12_led_61 : decode cX12_led 61 = .ok (.iload 4, 2) := by decide +kernel
theorem dX12_led_63 : decode cX12_led 63 = .ok (.iaload, 1) := by decide +kernel
theorem dX12_led_64 : decode cX12_led 64 = .ok (.imul, 1) := by decide +kernel
theorem dX12_led_65 : decode cX12_led 65 = .ok (.iadd, 1) := by decide +kernel
theorem dX12_led_66 : decode cX12_led 66 = .ok (.iconst 3, 1) := by decide +kernel
theorem dX12_led_67 : decode cX12_led 67 = .ok (.iadd, 1) := by decide +kernel
theorem dX12_led_68 : decode cX12_led 68 = .ok (.iaload, 1) := by decide +kernel
theorem dX12_led_69 : decode cX12_led 69 = .ok (.iload_n 1, 1) := by decide +kernel
theorem dX12_led_70 : decode cX12_led 70 = .ok (.if_icmp .eq 6, 3) := by decide +kernel
theorem dX12_led_73 : decode cX12_led 73 = .ok (.goto 14, 3) := by decide +kernel
theorem dX12_led_76 : decode cX12_led 76 = .ok (.iload_n 3, 1) := by decide +kernel
theorem dX12_led_77 : decode cX12_led 77 = .ok (.iload_n 2, 1) := by decide +kernel
theorem dX12_led_78 : decode cX12_led 78 = .ok (.if_icmp .ne 6, 3) := by decide +kernel
theorem dX12_led_81 : decode cX12_led 81 = .ok (.iload 4, 2) := by decide +kernel
theorem dX12_led_83 : decode cX12_led 83 = .ok (.ireturn, 1) := by decide +kernel
theorem dX12_led_84 : decode cX12_led 84 = .ok (.iinc 3 1, 3) := by decide +kernel
theorem dX12_led_87 : decode cX12_led 87 = .ok (.iinc 4 1, 3) := by decide +kernel
theorem dX12_led_90 : decode cX12_led 90 = .ok (.goto (-60), 3) := by decide +kernel
theorem dX12_led_93 : decode cX12_led 93 = .ok (.iload_n 2, 1) := by decide +kernel
theorem dX12_led_94 : decode cX12_led 94 = .ok (.iconst (-1), 1) := by decide +kernel
theorem dX12_led_95 : decode cX12_led 95 = .ok (.if_icmp .ne 7, 3) := by decide +kernel
theorem dX12_led_98 : decode cX12_led 98 = .ok (.iload_n 3, 1) := by decide +kernel
theorem dX12_led_99 : decode cX12_led 99 = .ok (.goto 4, 3) := by decide +kernel
theorem dX12_led_102 : decode cX12_led 102 = .ok (.iconst (-1), 1) := by decide +kernel
theorem dX12_led_103 : decode cX12_led 103 = .ok (.ireturn, 1) := by decide +kernel
theorem dX12_order_0 : decode cX12_order 0 = .ok (.aload_n 0, 1) := by decide +kernel
theorem dX12_order_1 : decode cX12_order 1 = .ok (.iconst 0, 1) := by decide +kernel
theorem dX12_order_2 : decode cX12_order 2 = .ok (.putfield 1, 3) := by decide +kernel
theorem dX12_order_5 : decode cX12_order 5 = .ok (.aload_n 0, 1) := by decide +kernel
theorem dX12_order_6 : decode cX12_order 6 = .ok (.sipush 940, 3) := by decide +kernel
theorem dX12_order_9 : decode cX12_order 9 = .ok (.invokevirtual 304, 3) := by decide +kernel
theorem dX12_order_12 : decode cX12_order 12 = .ok (.aload_n 0, 1) := by decide +kernel
theorem dX12_order_13 : decode cX12_order 13 = .ok (.getfield 18, 3) := by decide +kernel
theorem dX12_order_16 : decode cX12_order 16 = .ok (.iconst 3, 1) := by decide +kernel
theorem dX12_order_17 : decode cX12_order 17 = .ok (.idiv, 1) := by decide +kernel
theorem dX12_order_18 : decode cX12_order 18 = .ok (.istore_n 1, 1) := by decide +kernel
theorem dX12_order_19 : decode cX12_order 19 = .ok (.aload_n 0, 1) := by decide +kernel
theorem dX12_order_20 : decode cX12_order 20 = .ok (.getfield 18, 3) := by decide +kernel
theorem dX12_order_23 : decode cX12_order 23 = .ok (.iconst 3, 1) := by decide +kernel
theorem dX12_order_24 : decode cX12_order 24 = .ok (.irem, 1) := by decide +kernel
theorem dX12_order_25 : decode cX12_order 25 = .ok (.ifCond .ne 12, 3) := by decide +kernel
theorem dX12_order_28 : decode cX12_order 28 = .ok (.iload_n 1, 1) := by decide +kernel
theorem dX12_order_29 : decode cX12_order 29 = .ok (.iconst 1, 1) := by decide +kernel
theorem dX12_order_30 : decode cX12_order 30 = .ok (.iconst 5, 1) := by decide +kernel
theorem dX12_order_31 : decode cX12_order 31 = .ok (.invokestatic 254, 3) := by decide +kernel
theorem dX12_order_34 : decode cX12_order 34 = .ok (.ifCond .ne 5, 3) := by decide +kernel
theorem dX12_order_37 : decode cX12_order 37 = .ok (.iconst (-1), 1) := by decide +kernel
theorem dX12_order_38 : decode cX12_order 38 = .ok (.ireturn, 1) := by decide +kernel
theorem dX12_order_39 : decode cX12_order 39 = .ok (.iconst 0, 1) := by decide +kernel
theorem dX12_order_40 : decode cX12_order 40 = .ok (.istore_n 2, 1) := by decide +kernel
theorem dX12_order_41 : decode cX12_order 41 = .ok (.iload_n 2, 1) := by decide +kernel
theorem dX12_order_42 : decode cX12_order 42 = .ok (.aload_n 0, 1) := by decide +kernel
theorem dX12_order_43 : decode cX12_order 43 = .ok (.getfield 18, 3) := by decide +kernel
theorem dX12_order_46 : decode cX12_order 46 = .ok (.if_icmp .ge 58, 3) := by decide +kernel
theorem dX12_order_49 : decode cX12_order 49 = .ok (.aload_n 0, 1) := by decide +kernel
theorem dX12_order_50 : decode cX12_order 50 = .ok (.getfield 129, 3) := by decide +kernel
theorem dX12_order_53 : decode cX12_order 53 = .ok (.iload_n 2, 1) := by decide +kernel
theorem dX12_order_54 : decode cX12_order 54 = .ok (.aload_n 0, 1) := by decide +kernel
theorem dX12_order_55 : decode cX12_order 55 = .ok (.iload_n 2, 1) := by decide +kernel
theorem dX12_order_56 : decode cX12_order 56 = .ok (.invokevirtual 448, 3) := by decide +kernel
theorem dX12_order_59 : decode cX12_order 59 = .ok (.iastore, 1) := by decide +kernel
theorem dX12_order_60 : decode cX12_order 60 = .ok (.iload_n 2, 1) := by decide +kernel
theorem dX12_order_61 : decode cX12_order 61 = .ok (.iconst 3, 1) := by decide +kernel
theorem dX12_order_62 : decode cX12_order 62 = .ok (.irem, 1) := by decide +kernel
theorem dX12_order_63 : decode cX12_order 63 = .ok (.iconst 2, 1) := by decide +kernel
theorem dX12_order_64 : decode cX12_order 64 = .ok (.if_icmp .ge 19, 3) := by decide +kernel
theorem dX12_order_67 : decode cX12_order 67 = .ok (.aload_n 0, 1) := by decide +kernel
theorem dX12_order_68 : decode cX12_order 68 = .ok (.aload_n 0, 1) := by decide +kernel
theorem dX12_order_69 : decode cX12_order 69 = .ok (.getfield 129, 3) := by decide +kernel
theorem dX12_order_72 : decode cX12_order 72 = .ok (.iload_n 2, 1) := by decide +kernel
theorem dX12_order_73 : decode cX12_order 73 = .ok (.iaload, 1) := by decide +kernel
theorem dX12_order_74 : decode cX12_order 74 = .ok (.invokevirtual 397, 3) := by decide +kernel
theorem dX12_order_77 : decode cX12_order 77 = .ok (.ifCond .ne 21, 3) := by decide +kernel
theorem dX12_order_80 : decode cX12_order 80 = .ok (.goto 16, 3) := by decide +kernel
theorem dX12_order_83 : decode cX12_order 83 = .ok (.aload_n 0, 1) := by decide +kernel
theorem dX12_order_84 : decode cX12_order 84 = .ok (.aload_n 0, 1) := by decide +kernel
theorem dX12_order_85 : decode cX12_order 85 = .ok (.getfield 129, 3) := by decide +kernel
theorem dX12_order_88 : decode cX12_order 88 = .ok (.iload_n 2, 1) := by decide +kernel
theorem dX12_order_89 : decode cX12_order 89 = .ok (.iaload, 1) := by decide +kernel
theorem dX12_order_90 : decode cX12_order 90 = .ok (.invokevirtual 316, 3) := by decide +kernel
theorem dX12_order_93 : decode cX12_order 93 = .ok (.ifCond .ne 5, 3) := by decide +kernel
theorem dX12_order_96 : decode cX12_order 96 = .ok (.iconst (-1), 1) := by decide +kernel
theorem dX12_order_97 : decode cX12_order 97 = .ok (.ireturn, 1) := by decide +kernel
theorem dX12_order_98 : decode cX12_order 98 = .ok (.iinc 2 1, 3) := by decide +kernel
theorem dX12_order_101 : decode cX12_order 101 = .ok (.goto (-60), 3) := by decide +kernel
theorem dX12_order_104 : decode cX12_order 104 = .ok (.iconst 0, 1) := by decide +kernel
theorem dX12_order_105 : decode cX12_order 105 = .ok (.istore_n 2, 1) := by decide +kernel
theorem dX12_order_106 : decode cX12_order 106 = .ok (.iload_n 2, 1) := by decide +kernel
theorem dX12_order_107 : decode cX12_order 107 = .ok (.iload_n 1, 1) := by decide +kernel
theorem dX12_order_108 : decode cX12_order 108 = .ok (.if_icmp .ge 32, 3) := by decide +kernel
theorem dX12_order_111 : decode cX12_order 111 = .ok (.aload_n 0, 1) := by decide +kernel
theorem dX12_order_112 : decode cX12_order 112 = .ok (.getfield 129, 3) := by decide +kernel
theorem dX12_order_115 : decode cX12_order 115 = .ok (.iconst 3, 1) := by decide +kernel
theorem dX12_order_116 : decode cX12_order 116 = .ok (.iload_n 2, 1) := by decide +kernel
theorem dX12_order_117 : decode cX12_order 117 = .ok (.imul, 1) := by decide +kernel
theorem dX12_order_118 : decode cX12_order 118 = .ok (.iaload, 1) := by decide +kernel
theorem dX12_order_119 : decode cX12_order 119 = .ok (.aload_n 0, 1) := by decide +kernel
theorem dX12_order_120 : decode cX12_order 120 = .ok (.getfield 129, 3) := by decide +kernel
theorem dX12_order_123 : decode cX12_order 123 = .ok (.iconst 3, 1) := by decide +kernel
theorem dX12_order_124 : decode cX12_order 124 = .ok (.iload_n 2, 1) := by decide +kernel
theorem dX12_order_125 : decode cX12_order 125 = .ok (.imul, 1) := by decide +kernel
theorem dX12_order_126 : decode cX12_order 126 = .ok (.iconst 1, 1) := by decide +kernel
theorem dX12_order_127 : decode cX12_order 127 = .ok (.iadd, 1) := by decide +kernel
theorem dX12_order_128 : decode cX12_order 128 = .ok (.iaload, 1) := by decide +kernel
theorem dX12_order_129 : decode cX12_order 129 = .ok (.if_icmp .ne 5, 3) := by decide +kernel
theorem dX12_order_132 : decode cX12_order 132 = .ok (.iconst (-1), 1) := by decide +kernel
theorem dX12_order_133 : decode cX12_order 133 = .ok (.ireturn, 1) := by decide +kernel
theorem dX12_order_134 : decode cX12_order 134 = .ok (.iinc 2 1, 3) := by decide +kernel
theorem dX12_order_137 : decode cX12_order 137 = .ok (.goto (-31), 3) := by decide +kernel
theorem dX12_order_140 : decode cX12_order 140 = .ok (.iconst 1, 1) := by decide +kernel
theorem dX12_order_141 : decode cX12_order 141 = .ok (.istore_n 2, 1) := by decide +kernel
theorem dX12_order_142 : decode cX12_order 142 = .ok (.iconst 0, 1) := by decide +kernel
theorem dX12_order_143 : decode cX12_order 143 = .ok (.istore_n 3, 1) := by decide +kernel
theorem dX12_order_144 : decode cX12_order 144 = .ok (.iload_n 3, 1) := by decide +kernel
theorem dX12_order_145 : decode cX12_order 145 = .ok (.iload_n 1, 1) := by decide +kernel
theorem dX12_order_146 : decode cX12_order 146 = .ok (.if_icmp .ge 13, 3) := by decide +kernel
theorem dX12_order_149 : decode cX12_order 149 = .ok (.iload_n 2, 1) := by decide +kernel
theorem dX12_order_150 : decode cX12_order 150 = .ok (.iload_n 1, 1) := by decide +kernel
theorem dX12_order_151 : decode cX12_order 151 = .ok (.imul, 1) := by decide +kernel
theorem dX12_order_152 : decode cX12_order 152 = .ok (.istore_n 2, 1) := by decide +kernel
theorem dX12_order_153 : decode cX12_order 153 = .ok (.iinc 3 1, 3) := by decide +kernel
theorem dX12_order_156 : decode cX12_order 156 = .ok (.goto (-12), 3) := by decide +kernel
theorem dX12_order_159 : decode cX12_order 159 = .ok (.ldc_w 428, 3) := by decide +kernel
theorem dX12_order_162 : decode cX12_order 162 = .ok (.istore_n 3, 1) := by decide +kernel
theorem dX12_order_163 : decode cX12_order 163 = .ok (.ldc_w 428, 3) := by decide +kernel
theorem dX12_order_166 : decode cX12_order 166 = .ok (.istore 4, 2) := by decide +kernel
theorem dX12_order_168 : decode cX12_order 168 = .ok (.iconst 0, 1) := by decide +kernel
theorem dX12_order_169 : decode cX12_order 169 = .ok (.istore 5, 2) := by decide +kernel
theorem dX12_order_171 : decode cX12_order 171 = .ok (.iload 5, 2) := by decide +kernel
theorem dX12_order_173 : decode cX12_order 173 = .ok (.iload_n 2, 1) := by decide +kernel
theorem dX12_order_174 : decode cX12_order 174 = .ok (.if_icmp .ge 245, 3) := by decide +kernel
theorem dX12_order_177 : decode cX12_order 177 = .ok (.iload 5, 2) := by decide +kernel
theorem dX12_order_179 : decode cX12_order 179 = .ok (.istore 6, 2) := by decide +kernel
theorem dX12_order_181 : decode cX12_order 181 = .ok (.iconst 0, 1) := by decide +kernel
theorem dX12_order_182 : decode cX12_order 182 = .ok (.istore 7, 2) := by decide +kernel
theorem dX12_order_184 : decode cX12_order 184 = .ok (.iload_n 1, 1) := by decide +kernel
theorem dX12_order_185 : decode cX12_order 185 = .ok (.iconst 1, 1) := by decide +kernel
theorem dX12_order_186 : decode cX12_order 186 = .ok (.isub, 1) := by decide +kernel
theorem dX12_order_187 : decode cX12_order 187 = .ok (.istore 8, 2) := by decide +kernel
theorem dX12_order_189 : decode cX12_order 189 = .ok (.iload 8, 2) := by decide +kernel
theorem dX12_order_191 : decode cX12_order 191 = .ok (.ifCond .lt 40, 3) := by decide +kernel
theorem dX12_order_194 : decode cX12_order 194 = .ok (.aload_n 0, 1) := by decide +kernel
theorem dX12_order_195 : decode cX12_order 195 = .ok (.getfield 123, 3) := by decide +kernel
theorem dX12_order_198 : decode cX12_order 198 = .ok (.iload 8, 2) := by decide +kernel
theorem dX12_order_200 : decode cX12_order 200 = .ok (.iload 6, 2) := by decide +kernel
theorem dX12_order_202 : decode cX12_order 202 = .ok (.iload_n 1, 1) := by decide +kernel
theorem dX12_order_203 : decode cX12_order 203 = .ok (.irem, 1) := by decide +kernel
theorem dX12_order_204 : decode cX12_order 204 = .ok (.iastore, 1) := by decide +kernel
theorem dX12_order_205 : decode cX12_order 205 = .ok (.iload 7, 2) := by decide +kernel
theorem dX12_order_207 : decode cX12_order 207 = .ok (.iconst 1, 1) := by decide +kernel
theorem dX12_order_208 : decode cX12_order 208 = .ok (.aload_n 0, 1) := by decide +kernel
theorem dX12_order_209 : decode cX12_order 209 = .ok (.getfield 123, 3) := by decide +kernel
theorem dX12_order_212 : decode cX12_order 212 = .ok (.iload 8, 2) := by decide +kernel
theorem dX12_order_214 : decode cX12_order 214 = .ok (.iaload, 1) := by decide +kernel
theorem dX12_order_215 : decode cX12_order 215 = .ok (.ishl, 1) := by decide +kernel
theorem dX12_order_216 : decode cX12_order 216 = .ok (.ior, 1) := by decide +kernel
theorem dX12_order_217 : decode cX12_order 217 = .ok (.istore 7, 2) := by decide +kernel
theorem dX12_order_219 : decode cX12_order 219 = .ok (.iload 6, 2) := by decide +kernel
theorem dX12_order_221 : decode cX12_order 221 = .ok (.iload_n 1, 1) := by decide +kernel
theorem dX12_order_222 : decode cX12_order 222 = .ok (.idiv, 1) := by decide +kernel
theorem dX12_order_223 : decode cX12_order 223 = .ok (.istore 6, 2) := by decide +kernel
theorem dX12_order_225 : decode cX12_order 225 = .ok (.iinc 8 (-1), 3) := by decide +kernel
theorem dX12_order_228 : decode cX12_order 228 = .ok (.goto (-39), 3) := by decide +kernel
theorem dX12_order_231 : decode cX12_order 231 = .ok (.iload 7, 2) := by decide +kernel
theorem dX12_order_233 : decode cX12_order 233 = .ok (.iconst 1, 1) := by decide +kernel
theorem dX12_order_234 : decode cX12_order 234 = .ok (.iload_n 1, 1) := by decide +kernel
theorem dX12_order_235 : decode cX12_order 235 = .ok (.ishl, 1) := by decide +kernel
theorem dX12_order_236 : decode cX12_order 236 = .ok (.iconst 1, 1) := by decide +kernel
theorem dX12_order_237 : decode cX12_order 237 = .ok (.isub, 1) := by decide +kernel
theorem dX12_order_238 : decode cX12_order 238 = .ok (.if_icmp .eq 6, 3) := by decide +kernel
theorem dX12_order_241 : decode cX12_order 241 = .ok (.goto 172, 3) := by decide +kernel
theorem dX12_order_244 : decode cX12_order 244 = .ok (.aload_n 0, 1) := by decide +kernel
theorem dX12_order_245 : decode cX12_order 245 = .ok (.iconst (-1), 1) := by decide +kernel
theorem dX12_order_246 : decode cX12_order 246 = .ok (.invokevirtual 400, 3) := by decide +kernel
theorem dX12_order_249 : decode cX12_order 249 = .ok (.iconst 0, 1) := by decide +kernel
theorem dX12_order_250 : decode cX12_order 250 = .ok (.istore 8, 2) := by decide +kernel
theorem dX12_order_252 : decode cX12_order 252 = .ok (.iconst 0, 1) := by decide +kernel
theorem dX12_order_253 : decode cX12_order 253 = .ok (.istore 9, 2) := by decide +kernel
theorem dX12_order_255 : decode cX12_order 255 = .ok (.iload 9, 2) := by decide +kernel
theorem dX12_order_257 : decode cX12_order 257 = .ok (.iload_n 1, 1) := by decide +kernel
theorem dX12_order_258 : decode cX12_order 258 = .ok (.if_icmp .ge 91, 3) := by decide +kernel
theorem dX12_order_261 : decode cX12_order 261 = .ok (.iconst 3, 1) := by decide +kernel
theorem dX12_order_262 : decode cX12_order 262 = .ok (.aload_n 0, 1) := by decide +kernel
theorem dX12_order_263 : decode cX12_order 263 = .ok (.getfield 123, 3) := by decide +kernel
theorem dX12_order_266 : decode cX12_order 266 = .ok (.iload 9, 2) := by decide +kernel
theorem dX12_order_268 : decode cX12_order 268 = .ok (.iaload, 1) := by decide +kernel
theorem dX12_order_269 : decode cX12_order 269 = .ok (.imul, 1) := by decide +kernel
theorem dX12_order_270 : decode cX12_order 270 = .ok (.istore 10, 2) := by decide +kernel
theorem dX12_order_272 : decode cX12_order 272 = .ok (.aload_n 0, 1) := by decide +kernel
theorem dX12_order_273 : decode cX12_order 273 = .ok (.iconst 3, 1) := by decide +kernel
theorem dX12_order_274 : decode cX12_order 274 = .ok (.aload_n 0, 1) := by decide +kernel
theorem dX12_order_275 : decode cX12_order 275 = .ok (.getfield 129, 3) := by decide +kernel
theorem dX12_order_278 : decode cX12_order 278 = .ok (.iload 10, 2) := by decide +kernel
theorem dX12_order_280 : decode cX12_order 280 = .ok (.iaload, 1) := by decide +kernel
theorem dX12_order_281 : decode cX12_order 281 = .ok (.aload_n 0, 1) := by decide +kernel
theorem dX12_order_282 : decode cX12_order 282 = .ok (.getfield 129, 3) := by decide +kernel
theorem dX12_order_285 : decode cX12_order 285 = .ok (.iload 10, 2) := by decide +kernel
theorem dX12_order_287 : decode cX12_order 287 = .ok (.iconst 1, 1) := by decide +kernel
theorem dX12_order_288 : decode cX12_order 288 = .ok (.iadd, 1) := by decide +kernel
theorem dX12_order_289 : decode cX12_order 289 = .ok (.iaload, 1) := by decide +kernel
theorem dX12_order_290 : decode cX12_order 290 = .ok (.aload_n 0, 1) := by decide +kernel
theorem dX12_order_291 : decode cX12_order 291 = .ok (.getfield 129, 3) := by decide +kernel
theorem dX12_order_294 : decode cX12_order 294 = .ok (.iload 10, 2) := by decide +kernel
theorem dX12_order_296 : decode cX12_order 296 = .ok (.iconst 2, 1) := by decide +kernel
theorem dX12_order_297 : decode cX12_order 297 = .ok (.iadd, 1) := by decide +kernel
theorem dX12_order_298 : decode cX12_order 298 = .ok (.iaload, 1) := by decide +kernel
theorem dX12_order_299 : decode cX12_order 299 = .ok (.iconst 0, 1) := by decide +kernel
theorem dX12_order_300 : decode cX12_order 300 = .ok (.invokevirtual 379, 3) := by decide +kernel
theorem dX12_order_303 : decode cX12_order 303 = .ok (.ifCond .le 9, 3) := by decide +kernel
theorem dX12_order_306 : decode cX12_order 306 = .ok (.iinc 8 1, 3) := by decide +kernel
theorem dX12_order_309 : decode cX12_order 309 = .ok (.goto 34, 3) := by decide +kernel
theorem dX12_order_312 : decode cX12_order 312 = .ok (.aload_n 0, 1) := by decide +kernel
theorem dX12_order_313 : decode cX12_order 313 = .ok (.aload_n 0, 1) := by decide +kernel
theorem dX12_order_314 : decode cX12_order 314 = .ok (.getfield 129, 3) := by decide +kernel
theorem dX12_order_317 : decode cX12_order 317 = .ok (.iload 10, 2) := by decide +kernel
theorem dX12_order_319 : decode cX12_order 319 = .ok (.iaload, 1) := by decide +kernel
theorem dX12_order_320 : decode cX12_order 320 = .ok (.aload_n 0, 1) := by decide +kernel
theorem dX12_order_321 : decode cX12_order 321 = .ok (.getfield 129, 3) := by decide +kernel
theorem dX12_order_324 : decode cX12_order 324 = .ok (.iload 10, 2) := by decide +kernel
theorem dX12_order_326 : decode cX12_order 326 = .ok (.iconst 1, 1) := by decide +kernel
theorem dX12_order_327 : decode cX12_order 327 = .ok (.iadd, 1) := by decide +kernel
theorem dX12_order_328 : decode cX12_order 328 = .ok (.iaload, 1) := by decide +kernel
theorem dX12_order_329 : decode cX12_order 329 = .ok (.aload_n 0, 1) := by decide +kernel
theorem dX12_order_330 : decode cX12_order 330 = .ok (.getfield 129, 3) := by decide +kernel
theorem dX12_order_333 : decode cX12_order 333 = .ok (.iload 10, 2) := by decide +kernel
theorem dX12_order_335 : decode cX12_order 335 = .ok (.iconst 2, 1) := by decide +kernel
theorem dX12_order_336 : decode cX12_order 336 = .ok (.iadd, 1) := by decide +kernel
theorem dX12_order_337 : decode cX12_order 337 = .ok (.iaload, 1) := by decide +kernel
theorem dX12_order_338 : decode cX12_order 338 = .ok (.bipush 60, 2) := by decide +kernel
theorem dX12_order_340 : decode cX12_order 340 = .ok (.invokevirtual 387, 3) := by decide +kernel
theorem dX12_order_343 : decode cX12_order 343 = .ok (.iinc 9 1, 3) := by decide +kernel
