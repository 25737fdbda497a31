theorem dX12_order_346 : decode cX12_order 346 = .ok (.goto (-91), 3) := by decide +kernel
theorem dX12_order_349 : decode cX12_order 349 = .ok (.aload_n 0, 1) := by decide +kernel
theorem dX12_order_350 : decode cX12_order 350 = .ok (.invokevirtual 409, 3) := by decide +kernel
theorem dX12_order_353 : decode cX12_order 353 = .ok (.istore 9, 2) := by decide +kernel
theorem dX12_order_355 : decode cX12_order 355 = .ok (.iload 9, 2) := by decide +kernel
theorem dX12_order_357 : decode cX12_order 357 = .ok (.iload_n 3, 1) := by decide +kernel
theorem dX12_order_358 : decode cX12_order 358 = .ok (.if_icmp .gt 55, 3) := by decide +kernel
theorem dX12_order_361 : decode cX12_order 361 = .ok (.iload 9, 2) := by decide +kernel
theorem dX12_order_363 : decode cX12_order 363 = .ok (.iload_n 3, 1) := by decide +kernel
theorem dX12_order_364 : decode cX12_order 364 = .ok (.if_icmp .ne 13, 3) := by decide +kernel
theorem dX12_order_367 : decode cX12_order 367 = .ok (.iload 8, 2) := by decide +kernel
theorem dX12_order_369 : decode cX12_order 369 = .ok (.iload 4, 2) := by decide +kernel
theorem dX12_order_371 : decode cX12_order 371 = .ok (.if_icmp .lt 6, 3) := by decide +kernel
theorem dX12_order_374 : decode cX12_order 374 = .ok (.goto 39, 3) := by decide +kernel
theorem dX12_order_377 : decode cX12_order 377 = .ok (.iload 9, 2) := by decide +kernel
theorem dX12_order_379 : decode cX12_order 379 = .ok (.istore_n 3, 1) := by decide +kernel
theorem dX12_order_380 : decode cX12_order 380 = .ok (.iload 8, 2) := by decide +kernel
theorem dX12_order_382 : decode cX12_order 382 = .ok (.istore 4, 2) := by decide +kernel
theorem dX12_order_384 : decode cX12_order 384 = .ok (.iconst 0, 1) := by decide +kernel
theorem dX12_order_385 : decode cX12_order 385 = .ok (.istore 10, 2) := by decide +kernel
theorem dX12_order_387 : decode cX12_order 387 = .ok (.iload 10, 2) := by decide +kernel
theorem dX12_order_389 : decode cX12_order 389 = .ok (.iload_n 1, 1) := by decide +kernel
theorem dX12_order_390 : decode cX12_order 390 = .ok (.if_icmp .ge 23, 3) := by decide +kernel
theorem dX12_order_393 : decode cX12_order 393 = .ok (.aload_n 0, 1) := by decide +kernel
theorem dX12_order_394 : decode cX12_order 394 = .ok (.getfield 126, 3) := by decide +kernel
theorem dX12_order_397 : decode cX12_order 397 = .ok (.iload 10, 2) := by decide +kernel
theorem dX12_order_399 : decode cX12_order 399 = .ok (.aload_n 0, 1) := by decide +kernel
theorem dX12_order_400 : decode cX12_order 400 = .ok (.getfield 123, 3) := by decide +kernel
theorem dX12_order_403 : decode cX12_order 403 = .ok (.iload 10, 2) := by decide +kernel
theorem dX12_order_405 : decode cX12_order 405 = .ok (.iaload, 1) := by decide +kernel
theorem dX12_order_406 : decode cX12_order 406 = .ok (.iastore, 1) := by decide +kernel
theorem dX12_order_407 : decode cX12_order 407 = .ok (.iinc 10 1, 3) := by decide +kernel
theorem dX12_order_410 : decode cX12_order 410 = .ok (.goto (-23), 3) := by decide +kernel
theorem dX12_order_413 : decode cX12_order 413 = .ok (.iinc 5 1, 3) := by decide +kernel
theorem dX12_order_416 : decode cX12_order 416 = .ok (.goto (-245), 3) := by decide +kernel
theorem dX12_order_419 : decode cX12_order 419 = .ok (.aload_n 0, 1) := by decide +kernel
theorem dX12_order_420 : decode cX12_order 420 = .ok (.iload_n 1, 1) := by decide +kernel
theorem dX12_order_421 : decode cX12_order 421 = .ok (.putfield 451, 3) := by decide +kernel
theorem dX12_order_424 : decode cX12_order 424 = .ok (.iload_n 3, 1) := by decide +kernel
theorem dX12_order_425 : decode cX12_order 425 = .ok (.ireturn, 1) := by decide +kernel
theorem dX12_orderAt_0 : decode cX12_orderAt 0 = .ok (.aload_n 0, 1) := by decide +kernel
theorem dX12_orderAt_1 : decode cX12_orderAt 1 = .ok (.iconst 0, 1) := by decide +kernel
theorem dX12_orderAt_2 : decode cX12_orderAt 2 = .ok (.putfield 1, 3) := by decide +kernel
theorem dX12_orderAt_5 : decode cX12_orderAt 5 = .ok (.iload_n 1, 1) := by decide +kernel
theorem dX12_orderAt_6 : decode cX12_orderAt 6 = .ok (.iconst 0, 1) := by decide +kernel
theorem dX12_orderAt_7 : decode cX12_orderAt 7 = .ok (.aload_n 0, 1) := by decide +kernel
theorem dX12_orderAt_8 : decode cX12_orderAt 8 = .ok (.getfield 451, 3) := by decide +kernel
theorem dX12_orderAt_11 : decode cX12_orderAt 11 = .ok (.iconst 1, 1) := by decide +kernel
theorem dX12_orderAt_12 : decode cX12_orderAt 12 = .ok (.isub, 1) := by decide +kernel
theorem dX12_orderAt_13 : decode cX12_orderAt 13 = .ok (.invokestatic 254, 3) := by decide +kernel
theorem dX12_orderAt_16 : decode cX12_orderAt 16 = .ok (.ifCond .eq 12, 3) := by decide +kernel
theorem dX12_orderAt_19 : decode cX12_orderAt 19 = .ok (.aload_n 0, 1) := by decide +kernel
theorem dX12_orderAt_20 : decode cX12_orderAt 20 = .ok (.getfield 126, 3) := by decide +kernel
theorem dX12_orderAt_23 : decode cX12_orderAt 23 = .ok (.iload_n 1, 1) := by decide +kernel
theorem dX12_orderAt_24 : decode cX12_orderAt 24 = .ok (.iaload, 1) := by decide +kernel
theorem dX12_orderAt_25 : decode cX12_orderAt 25 = .ok (.goto 4, 3) := by decide +kernel
theorem dX12_orderAt_28 : decode cX12_orderAt 28 = .ok (.iconst (-1), 1) := by decide +kernel
theorem dX12_orderAt_29 : decode cX12_orderAt 29 = .ok (.ireturn, 1) := by decide +kernel
theorem dX12_ripple_0 : decode cX12_ripple 0 = .ok (.aload_n 0, 1) := by decide +kernel
theorem dX12_ripple_1 : decode cX12_ripple 1 = .ok (.iconst 0, 1) := by decide +kernel
theorem dX12_ripple_2 : decode cX12_ripple 2 = .ok (.putfield 1, 3) := by decide +kernel
theorem dX12_ripple_5 : decode cX12_ripple 5 = .ok (.aload_n 0, 1) := by decide +kernel
theorem dX12_ripple_6 : decode cX12_ripple 6 = .ok (.iload_n 1, 1) := by decide +kernel
theorem dX12_ripple_7 : decode cX12_ripple 7 = .ok (.invokevirtual 397, 3) := by decide +kernel
theorem dX12_ripple_10 : decode cX12_ripple 10 = .ok (.ifCond .eq 29, 3) := by decide +kernel
theorem dX12_ripple_13 : decode cX12_ripple 13 = .ok (.aload_n 0, 1) := by decide +kernel
theorem dX12_ripple_14 : decode cX12_ripple 14 = .ok (.iload_n 2, 1) := by decide +kernel
theorem dX12_ripple_15 : decode cX12_ripple 15 = .ok (.invokevirtual 397, 3) := by decide +kernel
theorem dX12_ripple_18 : decode cX12_ripple 18 = .ok (.ifCond .eq 21, 3) := by decide +kernel
theorem dX12_ripple_21 : decode cX12_ripple 21 = .ok (.aload_n 0, 1) := by decide +kernel
theorem dX12_ripple_22 : decode cX12_ripple 22 = .ok (.iload_n 3, 1) := by decide +kernel
theorem dX12_ripple_23 : decode cX12_ripple 23 = .ok (.invokevirtual 316, 3) := by decide +kernel
theorem dX12_ripple_26 : decode cX12_ripple 26 = .ok (.ifCond .eq 13, 3) := by decide +kernel
theorem dX12_ripple_29 : decode cX12_ripple 29 = .ok (.iload 4, 2) := by decide +kernel
theorem dX12_ripple_31 : decode cX12_ripple 31 = .ok (.iconst 0, 1) := by decide +kernel
theorem dX12_ripple_32 : decode cX12_ripple 32 = .ok (.iconst 2, 1) := by decide +kernel
theorem dX12_ripple_33 : decode cX12_ripple 33 = .ok (.invokestatic 254, 3) := by decide +kernel
theorem dX12_ripple_36 : decode cX12_ripple 36 = .ok (.ifCond .ne 5, 3) := by decide +kernel
theorem dX12_ripple_39 : decode cX12_ripple 39 = .ok (.iconst (-1), 1) := by decide +kernel
theorem dX12_ripple_40 : decode cX12_ripple 40 = .ok (.ireturn, 1) := by decide +kernel
theorem dX12_ripple_41 : decode cX12_ripple 41 = .ok (.aload_n 0, 1) := by decide +kernel
theorem dX12_ripple_42 : decode cX12_ripple 42 = .ok (.iconst (-1), 1) := by decide +kernel
theorem dX12_ripple_43 : decode cX12_ripple 43 = .ok (.invokevirtual 400, 3) := by decide +kernel
theorem dX12_ripple_46 : decode cX12_ripple 46 = .ok (.aload_n 0, 1) := by decide +kernel
theorem dX12_ripple_47 : decode cX12_ripple 47 = .ok (.getfield 62, 3) := by decide +kernel
theorem dX12_ripple_50 : decode cX12_ripple 50 = .ok (.iload_n 1, 1) := by decide +kernel
theorem dX12_ripple_51 : decode cX12_ripple 51 = .ok (.iaload, 1) := by decide +kernel
theorem dX12_ripple_52 : decode cX12_ripple 52 = .ok (.iload_n 3, 1) := by decide +kernel
theorem dX12_ripple_53 : decode cX12_ripple 53 = .ok (.invokestatic 272, 3) := by decide +kernel
theorem dX12_ripple_56 : decode cX12_ripple 56 = .ok (.ifCond .eq 16, 3) := by decide +kernel
theorem dX12_ripple_59 : decode cX12_ripple 59 = .ok (.aload_n 0, 1) := by decide +kernel
theorem dX12_ripple_60 : decode cX12_ripple 60 = .ok (.getfield 62, 3) := by decide +kernel
theorem dX12_ripple_63 : decode cX12_ripple 63 = .ok (.iload_n 2, 1) := by decide +kernel
theorem dX12_ripple_64 : decode cX12_ripple 64 = .ok (.iaload, 1) := by decide +kernel
theorem dX12_ripple_65 : decode cX12_ripple 65 = .ok (.iload_n 3, 1) := by decide +kernel
theorem dX12_ripple_66 : decode cX12_ripple 66 = .ok (.invokestatic 272, 3) := by decide +kernel
theorem dX12_ripple_69 : decode cX12_ripple 69 = .ok (.ifCond .eq 5, 3) := by decide +kernel
theorem dX12_ripple_72 : decode cX12_ripple 72 = .ok (.iconst (-1), 1) := by decide +kernel
theorem dX12_ripple_73 : decode cX12_ripple 73 = .ok (.ireturn, 1) := by decide +kernel
theorem dX12_ripple_74 : decode cX12_ripple 74 = .ok (.aload_n 0, 1) := by decide +kernel
theorem dX12_ripple_75 : decode cX12_ripple 75 = .ok (.getfield 62, 3) := by decide +kernel
theorem dX12_ripple_78 : decode cX12_ripple 78 = .ok (.iload_n 2, 1) := by decide +kernel
theorem dX12_ripple_79 : decode cX12_ripple 79 = .ok (.iaload, 1) := by decide +kernel
theorem dX12_ripple_80 : decode cX12_ripple 80 = .ok (.istore 5, 2) := by decide +kernel
theorem dX12_ripple_82 : decode cX12_ripple 82 = .ok (.aload_n 0, 1) := by decide +kernel
theorem dX12_ripple_83 : decode cX12_ripple 83 = .ok (.iload 5, 2) := by decide +kernel
theorem dX12_ripple_85 : decode cX12_ripple 85 = .ok (.iconst 1, 1) := by decide +kernel
theorem dX12_ripple_86 : decode cX12_ripple 86 = .ok (.iload_n 3, 1) := by decide +kernel
theorem dX12_ripple_87 : decode cX12_ripple 87 = .ok (.ishl, 1) := by decide +kernel
theorem dX12_ripple_88 : decode cX12_ripple 88 = .ok (.ior, 1) := by decide +kernel
theorem dX12_ripple_89 : decode cX12_ripple 89 = .ok (.invokevirtual 354, 3) := by decide +kernel
theorem dX12_ripple_92 : decode cX12_ripple 92 = .ok (.iload 5, 2) := by decide +kernel
theorem dX12_ripple_94 : decode cX12_ripple 94 = .ok (.iconst (-1), 1) := by decide +kernel
theorem dX12_ripple_95 : decode cX12_ripple 95 = .ok (.ixor, 1) := by decide +kernel
theorem dX12_ripple_96 : decode cX12_ripple 96 = .ok (.iand, 1) := by decide +kernel
theorem dX12_ripple_97 : decode cX12_ripple 97 = .ok (.istore 6, 2) := by decide +kernel
theorem dX12_ripple_99 : decode cX12_ripple 99 = .ok (.iload 4, 2) := by decide +kernel
theorem dX12_ripple_101 : decode cX12_ripple 101 = .ok (.ifCond .ne 6, 3) := by decide +kernel
theorem dX12_ripple_104 : decode cX12_ripple 104 = .ok (.iload 6, 2) := by decide +kernel
theorem dX12_ripple_106 : decode cX12_ripple 106 = .ok (.ireturn, 1) := by decide +kernel
theorem dX12_ripple_107 : decode cX12_ripple 107 = .ok (.iconst 0, 1) := by decide +kernel
theorem dX12_ripple_108 : decode cX12_ripple 108 = .ok (.istore 7, 2) := by decide +kernel
theorem dX12_ripple_110 : decode cX12_ripple 110 = .ok (.iconst 0, 1) := by decide +kernel
theorem dX12_ripple_111 : decode cX12_ripple 111 = .ok (.istore 8, 2) := by decide +kernel
theorem dX12_ripple_113 : decode cX12_ripple 113 = .ok (.iload 8, 2) := by decide +kernel
theorem dX12_ripple_115 : decode cX12_ripple 115 = .ok (.aload_n 0, 1) := by decide +kernel
theorem dX12_ripple_116 : decode cX12_ripple 116 = .ok (.getfield 357, 3) := by decide +kernel
theorem dX12_ripple_119 : decode cX12_ripple 119 = .ok (.if_icmp .ge 55, 3) := by decide +kernel
theorem dX12_ripple_122 : decode cX12_ripple 122 = .ok (.iload 7, 2) := by decide +kernel
theorem dX12_ripple_124 : decode cX12_ripple 124 = .ok (.aload_n 0, 1) := by decide +kernel
theorem dX12_ripple_125 : decode cX12_ripple 125 = .ok (.getfield 80, 3) := by decide +kernel
theorem dX12_ripple_128 : decode cX12_ripple 128 = .ok (.iload 8, 2) := by decide +kernel
theorem dX12_ripple_130 : decode cX12_ripple 130 = .ok (.iaload, 1) := by decide +kernel
theorem dX12_ripple_131 : decode cX12_ripple 131 = .ok (.iload_n 2, 1) := by decide +kernel
theorem dX12_ripple_132 : decode cX12_ripple 132 = .ok (.if_icmp .ne 32, 3) := by decide +kernel
theorem dX12_ripple_135 : decode cX12_ripple 135 = .ok (.aload_n 0, 1) := by decide +kernel
theorem dX12_ripple_136 : decode cX12_ripple 136 = .ok (.getfield 89, 3) := by decide +kernel
theorem dX12_ripple_139 : decode cX12_ripple 139 = .ok (.iload 8, 2) := by decide +kernel
theorem dX12_ripple_141 : decode cX12_ripple 141 = .ok (.iaload, 1) := by decide +kernel
theorem dX12_ripple_142 : decode cX12_ripple 142 = .ok (.ifCond .le 22, 3) := by decide +kernel
theorem dX12_ripple_145 : decode cX12_ripple 145 = .ok (.iload 6, 2) := by decide +kernel
theorem dX12_ripple_147 : decode cX12_ripple 147 = .ok (.aload_n 0, 1) := by decide +kernel
theorem dX12_ripple_148 : decode cX12_ripple 148 = .ok (.getfield 83, 3) := by decide +kernel
theorem dX12_ripple_151 : decode cX12_ripple 151 = .ok (.iload 8, 2) := by decide +kernel
theorem dX12_ripple_153 : decode cX12_ripple 153 = .ok (.iaload, 1) := by decide +kernel
theorem dX12_ripple_154 : decode cX12_ripple 154 = .ok (.invokestatic 272, 3) := by decide +kernel
theorem dX12_ripple_157 : decode cX12_ripple 157 = .ok (.ifCond .eq 7, 3) := by decide +kernel
theorem dX12_ripple_160 : decode cX12_ripple 160 = .ok (.iconst 1, 1) := by decide +kernel
theorem dX12_ripple_161 : decode cX12_ripple 161 = .ok (.goto 4, 3) := by decide +kernel
theorem dX12_ripple_164 : decode cX12_ripple 164 = .ok (.iconst 0, 1) := by decide +kernel
theorem dX12_ripple_165 : decode cX12_ripple 165 = .ok (.iadd, 1) := by decide +kernel
theorem dX12_ripple_166 : decode cX12_ripple 166 = .ok (.istore 7, 2) := by decide +kernel
theorem dX12_ripple_168 : decode cX12_ripple 168 = .ok (.iinc 8 1, 3) := by decide +kernel
theorem dX12_ripple_171 : decode cX12_ripple 171 = .ok (.goto (-58), 3) := by decide +kernel
theorem dX12_ripple_174 : decode cX12_ripple 174 = .ok (.iload 4, 2) := by decide +kernel
theorem dX12_ripple_176 : decode cX12_ripple 176 = .ok (.iconst 1, 1) := by decide +kernel
theorem dX12_ripple_177 : decode cX12_ripple 177 = .ok (.if_icmp .ne 6, 3) := by decide +kernel
theorem dX12_ripple_180 : decode cX12_ripple 180 = .ok (.iload 7, 2) := by decide +kernel
theorem dX12_ripple_182 : decode cX12_ripple 182 = .ok (.ireturn, 1) := by decide +kernel
theorem dX12_ripple_183 : decode cX12_ripple 183 = .ok (.aload_n 0, 1) := by decide +kernel
theorem dX12_ripple_184 : decode cX12_ripple 184 = .ok (.iload_n 2, 1) := by decide +kernel
theorem dX12_ripple_185 : decode cX12_ripple 185 = .ok (.iload_n 3, 1) := by decide +kernel
theorem dX12_ripple_186 : decode cX12_ripple 186 = .ok (.iconst (-1), 1) := by decide +kernel
theorem dX12_ripple_187 : decode cX12_ripple 187 = .ok (.invokevirtual 375, 3) := by decide +kernel
theorem dX12_ripple_190 : decode cX12_ripple 190 = .ok (.aload_n 0, 1) := by decide +kernel
theorem dX12_ripple_191 : decode cX12_ripple 191 = .ok (.invokevirtual 409, 3) := by decide +kernel
theorem dX12_ripple_194 : decode cX12_ripple 194 = .ok (.ireturn, 1) := by decide +kernel
theorem dX12_unsaid_0 : decode cX12_unsaid 0 = .ok (.aload_n 0, 1) := by decide +kernel
theorem dX12_unsaid_1 : decode cX12_unsaid 1 = .ok (.iconst 0, 1) := by decide +kernel
theorem dX12_unsaid_2 : decode cX12_unsaid 2 = .ok (.putfield 1, 3) := by decide +kernel
theorem dX12_unsaid_5 : decode cX12_unsaid 5 = .ok (.iload_n 1, 1) := by decide +kernel
theorem dX12_unsaid_6 : decode cX12_unsaid 6 = .ok (.iconst 0, 1) := by decide +kernel
theorem dX12_unsaid_7 : decode cX12_unsaid 7 = .ok (.aload_n 0, 1) := by decide +kernel
theorem dX12_unsaid_8 : decode cX12_unsaid 8 = .ok (.getfield 33, 3) := by decide +kernel
theorem dX12_unsaid_11 : decode cX12_unsaid 11 = .ok (.sipush 172, 3) := by decide +kernel
theorem dX12_unsaid_14 : decode cX12_unsaid 14 = .ok (.iaload, 1) := by decide +kernel
theorem dX12_unsaid_15 : decode cX12_unsaid 15 = .ok (.iconst 1, 1) := by decide +kernel
theorem dX12_unsaid_16 : decode cX12_unsaid 16 = .ok (.isub, 1) := by decide +kernel
theorem dX12_unsaid_17 : decode cX12_unsaid 17 = .ok (.invokestatic 254, 3) := by decide +kernel
theorem dX12_unsaid_20 : decode cX12_unsaid 20 = .ok (.ifCond .ne 5, 3) := by decide +kernel
theorem dX12_unsaid_23 : decode cX12_unsaid 23 = .ok (.iconst (-1), 1) := by decide +kernel
theorem dX12_unsaid_24 : decode cX12_unsaid 24 = .ok (.ireturn, 1) := by decide +kernel
theorem dX12_unsaid_25 : decode cX12_unsaid 25 = .ok (.aload_n 0, 1) := by decide +kernel
theorem dX12_unsaid_26 : decode cX12_unsaid 26 = .ok (.iload_n 1, 1) := by decide +kernel
theorem dX12_unsaid_27 : decode cX12_unsaid 27 = .ok (.invokevirtual 400, 3) := by decide +kernel
theorem dX12_unsaid_30 : decode cX12_unsaid 30 = .ok (.aload_n 0, 1) := by decide +kernel
theorem dX12_unsaid_31 : decode cX12_unsaid 31 = .ok (.invokevirtual 409, 3) := by decide +kernel
theorem dX12_unsaid_34 : decode cX12_unsaid 34 = .ok (.ireturn, 1) := by decide +kernel
theorem dX12_lay_0 : decode cX12_lay 0 = .ok (.aload_n 0, 1) := by decide +kernel
theorem dX12_lay_1 : decode cX12_lay 1 = .ok (.getfield 132, 3) := by decide +kernel
theorem dX12_lay_4 : decode cX12_lay 4 = .ok (.iconst 0, 1) := by decide +kernel
theorem dX12_lay_5 : decode cX12_lay 5 = .ok (.iload_n 1, 1) := by decide +kernel
theorem dX12_lay_6 : decode cX12_lay 6 = .ok (.bipush 25, 2) := by decide +kernel
theorem dX12_lay_8 : decode cX12_lay 8 = .ok (.idiv, 1) := by decide +kernel
theorem dX12_lay_9 : decode cX12_lay 9 = .ok (.iastore, 1) := by decide +kernel
theorem dX12_lay_10 : decode cX12_lay 10 = .ok (.aload_n 0, 1) := by decide +kernel
theorem dX12_lay_11 : decode cX12_lay 11 = .ok (.getfield 132, 3) := by decide +kernel
theorem dX12_lay_14 : decode cX12_lay 14 = .ok (.iconst 1, 1) := by decide +kernel
theorem dX12_lay_15 : decode cX12_lay 15 = .ok (.iload_n 1, 1) := by decide +kernel
theorem dX12_lay_16 : decode cX12_lay 16 = .ok (.iconst 5, 1) := by decide +kernel
theorem dX12_lay_17 : decode cX12_lay 17 = .ok (.idiv, 1) := by decide +kernel
theorem dX12_lay_18 : decode cX12_lay 18 = .ok (.iconst 5, 1) := by decide +kernel
theorem dX12_lay_19 : decode cX12_lay 19 = .ok (.irem, 1) := by decide +kernel
theorem dX12_lay_20 : decode cX12_lay 20 = .ok (.iastore, 1) := by decide +kernel
theorem dX12_lay_21 : decode cX12_lay 21 = .ok (.aload_n 0, 1) := by decide +kernel
theorem dX12_lay_22 : decode cX12_lay 22 = .ok (.getfield 132, 3) := by decide +kernel
theorem dX12_lay_25 : decode cX12_lay 25 = .ok (.iconst 2, 1) := by decide +kernel
theorem dX12_lay_26 : decode cX12_lay 26 = .ok (.iload_n 1, 1) := by decide +kernel
theorem dX12_lay_27 : decode cX12_lay 27 = .ok (.iconst 5, 1) := by decide +kernel
theorem dX12_lay_28 : decode cX12_lay 28 = .ok (.irem, 1) := by decide +kernel
theorem dX12_lay_29 : decode cX12_lay 29 = .ok (.iastore, 1) := by decide +kernel
theorem dX12_lay_30 : decode cX12_lay 30 = .ok (.aload_n 0, 1) := by decide +kernel
theorem dX12_lay_31 : decode cX12_lay 31 = .ok (.getfield 132, 3) := by decide +kernel
theorem dX12_lay_34 : decode cX12_lay 34 = .ok (.iconst 3, 1) := by decide +kernel
theorem dX12_lay_35 : decode cX12_lay 35 = .ok (.aload_n 0, 1) := by decide +kernel
theorem dX12_lay_36 : decode cX12_lay 36 = .ok (.getfield 132, 3) := by decide +kernel
theorem dX12_lay_39 : decode cX12_lay 39 = .ok (.iconst 0, 1) := by decide +kernel
theorem dX12_lay_40 : decode cX12_lay 40 = .ok (.iaload, 1) := by decide +kernel
theorem dX12_lay_41 : decode cX12_lay 41 = .ok (.iconst 2, 1) := by decide +kernel
theorem dX12_lay_42 : decode cX12_lay 42 = .ok (.aload_n 0, 1) := by decide +kernel
theorem dX12_lay_43 : decode cX12_lay 43 = .ok (.getfield 132, 3) := by decide +kernel
theorem dX12_lay_46 : decode cX12_lay 46 = .ok (.iconst 1, 1) := by decide +kernel
theorem dX12_lay_47 : decode cX12_lay 47 = .ok (.iaload, 1) := by decide +kernel
theorem dX12_lay_48 : decode cX12_lay 48 = .ok (.imul, 1) := by decide +kernel
theorem dX12_lay_49 : decode cX12_lay 49 = .ok (.iadd, 1) := by decide +kernel
theorem dX12_lay_50 : decode cX12_lay 50 = .ok (.iconst 3, 1) := by decide +kernel
theorem dX12_lay_51 : decode cX12_lay 51 = .ok (.aload_n 0, 1) := by decide +kernel
theorem dX12_lay_52 : decode cX12_lay 52 = .ok (.getfield 132, 3) := by decide +kernel
theorem dX12_lay_55 : decode cX12_lay 55 = .ok (.iconst 2, 1) := by decide +kernel
theorem dX12_lay_56 : decode cX12_lay 56 = .ok (.iaload, 1) := by decide +kernel
theorem dX12_lay_57 : decode cX12_lay 57 = .ok (.imul, 1) := by decide +kernel
theorem dX12_lay_58 : decode cX12_lay 58 = .ok (.iadd, 1) := by decide +kernel
theorem dX12_lay_59 : decode cX12_lay 59 = .ok (.iconst 5, 1) := by decide +kernel
theorem dX12_lay_60 : decode cX12_lay 60 = .ok (.irem, 1) := by decide +kernel
theorem dX12_lay_61 : decode cX12_lay 61 = .ok (.iastore, 1) := by decide +kernel
theorem dX12_lay_62 : decode cX12_lay 62 = .ok (.return_, 1) := by decide +kernel
theorem dX12_cord_0 : decode cX12_cord 0 = .ok (.aload_n 0, 1) := by decide +kernel
theorem dX12_cord_1 : decode cX12_cord 1 = .ok (.iconst 0, 1) := by decide +kernel
theorem dX12_cord_2 : decode cX12_cord 2 = .ok (.putfield 1, 3) := by decide +kernel
theorem dX12_cord_5 : decode cX12_cord 5 = .ok (.iload_n 1, 1) := by decide +kernel
theorem dX12_cord_6 : decode cX12_cord 6 = .ok (.iconst 0, 1) := by decide +kernel
theorem dX12_cord_7 : decode cX12_cord 7 = .ok (.bipush 124, 2) := by decide +kernel
theorem dX12_cord_9 : decode cX12_cord 9 = .ok (.invokestatic 254, 3) := by decide +kernel
theorem dX12_cord_12 : decode cX12_cord 12 = .ok (.ifCond .eq 12, 3) := by decide +kernel
theorem dX12_cord_15 : decode cX12_cord 15 = .ok (.iload_n 2, 1) := by decide +kernel
theorem dX12_cord_16 : decode cX12_cord 16 = .ok (.iconst 0, 1) := by decide +kernel
theorem dX12_cord_17 : decode cX12_cord 17 = .ok (.iconst 3, 1) := by decide +kernel
theorem dX12_cord_18 : decode cX12_cord 18 = .ok (.invokestatic 254, 3) := by decide +kernel
theorem dX12_cord_21 : decode cX12_cord 21 = .ok (.ifCond .ne 5, 3) := by decide +kernel
theorem dX12_cord_24 : decode cX12_cord 24 = .ok (.iconst (-1), 1) := by decide +kernel
theorem dX12_cord_25 : decode cX12_cord 25 = .ok (.ireturn, 1) := by decide +kernel
theorem dX12_cord_26 : decode cX12_cord 26 = .ok (.aload_n 0, 1) := by decide +kernel
theorem dX12_cord_27 : decode cX12_cord 27 = .ok (.iload_n 1, 1) := by decide +kernel
theorem dX12_cord_28 : decode cX12_cord 28 = .ok (.invokevirtual 454, 3) := by decide +kernel
theorem dX12_cord_31 : decode cX12_cord 31 = .ok (.aload_n 0, 1) := by decide +kernel
theorem dX12_cord_32 : decode cX12_cord 32 = .ok (.getfield 132, 3) := by decide +kernel
theorem dX12_cord_35 : decode cX12_cord 35 = .ok (.iload_n 2, 1) := by decide +kernel
theorem dX12_cord_36 : decode cX12_cord 36 = .ok (.iaload, 1) := by decide +kernel
theorem dX12_cord_37 : decode cX12_cord 37 = .ok (.ireturn, 1) := by decide +kernel
theorem dX12_takesCord_0 : decode cX12_takesCord 0 = .ok (.aload_n 0, 1) := by decide +kernel
theorem dX12_takesCord_1 : decode cX12_takesCord 1 = .ok (.sipush 940, 3) := by decide +kernel
theorem dX12_takesCord_4 : decode cX12_takesCord 4 = .ok (.invokevirtual 304, 3) := by decide +kernel
theorem dX12_takesCord_7 : decode cX12_takesCord 7 = .ok (.aload_n 0, 1) := by decide +kernel
theorem dX12_takesCord_8 : decode cX12_takesCord 8 = .ok (.getfield 18, 3) := by decide +kernel
theorem dX12_takesCord_11 : decode cX12_takesCord 11 = .ok (.iconst 4, 1) := by decide +kernel
theorem dX12_takesCord_12 : decode cX12_takesCord 12 = .ok (.if_icmp .eq 5, 3) := by decide +kernel
theorem dX12_takesCord_15 : decode cX12_takesCord 15 = .ok (.iconst 0, 1) := by decide +kernel
theorem dX12_takesCord_16 : decode cX12_takesCord 16 = .ok (.ireturn, 1) := by decide +kernel
theorem dX12_takesCord_17 : decode cX12_takesCord 17 = .ok (.iconst 0, 1) := by decide +kernel
theorem dX12_takesCord_18 : decode cX12_takesCord 18 = .ok (.istore_n 1, 1) := by decide +kernel
theorem dX12_takesCord_19 : decode cX12_takesCord 19 = .ok (.iload_n 1, 1) := by decide +kernel
theorem dX12_takesCord_20 : decode cX12_takesCord 20 = .ok (.iconst 4, 1) := by decide +kernel
theorem dX12_takesCord_21 : decode cX12_takesCord 21 = .ok (.if_icmp .ge 32, 3) := by decide +kernel
theorem dX12_takesCord_24 : decode cX12_takesCord 24 = .ok (.aload_n 0, 1) := by decide +kernel
theorem dX12_takesCord_25 : decode cX12_takesCord 25 = .ok (.getfield 135, 3) := by decide +kernel
theorem dX12_takesCord_28 : decode cX12_takesCord 28 = .ok (.iload_n 1, 1) := by decide +kernel
theorem dX12_takesCord_29 : decode cX12_takesCord 29 = .ok (.aload_n 0, 1) := by decide +kernel
theorem dX12_takesCord_30 : decode cX12_takesCord 30 = .ok (.iload_n 1, 1) := by decide +kernel
theorem dX12_takesCord_31 : decode cX12_takesCord 31 = .ok (.invokevirtual 448, 3) := by decide +kernel
theorem dX12_takesCord_34 : decode cX12_takesCord 34 = .ok (.iastore, 1) := by decide +kernel
theorem dX12_takesCord_35 : decode cX12_takesCord 35 = .ok (.aload_n 0, 1) := by decide +kernel
theorem dX12_takesCord_36 : decode cX12_takesCord 36 = .ok (.getfield 135, 3) := by decide +kernel
theorem dX12_takesCord_39 : decode cX12_takesCord 39 = .ok (.iload_n 1, 1) := by decide +kernel
theorem dX12_takesCord_40 : decode cX12_takesCord 40 = .ok (.iaload, 1) := by decide +kernel
theorem dX12_takesCord_41 : decode cX12_takesCord 41 = .ok (.iconst 4, 1) := by decide +kernel
theorem dX12_takesCord_42 : decode cX12_takesCord 42 = .ok (.if_icmp .le 5, 3) := by decide +kernel
theorem dX12_takesCord_45 : decode cX12_takesCord 45 = .ok (.iconst 0, 1) := by decide +kernel
theorem dX12_takesCord_46 : decode cX12_takesCord 46 = .ok (.ireturn, 1) := by decide +kernel
theorem dX12_takesCord_47 : decode cX12_takesCord 47 = .ok (.iinc 1 1, 3) := by decide +kernel
theorem dX12_takesCord_50 : decode cX12_takesCord 50 = .ok (.goto (-31), 3) := by decide +kernel
theorem dX12_takesCord_53 : decode cX12_takesCord 53 = .ok (.iconst 1, 1) := by decide +kernel
theorem dX12_takesCord_54 : decode cX12_takesCord 54 = .ok (.ireturn, 1) := by decide +kernel
theorem dX12_readSeen_0 : decode cX12_readSeen 0 = .ok (.aload_n 0, 1) := by decide +kernel
theorem dX12_readSeen_1 : decode cX12_readSeen 1 = .ok (.getfield 135, 3) := by decide +kernel
theorem dX12_readSeen_4 : decode cX12_readSeen 4 = .ok (.iconst 0, 1) := by decide +kernel
theorem dX12_readSeen_5 : decode cX12_readSeen 5 = .ok (.iaload, 1) := by decide +kernel
theorem dX12_readSeen_6 : decode cX12_readSeen 6 = .ok (.iconst 2, 1) := by decide +kernel
theorem dX12_readSeen_7 : decode cX12_readSeen 7 = .ok (.aload_n 0, 1) := by decide +kernel
theorem dX12_readSeen_8 : decode cX12_readSeen 8 = .ok (.getfield 135, 3) := by decide +kernel
theorem dX12_readSeen_11 : decode cX12_readSeen 11 = .ok (.iconst 1, 1) := by decide +kernel
theorem dX12_readSeen_12 : decode cX12_readSeen 12 = .ok (.iaload, 1) := by decide +kernel
theorem dX12_readSeen_13 : decode cX12_readSeen 13 = .ok (.imul, 1) := by decide +kernel
theorem dX12_readSeen_14 : decode cX12_readSeen 14 = .ok (.iadd, 1) := by decide +kernel
theorem dX12_readSeen_15 : decode cX12_readSeen 15 = .ok (.iconst 3, 1) := by decide +kernel
theorem dX12_readSeen_16 : decode cX12_readSeen 16 = .ok (.aload_n 0, 1) := by decide +kernel
theorem dX12_readSeen_17 : decode cX12_readSeen 17 = .ok (.getfield 135, 3) := by decide +kernel
theorem dX12_readSeen_20 : decode cX12_readSeen 20 = .ok (.iconst 2, 1) := by decide +kernel
theorem dX12_readSeen_21 : decode cX12_readSeen 21 = .ok (.iaload, 1) := by decide +kernel
theorem dX12_readSeen_22 : decode cX12_readSeen 22 = .ok (.imul, 1) := by decide +kernel
theorem dX12_readSeen_23 : decode cX12_readSeen 23 = .ok (.iadd, 1) := by decide +kernel
theorem dX12_readSeen_24 : decode cX12_readSeen 24 = .ok (.iconst 5, 1) := by decide +kernel
theorem dX12_readSeen_25 : decode cX12_readSeen 25 = .ok (.irem, 1) := by decide +kernel
theorem dX12_readSeen_26 : decode cX12_readSeen 26 = .ok (.aload_n 0, 1) := by decide +kernel
theorem dX12_readSeen_27 : decode cX12_readSeen 27 = .ok (.getfield 135, 3) := by decide +kernel
theorem dX12_readSeen_30 : decode cX12_readSeen 30 = .ok (.iconst 3, 1) := by decide +kernel
theorem dX12_readSeen_31 : decode cX12_readSeen 31 = .ok (.iaload, 1) := by decide +kernel
theorem dX12_readSeen_32 : decode cX12_readSeen 32 = .ok (.if_icmp .ne 31, 3) := by decide +kernel
theorem dX12_readSeen_35 : decode cX12_readSeen 35 = .ok (.bipush 25, 2) := by decide +kernel
theorem dX12_readSeen_37 : decode cX12_readSeen 37 = .ok (.aload_n 0, 1) := by decide +kernel
theorem dX12_readSeen_38 : decode cX12_readSeen 38 = .ok (.getfield 135, 3) := by decide +kernel
theorem dX12_readSeen_41 : decode cX12_readSeen 41 = .ok (.iconst 0, 1) := by decide +kernel
theorem dX12_readSeen_42 : decode cX12_readSeen 42 = .ok (.iaload, 1) := by decide +kernel
theorem dX12_readSeen_43 : decode cX12_readSeen 43 = .ok (.imul, 1) := by decide +kernel
theorem dX12_readSeen_44 : decode cX12_readSeen 44 = .ok (.iconst 5, 1) := by decide +kernel
theorem dX12_readSeen_45 : decode cX12_readSeen 45 = .ok (.aload_n 0, 1) := by decide +kernel
theorem dX12_readSeen_46 : decode cX12_readSeen 46 = .ok (.getfield 135, 3) := by decide +kernel
theorem dX12_readSeen_49 : decode cX12_readSeen 49 = .ok (.iconst 1, 1) := by decide +kernel
theorem dX12_readSeen_50 : decode cX12_readSeen 50 = .ok (.iaload, 1) := by decide +kernel
theorem dX12_readSeen_51 : decode cX12_readSeen 51 = .ok (.imul, 1) := by decide +kernel
theorem dX12_readSeen_52 : decode cX12_readSeen 52 = .ok (.iadd, 1) := by decide +kernel
theorem dX12_readSeen_53 : decode cX12_readSeen 53 = .ok (.aload_n 0, 1) := by decide +kernel
theorem dX12_readSeen_54 : decode cX12_readSeen 54 = .ok (.getfield 135, 3) := by decide +kernel
theorem dX12_readSeen_57 : decode cX12_readSeen 57 = .ok (.iconst 2, 1) := by decide +kernel
theorem dX12_readSeen_58 : decode cX12_readSeen 58 = .ok (.iaload, 1) := by decide +kernel
theorem dX12_readSeen_59 : decode cX12_readSeen 59 = .ok (.iadd, 1) := by decide +kernel
theorem dX12_readSeen_60 : decode cX12_readSeen 60 = .ok (.goto 4, 3) := by decide +kernel
theorem dX12_readSeen_63 : decode cX12_readSeen 63 = .ok (.iconst (-1), 1) := by decide +kernel
theorem dX12_readSeen_64 : decode cX12_readSeen 64 = .ok (.ireturn, 1) := by decide +kernel
theorem dX12_read_0 : decode cX12_read 0 = .ok (.aload_n 0, 1) := by decide +kernel
theorem dX12_read_1 : decode cX12_read 1 = .ok (.iconst 0, 1) := by decide +kernel
theorem dX12_read_2 : decode cX12_read 2 = .ok (.putfield 1, 3) := by decide +kernel
theorem dX12_read_5 : decode cX12_read 5 = .ok (.aload_n 0, 1) := by decide +kernel
theorem dX12_read_6 : decode cX12_read 6 = .ok (.invokevirtual 457, 3) := by decide +kernel
theorem dX12_read_9 : decode cX12_read 9 = .ok (.ifCond .eq 10, 3) := by decide +kernel
theorem dX12_read_12 : decode cX12_read 12 = .ok (.aload_n 0, 1) := by decide +kernel
theorem dX12_read_13 : decode cX12_read 13 = .ok (.invokevirtual 460, 3) := by decide +kernel
theorem dX12_read_16 : decode cX12_read 16 = .ok (.goto 5, 3) := by decide +kernel
theorem dX12_read_19 : decode cX12_read 19 = .ok (.bipush (-2), 2) := by decide +kernel
theorem dX12_read_21 : decode cX12_read 21 = .ok (.ireturn, 1) := by decide +kernel
theorem dX12_near_0 : decode cX12_near 0 = .ok (.aload_n 0, 1) := by decide +kernel
theorem dX12_near_1 : decode cX12_near 1 = .ok (.iconst 0, 1) := by decide +kernel
theorem dX12_near_2 : decode cX12_near 2 = .ok (.putfield 1, 3) := by decide +kernel
theorem dX12_near_5 : decode cX12_near 5 = .ok (.aload_n 0, 1) := by decide +kernel
theorem dX12_near_6 : decode cX12_near 6 = .ok (.invokevirtual 457, 3) := by decide +kernel
theorem dX12_near_9 : decode cX12_near 9 = .ok (.ifCond .ne 6, 3) := by decide +kernel
theorem dX12_near_12 : decode cX12_near 12 = .ok (.bipush (-2), 2) := by decide +kernel
theorem dX12_near_14 : decode cX12_near 14 = .ok (.ireturn, 1) := by decide +kernel
theorem dX12_near_15 : decode cX12_near 15 = .ok (.iload_n 1, 1) := by decide +kernel
theorem dX12_near_16 : decode cX12_near 16 = .ok (.iconst (-1), 1) := by decide +kernel
theorem dX12_near_17 : decode cX12_near 17 = .ok (.if_icmp .ge 5, 3) := by decide +kernel
theorem dX12_near_20 : decode cX12_near 20 = .ok (.iconst (-1), 1) := by decide +kernel
theorem dX12_near_21 : decode cX12_near 21 = .ok (.ireturn, 1) := by decide +kernel
theorem dX12_near_22 : decode cX12_near 22 = .ok (.iconst 0, 1) := by decide +kernel
theorem dX12_near_23 : decode cX12_near 23 = .ok (.istore_n 2, 1) := by decide +kernel
theorem dX12_near_24 : decode cX12_near 24 = .ok (.iconst 0, 1) := by decide +kernel
theorem dX12_near_25 : decode cX12_near 25 = .ok (.istore_n 3, 1) := by decide +kernel
theorem dX12_near_26 : decode cX12_near 26 = .ok (.iload_n 3, 1) := by decide +kernel
theorem dX12_near_27 : decode cX12_near 27 = .ok (.bipush 125, 2) := by decide +kernel
theorem dX12_near_29 : decode cX12_near 29 = .ok (.if_icmp .ge 106, 3) := by decide +kernel
theorem dX12_near_32 : decode cX12_near 32 = .ok (.aload_n 0, 1) := by decide +kernel
theorem dX12_near_33 : decode cX12_near 33 = .ok (.iload_n 3, 1) := by decide +kernel
theorem dX12_near_34 : decode cX12_near 34 = .ok (.invokevirtual 454, 3) := by decide +kernel
theorem dX12_near_37 : decode cX12_near 37 = .ok (.iconst 0, 1) := by decide +kernel
theorem dX12_near_38 : decode cX12_near 38 = .ok (.istore 4, 2) := by decide +kernel
theorem dX12_near_40 : decode cX12_near 40 = .ok (.iconst 0, 1) := by decide +kernel
theorem dX12_near_41 : decode cX12_near 41 = .ok (.istore 5, 2) := by decide +kernel
theorem dX12_near_43 : decode cX12_near 43 = .ok (.iload 5, 2) := by decide +kernel
theorem dX12_near_45 : decode cX12_near 45 = .ok (.iconst 4, 1) := by decide +kernel
theorem dX12_near_46 : decode cX12_near 46 = .ok (.if_icmp .ge 64, 3) := by decide +kernel
theorem dX12_near_49 : decode cX12_near 49 = .ok (.iload 4, 2) := by decide +kernel
theorem dX12_near_51 : decode cX12_near 51 = .ok (.aload_n 0, 1) := by decide +kernel
theorem dX12_near_52 : decode cX12_near 52 = .ok (.getfield 132, 3) := by decide +kernel
theorem dX12_near_55 : decode cX12_near 55 = .ok (.iload 5, 2) := by decide +kernel
theorem dX12_near_57 : decode cX12_near 57 = .ok (.iaload, 1) := by decide +kernel
theorem dX12_near_58 : decode cX12_near 58 = .ok (.aload_n 0, 1) := by decide +kernel
theorem dX12_near_59 : decode cX12_near 59 = .ok (.getfield 135, 3) := by decide +kernel
theorem dX12_near_62 : decode cX12_near 62 = .ok (.iload 5, 2) := by decide +kernel
theorem dX12_near_64 : decode cX12_near 64 = .ok (.iaload, 1) := by decide +kernel
theorem dX12_near_65 : decode cX12_near 65 = .ok (.if_icmp .le 21, 3) := by decide +kernel
theorem dX12_near_68 : decode cX12_near 68 = .ok (.aload_n 0, 1) := by decide +kernel
theorem dX12_near_69 : decode cX12_near 69 = .ok (.getfield 132, 3) := by decide +kernel
theorem dX12_near_72 : decode cX12_near 72 = .ok (.iload 5, 2) := by decide +kernel
theorem dX12_near_74 : decode cX12_near 74 = .ok (.iaload, 1) := by decide +kernel
theorem dX12_near_75 : decode cX12_near 75 = .ok (.aload_n 0, 1) := by decide +kernel
theorem dX12_near_76 : decode cX12_near 76 = .ok (.getfield 135, 3) := by decide +kernel
theorem dX12_near_79 : decode cX12_near 79 = .ok (.iload 5, 2) := by decide +kernel
theorem dX12_near_81 : decode cX12_near 81 = .ok (.iaload, 1) := by decide +kernel
theorem dX12_near_82 : decode cX12_near 82 = .ok (.isub, 1) := by decide +kernel
theorem dX12_near_83 : decode cX12_near 83 = .ok (.goto 18, 3) := by decide +kernel
theorem dX12_near_86 : decode cX12_near 86 = .ok (.aload_n 0, 1) := by decide +kernel
theorem dX12_near_87 : decode cX12_near 87 = .ok (.getfield 135, 3) := by decide +kernel
theorem dX12_near_90 : decode cX12_near 90 = .ok (.iload 5, 2) := by decide +kernel
theorem dX12_near_92 : decode cX12_near 92 = .ok (.iaload, 1) := by decide +kernel
theorem dX12_near_93 : decode cX12_near 93 = .ok (.aload_n 0, 1) := by decide +kernel
theorem dX12_near_94 : decode cX12_near 94 = .ok (.getfield 132, 3) := by decide +kernel
theorem dX12_near_97 : decode cX12_near 97 = .ok (.iload 5, 2) := by decide +kernel
theorem dX12_near_99 : decode cX12_near 99 = .ok (.iaload, 1) := by decide +kernel
theorem dX12_near_100 : decode cX12_near 100 = .ok (.isub, 1) := by decide +kernel
theorem dX12_near_101 : decode cX12_near 101 = .ok (.iadd, 1) := by decide +kernel
theorem dX12_near_102 : decode cX12_near 102 = .ok (.istore 4, 2) := by decide +kernel
theorem dX12_near_104 : decode cX12_near 104 = .ok (.iinc 5 1, 3) := by decide +kernel
theorem dX12_near_107 : decode cX12_near 107 = .ok (.goto (-64), 3) := by decide +kernel
theorem dX12_near_110 : decode cX12_near 110 = .ok (.iload 4, 2) := by decide +kernel
theorem dX12_near_112 : decode cX12_near 112 = .ok (.iconst 1, 1) := by decide +kernel
theorem dX12_near_113 : decode cX12_near 113 = .ok (.if_icmp .eq 6, 3) := by decide +kernel
theorem dX12_near_116 : decode cX12_near 116 = .ok (.goto 13, 3) := by decide +kernel
theorem dX12_near_119 : decode cX12_near 119 = .ok (.iload_n 2, 1) := by decide +kernel
theorem dX12_near_120 : decode cX12_near 120 = .ok (.iload_n 1, 1) := by decide +kernel
theorem dX12_near_121 : decode cX12_near 121 = .ok (.if_icmp .ne 5, 3) := by decide +kernel
theorem dX12_near_124 : decode cX12_near 124 = .ok (.iload_n 3, 1) := by decide +kernel
theorem dX12_near_125 : decode cX12_near 125 = .ok (.ireturn, 1) := by decide +kernel
theorem dX12_near_126 : decode cX12_near 126 = .ok (.iinc 2 1, 3) := by decide +kernel
theorem dX12_near_129 : decode cX12_near 129 = .ok (.iinc 3 1, 3) := by decide +kernel
theorem dX12_near_132 : decode cX12_near 132 = .ok (.goto (-106), 3) := by decide +kernel
theorem dX12_near_135 : decode cX12_near 135 = .ok (.iload_n 1, 1) := by decide +kernel
theorem dX12_near_136 : decode cX12_near 136 = .ok (.iconst (-1), 1) := by decide +kernel
theorem dX12_near_137 : decode cX12_near 137 = .ok (.if_icmp .ne 7, 3) := by decide +kernel
theorem dX12_near_140 : decode cX12_near 140 = .ok (.iload_n 2, 1) := by decide +kernel
theorem dX12_near_141 : decode cX12_near 141 = .ok (.goto 4, 3) := by decide +kernel
theorem dX12_near_144 : decode cX12_near 144 = .ok (.iconst (-1), 1) := by decide +kernel
theorem dX12_near_145 : decode cX12_near 145 = .ok (.ireturn, 1) := by decide +kernel
theorem dX12_measure_0 : decode cX12_measure 0 = .ok (.aload_n 0, 1) := by decide +kernel
theorem dX12_measure_1 : decode cX12_measure 1 = .ok (.iload_n 1, 1) := by decide +kernel
theorem dX12_measure_2 : decode cX12_measure 2 = .ok (.invokevirtual 454, 3) := by decide +kernel
theorem dX12_measure_5 : decode cX12_measure 5 = .ok (.iconst 0, 1) := by decide +kernel
theorem dX12_measure_6 : decode cX12_measure 6 = .ok (.istore_n 2, 1) := by decide +kernel
theorem dX12_measure_7 : decode cX12_measure 7 = .ok (.iload_n 2, 1) := by decide +kernel
theorem dX12_measure_8 : decode cX12_measure 8 = .ok (.iconst 4, 1) := by decide +kernel
theorem dX12_measure_9 : decode cX12_measure 9 = .ok (.if_icmp .ge 66, 3) := by decide +kernel
theorem dX12_measure_12 : decode cX12_measure 12 = .ok (.aload_n 0, 1) := by decide +kernel
theorem dX12_measure_13 : decode cX12_measure 13 = .ok (.bipush 10, 2) := by decide +kernel
theorem dX12_measure_15 : decode cX12_measure 15 = .ok (.invokevirtual 351, 3) := by decide +kernel
theorem dX12_measure_18 : decode cX12_measure 18 = .ok (.istore_n 3, 1) := by decide +kernel
theorem dX12_measure_19 : decode cX12_measure 19 = .ok (.aload_n 0, 1) := by decide +kernel
theorem dX12_measure_20 : decode cX12_measure 20 = .ok (.getfield 135, 3) := by decide +kernel
theorem dX12_measure_23 : decode cX12_measure 23 = .ok (.iload_n 2, 1) := by decide +kernel
theorem dX12_measure_24 : decode cX12_measure 24 = .ok (.aload_n 0, 1) := by decide +kernel
theorem dX12_measure_25 : decode cX12_measure 25 = .ok (.getfield 132, 3) := by decide +kernel
theorem dX12_measure_28 : decode cX12_measure 28 = .ok (.iload_n 2, 1) := by decide +kernel
theorem dX12_measure_29 : decode cX12_measure 29 = .ok (.iaload, 1) := by decide +kernel
theorem dX12_measure_30 : decode cX12_measure 30 = .ok (.iload_n 3, 1) := by decide +kernel
theorem dX12_measure_31 : decode cX12_measure 31 = .ok (.ifCond .ne 17, 3) := by decide +kernel
theorem dX12_measure_34 : decode cX12_measure 34 = .ok (.aload_n 0, 1) := by decide +kernel
theorem dX12_measure_35 : decode cX12_measure 35 = .ok (.getfield 132, 3) := by decide +kernel
theorem dX12_measure_38 : decode cX12_measure 38 = .ok (.iload_n 2, 1) := by decide +kernel
theorem dX12_measure_39 : decode cX12_measure 39 = .ok (.iaload, 1) := by decide +kernel
theorem dX12_measure_40 : decode cX12_measure 40 = .ok (.iconst 4, 1) := by decide +kernel
theorem dX12_measure_41 : decode cX12_measure 41 = .ok (.if_icmp .ge 7, 3) := by decide +kernel
theorem dX12_measure_44 : decode cX12_measure 44 = .ok (.iconst 1, 1) := by decide +kernel
theorem dX12_measure_45 : decode cX12_measure 45 = .ok (.goto 22, 3) := by decide +kernel
theorem dX12_measure_48 : decode cX12_measure 48 = .ok (.iload_n 3, 1) := by decide +kernel
theorem dX12_measure_49 : decode cX12_measure 49 = .ok (.iconst 1, 1) := by decide +kernel
theorem dX12_measure_50 : decode cX12_measure 50 = .ok (.if_icmp .ne 16, 3) := by decide +kernel
theorem dX12_measure_53 : decode cX12_measure 53 = .ok (.aload_n 0, 1) := by decide +kernel
theorem dX12_measure_54 : decode cX12_measure 54 = .ok (.getfield 132, 3) := by decide +kernel
theorem dX12_measure_57 : decode cX12_measure 57 = .ok (.iload_n 2, 1) := by decide +kernel
theorem dX12_measure_58 : decode cX12_measure 58 = .ok (.iaload, 1) := by decide +kernel
theorem dX12_measure_59 : decode cX12_measure 59 = .ok (.ifCond .le 7, 3) := by decide +kernel
theorem dX12_measure_62 : decode cX12_measure 62 = .ok (.iconst (-1), 1) := by decide +kernel
theorem dX12_measure_63 : decode cX12_measure 63 = .ok (.goto 4, 3) := by decide +kernel
theorem dX12_measure_66 : decode cX12_measure 66 = .ok (.iconst 0, 1) := by decide +kernel
theorem dX12_measure_67 : decode cX12_measure 67 = .ok (.iadd, 1) := by decide +kernel
theorem dX12_measure_68 : decode cX12_measure 68 = .ok (.iastore, 1) := by decide +kernel
theorem dX12_measure_69 : decode cX12_measure 69 = .ok (.iinc 2 1, 3) := by decide +kernel
theorem dX12_measure_72 : decode cX12_measure 72 = .ok (.goto (-65), 3) := by decide +kernel
theorem dX12_measure_75 : decode cX12_measure 75 = .ok (.return_, 1) := by decide +kernel
theorem dX12_measured_0 : decode cX12_measured 0 = .ok (.aload_n 0, 1) := by decide +kernel
theorem dX12_measured_1 : decode cX12_measured 1 = .ok (.iconst 0, 1) := by decide +kernel
theorem dX12_measured_2 : decode cX12_measured 2 = .ok (.putfield 1, 3) := by decide +kernel
theorem dX12_measured_5 : decode cX12_measured 5 = .ok (.iload_n 1, 1) := by decide +kernel
theorem dX12_measured_6 : decode cX12_measured 6 = .ok (.iconst 0, 1) := by decide +kernel
theorem dX12_measured_7 : decode cX12_measured 7 = .ok (.bipush 124, 2) := by decide +kernel
theorem dX12_measured_9 : decode cX12_measured 9 = .ok (.invokestatic 254, 3) := by decide +kernel
theorem dX12_measured_12 : decode cX12_measured 12 = .ok (.ifCond .ne 5, 3) := by decide +kernel
theorem dX12_measured_15 : decode cX12_measured 15 = .ok (.iconst (-1), 1) := by decide +kernel
theorem dX12_measured_16 : decode cX12_measured 16 = .ok (.ireturn, 1) := by decide +kernel
theorem dX12_measured_17 : decode cX12_measured 17 = .ok (.aload_n 0, 1) := by decide +kernel
theorem dX12_measured_18 : decode cX12_measured 18 = .ok (.iload_n 2, 1) := by decide +kernel
theorem dX12_measured_19 : decode cX12_measured 19 = .ok (.putfield 347, 3) := by decide +kernel
theorem dX12_measured_22 : decode cX12_measured 22 = .ok (.aload_n 0, 1) := by decide +kernel
theorem dX12_measured_23 : decode cX12_measured 23 = .ok (.iload_n 1, 1) := by decide +kernel
theorem dX12_measured_24 : decode cX12_measured 24 = .ok (.invokevirtual 463, 3) := by decide +kernel
theorem dX12_measured_27 : decode cX12_measured 27 = .ok (.sipush 1000, 3) := by decide +kernel
theorem dX12_measured_30 : decode cX12_measured 30 = .ok (.aload_n 0, 1) := by decide +kernel
theorem dX12_measured_31 : decode cX12_measured 31 = .ok (.getfield 135, 3) := by decide +kernel
theorem dX12_measured_34 : decode cX12_measured 34 = .ok (.iconst 0, 1) := by decide +kernel
theorem dX12_measured_35 : decode cX12_measured 35 = .ok (.iaload, 1) := by decide +kernel
theorem dX12_measured_36 : decode cX12_measured 36 = .ok (.imul, 1) := by decide +kernel
theorem dX12_measured_37 : decode cX12_measured 37 = .ok (.bipush 100, 2) := by decide +kernel
theorem dX12_measured_39 : decode cX12_measured 39 = .ok (.aload_n 0, 1) := by decide +kernel
theorem dX12_measured_40 : decode cX12_measured 40 = .ok (.getfield 135, 3) := by decide +kernel
theorem dX12_measured_43 : decode cX12_measured 43 = .ok (.iconst 1, 1) := by decide +kernel
theorem dX12_measured_44 : decode cX12_measured 44 = .ok (.iaload, 1) := by decide +kernel
theorem dX12_measured_45 : decode cX12_measured 45 = .ok (.imul, 1) := by decide +kernel
theorem dX12_measured_46 : decode cX12_measured 46 = .ok (.iadd, 1) := by decide +kernel
theorem dX12_measured_47 : decode cX12_measured 47 = .ok (.bipush 10, 2) := by decide +kernel
theorem dX12_measured_49 : decode cX12_measured 49 = .ok (.aload_n 0, 1) := by decide +kernel
theorem dX12_measured_50 : decode cX12_measured 50 = .ok (.getfield 135, 3) := by decide +kernel
theorem dX12_measured_53 : decode cX12_measured 53 = .ok (.iconst 2, 1) := by decide +kernel
theorem dX12_measured_54 : decode cX12_measured 54 = .ok (.iaload, 1) := by decide +kernel
theorem dX12_measured_55 : decode cX12_measured 55 = .ok (.imul, 1) := by decide +kernel
theorem dX12_measured_56 : decode cX12_measured 56 = .ok (.iadd, 1) := by decide +kernel
theorem dX12_measured_57 : decode cX12_measured 57 = .ok (.aload_n 0, 1) := by decide +kernel
theorem dX12_measured_58 : decode cX12_measured 58 = .ok (.getfield 135, 3) := by decide +kernel
theorem dX12_measured_61 : decode cX12_measured 61 = .ok (.iconst 3, 1) := by decide +kernel
theorem dX12_measured_62 : decode cX12_measured 62 = .ok (.iaload, 1) := by decide +kernel
theorem dX12_measured_63 : decode cX12_measured 63 = .ok (.iadd, 1) := by decide +kernel
theorem dX12_measured_64 : decode cX12_measured 64 = .ok (.ireturn, 1) := by decide +kernel
theorem dX12_slips_0 : decode cX12_slips 0 = .ok (.aload_n 0, 1) := by decide +kernel
theorem dX12_slips_1 : decode cX12_slips 1 = .ok (.iconst 0, 1) := by decide +kernel
theorem dX12_slips_2 : decode cX12_slips 2 = .ok (.putfield 1, 3) := by decide +kernel
theorem dX12_slips_5 : decode cX12_slips 5 = .ok (.iload_n 1, 1) := by decide +kernel
theorem dX12_slips_6 : decode cX12_slips 6 = .ok (.iconst 0, 1) := by decide +kernel
theorem dX12_slips_7 : decode cX12_slips 7 = .ok (.bipush 124, 2) := by decide +kernel
theorem dX12_slips_9 : decode cX12_slips 9 = .ok (.invokestatic 254, 3) := by decide +kernel
theorem dX12_slips_12 : decode cX12_slips 12 = .ok (.ifCond .eq 14, 3) := by decide +kernel
theorem dX12_slips_15 : decode cX12_slips 15 = .ok (.iload_n 2, 1) := by decide +kernel
theorem dX12_slips_16 : decode cX12_slips 16 = .ok (.iconst 1, 1) := by decide +kernel
theorem dX12_slips_17 : decode cX12_slips 17 = .ok (.sipush 1000, 3) := by decide +kernel
theorem dX12_slips_20 : decode cX12_slips 20 = .ok (.invokestatic 254, 3) := by decide +kernel
theorem dX12_slips_23 : decode cX12_slips 23 = .ok (.ifCond .ne 5, 3) := by decide +kernel
theorem dX12_slips_26 : decode cX12_slips 26 = .ok (.iconst (-1), 1) := by decide +kernel
theorem dX12_slips_27 : decode cX12_slips 27 = .ok (.ireturn, 1) := by decide +kernel
theorem dX12_slips_28 : decode cX12_slips 28 = .ok (.aload_n 0, 1) := by decide +kernel
theorem dX12_slips_29 : decode cX12_slips 29 = .ok (.iload_n 3, 1) := by decide +kernel
theorem dX12_slips_30 : decode cX12_slips 30 = .ok (.putfield 347, 3) := by decide +kernel
theorem dX12_slips_33 : decode cX12_slips 33 = .ok (.iconst 0, 1) := by decide +kernel
theorem dX12_slips_34 : decode cX12_slips 34 = .ok (.istore 4, 2) := by decide +kernel
theorem dX12_slips_36 : decode cX12_slips 36 = .ok (.iconst 0, 1) := by decide +kernel
theorem dX12_slips_37 : decode cX12_slips 37 = .ok (.istore 5, 2) := by decide +kernel
theorem dX12_slips_39 : decode cX12_slips 39 = .ok (.iload 5, 2) := by decide +kernel
theorem dX12_slips_41 : decode cX12_slips 41 = .ok (.iload_n 2, 1) := by decide +kernel
theorem dX12_slips_42 : decode cX12_slips 42 = .ok (.if_icmp .ge 39, 3) := by decide +kernel
theorem dX12_slips_45 : decode cX12_slips 45 = .ok (.aload_n 0, 1) := by decide +kernel
theorem dX12_slips_46 : decode cX12_slips 46 = .ok (.iload_n 1, 1) := by decide +kernel
theorem dX12_slips_47 : decode cX12_slips 47 = .ok (.invokevirtual 463, 3) := by decide +kernel
theorem dX12_slips_50 : decode cX12_slips 50 = .ok (.iload 4, 2) := by decide +kernel
theorem dX12_slips_52 : decode cX12_slips 52 = .ok (.aload_n 0, 1) := by decide +kernel
theorem dX12_slips_53 : decode cX12_slips 53 = .ok (.invokevirtual 460, 3) := by decide +kernel
theorem dX12_slips_56 : decode cX12_slips 56 = .ok (.ifCond .lt 15, 3) := by decide +kernel
theorem dX12_slips_59 : decode cX12_slips 59 = .ok (.aload_n 0, 1) := by decide +kernel
theorem dX12_slips_60 : decode cX12_slips 60 = .ok (.invokevirtual 460, 3) := by decide +kernel
theorem dX12_slips_63 : decode cX12_slips 63 = .ok (.iload_n 1, 1) := by decide +kernel
theorem dX12_slips_64 : decode cX12_slips 64 = .ok (.if_icmp .eq 7, 3) := by decide +kernel
theorem dX12_slips_67 : decode cX12_slips 67 = .ok (.iconst 1, 1) := by decide +kernel
theorem dX12_slips_68 : decode cX12_slips 68 = .ok (.goto 4, 3) := by decide +kernel
theorem dX12_slips_71 : decode cX12_slips 71 = .ok (.iconst 0, 1) := by decide +kernel
theorem dX12_slips_72 : decode cX12_slips 72 = .ok (.iadd, 1) := by decide +kernel
theorem dX12_slips_73 : decode cX12_slips 73 = .ok (.istore 4, 2) := by decide +kernel
theorem dX12_slips_75 : decode cX12_slips 75 = .ok (.iinc 5 1, 3) := by decide +kernel
theorem dX12_slips_78 : decode cX12_slips 78 = .ok (.goto (-39), 3) := by decide +kernel
theorem dX12_slips_81 : decode cX12_slips 81 = .ok (.iload 4, 2) := by decide +kernel
theorem dX12_slips_83 : decode cX12_slips 83 = .ok (.ireturn, 1) := by decide +kernel
theorem dX12_write_0 : decode cX12_write 0 = .ok (.aload_n 0, 1) := by decide +kernel
theorem dX12_write_1 : decode cX12_write 1 = .ok (.getfield 138, 3) := by decide +kernel
theorem dX12_write_4 : decode cX12_write 4 = .ok (.iconst 3, 1) := by decide +kernel
theorem dX12_write_5 : decode cX12_write 5 = .ok (.aload_n 0, 1) := by decide +kernel
theorem dX12_write_6 : decode cX12_write 6 = .ok (.getfield 466, 3) := by decide +kernel
theorem dX12_write_9 : decode cX12_write 9 = .ok (.imul, 1) := by decide +kernel
theorem dX12_write_10 : decode cX12_write 10 = .ok (.iload_n 1, 1) := by decide +kernel
theorem dX12_write_11 : decode cX12_write 11 = .ok (.iastore, 1) := by decide +kernel
theorem dX12_write_12 : decode cX12_write 12 = .ok (.aload_n 0, 1) := by decide +kernel
theorem dX12_write_13 : decode cX12_write 13 = .ok (.getfield 138, 3) := by decide +kernel
theorem dX12_write_16 : decode cX12_write 16 = .ok (.iconst 3, 1) := by decide +kernel
theorem dX12_write_17 : decode cX12_write 17 = .ok (.aload_n 0, 1) := by decide +kernel
theorem dX12_write_18 : decode cX12_write 18 = .ok (.getfield 466, 3) := by decide +kernel
theorem dX12_write_21 : decode cX12_write 21 = .ok (.imul, 1) := by decide +kernel
theorem dX12_write_22 : decode cX12_write 22 = .ok (.iconst 1, 1) := by decide +kernel
theorem dX12_write_23 : decode cX12_write 23 = .ok (.iadd, 1) := by decide +kernel
theorem dX12_write_24 : decode cX12_write 24 = .ok (.iload_n 2, 1) := by decide +kernel
theorem dX12_write_25 : decode cX12_write 25 = .ok (.iastore, 1) := by decide +kernel
theorem dX12_write_26 : decode cX12_write 26 = .ok (.aload_n 0, 1) := by decide +kernel
theorem dX12_write_27 : decode cX12_write 27 = .ok (.getfield 138, 3) := by decide +kernel
theorem dX12_write_30 : decode cX12_write 30 = .ok (.iconst 3, 1) := by decide +kernel
theorem dX12_write_31 : decode cX12_write 31 = .ok (.aload_n 0, 1) := by decide +kernel
theorem dX12_write_32 : decode cX12_write 32 = .ok (.getfield 466, 3) := by decide +kernel
theorem dX12_write_35 : decode cX12_write 35 = .ok (.imul, 1) := by decide +kernel
theorem dX12_write_36 : decode cX12_write 36 = .ok (.iconst 2, 1) := by decide +kernel
theorem dX12_write_37 : decode cX12_write 37 = .ok (.iadd, 1) := by decide +kernel
theorem dX12_write_38 : decode cX12_write 38 = .ok (.iload_n 3, 1) := by decide +kernel
theorem dX12_write_39 : decode cX12_write 39 = .ok (.iastore, 1) := by decide +kernel
theorem dX12_write_40 : decode cX12_write 40 = .ok (.aload_n 0, 1) := by decide +kernel
theorem dX12_write_41 : decode cX12_write 41 = .ok (.dup, 1) := by decide +kernel
theorem dX12_write_42 : decode cX12_write 42 = .ok (.getfield 466, 3) := by decide +kernel
theorem dX12_write_45 : decode cX12_write 45 = .ok (.iconst 1, 1) := by decide +kernel
theorem dX12_write_46 : decode cX12_write 46 = .ok (.iadd, 1) := by decide +kernel
theorem dX12_write_47 : decode cX12_write 47 = .ok (.putfield 466, 3) := by decide +kernel
theorem dX12_write_50 : decode cX12_write 50 = .ok (.return_, 1) := by decide +kernel
theorem dX12_writeDown_0 : decode cX12_writeDown 0 = .ok (.aload_n 0, 1) := by decide +kernel
theorem dX12_writeDown_1 : decode cX12_writeDown 1 = .ok (.getfield 469, 3) := by decide +kernel
theorem dX12_writeDown_4 : decode cX12_writeDown 4 = .ok (.ifCond .le 65, 3) := by decide +kernel
theorem dX12_writeDown_7 : decode cX12_writeDown 7 = .ok (.aload_n 0, 1) := by decide +kernel
theorem dX12_writeDown_8 : decode cX12_writeDown 8 = .ok (.getfield 141, 3) := by decide +kernel
theorem dX12_writeDown_11 : decode cX12_writeDown 11 = .ok (.aload_n 0, 1) := by decide +kernel
theorem dX12_writeDown_12 : decode cX12_writeDown 12 = .ok (.getfield 469, 3) := by decide +kernel
theorem dX12_writeDown_15 : decode cX12_writeDown 15 = .ok (.iconst 1, 1) := by decide +kernel
theorem dX12_writeDown_16 : decode cX12_writeDown 16 = .ok (.isub, 1) := by decide +kernel
theorem dX12_writeDown_17 : decode cX12_writeDown 17 = .ok (.iaload, 1) := by decide +kernel
theorem dX12_writeDown_18 : decode cX12_writeDown 18 = .ok (.bipush 10, 2) := by decide +kernel
theorem dX12_writeDown_20 : decode cX12_writeDown 20 = .ok (.if_icmp .eq 49, 3) := by decide +kernel
theorem dX12_writeDown_23 : decode cX12_writeDown 23 = .ok (.aload_n 0, 1) := by decide +kernel
theorem dX12_writeDown_24 : decode cX12_writeDown 24 = .ok (.getfield 141, 3) := by decide +kernel
theorem dX12_writeDown_27 : decode cX12_writeDown 27 = .ok (.aload_n 0, 1) := by decide +kernel
theorem dX12_writeDown_28 : decode cX12_writeDown 28 = .ok (.getfield 469, 3) := by decide +kernel
theorem dX12_writeDown_31 : decode cX12_writeDown 31 = .ok (.iconst 1, 1) := by decide +kernel
theorem dX12_writeDown_32 : decode cX12_writeDown 32 = .ok (.isub, 1) := by decide +kernel
theorem dX12_writeDown_33 : decode cX12_writeDown 33 = .ok (.iaload, 1) := by decide +kernel
theorem dX12_writeDown_34 : decode cX12_writeDown 34 = .ok (.invokestatic 472, 3) := by decide +kernel
theorem dX12_writeDown_37 : decode cX12_writeDown 37 = .ok (.iload_n 1, 1) := by decide +kernel
theorem dX12_writeDown_38 : decode cX12_writeDown 38 = .ok (.if_icmp .lt 31, 3) := by decide +kernel
theorem dX12_writeDown_41 : decode cX12_writeDown 41 = .ok (.aload_n 0, 1) := by decide +kernel
theorem dX12_writeDown_42 : decode cX12_writeDown 42 = .ok (.dup, 1) := by decide +kernel
theorem dX12_writeDown_43 : decode cX12_writeDown 43 = .ok (.getfield 469, 3) := by decide +kernel
theorem dX12_writeDown_46 : decode cX12_writeDown 46 = .ok (.iconst 1, 1) := by decide +kernel
theorem dX12_writeDown_47 : decode cX12_writeDown 47 = .ok (.isub, 1) := by decide +kernel
theorem dX12_writeDown_48 : decode cX12_writeDown 48 = .ok (.putfield 469, 3) := by decide +kernel
theorem dX12_writeDown_51 : decode cX12_writeDown 51 = .ok (.aload_n 0, 1) := by decide +kernel
theorem dX12_writeDown_52 : decode cX12_writeDown 52 = .ok (.aload_n 0, 1) := by decide +kernel
theorem dX12_writeDown_53 : decode cX12_writeDown 53 = .ok (.getfield 141, 3) := by decide +kernel
theorem dX12_writeDown_56 : decode cX12_writeDown 56 = .ok (.aload_n 0, 1) := by decide +kernel
theorem dX12_writeDown_57 : decode cX12_writeDown 57 = .ok (.getfield 469, 3) := by decide +kernel
theorem dX12_writeDown_60 : decode cX12_writeDown 60 = .ok (.iaload, 1) := by decide +kernel
theorem dX12_writeDown_61 : decode cX12_writeDown 61 = .ok (.iconst 0, 1) := by decide +kernel
theorem dX12_writeDown_62 : decode cX12_writeDown 62 = .ok (.iconst 0, 1) := by decide +kernel
theorem dX12_writeDown_63 : decode cX12_writeDown 63 = .ok (.invokevirtual 475, 3) := by decide +kernel
theorem dX12_writeDown_66 : decode cX12_writeDown 66 = .ok (.goto (-66), 3) := by decide +kernel
theorem dX12_writeDown_69 : decode cX12_writeDown 69 = .ok (.return_, 1) := by decide +kernel
theorem dX12_binds_0 : decode cX12_binds 0 = .ok (.iload_n 0, 1) := by decide +kernel
theorem dX12_binds_1 : decode cX12_binds 1 = .ok (.bipush 7, 2) := by decide +kernel
theorem dX12_binds_3 : decode cX12_binds 3 = .ok (.if_icmp .ne 7, 3) := by decide +kernel
theorem dX12_binds_6 : decode cX12_binds 6 = .ok (.iconst 3, 1) := by decide +kernel
theorem dX12_binds_7 : decode cX12_binds 7 = .ok (.goto 14, 3) := by decide +kernel
theorem dX12_binds_10 : decode cX12_binds 10 = .ok (.iload_n 0, 1) := by decide +kernel
theorem dX12_binds_11 : decode cX12_binds 11 = .ok (.bipush 8, 2) := by decide +kernel
theorem dX12_binds_13 : decode cX12_binds 13 = .ok (.if_icmp .ne 7, 3) := by decide +kernel
theorem dX12_binds_16 : decode cX12_binds 16 = .ok (.iconst 2, 1) := by decide +kernel
theorem dX12_binds_17 : decode cX12_binds 17 = .ok (.goto 4, 3) := by decide +kernel
theorem dX12_binds_20 : decode cX12_binds 20 = .ok (.iconst 1, 1) := by decide +kernel
theorem dX12_binds_21 : decode cX12_binds 21 = .ok (.ireturn, 1) := by decide +kernel
theorem dX12_opened_0 : decode cX12_opened 0 = .ok (.iconst 0, 1) := by decide +kernel
theorem dX12_opened_1 : decode cX12_opened 1 = .ok (.istore_n 1, 1) := by decide +kernel
theorem dX12_opened_2 : decode cX12_opened 2 = .ok (.iconst 0, 1) := by decide +kernel
theorem dX12_opened_3 : decode cX12_opened 3 = .ok (.istore_n 2, 1) := by decide +kernel
theorem dX12_opened_4 : decode cX12_opened 4 = .ok (.iload_n 2, 1) := by decide +kernel
theorem dX12_opened_5 : decode cX12_opened 5 = .ok (.aload_n 0, 1) := by decide +kernel
theorem dX12_opened_6 : decode cX12_opened 6 = .ok (.getfield 469, 3) := by decide +kernel
theorem dX12_opened_9 : decode cX12_opened 9 = .ok (.if_icmp .ge 39, 3) := by decide +kernel
theorem dX12_opened_12 : decode cX12_opened 12 = .ok (.iload_n 1, 1) := by decide +kernel
theorem dX12_opened_13 : decode cX12_opened 13 = .ok (.aload_n 0, 1) := by decide +kernel
theorem dX12_opened_14 : decode cX12_opened 14 = .ok (.getfield 141, 3) := by decide +kernel
theorem dX12_opened_17 : decode cX12_opened 17 = .ok (.iload_n 2, 1) := by decide +kernel
theorem dX12_opened_18 : decode cX12_opened 18 = .ok (.iaload, 1) := by decide +kernel
theorem dX12_opened_19 : decode cX12_opened 19 = .ok (.bipush 7, 2) := by decide +kernel
theorem dX12_opened_21 : decode cX12_opened 21 = .ok (.if_icmp .eq 14, 3) := by decide +kernel
theorem dX12_opened_24 : decode cX12_opened 24 = .ok (.aload_n 0, 1) := by decide +kernel
theorem dX12_opened_25 : decode cX12_opened 25 = .ok (.getfield 141, 3) := by decide +kernel
theorem dX12_opened_28 : decode cX12_opened 28 = .ok (.iload_n 2, 1) := by decide +kernel
theorem dX12_opened_29 : decode cX12_opened 29 = .ok (.iaload, 1) := by decide +kernel
theorem dX12_opened_30 : decode cX12_opened 30 = .ok (.bipush 10, 2) := by decide +kernel
theorem dX12_opened_32 : decode cX12_opened 32 = .ok (.if_icmp .ne 7, 3) := by decide +kernel
theorem dX12_opened_35 : decode cX12_opened 35 = .ok (.iconst 1, 1) := by decide +kernel
theorem dX12_opened_36 : decode cX12_opened 36 = .ok (.goto 4, 3) := by decide +kernel
theorem dX12_opened_39 : decode cX12_opened 39 = .ok (.iconst 0, 1) := by decide +kernel
theorem dX12_opened_40 : decode cX12_opened 40 = .ok (.iadd, 1) := by decide +kernel
theorem dX12_opened_41 : decode cX12_opened 41 = .ok (.istore_n 1, 1) := by decide +kernel
theorem dX12_opened_42 : decode cX12_opened 42 = .ok (.iinc 2 1, 3) := by decide +kernel
theorem dX12_opened_45 : decode cX12_opened 45 = .ok (.goto (-41), 3) := by decide +kernel
theorem dX12_opened_48 : decode cX12_opened 48 = .ok (.iload_n 1, 1) := by decide +kernel
theorem dX12_opened_49 : decode cX12_opened 49 = .ok (.ireturn, 1) := by decide +kernel
theorem dX12_isOpen_0 : decode cX12_isOpen 0 = .ok (.iconst 0, 1) := by decide +kernel
theorem dX12_isOpen_1 : decode cX12_isOpen 1 = .ok (.istore_n 1, 1) := by decide +kernel
theorem dX12_isOpen_2 : decode cX12_isOpen 2 = .ok (.iload_n 1, 1) := by decide +kernel
theorem dX12_isOpen_3 : decode cX12_isOpen 3 = .ok (.aload_n 0, 1) := by decide +kernel
theorem dX12_isOpen_4 : decode cX12_isOpen 4 = .ok (.getfield 469, 3) := by decide +kernel
theorem dX12_isOpen_7 : decode cX12_isOpen 7 = .ok (.if_icmp .ge 22, 3) := by decide +kernel
theorem dX12_isOpen_10 : decode cX12_isOpen 10 = .ok (.aload_n 0, 1) := by decide +kernel
theorem dX12_isOpen_11 : decode cX12_isOpen 11 = .ok (.getfield 141, 3) := by decide +kernel
theorem dX12_isOpen_14 : decode cX12_isOpen 14 = .ok (.iload_n 1, 1) := by decide +kernel
theorem dX12_isOpen_15 : decode cX12_isOpen 15 = .ok (.iaload, 1) := by decide +kernel
theorem dX12_isOpen_16 : decode cX12_isOpen 16 = .ok (.bipush 10, 2) := by decide +kernel
theorem dX12_isOpen_18 : decode cX12_isOpen 18 = .ok (.if_icmp .ne 5, 3) := by decide +kernel
theorem dX12_isOpen_21 : decode cX12_isOpen 21 = .ok (.iconst 1, 1) := by decide +kernel
theorem dX12_isOpen_22 : decode cX12_isOpen 22 = .ok (.ireturn, 1) := by decide +kernel
theorem dX12_isOpen_23 : decode cX12_isOpen 23 = .ok (.iinc 1 1, 3) := by decide +kernel
theorem dX12_isOpen_26 : decode cX12_isOpen 26 = .ok (.goto (-24), 3) := by decide +kernel
theorem dX12_isOpen_29 : decode cX12_isOpen 29 = .ok (.iconst 0, 1) := by decide +kernel
theorem dX12_isOpen_30 : decode cX12_isOpen 30 = .ok (.ireturn, 1) := by decide +kernel
theorem dX12_cond_0 : decode cX12_cond 0 = .ok (.aload_n 0, 1) := by decide +kernel
theorem dX12_cond_1 : decode cX12_cond 1 = .ok (.invokevirtual 478, 3) := by decide +kernel
theorem dX12_cond_4 : decode cX12_cond 4 = .ok (.ifCond .ne 5, 3) := by decide +kernel
theorem dX12_cond_7 : decode cX12_cond 7 = .ok (.iconst 0, 1) := by decide +kernel
theorem dX12_cond_8 : decode cX12_cond 8 = .ok (.ireturn, 1) := by decide +kernel
theorem dX12_cond_9 : decode cX12_cond 9 = .ok (.aload_n 0, 1) := by decide +kernel
theorem dX12_cond_10 : decode cX12_cond 10 = .ok (.bipush 41, 2) := by decide +kernel
theorem dX12_cond_12 : decode cX12_cond 12 = .ok (.invokevirtual 245, 3) := by decide +kernel
theorem dX12_cond_15 : decode cX12_cond 15 = .ok (.ifCond .eq 37, 3) := by decide +kernel
theorem dX12_cond_18 : decode cX12_cond 18 = .ok (.aload_n 0, 1) := by decide +kernel
theorem dX12_cond_19 : decode cX12_cond 19 = .ok (.invokevirtual 481, 3) := by decide +kernel
theorem dX12_cond_22 : decode cX12_cond 22 = .ok (.ifCond .eq 30, 3) := by decide +kernel
theorem dX12_cond_25 : decode cX12_cond 25 = .ok (.aload_n 0, 1) := by decide +kernel
theorem dX12_cond_26 : decode cX12_cond 26 = .ok (.iconst 1, 1) := by decide +kernel
theorem dX12_cond_27 : decode cX12_cond 27 = .ok (.invokevirtual 484, 3) := by decide +kernel
theorem dX12_cond_30 : decode cX12_cond 30 = .ok (.aload_n 0, 1) := by decide +kernel
theorem dX12_cond_31 : decode cX12_cond 31 = .ok (.dup, 1) := by decide +kernel
theorem dX12_cond_32 : decode cX12_cond 32 = .ok (.getfield 469, 3) := by decide +kernel
theorem dX12_cond_35 : decode cX12_cond 35 = .ok (.iconst 1, 1) := by decide +kernel
theorem dX12_cond_36 : decode cX12_cond 36 = .ok (.isub, 1) := by decide +kernel
theorem dX12_cond_37 : decode cX12_cond 37 = .ok (.putfield 469, 3) := by decide +kernel
theorem dX12_cond_40 : decode cX12_cond 40 = .ok (.aload_n 0, 1) := by decide +kernel
theorem dX12_cond_41 : decode cX12_cond 41 = .ok (.iconst 3, 1) := by decide +kernel
theorem dX12_cond_42 : decode cX12_cond 42 = .ok (.invokevirtual 484, 3) := by decide +kernel
theorem dX12_cond_45 : decode cX12_cond 45 = .ok (.aload_n 0, 1) := by decide +kernel
theorem dX12_cond_46 : decode cX12_cond 46 = .ok (.invokevirtual 251, 3) := by decide +kernel
theorem dX12_cond_49 : decode cX12_cond 49 = .ok (.goto (-40), 3) := by decide +kernel
theorem dX12_cond_52 : decode cX12_cond 52 = .ok (.aload_n 0, 1) := by decide +kernel
theorem dX12_cond_53 : decode cX12_cond 53 = .ok (.ldc2_w 191, 3) := by decide +kernel
theorem dX12_cond_56 : decode cX12_cond 56 = .ok (.invokevirtual 279, 3) := by decide +kernel
theorem dX12_cond_59 : decode cX12_cond 59 = .ok (.istore_n 1, 1) := by decide +kernel
theorem dX12_cond_60 : decode cX12_cond 60 = .ok (.iload_n 1, 1) := by decide +kernel
theorem dX12_cond_61 : decode cX12_cond 61 = .ok (.ifCond .ne 52, 3) := by decide +kernel
theorem dX12_cond_64 : decode cX12_cond 64 = .ok (.aload_n 0, 1) := by decide +kernel
theorem dX12_cond_65 : decode cX12_cond 65 = .ok (.ldc2_w 189, 3) := by decide +kernel
theorem dX12_cond_68 : decode cX12_cond 68 = .ok (.invokevirtual 279, 3) := by decide +kernel
theorem dX12_cond_71 : decode cX12_cond 71 = .ok (.ifCond .ne 42, 3) := by decide +kernel
theorem dX12_cond_74 : decode cX12_cond 74 = .ok (.aload_n 0, 1) := by decide +kernel
theorem dX12_cond_75 : decode cX12_cond 75 = .ok (.invokevirtual 481, 3) := by decide +kernel
theorem dX12_cond_78 : decode cX12_cond 78 = .ok (.ifCond .eq 9, 3) := by decide +kernel
theorem dX12_cond_81 : decode cX12_cond 81 = .ok (.aload_n 0, 1) := by decide +kernel
theorem dX12_cond_82 : decode cX12_cond 82 = .ok (.iconst 1, 1) := by decide +kernel
theorem dX12_cond_83 : decode cX12_cond 83 = .ok (.invokevirtual 248, 3) := by decide +kernel
theorem dX12_cond_86 : decode cX12_cond 86 = .ok (.ireturn, 1) := by decide +kernel
theorem dX12_cond_87 : decode cX12_cond 87 = .ok (.aload_n 0, 1) := by decide +kernel
theorem dX12_cond_88 : decode cX12_cond 88 = .ok (.iconst 1, 1) := by decide +kernel
theorem dX12_cond_89 : decode cX12_cond 89 = .ok (.invokevirtual 484, 3) := by decide +kernel
theorem dX12_cond_92 : decode cX12_cond 92 = .ok (.aload_n 0, 1) := by decide +kernel
theorem dX12_cond_93 : decode cX12_cond 93 = .ok (.getfield 222, 3) := by decide +kernel
theorem dX12_cond_96 : decode cX12_cond 96 = .ok (.ifCond .eq 11, 3) := by decide +kernel
theorem dX12_cond_99 : decode cX12_cond 99 = .ok (.aload_n 0, 1) := by decide +kernel
theorem dX12_cond_100 : decode cX12_cond 100 = .ok (.iconst 1, 1) := by decide +kernel
theorem dX12_cond_101 : decode cX12_cond 101 = .ok (.invokevirtual 248, 3) := by decide +kernel
theorem dX12_cond_104 : decode cX12_cond 104 = .ok (.ifCond .eq 7, 3) := by decide +kernel
theorem dX12_cond_107 : decode cX12_cond 107 = .ok (.iconst 1, 1) := by decide +kernel
theorem dX12_cond_108 : decode cX12_cond 108 = .ok (.goto 4, 3) := by decide +kernel
theorem dX12_cond_111 : decode cX12_cond 111 = .ok (.iconst 0, 1) := by decide +kernel
theorem dX12_cond_112 : decode cX12_cond 112 = .ok (.ireturn, 1) := by decide +kernel
theorem dX12_cond_113 : decode cX12_cond 113 = .ok (.aload_n 0, 1) := by decide +kernel
theorem dX12_cond_114 : decode cX12_cond 114 = .ok (.iload_n 1, 1) := by decide +kernel
theorem dX12_cond_115 : decode cX12_cond 115 = .ok (.ifCond .eq 7, 3) := by decide +kernel
theorem dX12_cond_118 : decode cX12_cond 118 = .ok (.iconst 2, 1) := by decide +kernel
theorem dX12_cond_119 : decode cX12_cond 119 = .ok (.goto 4, 3) := by decide +kernel
theorem dX12_cond_122 : decode cX12_cond 122 = .ok (.iconst 1, 1) := by decide +kernel
theorem dX12_cond_123 : decode cX12_cond 123 = .ok (.invokevirtual 484, 3) := by decide +kernel
theorem dX12_cond_126 : decode cX12_cond 126 = .ok (.aload_n 0, 1) := by decide +kernel
theorem dX12_cond_127 : decode cX12_cond 127 = .ok (.getfield 141, 3) := by decide +kernel
theorem dX12_cond_130 : decode cX12_cond 130 = .ok (.aload_n 0, 1) := by decide +kernel
theorem dX12_cond_131 : decode cX12_cond 131 = .ok (.getfield 469, 3) := by decide +kernel
theorem dX12_cond_134 : decode cX12_cond 134 = .ok (.iload_n 1, 1) := by decide +kernel
theorem dX12_cond_135 : decode cX12_cond 135 = .ok (.ifCond .eq 8, 3) := by decide +kernel
theorem dX12_cond_138 : decode cX12_cond 138 = .ok (.bipush 8, 2) := by decide +kernel
theorem dX12_cond_140 : decode cX12_cond 140 = .ok (.goto 5, 3) := by decide +kernel
theorem dX12_cond_143 : decode cX12_cond 143 = .ok (.bipush 9, 2) := by decide +kernel
theorem dX12_cond_145 : decode cX12_cond 145 = .ok (.iastore, 1) := by decide +kernel
theorem dX12_cond_146 : decode cX12_cond 146 = .ok (.aload_n 0, 1) := by decide +kernel
theorem dX12_cond_147 : decode cX12_cond 147 = .ok (.dup, 1) := by decide +kernel
theorem dX12_cond_148 : decode cX12_cond 148 = .ok (.getfield 469, 3) := by decide +kernel
theorem dX12_cond_151 : decode cX12_cond 151 = .ok (.iconst 1, 1) := by decide +kernel
theorem dX12_cond_152 : decode cX12_cond 152 = .ok (.iadd, 1) := by decide +kernel
theorem dX12_cond_153 : decode cX12_cond 153 = .ok (.putfield 469, 3) := by decide +kernel
theorem dX12_cond_156 : decode cX12_cond 156 = .ok (.aload_n 0, 1) := by decide +kernel
theorem dX12_cond_157 : decode cX12_cond 157 = .ok (.invokevirtual 251, 3) := by decide +kernel
theorem dX12_cond_160 : decode cX12_cond 160 = .ok (.goto (-160), 3) := by decide +kernel
theorem dX12_atom_0 : decode cX12_atom 0 = .ok (.aload_n 0, 1) := by decide +kernel
theorem dX12_atom_1 : decode cX12_atom 1 = .ok (.ldc2_w 195, 3) := by decide +kernel
theorem dX12_atom_4 : decode cX12_atom 4 = .ok (.invokevirtual 279, 3) := by decide +kernel
theorem dX12_atom_7 : decode cX12_atom 7 = .ok (.ifCond .eq 7, 3) := by decide +kernel
theorem dX12_atom_10 : decode cX12_atom 10 = .ok (.iconst 0, 1) := by decide +kernel
theorem dX12_atom_11 : decode cX12_atom 11 = .ok (.goto 89, 3) := by decide +kernel
theorem dX12_atom_14 : decode cX12_atom 14 = .ok (.aload_n 0, 1) := by decide +kernel
theorem dX12_atom_15 : decode cX12_atom 15 = .ok (.ldc2_w 197, 3) := by decide +kernel
theorem dX12_atom_18 : decode cX12_atom 18 = .ok (.invokevirtual 279, 3) := by decide +kernel
theorem dX12_atom_21 : decode cX12_atom 21 = .ok (.ifCond .eq 7, 3) := by decide +kernel
theorem dX12_atom_24 : decode cX12_atom 24 = .ok (.iconst 1, 1) := by decide +kernel
theorem dX12_atom_25 : decode cX12_atom 25 = .ok (.goto 75, 3) := by decide +kernel
theorem dX12_atom_28 : decode cX12_atom 28 = .ok (.aload_n 0, 1) := by decide +kernel
theorem dX12_atom_29 : decode cX12_atom 29 = .ok (.ldc2_w 199, 3) := by decide +kernel
theorem dX12_atom_32 : decode cX12_atom 32 = .ok (.invokevirtual 279, 3) := by decide +kernel
theorem dX12_atom_35 : decode cX12_atom 35 = .ok (.ifCond .eq 7, 3) := by decide +kernel
theorem dX12_atom_38 : decode cX12_atom 38 = .ok (.iconst 2, 1) := by decide +kernel
theorem dX12_atom_39 : decode cX12_atom 39 = .ok (.goto 61, 3) := by decide +kernel
theorem dX12_atom_42 : decode cX12_atom 42 = .ok (.aload_n 0, 1) := by decide +kernel
theorem dX12_atom_43 : decode cX12_atom 43 = .ok (.ldc2_w 201, 3) := by decide +kernel
theorem dX12_atom_46 : decode cX12_atom 46 = .ok (.invokevirtual 279, 3) := by decide +kernel
theorem dX12_atom_49 : decode cX12_atom 49 = .ok (.ifCond .eq 7, 3) := by decide +kernel
theorem dX12_atom_52 : decode cX12_atom 52 = .ok (.iconst 3, 1) := by decide +kernel
theorem dX12_atom_53 : decode cX12_atom 53 = .ok (.goto 47, 3) := by decide +kernel
theorem dX12_atom_56 : decode cX12_atom 56 = .ok (.aload_n 0, 1) := by decide +kernel
theorem dX12_atom_57 : decode cX12_atom 57 = .ok (.ldc2_w 203, 3) := by decide +kernel
theorem dX12_atom_60 : decode cX12_atom 60 = .ok (.invokevirtual 279, 3) := by decide +kernel
theorem dX12_atom_63 : decode cX12_atom 63 = .ok (.ifCond .eq 7, 3) := by decide +kernel
theorem dX12_atom_66 : decode cX12_atom 66 = .ok (.iconst 4, 1) := by decide +kernel
theorem dX12_atom_67 : decode cX12_atom 67 = .ok (.goto 33, 3) := by decide +kernel
theorem dX12_atom_70 : decode cX12_atom 70 = .ok (.aload_n 0, 1) := by decide +kernel
theorem dX12_atom_71 : decode cX12_atom 71 = .ok (.ldc2_w 205, 3) := by decide +kernel
theorem dX12_atom_74 : decode cX12_atom 74 = .ok (.invokevirtual 279, 3) := by decide +kernel
theorem dX12_atom_77 : decode cX12_atom 77 = .ok (.ifCond .eq 7, 3) := by decide +kernel
theorem dX12_atom_80 : decode cX12_atom 80 = .ok (.iconst 5, 1) := by decide +kernel
theorem dX12_atom_81 : decode cX12_atom 81 = .ok (.goto 19, 3) := by decide +kernel
theorem dX12_atom_84 : decode cX12_atom 84 = .ok (.aload_n 0, 1) := by decide +kernel
theorem dX12_atom_85 : decode cX12_atom 85 = .ok (.ldc2_w 207, 3) := by decide +kernel
theorem dX12_atom_88 : decode cX12_atom 88 = .ok (.invokevirtual 279, 3) := by decide +kernel
theorem dX12_atom_91 : decode cX12_atom 91 = .ok (.ifCond .eq 8, 3) := by decide +kernel
theorem dX12_atom_94 : decode cX12_atom 94 = .ok (.bipush 6, 2) := by decide +kernel
theorem dX12_atom_96 : decode cX12_atom 96 = .ok (.goto 4, 3) := by decide +kernel
theorem dX12_atom_99 : decode cX12_atom 99 = .ok (.iconst (-1), 1) := by decide +kernel
theorem dX12_atom_100 : decode cX12_atom 100 = .ok (.ireturn, 1) := by decide +kernel
theorem dX12_one_0 : decode cX12_one 0 = .ok (.aload_n 0, 1) := by decide +kernel
theorem dX12_one_1 : decode cX12_one 1 = .ok (.ldc2_w 193, 3) := by decide +kernel
theorem dX12_one_4 : decode cX12_one 4 = .ok (.invokevirtual 279, 3) := by decide +kernel
theorem dX12_one_7 : decode cX12_one 7 = .ok (.istore_n 1, 1) := by decide +kernel
theorem dX12_one_8 : decode cX12_one 8 = .ok (.aload_n 0, 1) := by decide +kernel
theorem dX12_one_9 : decode cX12_one 9 = .ok (.invokevirtual 487, 3) := by decide +kernel
theorem dX12_one_12 : decode cX12_one 12 = .ok (.istore_n 2, 1) := by decide +kernel
theorem dX12_one_13 : decode cX12_one 13 = .ok (.iload_n 1, 1) := by decide +kernel
theorem dX12_one_14 : decode cX12_one 14 = .ok (.ifCond .ne 22, 3) := by decide +kernel
theorem dX12_one_17 : decode cX12_one 17 = .ok (.iload_n 2, 1) := by decide +kernel
theorem dX12_one_18 : decode cX12_one 18 = .ok (.ifCond .ge 18, 3) := by decide +kernel
theorem dX12_one_21 : decode cX12_one 21 = .ok (.aload_n 0, 1) := by decide +kernel
theorem dX12_one_22 : decode cX12_one 22 = .ok (.bipush 40, 2) := by decide +kernel
theorem dX12_one_24 : decode cX12_one 24 = .ok (.invokevirtual 245, 3) := by decide +kernel
theorem dX12_one_27 : decode cX12_one 27 = .ok (.ifCond .ne 9, 3) := by decide +kernel
theorem dX12_one_30 : decode cX12_one 30 = .ok (.aload_n 0, 1) := by decide +kernel
theorem dX12_one_31 : decode cX12_one 31 = .ok (.iconst 1, 1) := by decide +kernel
theorem dX12_one_32 : decode cX12_one 32 = .ok (.invokevirtual 248, 3) := by decide +kernel
theorem dX12_one_35 : decode cX12_one 35 = .ok (.ireturn, 1) := by decide +kernel
theorem dX12_one_36 : decode cX12_one 36 = .ok (.aload_n 0, 1) := by decide +kernel
theorem dX12_one_37 : decode cX12_one 37 = .ok (.getfield 490, 3) := by decide +kernel
theorem dX12_one_40 : decode cX12_one 40 = .ok (.bipush 20, 2) := by decide +kernel
theorem dX12_one_42 : decode cX12_one 42 = .ok (.if_icmp .eq 12, 3) := by decide +kernel
theorem dX12_one_45 : decode cX12_one 45 = .ok (.aload_n 0, 1) := by decide +kernel
theorem dX12_one_46 : decode cX12_one 46 = .ok (.invokevirtual 493, 3) := by decide +kernel
theorem dX12_one_49 : decode cX12_one 49 = .ok (.bipush 8, 2) := by decide +kernel
theorem dX12_one_51 : decode cX12_one 51 = .ok (.if_icmp .ne 9, 3) := by decide +kernel
theorem dX12_one_54 : decode cX12_one 54 = .ok (.aload_n 0, 1) := by decide +kernel
theorem dX12_one_55 : decode cX12_one 55 = .ok (.iconst 4, 1) := by decide +kernel
theorem dX12_one_56 : decode cX12_one 56 = .ok (.invokevirtual 248, 3) := by decide +kernel
theorem dX12_one_59 : decode cX12_one 59 = .ok (.ireturn, 1) := by decide +kernel
theorem dX12_one_60 : decode cX12_one 60 = .ok (.aload_n 0, 1) := by decide +kernel
theorem dX12_one_61 : decode cX12_one 61 = .ok (.dup, 1) := by decide +kernel
theorem dX12_one_62 : decode cX12_one 62 = .ok (.getfield 490, 3) := by decide +kernel
theorem dX12_one_65 : decode cX12_one 65 = .ok (.iconst 1, 1) := by decide +kernel
theorem dX12_one_66 : decode cX12_one 66 = .ok (.iadd, 1) := by decide +kernel
theorem dX12_one_67 : decode cX12_one 67 = .ok (.putfield 490, 3) := by decide +kernel
theorem dX12_one_70 : decode cX12_one 70 = .ok (.aload_n 0, 1) := by decide +kernel
theorem dX12_one_71 : decode cX12_one 71 = .ok (.invokevirtual 251, 3) := by decide +kernel
theorem dX12_one_74 : decode cX12_one 74 = .ok (.iload_n 2, 1) := by decide +kernel
theorem dX12_one_75 : decode cX12_one 75 = .ok (.ifCond .ge 36, 3) := by decide +kernel
theorem dX12_one_78 : decode cX12_one 78 = .ok (.aload_n 0, 1) := by decide +kernel
theorem dX12_one_79 : decode cX12_one 79 = .ok (.getfield 141, 3) := by decide +kernel
theorem dX12_one_82 : decode cX12_one 82 = .ok (.aload_n 0, 1) := by decide +kernel
theorem dX12_one_83 : decode cX12_one 83 = .ok (.getfield 469, 3) := by decide +kernel
theorem dX12_one_86 : decode cX12_one 86 = .ok (.iload_n 1, 1) := by decide +kernel
theorem dX12_one_87 : decode cX12_one 87 = .ok (.ifCond .eq 8, 3) := by decide +kernel
theorem dX12_one_90 : decode cX12_one 90 = .ok (.bipush 7, 2) := by decide +kernel
theorem dX12_one_92 : decode cX12_one 92 = .ok (.goto 5, 3) := by decide +kernel
theorem dX12_one_95 : decode cX12_one 95 = .ok (.bipush 10, 2) := by decide +kernel
theorem dX12_one_97 : decode cX12_one 97 = .ok (.iastore, 1) := by decide +kernel
theorem dX12_one_98 : decode cX12_one 98 = .ok (.aload_n 0, 1) := by decide +kernel
theorem dX12_one_99 : decode cX12_one 99 = .ok (.dup, 1) := by decide +kernel
theorem dX12_one_100 : decode cX12_one 100 = .ok (.getfield 469, 3) := by decide +kernel
theorem dX12_one_103 : decode cX12_one 103 = .ok (.iconst 1, 1) := by decide +kernel
theorem dX12_one_104 : decode cX12_one 104 = .ok (.iadd, 1) := by decide +kernel
theorem dX12_one_105 : decode cX12_one 105 = .ok (.putfield 469, 3) := by decide +kernel
theorem dX12_one_108 : decode cX12_one 108 = .ok (.goto (-108), 3) := by decide +kernel
theorem dX12_one_111 : decode cX12_one 111 = .ok (.aload_n 0, 1) := by decide +kernel
theorem dX12_one_112 : decode cX12_one 112 = .ok (.iload_n 2, 1) := by decide +kernel
theorem dX12_one_113 : decode cX12_one 113 = .ok (.invokevirtual 496, 3) := by decide +kernel
theorem dX12_one_116 : decode cX12_one 116 = .ok (.ireturn, 1) := by decide +kernel
theorem dX12_asks_0 : decode cX12_asks 0 = .ok (.iconst 0, 1) := by decide +kernel
theorem dX12_asks_1 : decode cX12_asks 1 = .ok (.istore_n 2, 1) := by decide +kernel
theorem dX12_asks_2 : decode cX12_asks 2 = .ok (.iconst 0, 1) := by decide +kernel
theorem dX12_asks_3 : decode cX12_asks 3 = .ok (.istore_n 3, 1) := by decide +kernel
theorem dX12_asks_4 : decode cX12_asks 4 = .ok (.iload_n 1, 1) := by decide +kernel
theorem dX12_asks_5 : decode cX12_asks 5 = .ok (.ifCond .ne 28, 3) := by decide +kernel
theorem dX12_asks_8 : decode cX12_asks 8 = .ok (.aload_n 0, 1) := by decide +kernel
theorem dX12_asks_9 : decode cX12_asks 9 = .ok (.bipush 8, 2) := by decide +kernel
theorem dX12_asks_11 : decode cX12_asks 11 = .ok (.aload_n 0, 1) := by decide +kernel
theorem dX12_asks_12 : decode cX12_asks 12 = .ok (.getfield 33, 3) := by decide +kernel
theorem dX12_asks_15 : decode cX12_asks 15 = .ok (.iconst 1, 1) := by decide +kernel
theorem dX12_asks_16 : decode cX12_asks 16 = .ok (.iaload, 1) := by decide +kernel
theorem dX12_asks_17 : decode cX12_asks 17 = .ok (.invokevirtual 301, 3) := by decide +kernel
theorem dX12_asks_20 : decode cX12_asks 20 = .ok (.ifCond .ne 5, 3) := by decide +kernel
theorem dX12_asks_23 : decode cX12_asks 23 = .ok (.iconst 0, 1) := by decide +kernel
theorem dX12_asks_24 : decode cX12_asks 24 = .ok (.ireturn, 1) := by decide +kernel
theorem dX12_asks_25 : decode cX12_asks 25 = .ok (.aload_n 0, 1) := by decide +kernel
theorem dX12_asks_26 : decode cX12_asks 26 = .ok (.getfield 258, 3) := by decide +kernel
theorem dX12_asks_29 : decode cX12_asks 29 = .ok (.istore_n 2, 1) := by decide +kernel
theorem dX12_asks_30 : decode cX12_asks 30 = .ok (.goto 73, 3) := by decide +kernel
theorem dX12_asks_33 : decode cX12_asks 33 = .ok (.iload_n 1, 1) := by decide +kernel
theorem dX12_asks_34 : decode cX12_asks 34 = .ok (.iconst 1, 1) := by decide +kernel
theorem dX12_asks_35 : decode cX12_asks 35 = .ok (.if_icmp .le 68, 3) := by decide +kernel
theorem dX12_asks_38 : decode cX12_asks 38 = .ok (.aload_n 0, 1) := by decide +kernel
theorem dX12_asks_39 : decode cX12_asks 39 = .ok (.bipush 60, 2) := by decide +kernel
theorem dX12_asks_41 : decode cX12_asks 41 = .ok (.invokevirtual 245, 3) := by decide +kernel
theorem dX12_asks_44 : decode cX12_asks 44 = .ok (.ifCond .ne 27, 3) := by decide +kernel
theorem dX12_asks_47 : decode cX12_asks 47 = .ok (.aload_n 0, 1) := by decide +kernel
theorem dX12_asks_48 : decode cX12_asks 48 = .ok (.bipush 61, 2) := by decide +kernel
theorem dX12_asks_50 : decode cX12_asks 50 = .ok (.invokevirtual 245, 3) := by decide +kernel
theorem dX12_asks_53 : decode cX12_asks 53 = .ok (.ifCond .ne 18, 3) := by decide +kernel
theorem dX12_asks_56 : decode cX12_asks 56 = .ok (.aload_n 0, 1) := by decide +kernel
theorem dX12_asks_57 : decode cX12_asks 57 = .ok (.bipush 62, 2) := by decide +kernel
theorem dX12_asks_59 : decode cX12_asks 59 = .ok (.invokevirtual 245, 3) := by decide +kernel
theorem dX12_asks_62 : decode cX12_asks 62 = .ok (.ifCond .ne 9, 3) := by decide +kernel
theorem dX12_asks_65 : decode cX12_asks 65 = .ok (.aload_n 0, 1) := by decide +kernel
theorem dX12_asks_66 : decode cX12_asks 66 = .ok (.iconst 1, 1) := by decide +kernel
theorem dX12_asks_67 : decode cX12_asks 67 = .ok (.invokevirtual 248, 3) := by decide +kernel
theorem dX12_asks_70 : decode cX12_asks 70 = .ok (.ireturn, 1) := by decide +kernel
theorem dX12_asks_71 : decode cX12_asks 71 = .ok (.aload_n 0, 1) := by decide +kernel
theorem dX12_asks_72 : decode cX12_asks 72 = .ok (.getfield 232, 3) := by decide +kernel
theorem dX12_asks_75 : decode cX12_asks 75 = .ok (.istore_n 2, 1) := by decide +kernel
theorem dX12_asks_76 : decode cX12_asks 76 = .ok (.aload_n 0, 1) := by decide +kernel
theorem dX12_asks_77 : decode cX12_asks 77 = .ok (.invokevirtual 251, 3) := by decide +kernel
theorem dX12_asks_80 : decode cX12_asks 80 = .ok (.aload_n 0, 1) := by decide +kernel
theorem dX12_asks_81 : decode cX12_asks 81 = .ok (.getfield 222, 3) := by decide +kernel
theorem dX12_asks_84 : decode cX12_asks 84 = .ok (.iconst 2, 1) := by decide +kernel
theorem dX12_asks_85 : decode cX12_asks 85 = .ok (.if_icmp .eq 9, 3) := by decide +kernel
theorem dX12_asks_88 : decode cX12_asks 88 = .ok (.aload_n 0, 1) := by decide +kernel
theorem dX12_asks_89 : decode cX12_asks 89 = .ok (.iconst 1, 1) := by decide +kernel
theorem dX12_asks_90 : decode cX12_asks 90 = .ok (.invokevirtual 248, 3) := by decide +kernel
theorem dX12_asks_93 : decode cX12_asks 93 = .ok (.ireturn, 1) := by decide +kernel
theorem dX12_asks_94 : decode cX12_asks 94 = .ok (.aload_n 0, 1) := by decide +kernel
theorem dX12_asks_95 : decode cX12_asks 95 = .ok (.getfield 232, 3) := by decide +kernel
theorem dX12_asks_98 : decode cX12_asks 98 = .ok (.istore_n 3, 1) := by decide +kernel
theorem dX12_asks_99 : decode cX12_asks 99 = .ok (.aload_n 0, 1) := by decide +kernel
theorem dX12_asks_100 : decode cX12_asks 100 = .ok (.invokevirtual 251, 3) := by decide +kernel
theorem dX12_asks_103 : decode cX12_asks 103 = .ok (.aload_n 0, 1) := by decide +kernel
theorem dX12_asks_104 : decode cX12_asks 104 = .ok (.iload_n 1, 1) := by decide +kernel
theorem dX12_asks_105 : decode cX12_asks 105 = .ok (.iload_n 2, 1) := by decide +kernel
theorem dX12_asks_106 : decode cX12_asks 106 = .ok (.iload_n 3, 1) := by decide +kernel
theorem dX12_asks_107 : decode cX12_asks 107 = .ok (.invokevirtual 475, 3) := by decide +kernel
theorem dX12_asks_110 : decode cX12_asks 110 = .ok (.aload_n 0, 1) := by decide +kernel
theorem dX12_asks_111 : decode cX12_asks 111 = .ok (.iconst 3, 1) := by decide +kernel
theorem dX12_asks_112 : decode cX12_asks 112 = .ok (.invokevirtual 484, 3) := by decide +kernel
theorem dX12_asks_115 : decode cX12_asks 115 = .ok (.iconst 1, 1) := by decide +kernel
theorem dX12_asks_116 : decode cX12_asks 116 = .ok (.ireturn, 1) := by decide +kernel
theorem dX12_sentence_0 : decode cX12_sentence 0 = .ok (.aload_n 0, 1) := by decide +kernel
theorem dX12_sentence_1 : decode cX12_sentence 1 = .ok (.iconst 0, 1) := by decide +kernel
theorem dX12_sentence_2 : decode cX12_sentence 2 = .ok (.putfield 1, 3) := by decide +kernel
theorem dX12_sentence_5 : decode cX12_sentence 5 = .ok (.aload_n 0, 1) := by decide +kernel
theorem dX12_sentence_6 : decode cX12_sentence 6 = .ok (.sipush 200, 3) := by decide +kernel
theorem dX12_sentence_9 : decode cX12_sentence 9 = .ok (.invokevirtual 304, 3) := by decide +kernel
theorem dX12_sentence_12 : decode cX12_sentence 12 = .ok (.aload_n 0, 1) := by decide +kernel
theorem dX12_sentence_13 : decode cX12_sentence 13 = .ok (.iconst 0, 1) := by decide +kernel
theorem dX12_sentence_14 : decode cX12_sentence 14 = .ok (.putfield 239, 3) := by decide +kernel
theorem dX12_sentence_17 : decode cX12_sentence 17 = .ok (.aload_n 0, 1) := by decide +kernel
theorem dX12_sentence_18 : decode cX12_sentence 18 = .ok (.iconst 0, 1) := by decide +kernel
theorem dX12_sentence_19 : decode cX12_sentence 19 = .ok (.putfield 466, 3) := by decide +kernel
theorem dX12_sentence_22 : decode cX12_sentence 22 = .ok (.aload_n 0, 1) := by decide +kernel
theorem dX12_sentence_23 : decode cX12_sentence 23 = .ok (.iconst 0, 1) := by decide +kernel
theorem dX12_sentence_24 : decode cX12_sentence 24 = .ok (.putfield 469, 3) := by decide +kernel
theorem dX12_sentence_27 : decode cX12_sentence 27 = .ok (.aload_n 0, 1) := by decide +kernel
theorem dX12_sentence_28 : decode cX12_sentence 28 = .ok (.iconst 0, 1) := by decide +kernel
theorem dX12_sentence_29 : decode cX12_sentence 29 = .ok (.putfield 490, 3) := by decide +kernel
theorem dX12_sentence_32 : decode cX12_sentence 32 = .ok (.aload_n 0, 1) := by decide +kernel
theorem dX12_sentence_33 : decode cX12_sentence 33 = .ok (.invokevirtual 251, 3) := by decide +kernel
theorem dX12_sentence_36 : decode cX12_sentence 36 = .ok (.aload_n 0, 1) := by decide +kernel
theorem dX12_sentence_37 : decode cX12_sentence 37 = .ok (.invokevirtual 499, 3) := by decide +kernel
theorem dX12_sentence_40 : decode cX12_sentence 40 = .ok (.ifCond .ne 10, 3) := by decide +kernel
theorem dX12_sentence_43 : decode cX12_sentence 43 = .ok (.iconst (-1), 1) := by decide +kernel
theorem dX12_sentence_44 : decode cX12_sentence 44 = .ok (.aload_n 0, 1) := by decide +kernel
theorem dX12_sentence_45 : decode cX12_sentence 45 = .ok (.getfield 242, 3) := by decide +kernel
theorem dX12_sentence_48 : decode cX12_sentence 48 = .ok (.isub, 1) := by decide +kernel
theorem dX12_sentence_49 : decode cX12_sentence 49 = .ok (.ireturn, 1) := by decide +kernel
theorem dX12_sentence_50 : decode cX12_sentence 50 = .ok (.aload_n 0, 1) := by decide +kernel
theorem dX12_sentence_51 : decode cX12_sentence 51 = .ok (.getfield 33, 3) := by decide +kernel
theorem dX12_sentence_54 : decode cX12_sentence 54 = .ok (.sipush 473, 3) := by decide +kernel
theorem dX12_sentence_57 : decode cX12_sentence 57 = .ok (.aload_n 0, 1) := by decide +kernel
theorem dX12_sentence_58 : decode cX12_sentence 58 = .ok (.getfield 466, 3) := by decide +kernel
theorem dX12_sentence_61 : decode cX12_sentence 61 = .ok (.iastore, 1) := by decide +kernel
theorem dX12_sentence_62 : decode cX12_sentence 62 = .ok (.iconst 0, 1) := by decide +kernel
theorem dX12_sentence_63 : decode cX12_sentence 63 = .ok (.istore_n 1, 1) := by decide +kernel
theorem dX12_sentence_64 : decode cX12_sentence 64 = .ok (.iload_n 1, 1) := by decide +kernel
theorem dX12_sentence_65 : decode cX12_sentence 65 = .ok (.iconst 3, 1) := by decide +kernel
theorem dX12_sentence_66 : decode cX12_sentence 66 = .ok (.aload_n 0, 1) := by decide +kernel
theorem dX12_sentence_67 : decode cX12_sentence 67 = .ok (.getfield 466, 3) := by decide +kernel
theorem dX12_sentence_70 : decode cX12_sentence 70 = .ok (.imul, 1) := by decide +kernel
theorem dX12_sentence_71 : decode cX12_sentence 71 = .ok (.if_icmp .ge 25, 3) := by decide +kernel
theorem dX12_sentence_74 : decode cX12_sentence 74 = .ok (.aload_n 0, 1) := by decide +kernel
theorem dX12_sentence_75 : decode cX12_sentence 75 = .ok (.getfield 33, 3) := by decide +kernel
theorem dX12_sentence_78 : decode cX12_sentence 78 = .ok (.sipush 474, 3) := by decide +kernel
theorem dX12_sentence_81 : decode cX12_sentence 81 = .ok (.iload_n 1, 1) := by decide +kernel
theorem dX12_sentence_82 : decode cX12_sentence 82 = .ok (.iadd, 1) := by decide +kernel
theorem dX12_sentence_83 : decode cX12_sentence 83 = .ok (.aload_n 0, 1) := by decide +kernel
theorem dX12_sentence_84 : decode cX12_sentence 84 = .ok (.getfield 138, 3) := by decide +kernel
theorem dX12_sentence_87 : decode cX12_sentence 87 = .ok (.iload_n 1, 1) := by decide +kernel
theorem dX12_sentence_88 : decode cX12_sentence 88 = .ok (.iaload, 1) := by decide +kernel
theorem dX12_sentence_89 : decode cX12_sentence 89 = .ok (.iastore, 1) := by decide +kernel
theorem dX12_sentence_90 : decode cX12_sentence 90 = .ok (.iinc 1 1, 3) := by decide +kernel
theorem dX12_sentence_93 : decode cX12_sentence 93 = .ok (.goto (-29), 3) := by decide +kernel
theorem dX12_sentence_96 : decode cX12_sentence 96 = .ok (.aload_n 0, 1) := by decide +kernel
theorem dX12_sentence_97 : decode cX12_sentence 97 = .ok (.getfield 490, 3) := by decide +kernel
theorem dX12_sentence_100 : decode cX12_sentence 100 = .ok (.ireturn, 1) := by decide +kernel
theorem dX12_so_0 : decode cX12_so 0 = .ok (.iload_n 2, 1) := by decide +kernel
theorem dX12_so_1 : decode cX12_so 1 = .ok (.ifCond .ne 14, 3) := by decide +kernel
theorem dX12_so_4 : decode cX12_so 4 = .ok (.aload_n 0, 1) := by decide +kernel
theorem dX12_so_5 : decode cX12_so 5 = .ok (.getfield 62, 3) := by decide +kernel
theorem dX12_so_8 : decode cX12_so 8 = .ok (.iload_n 1, 1) := by decide +kernel
theorem dX12_so_9 : decode cX12_so 9 = .ok (.iaload, 1) := by decide +kernel
theorem dX12_so_10 : decode cX12_so 10 = .ok (.iload_n 3, 1) := by decide +kernel
theorem dX12_so_11 : decode cX12_so 11 = .ok (.invokestatic 272, 3) := by decide +kernel
theorem dX12_so_14 : decode cX12_so 14 = .ok (.ireturn, 1) := by decide +kernel
theorem dX12_so_15 : decode cX12_so 15 = .ok (.iload_n 2, 1) := by decide +kernel
theorem dX12_so_16 : decode cX12_so 16 = .ok (.iconst 1, 1) := by decide +kernel
theorem dX12_so_17 : decode cX12_so 17 = .ok (.if_icmp .ne 45, 3) := by decide +kernel
theorem dX12_so_20 : decode cX12_so 20 = .ok (.iconst 0, 1) := by decide +kernel
theorem dX12_so_21 : decode cX12_so 21 = .ok (.istore 5, 2) := by decide +kernel
theorem dX12_so_23 : decode cX12_so 23 = .ok (.iload 5, 2) := by decide +kernel
theorem dX12_so_25 : decode cX12_so 25 = .ok (.aload_n 0, 1) := by decide +kernel
theorem dX12_so_26 : decode cX12_so 26 = .ok (.getfield 357, 3) := by decide +kernel
theorem dX12_so_29 : decode cX12_so 29 = .ok (.if_icmp .ge 31, 3) := by decide +kernel
theorem dX12_so_32 : decode cX12_so 32 = .ok (.aload_n 0, 1) := by decide +kernel
theorem dX12_so_33 : decode cX12_so 33 = .ok (.getfield 77, 3) := by decide +kernel
theorem dX12_so_36 : decode cX12_so 36 = .ok (.iload 5, 2) := by decide +kernel
theorem dX12_so_38 : decode cX12_so 38 = .ok (.iaload, 1) := by decide +kernel
theorem dX12_so_39 : decode cX12_so 39 = .ok (.iload_n 1, 1) := by decide +kernel
theorem dX12_so_40 : decode cX12_so 40 = .ok (.if_icmp .ne 14, 3) := by decide +kernel
theorem dX12_so_43 : decode cX12_so 43 = .ok (.aload_n 0, 1) := by decide +kernel
theorem dX12_so_44 : decode cX12_so 44 = .ok (.iload 5, 2) := by decide +kernel
theorem dX12_so_46 : decode cX12_so 46 = .ok (.invokevirtual 403, 3) := by decide +kernel
theorem dX12_so_49 : decode cX12_so 49 = .ok (.ifCond .eq 5, 3) := by decide +kernel
theorem dX12_so_52 : decode cX12_so 52 = .ok (.iconst 1, 1) := by decide +kernel
theorem dX12_so_53 : decode cX12_so 53 = .ok (.ireturn, 1) := by decide +kernel
theorem dX12_so_54 : decode cX12_so 54 = .ok (.iinc 5 1, 3) := by decide +kernel
theorem dX12_so_57 : decode cX12_so 57 = .ok (.goto (-34), 3) := by decide +kernel
theorem dX12_so_60 : decode cX12_so 60 = .ok (.iconst 0, 1) := by decide +kernel
theorem dX12_so_61 : decode cX12_so 61 = .ok (.ireturn, 1) := by decide +kernel
theorem dX12_so_62 : decode cX12_so 62 = .ok (.aload_n 0, 1) := by decide +kernel
theorem dX12_so_63 : decode cX12_so 63 = .ok (.iload_n 1, 1) := by decide +kernel
theorem dX12_so_64 : decode cX12_so 64 = .ok (.iload_n 2, 1) := by decide +kernel
theorem dX12_so_65 : decode cX12_so 65 = .ok (.iconst 2, 1) := by decide +kernel
theorem dX12_so_66 : decode cX12_so 66 = .ok (.isub, 1) := by decide +kernel
theorem dX12_so_67 : decode cX12_so 67 = .ok (.invokevirtual 406, 3) := by decide +kernel
theorem dX12_so_70 : decode cX12_so 70 = .ok (.istore 5, 2) := by decide +kernel
theorem dX12_so_72 : decode cX12_so 72 = .ok (.iload_n 3, 1) := by decide +kernel
theorem dX12_so_73 : decode cX12_so 73 = .ok (.bipush 60, 2) := by decide +kernel
theorem dX12_so_75 : decode cX12_so 75 = .ok (.if_icmp .ne 18, 3) := by decide +kernel
theorem dX12_so_78 : decode cX12_so 78 = .ok (.iload 5, 2) := by decide +kernel
theorem dX12_so_80 : decode cX12_so 80 = .ok (.iload 4, 2) := by decide +kernel
theorem dX12_so_82 : decode cX12_so 82 = .ok (.if_icmp .ge 7, 3) := by decide +kernel
theorem dX12_so_85 : decode cX12_so 85 = .ok (.iconst 1, 1) := by decide +kernel
theorem dX12_so_86 : decode cX12_so 86 = .ok (.goto 40, 3) := by decide +kernel
theorem dX12_so_89 : decode cX12_so 89 = .ok (.iconst 0, 1) := by decide +kernel
theorem dX12_so_90 : decode cX12_so 90 = .ok (.goto 36, 3) := by decide +kernel
theorem dX12_so_93 : decode cX12_so 93 = .ok (.iload_n 3, 1) := by decide +kernel
theorem dX12_so_94 : decode cX12_so 94 = .ok (.bipush 61, 2) := by decide +kernel
theorem dX12_so_96 : decode cX12_so 96 = .ok (.if_icmp .ne 18, 3) := by decide +kernel
theorem dX12_so_99 : decode cX12_so 99 = .ok (.iload 5, 2) := by decide +kernel
theorem dX12_so_101 : decode cX12_so 101 = .ok (.iload 4, 2) := by decide +kernel
theorem dX12_so_103 : decode cX12_so 103 = .ok (.if_icmp .ne 7, 3) := by decide +kernel
theorem dX12_so_106 : decode cX12_so 106 = .ok (.iconst 1, 1) := by decide +kernel
theorem dX12_so_107 : decode cX12_so 107 = .ok (.goto 19, 3) := by decide +kernel
theorem dX12_so_110 : decode cX12_so 110 = .ok (.iconst 0, 1) := by decide +kernel
theorem dX12_so_111 : decode cX12_so 111 = .ok (.goto 15, 3) := by decide +kernel
theorem dX12_so_114 : decode cX12_so 114 = .ok (.iload 5, 2) := by decide +kernel
theorem dX12_so_116 : decode cX12_so 116 = .ok (.iload 4, 2) := by decide +kernel
theorem dX12_so_118 : decode cX12_so 118 = .ok (.if_icmp .le 7, 3) := by decide +kernel
theorem dX12_so_121 : decode cX12_so 121 = .ok (.iconst 1, 1) := by decide +kernel
theorem dX12_so_122 : decode cX12_so 122 = .ok (.goto 4, 3) := by decide +kernel
theorem dX12_so_125 : decode cX12_so 125 = .ok (.iconst 0, 1) := by decide +kernel
theorem dX12_so_126 : decode cX12_so 126 = .ok (.ireturn, 1) := by decide +kernel
theorem dX12_isSaid_0 : decode cX12_isSaid 0 = .ok (.iconst 0, 1) := by decide +kernel
theorem dX12_isSaid_1 : decode cX12_isSaid 1 = .ok (.istore_n 2, 1) := by decide +kernel
theorem dX12_isSaid_2 : decode cX12_isSaid 2 = .ok (.iconst 0, 1) := by decide +kernel
theorem dX12_isSaid_3 : decode cX12_isSaid 3 = .ok (.istore_n 3, 1) := by decide +kernel
theorem dX12_isSaid_4 : decode cX12_isSaid 4 = .ok (.iload_n 3, 1) := by decide +kernel
theorem dX12_isSaid_5 : decode cX12_isSaid 5 = .ok (.aload_n 0, 1) := by decide +kernel
theorem dX12_isSaid_6 : decode cX12_isSaid 6 = .ok (.getfield 33, 3) := by decide +kernel
theorem dX12_isSaid_9 : decode cX12_isSaid 9 = .ok (.sipush 473, 3) := by decide +kernel
theorem dX12_isSaid_12 : decode cX12_isSaid 12 = .ok (.iaload, 1) := by decide +kernel
theorem dX12_isSaid_13 : decode cX12_isSaid 13 = .ok (.if_icmp .ge 189, 3) := by decide +kernel
theorem dX12_isSaid_16 : decode cX12_isSaid 16 = .ok (.aload_n 0, 1) := by decide +kernel
theorem dX12_isSaid_17 : decode cX12_isSaid 17 = .ok (.getfield 33, 3) := by decide +kernel
theorem dX12_isSaid_20 : decode cX12_isSaid 20 = .ok (.sipush 474, 3) := by decide +kernel
theorem dX12_isSaid_23 : decode cX12_isSaid 23 = .ok (.iconst 3, 1) := by decide +kernel
theorem dX12_isSaid_24 : decode cX12_isSaid 24 = .ok (.iload_n 3, 1) := by decide +kernel
theorem dX12_isSaid_25 : decode cX12_isSaid 25 = .ok (.imul, 1) := by decide +kernel
theorem dX12_isSaid_26 : decode cX12_isSaid 26 = .ok (.iadd, 1) := by decide +kernel
theorem dX12_isSaid_27 : decode cX12_isSaid 27 = .ok (.iaload, 1) := by decide +kernel
theorem dX12_isSaid_28 : decode cX12_isSaid 28 = .ok (.istore 4, 2) := by decide +kernel
theorem dX12_isSaid_30 : decode cX12_isSaid 30 = .ok (.iload 4, 2) := by decide +kernel
theorem dX12_isSaid_32 : decode cX12_isSaid 32 = .ok (.bipush 7, 2) := by decide +kernel
theorem dX12_isSaid_34 : decode cX12_isSaid 34 = .ok (.if_icmp .ne 30, 3) := by decide +kernel
theorem dX12_isSaid_37 : decode cX12_isSaid 37 = .ok (.aload_n 0, 1) := by decide +kernel
theorem dX12_isSaid_38 : decode cX12_isSaid 38 = .ok (.getfield 144, 3) := by decide +kernel
theorem dX12_isSaid_41 : decode cX12_isSaid 41 = .ok (.iload_n 2, 1) := by decide +kernel
theorem dX12_isSaid_42 : decode cX12_isSaid 42 = .ok (.iconst 1, 1) := by decide +kernel
theorem dX12_isSaid_43 : decode cX12_isSaid 43 = .ok (.isub, 1) := by decide +kernel
theorem dX12_isSaid_44 : decode cX12_isSaid 44 = .ok (.aload_n 0, 1) := by decide +kernel
theorem dX12_isSaid_45 : decode cX12_isSaid 45 = .ok (.getfield 144, 3) := by decide +kernel
theorem dX12_isSaid_48 : decode cX12_isSaid 48 = .ok (.iload_n 2, 1) := by decide +kernel
theorem dX12_isSaid_49 : decode cX12_isSaid 49 = .ok (.iconst 1, 1) := by decide +kernel
theorem dX12_isSaid_50 : decode cX12_isSaid 50 = .ok (.isub, 1) := by decide +kernel
theorem dX12_isSaid_51 : decode cX12_isSaid 51 = .ok (.baload, 1) := by decide +kernel
theorem dX12_isSaid_52 : decode cX12_isSaid 52 = .ok (.ifCond .ne 7, 3) := by decide +kernel
theorem dX12_isSaid_55 : decode cX12_isSaid 55 = .ok (.iconst 1, 1) := by decide +kernel
theorem dX12_isSaid_56 : decode cX12_isSaid 56 = .ok (.goto 4, 3) := by decide +kernel
theorem dX12_isSaid_59 : decode cX12_isSaid 59 = .ok (.iconst 0, 1) := by decide +kernel
theorem dX12_isSaid_60 : decode cX12_isSaid 60 = .ok (.bastore, 1) := by decide +kernel
theorem dX12_isSaid_61 : decode cX12_isSaid 61 = .ok (.goto 135, 3) := by decide +kernel
theorem dX12_isSaid_64 : decode cX12_isSaid 64 = .ok (.iload 4, 2) := by decide +kernel
theorem dX12_isSaid_66 : decode cX12_isSaid 66 = .ok (.bipush 8, 2) := by decide +kernel
theorem dX12_isSaid_68 : decode cX12_isSaid 68 = .ok (.if_icmp .eq 10, 3) := by decide +kernel
theorem dX12_isSaid_71 : decode cX12_isSaid 71 = .ok (.iload 4, 2) := by decide +kernel
theorem dX12_isSaid_73 : decode cX12_isSaid 73 = .ok (.bipush 9, 2) := by decide +kernel
theorem dX12_isSaid_75 : decode cX12_isSaid 75 = .ok (.if_icmp .ne 77, 3) := by decide +kernel
theorem dX12_isSaid_78 : decode cX12_isSaid 78 = .ok (.iinc 2 (-1), 3) := by decide +kernel
theorem dX12_isSaid_81 : decode cX12_isSaid 81 = .ok (.aload_n 0, 1) := by decide +kernel
theorem dX12_isSaid_82 : decode cX12_isSaid 82 = .ok (.getfield 144, 3) := by decide +kernel
theorem dX12_isSaid_85 : decode cX12_isSaid 85 = .ok (.iload_n 2, 1) := by decide +kernel
theorem dX12_isSaid_86 : decode cX12_isSaid 86 = .ok (.iconst 1, 1) := by decide +kernel
theorem dX12_isSaid_87 : decode cX12_isSaid 87 = .ok (.isub, 1) := by decide +kernel
theorem dX12_isSaid_88 : decode cX12_isSaid 88 = .ok (.iload 4, 2) := by decide +kernel
theorem dX12_isSaid_90 : decode cX12_isSaid 90 = .ok (.bipush 8, 2) := by decide +kernel
theorem dX12_isSaid_92 : decode cX12_isSaid 92 = .ok (.if_icmp .ne 31, 3) := by decide +kernel
theorem dX12_isSaid_95 : decode cX12_isSaid 95 = .ok (.aload_n 0, 1) := by decide +kernel
theorem dX12_isSaid_96 : decode cX12_isSaid 96 = .ok (.getfield 144, 3) := by decide +kernel
theorem dX12_isSaid_99 : decode cX12_isSaid 99 = .ok (.iload_n 2, 1) := by decide +kernel
theorem dX12_isSaid_100 : decode cX12_isSaid 100 = .ok (.iconst 1, 1) := by decide +kernel
theorem dX12_isSaid_101 : decode cX12_isSaid 101 = .ok (.isub, 1) := by decide +kernel
theorem dX12_isSaid_102 : decode cX12_isSaid 102 = .ok (.baload, 1) := by decide +kernel
theorem dX12_isSaid_103 : decode cX12_isSaid 103 = .ok (.ifCond .eq 16, 3) := by decide +kernel
theorem dX12_isSaid_106 : decode cX12_isSaid 106 = .ok (.aload_n 0, 1) := by decide +kernel
theorem dX12_isSaid_107 : decode cX12_isSaid 107 = .ok (.getfield 144, 3) := by decide +kernel
theorem dX12_isSaid_110 : decode cX12_isSaid 110 = .ok (.iload_n 2, 1) := by decide +kernel
theorem dX12_isSaid_111 : decode cX12_isSaid 111 = .ok (.baload, 1) := by decide +kernel
theorem dX12_isSaid_112 : decode cX12_isSaid 112 = .ok (.ifCond .eq 7, 3) := by decide +kernel
theorem dX12_isSaid_115 : decode cX12_isSaid 115 = .ok (.iconst 1, 1) := by decide +kernel
theorem dX12_isSaid_116 : decode cX12_isSaid 116 = .ok (.goto 32, 3) := by decide +kernel
theorem dX12_isSaid_119 : decode cX12_isSaid 119 = .ok (.iconst 0, 1) := by decide +kernel
theorem dX12_isSaid_120 : decode cX12_isSaid 120 = .ok (.goto 28, 3) := by decide +kernel
theorem dX12_isSaid_123 : decode cX12_isSaid 123 = .ok (.aload_n 0, 1) := by decide +kernel
theorem dX12_isSaid_124 : decode cX12_isSaid 124 = .ok (.getfield 144, 3) := by decide +kernel
theorem dX12_isSaid_127 : decode cX12_isSaid 127 = .ok (.iload_n 2, 1) := by decide +kernel
theorem dX12_isSaid_128 : decode cX12_isSaid 128 = .ok (.iconst 1, 1) := by decide +kernel
theorem dX12_isSaid_129 : decode cX12_isSaid 129 = .ok (.isub, 1) := by decide +kernel
theorem dX12_isSaid_130 : decode cX12_isSaid 130 = .ok (.baload, 1) := by decide +kernel
theorem dX12_isSaid_131 : decode cX12_isSaid 131 = .ok (.ifCond .ne 12, 3) := by decide +kernel
theorem dX12_isSaid_134 : decode cX12_isSaid 134 = .ok (.aload_n 0, 1) := by decide +kernel
theorem dX12_isSaid_135 : decode cX12_isSaid 135 = .ok (.getfield 144, 3) := by decide +kernel
theorem dX12_isSaid_138 : decode cX12_isSaid 138 = .ok (.iload_n 2, 1) := by decide +kernel
theorem dX12_isSaid_139 : decode cX12_isSaid 139 = .ok (.baload, 1) := by decide +kernel
theorem dX12_isSaid_140 : decode cX12_isSaid 140 = .ok (.ifCond .eq 7, 3) := by decide +kernel
theorem dX12_isSaid_143 : decode cX12_isSaid 143 = .ok (.iconst 1, 1) := by decide +kernel
theorem dX12_isSaid_144 : decode cX12_isSaid 144 = .ok (.goto 4, 3) := by decide +kernel
theorem dX12_isSaid_147 : decode cX12_isSaid 147 = .ok (.iconst 0, 1) := by decide +kernel
theorem dX12_isSaid_148 : decode cX12_isSaid 148 = .ok (.bastore, 1) := by decide +kernel
theorem dX12_isSaid_149 : decode cX12_isSaid 149 = .ok (.goto 47, 3) := by decide +kernel
theorem dX12_isSaid_152 : decode cX12_isSaid 152 = .ok (.aload_n 0, 1) := by decide +kernel
theorem dX12_isSaid_153 : decode cX12_isSaid 153 = .ok (.getfield 144, 3) := by decide +kernel
theorem dX12_isSaid_156 : decode cX12_isSaid 156 = .ok (.iload_n 2, 1) := by decide +kernel
theorem dX12_isSaid_157 : decode cX12_isSaid 157 = .ok (.aload_n 0, 1) := by decide +kernel
theorem dX12_isSaid_158 : decode cX12_isSaid 158 = .ok (.iload_n 1, 1) := by decide +kernel
theorem dX12_isSaid_159 : decode cX12_isSaid 159 = .ok (.iload 4, 2) := by decide +kernel
theorem dX12_isSaid_161 : decode cX12_isSaid 161 = .ok (.aload_n 0, 1) := by decide +kernel
theorem dX12_isSaid_162 : decode cX12_isSaid 162 = .ok (.getfield 33, 3) := by decide +kernel
theorem dX12_isSaid_165 : decode cX12_isSaid 165 = .ok (.sipush 474, 3) := by decide +kernel
theorem dX12_isSaid_168 : decode cX12_isSaid 168 = .ok (.iconst 3, 1) := by decide +kernel
theorem dX12_isSaid_169 : decode cX12_isSaid 169 = .ok (.iload_n 3, 1) := by decide +kernel
theorem dX12_isSaid_170 : decode cX12_isSaid 170 = .ok (.imul, 1) := by decide +kernel
theorem dX12_isSaid_171 : decode cX12_isSaid 171 = .ok (.iadd, 1) := by decide +kernel
theorem dX12_isSaid_172 : decode cX12_isSaid 172 = .ok (.iconst 1, 1) := by decide +kernel
theorem dX12_isSaid_173 : decode cX12_isSaid 173 = .ok (.iadd, 1) := by decide +kernel
theorem dX12_isSaid_174 : decode cX12_isSaid 174 = .ok (.iaload, 1) := by decide +kernel
theorem dX12_isSaid_175 : decode cX12_isSaid 175 = .ok (.aload_n 0, 1) := by decide +kernel
theorem dX12_isSaid_176 : decode cX12_isSaid 176 = .ok (.getfield 33, 3) := by decide +kernel
theorem dX12_isSaid_179 : decode cX12_isSaid 179 = .ok (.sipush 474, 3) := by decide +kernel
theorem dX12_isSaid_182 : decode cX12_isSaid 182 = .ok (.iconst 3, 1) := by decide +kernel
theorem dX12_isSaid_183 : decode cX12_isSaid 183 = .ok (.iload_n 3, 1) := by decide +kernel
theorem dX12_isSaid_184 : decode cX12_isSaid 184 = .ok (.imul, 1) := by decide +kernel
theorem dX12_isSaid_185 : decode cX12_isSaid 185 = .ok (.iadd, 1) := by decide +kernel
theorem dX12_isSaid_186 : decode cX12_isSaid 186 = .ok (.iconst 2, 1) := by decide +kernel
theorem dX12_isSaid_187 : decode cX12_isSaid 187 = .ok (.iadd, 1) := by decide +kernel
theorem dX12_isSaid_188 : decode cX12_isSaid 188 = .ok (.iaload, 1) := by decide +kernel
theorem dX12_isSaid_189 : decode cX12_isSaid 189 = .ok (.invokevirtual 502, 3) := by decide +kernel
theorem dX12_isSaid_192 : decode cX12_isSaid 192 = .ok (.bastore, 1) := by decide +kernel
theorem dX12_isSaid_193 : decode cX12_isSaid 193 = .ok (.iinc 2 1, 3) := by decide +kernel
theorem dX12_isSaid_196 : decode cX12_isSaid 196 = .ok (.iinc 3 1, 3) := by decide +kernel
theorem dX12_isSaid_199 : decode cX12_isSaid 199 = .ok (.goto (-195), 3) := by decide +kernel
theorem dX12_isSaid_202 : decode cX12_isSaid 202 = .ok (.aload_n 0, 1) := by decide +kernel
theorem dX12_isSaid_203 : decode cX12_isSaid 203 = .ok (.getfield 144, 3) := by decide +kernel
theorem dX12_isSaid_206 : decode cX12_isSaid 206 = .ok (.iconst 0, 1) := by decide +kernel
theorem dX12_isSaid_207 : decode cX12_isSaid 207 = .ok (.baload, 1) := by decide +kernel
theorem dX12_isSaid_208 : decode cX12_isSaid 208 = .ok (.ireturn, 1) := by decide +kernel
theorem dX12_said_0 : decode cX12_said 0 = .ok (.aload_n 0, 1) := by decide +kernel
theorem dX12_said_1 : decode cX12_said 1 = .ok (.iconst 0, 1) := by decide +kernel
theorem dX12_said_2 : decode cX12_said 2 = .ok (.putfield 1, 3) := by decide +kernel
theorem dX12_said_5 : decode cX12_said 5 = .ok (.aload_n 0, 1) := by decide +kernel
theorem dX12_said_6 : decode cX12_said 6 = .ok (.getfield 33, 3) := by decide +kernel
theorem dX12_said_9 : decode cX12_said 9 = .ok (.sipush 473, 3) := by decide +kernel
theorem dX12_said_12 : decode cX12_said 12 = .ok (.iaload, 1) := by decide +kernel
theorem dX12_said_13 : decode cX12_said 13 = .ok (.ifCond .ne 5, 3) := by decide +kernel
theorem dX12_said_16 : decode cX12_said 16 = .ok (.iconst (-1), 1) := by decide +kernel
theorem dX12_said_17 : decode cX12_said 17 = .ok (.ireturn, 1) := by decide +kernel
theorem dX12_said_18 : decode cX12_said 18 = .ok (.aload_n 0, 1) := by decide +kernel
theorem dX12_said_19 : decode cX12_said 19 = .ok (.iconst (-1), 1) := by decide +kernel
theorem dX12_said_20 : decode cX12_said 20 = .ok (.invokevirtual 400, 3) := by decide +kernel
theorem dX12_said_23 : decode cX12_said 23 = .ok (.iconst 0, 1) := by decide +kernel
theorem dX12_said_24 : decode cX12_said 24 = .ok (.istore_n 1, 1) := by decide +kernel
theorem dX12_said_25 : decode cX12_said 25 = .ok (.iconst 0, 1) := by decide +kernel
theorem dX12_said_26 : decode cX12_said 26 = .ok (.istore_n 2, 1) := by decide +kernel
theorem dX12_said_27 : decode cX12_said 27 = .ok (.iload_n 2, 1) := by decide +kernel
theorem dX12_said_28 : decode cX12_said 28 = .ok (.aload_n 0, 1) := by decide +kernel
theorem dX12_said_29 : decode cX12_said 29 = .ok (.getfield 33, 3) := by decide +kernel
theorem dX12_said_32 : decode cX12_said 32 = .ok (.iconst 0, 1) := by decide +kernel
theorem dX12_said_33 : decode cX12_said 33 = .ok (.iaload, 1) := by decide +kernel
theorem dX12_said_34 : decode cX12_said 34 = .ok (.if_icmp .ge 27, 3) := by decide +kernel
theorem dX12_said_37 : decode cX12_said 37 = .ok (.iload_n 1, 1) := by decide +kernel
theorem dX12_said_38 : decode cX12_said 38 = .ok (.aload_n 0, 1) := by decide +kernel
theorem dX12_said_39 : decode cX12_said 39 = .ok (.iload_n 2, 1) := by decide +kernel
theorem dX12_said_40 : decode cX12_said 40 = .ok (.invokevirtual 506, 3) := by decide +kernel
theorem dX12_said_43 : decode cX12_said 43 = .ok (.ifCond .eq 9, 3) := by decide +kernel
theorem dX12_said_46 : decode cX12_said 46 = .ok (.iconst 1, 1) := by decide +kernel
theorem dX12_said_47 : decode cX12_said 47 = .ok (.iload_n 2, 1) := by decide +kernel
theorem dX12_said_48 : decode cX12_said 48 = .ok (.ishl, 1) := by decide +kernel
theorem dX12_said_49 : decode cX12_said 49 = .ok (.goto 4, 3) := by decide +kernel
theorem dX12_said_52 : decode cX12_said 52 = .ok (.iconst 0, 1) := by decide +kernel
theorem dX12_said_53 : decode cX12_said 53 = .ok (.ior, 1) := by decide +kernel
theorem dX12_said_54 : decode cX12_said 54 = .ok (.istore_n 1, 1) := by decide +kernel
theorem dX12_said_55 : decode cX12_said 55 = .ok (.iinc 2 1, 3) := by decide +kernel
theorem dX12_said_58 : decode cX12_said 58 = .ok (.goto (-31), 3) := by decide +kernel
theorem dX12_said_61 : decode cX12_said 61 = .ok (.iload_n 1, 1) := by decide +kernel
theorem dX12_said_62 : decode cX12_said 62 = .ok (.ireturn, 1) := by decide +kernel
theorem dX12_image_0 : decode cX12_image 0 = .ok (.aload_n 0, 1) := by decide +kernel
theorem dX12_image_1 : decode cX12_image 1 = .ok (.iconst 0, 1) := by decide +kernel
theorem dX12_image_2 : decode cX12_image 2 = .ok (.putfield 1, 3) := by decide +kernel
theorem dX12_image_5 : decode cX12_image 5 = .ok (.iload_n 1, 1) := by decide +kernel
theorem dX12_image_6 : decode cX12_image 6 = .ok (.iconst 0, 1) := by decide +kernel
theorem dX12_image_7 : decode cX12_image 7 = .ok (.iconst 1, 1) := by decide +kernel
theorem dX12_image_8 : decode cX12_image 8 = .ok (.invokestatic 254, 3) := by decide +kernel
theorem dX12_image_11 : decode cX12_image 11 = .ok (.ifCond .ne 5, 3) := by decide +kernel
theorem dX12_image_14 : decode cX12_image 14 = .ok (.iconst 0, 1) := by decide +kernel
theorem dX12_image_15 : decode cX12_image 15 = .ok (.ireturn, 1) := by decide +kernel
theorem dX12_image_16 : decode cX12_image 16 = .ok (.iconst 0, 1) := by decide +kernel
theorem dX12_image_17 : decode cX12_image 17 = .ok (.istore_n 2, 1) := by decide +kernel
theorem dX12_image_18 : decode cX12_image 18 = .ok (.iload_n 2, 1) := by decide +kernel
theorem dX12_image_19 : decode cX12_image 19 = .ok (.sipush 666, 3) := by decide +kernel
theorem dX12_image_22 : decode cX12_image 22 = .ok (.if_icmp .ge 27, 3) := by decide +kernel
theorem dX12_image_25 : decode cX12_image 25 = .ok (.aload_n 0, 1) := by decide +kernel
theorem dX12_image_26 : decode cX12_image 26 = .ok (.getfield 148, 3) := by decide +kernel
theorem dX12_image_29 : decode cX12_image 29 = .ok (.sipush 666, 3) := by decide +kernel
theorem dX12_image_32 : decode cX12_image 32 = .ok (.iload_n 1, 1) := by decide +kernel
theorem dX12_image_33 : decode cX12_image 33 = .ok (.imul, 1) := by decide +kernel
theorem dX12_image_34 : decode cX12_image 34 = .ok (.iload_n 2, 1) := by decide +kernel
theorem dX12_image_35 : decode cX12_image 35 = .ok (.iadd, 1) := by decide +kernel
theorem dX12_image_36 : decode cX12_image 36 = .ok (.aload_n 0, 1) := by decide +kernel
theorem dX12_image_37 : decode cX12_image 37 = .ok (.getfield 33, 3) := by decide +kernel
theorem dX12_image_40 : decode cX12_image 40 = .ok (.iload_n 2, 1) := by decide +kernel
theorem dX12_image_41 : decode cX12_image 41 = .ok (.iaload, 1) := by decide +kernel
theorem dX12_image_42 : decode cX12_image 42 = .ok (.iastore, 1) := by decide +kernel
theorem dX12_image_43 : decode cX12_image 43 = .ok (.iinc 2 1, 3) := by decide +kernel
theorem dX12_image_46 : decode cX12_image 46 = .ok (.goto (-28), 3) := by decide +kernel
theorem dX12_image_49 : decode cX12_image 49 = .ok (.iconst 0, 1) := by decide +kernel
theorem dX12_image_50 : decode cX12_image 50 = .ok (.istore_n 2, 1) := by decide +kernel
theorem dX12_image_51 : decode cX12_image 51 = .ok (.iload_n 2, 1) := by decide +kernel
theorem dX12_image_52 : decode cX12_image 52 = .ok (.bipush 20, 2) := by decide +kernel
theorem dX12_image_54 : decode cX12_image 54 = .ok (.if_icmp .ge 26, 3) := by decide +kernel
theorem dX12_image_57 : decode cX12_image 57 = .ok (.aload_n 0, 1) := by decide +kernel
theorem dX12_image_58 : decode cX12_image 58 = .ok (.getfield 151, 3) := by decide +kernel
theorem dX12_image_61 : decode cX12_image 61 = .ok (.bipush 20, 2) := by decide +kernel
theorem dX12_image_63 : decode cX12_image 63 = .ok (.iload_n 1, 1) := by decide +kernel
theorem dX12_image_64 : decode cX12_image 64 = .ok (.imul, 1) := by decide +kernel
theorem dX12_image_65 : decode cX12_image 65 = .ok (.iload_n 2, 1) := by decide +kernel
theorem dX12_image_66 : decode cX12_image 66 = .ok (.iadd, 1) := by decide +kernel
theorem dX12_image_67 : decode cX12_image 67 = .ok (.aload_n 0, 1) := by decide +kernel
theorem dX12_image_68 : decode cX12_image 68 = .ok (.getfield 43, 3) := by decide +kernel
theorem dX12_image_71 : decode cX12_image 71 = .ok (.iload_n 2, 1) := by decide +kernel
theorem dX12_image_72 : decode cX12_image 72 = .ok (.laload, 1) := by decide +kernel
theorem dX12_image_73 : decode cX12_image 73 = .ok (.lastore, 1) := by decide +kernel
theorem dX12_image_74 : decode cX12_image 74 = .ok (.iinc 2 1, 3) := by decide +kernel
theorem dX12_image_77 : decode cX12_image 77 = .ok (.goto (-26), 3) := by decide +kernel
theorem dX12_image_80 : decode cX12_image 80 = .ok (.iconst 0, 1) := by decide +kernel
theorem dX12_image_81 : decode cX12_image 81 = .ok (.istore_n 2, 1) := by decide +kernel
theorem dX12_image_82 : decode cX12_image 82 = .ok (.iload_n 2, 1) := by decide +kernel
theorem dX12_image_83 : decode cX12_image 83 = .ok (.bipush 60, 2) := by decide +kernel
theorem dX12_image_85 : decode cX12_image 85 = .ok (.if_icmp .ge 26, 3) := by decide +kernel
theorem dX12_image_88 : decode cX12_image 88 = .ok (.aload_n 0, 1) := by decide +kernel
theorem dX12_image_89 : decode cX12_image 89 = .ok (.getfield 59, 3) := by decide +kernel
theorem dX12_image_92 : decode cX12_image 92 = .ok (.bipush 60, 2) := by decide +kernel
theorem dX12_image_94 : decode cX12_image 94 = .ok (.iload_n 1, 1) := by decide +kernel
theorem dX12_image_95 : decode cX12_image 95 = .ok (.imul, 1) := by decide +kernel
theorem dX12_image_96 : decode cX12_image 96 = .ok (.iload_n 2, 1) := by decide +kernel
theorem dX12_image_97 : decode cX12_image 97 = .ok (.iadd, 1) := by decide +kernel
theorem dX12_image_98 : decode cX12_image 98 = .ok (.aload_n 0, 1) := by decide +kernel
theorem dX12_image_99 : decode cX12_image 99 = .ok (.getfield 56, 3) := by decide +kernel
theorem dX12_image_102 : decode cX12_image 102 = .ok (.iload_n 2, 1) := by decide +kernel
theorem dX12_image_103 : decode cX12_image 103 = .ok (.iaload, 1) := by decide +kernel
theorem dX12_image_104 : decode cX12_image 104 = .ok (.iastore, 1) := by decide +kernel
theorem dX12_image_105 : decode cX12_image 105 = .ok (.iinc 2 1, 3) := by decide +kernel
theorem dX12_image_108 : decode cX12_image 108 = .ok (.goto (-26), 3) := by decide +kernel
theorem dX12_image_111 : decode cX12_image 111 = .ok (.aload_n 0, 1) := by decide +kernel
theorem dX12_image_112 : decode cX12_image 112 = .ok (.getfield 154, 3) := by decide +kernel
theorem dX12_image_115 : decode cX12_image 115 = .ok (.iload_n 1, 1) := by decide +kernel
theorem dX12_image_116 : decode cX12_image 116 = .ok (.iconst 1, 1) := by decide +kernel
theorem dX12_image_117 : decode cX12_image 117 = .ok (.bastore, 1) := by decide +kernel
theorem dX12_image_118 : decode cX12_image 118 = .ok (.iconst 1, 1) := by decide +kernel
theorem dX12_image_119 : decode cX12_image 119 = .ok (.ireturn, 1) := by decide +kernel
theorem dX12_restore_0 : decode cX12_restore 0 = .ok (.aload_n 0, 1) := by decide +kernel
theorem dX12_restore_1 : decode cX12_restore 1 = .ok (.iconst 0, 1) := by decide +kernel
theorem dX12_restore_2 : decode cX12_restore 2 = .ok (.putfield 1, 3) := by decide +kernel
theorem dX12_restore_5 : decode cX12_restore 5 = .ok (.iload_n 1, 1) := by decide +kernel
theorem dX12_restore_6 : decode cX12_restore 6 = .ok (.iconst 0, 1) := by decide +kernel
theorem dX12_restore_7 : decode cX12_restore 7 = .ok (.iconst 1, 1) := by decide +kernel
theorem dX12_restore_8 : decode cX12_restore 8 = .ok (.invokestatic 254, 3) := by decide +kernel
theorem dX12_restore_11 : decode cX12_restore 11 = .ok (.ifCond .eq 12, 3) := by decide +kernel
theorem dX12_restore_14 : decode cX12_restore 14 = .ok (.aload_n 0, 1) := by decide +kernel
theorem dX12_restore_15 : decode cX12_restore 15 = .ok (.getfield 154, 3) := by decide +kernel
theorem dX12_restore_18 : decode cX12_restore 18 = .ok (.iload_n 1, 1) := by decide +kernel
theorem dX12_restore_19 : decode cX12_restore 19 = .ok (.baload, 1) := by decide +kernel
theorem dX12_restore_20 : decode cX12_restore 20 = .ok (.ifCond .ne 5, 3) := by decide +kernel
theorem dX12_restore_23 : decode cX12_restore 23 = .ok (.iconst 0, 1) := by decide +kernel
theorem dX12_restore_24 : decode cX12_restore 24 = .ok (.ireturn, 1) := by decide +kernel
theorem dX12_restore_25 : decode cX12_restore 25 = .ok (.iconst 0, 1) := by decide +kernel
theorem dX12_restore_26 : decode cX12_restore 26 = .ok (.istore_n 2, 1) := by decide +kernel
theorem dX12_restore_27 : decode cX12_restore 27 = .ok (.iload_n 2, 1) := by decide +kernel
theorem dX12_restore_28 : decode cX12_restore 28 = .ok (.sipush 666, 3) := by decide +kernel
theorem dX12_restore_31 : decode cX12_restore 31 = .ok (.if_icmp .ge 27, 3) := by decide +kernel
theorem dX12_restore_34 : decode cX12_restore 34 = .ok (.aload_n 0, 1) := by decide +kernel
theorem dX12_restore_35 : decode cX12_restore 35 = .ok (.getfield 33, 3) := by decide +kernel
theorem dX12_restore_38 : decode cX12_restore 38 = .ok (.iload_n 2, 1) := by decide +kernel
theorem dX12_restore_39 : decode cX12_restore 39 = .ok (.aload_n 0, 1) := by decide +kernel
theorem dX12_restore_40 : decode cX12_restore 40 = .ok (.getfield 148, 3) := by decide +kernel
theorem dX12_restore_43 : decode cX12_restore 43 = .ok (.sipush 666, 3) := by decide +kernel
theorem dX12_restore_46 : decode cX12_restore 46 = .ok (.iload_n 1, 1) := by decide +kernel
theorem dX12_restore_47 : decode cX12_restore 47 = .ok (.imul, 1) := by decide +kernel
theorem dX12_restore_48 : decode cX12_restore 48 = .ok (.iload_n 2, 1) := by decide +kernel
theorem dX12_restore_49 : decode cX12_restore 49 = .ok (.iadd, 1) := by decide +kernel
theorem dX12_restore_50 : decode cX12_restore 50 = .ok (.iaload, 1) := by decide +kernel
theorem dX12_restore_51 : decode cX12_restore 51 = .ok (.iastore, 1) := by decide +kernel
theorem dX12_restore_52 : decode cX12_restore 52 = .ok (.iinc 2 1, 3) := by decide +kernel
theorem dX12_restore_55 : decode cX12_restore 55 = .ok (.goto (-28), 3) := by decide +kernel
theorem dX12_restore_58 : decode cX12_restore 58 = .ok (.iconst 0, 1) := by decide +kernel
theorem dX12_restore_59 : decode cX12_restore 59 = .ok (.istore_n 2, 1) := by decide +kernel
theorem dX12_restore_60 : decode cX12_restore 60 = .ok (.iload_n 2, 1) := by decide +kernel
theorem dX12_restore_61 : decode cX12_restore 61 = .ok (.bipush 20, 2) := by decide +kernel
theorem dX12_restore_63 : decode cX12_restore 63 = .ok (.if_icmp .ge 26, 3) := by decide +kernel
theorem dX12_restore_66 : decode cX12_restore 66 = .ok (.aload_n 0, 1) := by decide +kernel
theorem dX12_restore_67 : decode cX12_restore 67 = .ok (.getfield 43, 3) := by decide +kernel
theorem dX12_restore_70 : decode cX12_restore 70 = .ok (.iload_n 2, 1) := by decide +kernel
theorem dX12_restore_71 : decode cX12_restore 71 = .ok (.aload_n 0, 1) := by decide +kernel
theorem dX12_restore_72 : decode cX12_restore 72 = .ok (.getfield 151, 3) := by decide +kernel
theorem dX12_restore_75 : decode cX12_restore 75 = .ok (.bipush 20, 2) := by decide +kernel
theorem dX12_restore_77 : decode cX12_restore 77 = .ok (.iload_n 1, 1) := by decide +kernel
theorem dX12_restore_78 : decode cX12_restore 78 = .ok (.imul, 1) := by decide +kernel
theorem dX12_restore_79 : decode cX12_restore 79 = .ok (.iload_n 2, 1) := by decide +kernel
theorem dX12_restore_80 : decode cX12_restore 80 = .ok (.iadd, 1) := by decide +kernel
theorem dX12_restore_81 : decode cX12_restore 81 = .ok (.laload, 1) := by decide +kernel
theorem dX12_restore_82 : decode cX12_restore 82 = .ok (.lastore, 1) := by decide +kernel
theorem dX12_restore_83 : decode cX12_restore 83 = .ok (.iinc 2 1, 3) := by decide +kernel
theorem dX12_restore_86 : decode cX12_restore 86 = .ok (.goto (-26), 3) := by decide +kernel
theorem dX12_restore_89 : decode cX12_restore 89 = .ok (.iconst 0, 1) := by decide +kernel
theorem dX12_restore_90 : decode cX12_restore 90 = .ok (.istore_n 2, 1) := by decide +kernel
theorem dX12_restore_91 : decode cX12_restore 91 = .ok (.iload_n 2, 1) := by decide +kernel
theorem dX12_restore_92 : decode cX12_restore 92 = .ok (.bipush 60, 2) := by decide +kernel
theorem dX12_restore_94 : decode cX12_restore 94 = .ok (.if_icmp .ge 26, 3) := by decide +kernel
theorem dX12_restore_97 : decode cX12_restore 97 = .ok (.aload_n 0, 1) := by decide +kernel
theorem dX12_restore_98 : decode cX12_restore 98 = .ok (.getfield 56, 3) := by decide +kernel
theorem dX12_restore_101 : decode cX12_restore 101 = .ok (.iload_n 2, 1) := by decide +kernel
theorem dX12_restore_102 : decode cX12_restore 102 = .ok (.aload_n 0, 1) := by decide +kernel
theorem dX12_restore_103 : decode cX12_restore 103 = .ok (.getfield 59, 3) := by decide +kernel
theorem dX12_restore_106 : decode cX12_restore 106 = .ok (.bipush 60, 2) := by decide +kernel
theorem dX12_restore_108 : decode cX12_restore 108 = .ok (.iload_n 1, 1) := by decide +kernel
theorem dX12_restore_109 : decode cX12_restore 109 = .ok (.imul, 1) := by decide +kernel
theorem dX12_restore_110 : decode cX12_restore 110 = .ok (.iload_n 2, 1) := by decide +kernel
theorem dX12_restore_111 : decode cX12_restore 111 = .ok (.iadd, 1) := by decide +kernel
theorem dX12_restore_112 : decode cX12_restore 112 = .ok (.iaload, 1) := by decide +kernel
theorem dX12_restore_113 : decode cX12_restore 113 = .ok (.iastore, 1) := by decide +kernel
theorem dX12_restore_114 : decode cX12_restore 114 = .ok (.iinc 2 1, 3) := by decide +kernel
theorem dX12_restore_117 : decode cX12_restore 117 = .ok (.goto (-26), 3) := by decide +kernel
theorem dX12_restore_120 : decode cX12_restore 120 = .ok (.iconst 1, 1) := by decide +kernel
theorem dX12_restore_121 : decode cX12_restore 121 = .ok (.ireturn, 1) := by decide +kernel
theorem dX12_count_0 : decode cX12_count 0 = .ok (.aload_n 0, 1) := by decide +kernel
theorem dX12_count_1 : decode cX12_count 1 = .ok (.iconst 0, 1) := by decide +kernel
theorem dX12_count_2 : decode cX12_count 2 = .ok (.putfield 1, 3) := by decide +kernel
theorem dX12_count_5 : decode cX12_count 5 = .ok (.iload_n 1, 1) := by decide +kernel
theorem dX12_count_6 : decode cX12_count 6 = .ok (.iconst 0, 1) := by decide +kernel
theorem dX12_count_7 : decode cX12_count 7 = .ok (.iconst 2, 1) := by decide +kernel
theorem dX12_count_8 : decode cX12_count 8 = .ok (.invokestatic 254, 3) := by decide +kernel
theorem dX12_count_11 : decode cX12_count 11 = .ok (.ifCond .eq 10, 3) := by decide +kernel
theorem dX12_count_14 : decode cX12_count 14 = .ok (.aload_n 0, 1) := by decide +kernel
theorem dX12_count_15 : decode cX12_count 15 = .ok (.getfield 33, 3) := by decide +kernel
theorem dX12_count_18 : decode cX12_count 18 = .ok (.iload_n 1, 1) := by decide +kernel
theorem dX12_count_19 : decode cX12_count 19 = .ok (.iaload, 1) := by decide +kernel
theorem dX12_count_20 : decode cX12_count 20 = .ok (.ireturn, 1) := by decide +kernel
theorem dX12_count_21 : decode cX12_count 21 = .ok (.iload_n 1, 1) := by decide +kernel
theorem dX12_count_22 : decode cX12_count 22 = .ok (.iconst 3, 1) := by decide +kernel
theorem dX12_count_23 : decode cX12_count 23 = .ok (.if_icmp .ne 12, 3) := by decide +kernel
theorem dX12_count_26 : decode cX12_count 26 = .ok (.aload_n 0, 1) := by decide +kernel
theorem dX12_count_27 : decode cX12_count 27 = .ok (.getfield 33, 3) := by decide +kernel
theorem dX12_count_30 : decode cX12_count 30 = .ok (.sipush 172, 3) := by decide +kernel
theorem dX12_count_33 : decode cX12_count 33 = .ok (.iaload, 1) := by decide +kernel
theorem dX12_count_34 : decode cX12_count 34 = .ok (.ireturn, 1) := by decide +kernel
theorem dX12_count_35 : decode cX12_count 35 = .ok (.iload_n 1, 1) := by decide +kernel
theorem dX12_count_36 : decode cX12_count 36 = .ok (.iconst 4, 1) := by decide +kernel
theorem dX12_count_37 : decode cX12_count 37 = .ok (.bipush 8, 2) := by decide +kernel
theorem dX12_count_39 : decode cX12_count 39 = .ok (.invokestatic 254, 3) := by decide +kernel
theorem dX12_count_42 : decode cX12_count 42 = .ok (.ifCond .eq 14, 3) := by decide +kernel
theorem dX12_count_45 : decode cX12_count 45 = .ok (.aload_n 0, 1) := by decide +kernel
theorem dX12_count_46 : decode cX12_count 46 = .ok (.getfield 33, 3) := by decide +kernel
theorem dX12_count_49 : decode cX12_count 49 = .ok (.iconst 3, 1) := by decide +kernel
theorem dX12_count_50 : decode cX12_count 50 = .ok (.iload_n 1, 1) := by decide +kernel
theorem dX12_count_51 : decode cX12_count 51 = .ok (.iadd, 1) := by decide +kernel
theorem dX12_count_52 : decode cX12_count 52 = .ok (.iconst 4, 1) := by decide +kernel
theorem dX12_count_53 : decode cX12_count 53 = .ok (.isub, 1) := by decide +kernel
theorem dX12_count_54 : decode cX12_count 54 = .ok (.iaload, 1) := by decide +kernel
theorem dX12_count_55 : decode cX12_count 55 = .ok (.ireturn, 1) := by decide +kernel
theorem dX12_count_56 : decode cX12_count 56 = .ok (.iload_n 1, 1) := by decide +kernel
theorem dX12_count_57 : decode cX12_count 57 = .ok (.bipush 9, 2) := by decide +kernel
theorem dX12_count_59 : decode cX12_count 59 = .ok (.if_icmp .ne 10, 3) := by decide +kernel
theorem dX12_count_62 : decode cX12_count 62 = .ok (.aload_n 0, 1) := by decide +kernel
theorem dX12_count_63 : decode cX12_count 63 = .ok (.getfield 7, 3) := by decide +kernel
theorem dX12_count_66 : decode cX12_count 66 = .ok (.goto 4, 3) := by decide +kernel
theorem dX12_count_69 : decode cX12_count 69 = .ok (.iconst (-1), 1) := by decide +kernel
theorem dX12_count_70 : decode cX12_count 70 = .ok (.ireturn, 1) := by decide +kernel
