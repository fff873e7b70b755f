theorem dX8_init_0 : decode cX8_init 0 = .ok (.aload_n 0, 1) := by decide +kernel
theorem dX8_init_1 : decode cX8_init 1 = .ok (.invokespecial 1, 3) := by decide +kernel
theorem dX8_init_4 : decode cX8_init 4 = .ok (.aload_n 0, 1) := by decide +kernel
theorem dX8_init_5 : decode cX8_init 5 = .ok (.iconst 4, 1) := by decide +kernel
theorem dX8_init_6 : decode cX8_init 6 = .ok (.putfield 7, 3) := by decide +kernel
theorem dX8_init_9 : decode cX8_init 9 = .ok (.aload_n 0, 1) := by decide +kernel
theorem dX8_init_10 : decode cX8_init 10 = .ok (.bipush 120, 2) := by decide +kernel
theorem dX8_init_12 : decode cX8_init 12 = .ok (.newarray .int, 2) := by decide +kernel
theorem dX8_init_14 : decode cX8_init 14 = .ok (.putfield 13, 3) := by decide +kernel
theorem dX8_init_17 : decode cX8_init 17 = .ok (.aload_n 0, 1) := by decide +kernel
theorem dX8_init_18 : decode cX8_init 18 = .ok (.bipush 10, 2) := by decide +kernel
theorem dX8_init_20 : decode cX8_init 20 = .ok (.newarray .int, 2) := by decide +kernel
theorem dX8_init_22 : decode cX8_init 22 = .ok (.putfield 17, 3) := by decide +kernel
theorem dX8_init_25 : decode cX8_init 25 = .ok (.aload_n 0, 1) := by decide +kernel
theorem dX8_init_26 : decode cX8_init 26 = .ok (.bipush 10, 2) := by decide +kernel
theorem dX8_init_28 : decode cX8_init 28 = .ok (.newarray .int, 2) := by decide +kernel
theorem dX8_init_30 : decode cX8_init 30 = .ok (.putfield 20, 3) := by decide +kernel
theorem dX8_init_33 : decode cX8_init 33 = .ok (.aload_n 0, 1) := by decide +kernel
theorem dX8_init_34 : decode cX8_init 34 = .ok (.bipush 100, 2) := by decide +kernel
theorem dX8_init_36 : decode cX8_init 36 = .ok (.newarray .int, 2) := by decide +kernel
theorem dX8_init_38 : decode cX8_init 38 = .ok (.putfield 23, 3) := by decide +kernel
theorem dX8_init_41 : decode cX8_init 41 = .ok (.aload_n 0, 1) := by decide +kernel
theorem dX8_init_42 : decode cX8_init 42 = .ok (.bipush 10, 2) := by decide +kernel
theorem dX8_init_44 : decode cX8_init 44 = .ok (.newarray .int, 2) := by decide +kernel
theorem dX8_init_46 : decode cX8_init 46 = .ok (.putfield 26, 3) := by decide +kernel
theorem dX8_init_49 : decode cX8_init 49 = .ok (.aload_n 0, 1) := by decide +kernel
theorem dX8_init_50 : decode cX8_init 50 = .ok (.bipush 10, 2) := by decide +kernel
theorem dX8_init_52 : decode cX8_init 52 = .ok (.newarray .int, 2) := by decide +kernel
theorem dX8_init_54 : decode cX8_init 54 = .ok (.putfield 29, 3) := by decide +kernel
theorem dX8_init_57 : decode cX8_init 57 = .ok (.aload_n 0, 1) := by decide +kernel
theorem dX8_init_58 : decode cX8_init 58 = .ok (.bipush 12, 2) := by decide +kernel
theorem dX8_init_60 : decode cX8_init 60 = .ok (.newarray .long, 2) := by decide +kernel
theorem dX8_init_62 : decode cX8_init 62 = .ok (.putfield 32, 3) := by decide +kernel
theorem dX8_init_65 : decode cX8_init 65 = .ok (.aload_n 0, 1) := by decide +kernel
theorem dX8_init_66 : decode cX8_init 66 = .ok (.bipush 12, 2) := by decide +kernel
theorem dX8_init_68 : decode cX8_init 68 = .ok (.newarray .long, 2) := by decide +kernel
theorem dX8_init_70 : decode cX8_init 70 = .ok (.putfield 36, 3) := by decide +kernel
theorem dX8_init_73 : decode cX8_init 73 = .ok (.aload_n 0, 1) := by decide +kernel
theorem dX8_init_74 : decode cX8_init 74 = .ok (.sipush 720, 3) := by decide +kernel
theorem dX8_init_77 : decode cX8_init 77 = .ok (.newarray .long, 2) := by decide +kernel
theorem dX8_init_79 : decode cX8_init 79 = .ok (.putfield 39, 3) := by decide +kernel
theorem dX8_init_82 : decode cX8_init 82 = .ok (.aload_n 0, 1) := by decide +kernel
theorem dX8_init_83 : decode cX8_init 83 = .ok (.sipush 720, 3) := by decide +kernel
theorem dX8_init_86 : decode cX8_init 86 = .ok (.newarray .long, 2) := by decide +kernel
theorem dX8_init_88 : decode cX8_init 88 = .ok (.putfield 42, 3) := by decide +kernel
theorem dX8_init_91 : decode cX8_init 91 = .ok (.aload_n 0, 1) := by decide +kernel
theorem dX8_init_92 : decode cX8_init 92 = .ok (.bipush 10, 2) := by decide +kernel
theorem dX8_init_94 : decode cX8_init 94 = .ok (.newarray .int, 2) := by decide +kernel
theorem dX8_init_96 : decode cX8_init 96 = .ok (.putfield 45, 3) := by decide +kernel
theorem dX8_init_99 : decode cX8_init 99 = .ok (.aload_n 0, 1) := by decide +kernel
theorem dX8_init_100 : decode cX8_init 100 = .ok (.bipush 11, 2) := by decide +kernel
theorem dX8_init_102 : decode cX8_init 102 = .ok (.newarray .int, 2) := by decide +kernel
theorem dX8_init_104 : decode cX8_init 104 = .ok (.putfield 48, 3) := by decide +kernel
theorem dX8_init_107 : decode cX8_init 107 = .ok (.aload_n 0, 1) := by decide +kernel
theorem dX8_init_108 : decode cX8_init 108 = .ok (.sipush 4200, 3) := by decide +kernel
theorem dX8_init_111 : decode cX8_init 111 = .ok (.newarray .long, 2) := by decide +kernel
theorem dX8_init_113 : decode cX8_init 113 = .ok (.putfield 51, 3) := by decide +kernel
theorem dX8_init_116 : decode cX8_init 116 = .ok (.aload_n 0, 1) := by decide +kernel
theorem dX8_init_117 : decode cX8_init 117 = .ok (.bipush 11, 2) := by decide +kernel
theorem dX8_init_119 : decode cX8_init 119 = .ok (.newarray .long, 2) := by decide +kernel
theorem dX8_init_121 : decode cX8_init 121 = .ok (.putfield 54, 3) := by decide +kernel
theorem dX8_init_124 : decode cX8_init 124 = .ok (.aload_n 0, 1) := by decide +kernel
theorem dX8_init_125 : decode cX8_init 125 = .ok (.iconst 4, 1) := by decide +kernel
theorem dX8_init_126 : decode cX8_init 126 = .ok (.newarray .int, 2) := by decide +kernel
theorem dX8_init_128 : decode cX8_init 128 = .ok (.putfield 57, 3) := by decide +kernel
theorem dX8_init_131 : decode cX8_init 131 = .ok (.aload_n 0, 1) := by decide +kernel
theorem dX8_init_132 : decode cX8_init 132 = .ok (.iconst 4, 1) := by decide +kernel
theorem dX8_init_133 : decode cX8_init 133 = .ok (.newarray .int, 2) := by decide +kernel
theorem dX8_init_135 : decode cX8_init 135 = .ok (.putfield 60, 3) := by decide +kernel
theorem dX8_init_138 : decode cX8_init 138 = .ok (.aload_n 0, 1) := by decide +kernel
theorem dX8_init_139 : decode cX8_init 139 = .ok (.sipush 160, 3) := by decide +kernel
theorem dX8_init_142 : decode cX8_init 142 = .ok (.newarray .int, 2) := by decide +kernel
theorem dX8_init_144 : decode cX8_init 144 = .ok (.putfield 63, 3) := by decide +kernel
theorem dX8_init_147 : decode cX8_init 147 = .ok (.aload_n 0, 1) := by decide +kernel
theorem dX8_init_148 : decode cX8_init 148 = .ok (.bipush 40, 2) := by decide +kernel
theorem dX8_init_150 : decode cX8_init 150 = .ok (.newarray .int, 2) := by decide +kernel
theorem dX8_init_152 : decode cX8_init 152 = .ok (.putfield 66, 3) := by decide +kernel
theorem dX8_init_155 : decode cX8_init 155 = .ok (.aload_n 0, 1) := by decide +kernel
theorem dX8_init_156 : decode cX8_init 156 = .ok (.bipush 40, 2) := by decide +kernel
theorem dX8_init_158 : decode cX8_init 158 = .ok (.newarray .int, 2) := by decide +kernel
theorem dX8_init_160 : decode cX8_init 160 = .ok (.putfield 69, 3) := by decide +kernel
theorem dX8_init_163 : decode cX8_init 163 = .ok (.iconst 0, 1) := by decide +kernel
theorem dX8_init_164 : decode cX8_init 164 = .ok (.istore_n 1, 1) := by decide +kernel
theorem dX8_init_165 : decode cX8_init 165 = .ok (.iload_n 1, 1) := by decide +kernel
theorem dX8_init_166 : decode cX8_init 166 = .ok (.iconst 4, 1) := by decide +kernel
theorem dX8_init_167 : decode cX8_init 167 = .ok (.if_icmp .ge 16, 3) := by decide +kernel
theorem dX8_init_170 : decode cX8_init 170 = .ok (.aload_n 0, 1) := by decide +kernel
theorem dX8_init_171 : decode cX8_init 171 = .ok (.getfield 57, 3) := by decide +kernel
theorem dX8_init_174 : decode cX8_init 174 = .ok (.iload_n 1, 1) := by decide +kernel
theorem dX8_init_175 : decode cX8_init 175 = .ok (.iconst (-1), 1) := by decide +kernel
theorem dX8_init_176 : decode cX8_init 176 = .ok (.iastore, 1) := by decide +kernel
theorem dX8_init_177 : decode cX8_init 177 = .ok (.iinc 1 1, 3) := by decide +kernel
theorem dX8_init_180 : decode cX8_init 180 = .ok (.goto (-15), 3) := by decide +kernel
theorem dX8_init_183 : decode cX8_init 183 = .ok (.return_, 1) := by decide +kernel
theorem dX8_isPack_0 : decode cX8_isPack 0 = .ok (.iload_n 1, 1) := by decide +kernel
theorem dX8_isPack_1 : decode cX8_isPack 1 = .ok (.ifCond .lt 15, 3) := by decide +kernel
theorem dX8_isPack_4 : decode cX8_isPack 4 = .ok (.iload_n 1, 1) := by decide +kernel
theorem dX8_isPack_5 : decode cX8_isPack 5 = .ok (.aload_n 0, 1) := by decide +kernel
theorem dX8_isPack_6 : decode cX8_isPack 6 = .ok (.getfield 72, 3) := by decide +kernel
theorem dX8_isPack_9 : decode cX8_isPack 9 = .ok (.if_icmp .ge 7, 3) := by decide +kernel
theorem dX8_isPack_12 : decode cX8_isPack 12 = .ok (.iconst 1, 1) := by decide +kernel
theorem dX8_isPack_13 : decode cX8_isPack 13 = .ok (.goto 4, 3) := by decide +kernel
theorem dX8_isPack_16 : decode cX8_isPack 16 = .ok (.iconst 0, 1) := by decide +kernel
theorem dX8_isPack_17 : decode cX8_isPack 17 = .ok (.ireturn, 1) := by decide +kernel
theorem dX8_isShuffle_0 : decode cX8_isShuffle 0 = .ok (.iload_n 1, 1) := by decide +kernel
theorem dX8_isShuffle_1 : decode cX8_isShuffle 1 = .ok (.ifCond .lt 15, 3) := by decide +kernel
theorem dX8_isShuffle_4 : decode cX8_isShuffle 4 = .ok (.iload_n 1, 1) := by decide +kernel
theorem dX8_isShuffle_5 : decode cX8_isShuffle 5 = .ok (.aload_n 0, 1) := by decide +kernel
theorem dX8_isShuffle_6 : decode cX8_isShuffle 6 = .ok (.getfield 75, 3) := by decide +kernel
theorem dX8_isShuffle_9 : decode cX8_isShuffle 9 = .ok (.if_icmp .ge 7, 3) := by decide +kernel
theorem dX8_isShuffle_12 : decode cX8_isShuffle 12 = .ok (.iconst 1, 1) := by decide +kernel
theorem dX8_isShuffle_13 : decode cX8_isShuffle 13 = .ok (.goto 4, 3) := by decide +kernel
theorem dX8_isShuffle_16 : decode cX8_isShuffle 16 = .ok (.iconst 0, 1) := by decide +kernel
theorem dX8_isShuffle_17 : decode cX8_isShuffle 17 = .ok (.ireturn, 1) := by decide +kernel
theorem dX8_isPlace_0 : decode cX8_isPlace 0 = .ok (.iload_n 1, 1) := by decide +kernel
theorem dX8_isPlace_1 : decode cX8_isPlace 1 = .ok (.ifCond .lt 15, 3) := by decide +kernel
theorem dX8_isPlace_4 : decode cX8_isPlace 4 = .ok (.iload_n 1, 1) := by decide +kernel
theorem dX8_isPlace_5 : decode cX8_isPlace 5 = .ok (.aload_n 0, 1) := by decide +kernel
theorem dX8_isPlace_6 : decode cX8_isPlace 6 = .ok (.getfield 7, 3) := by decide +kernel
theorem dX8_isPlace_9 : decode cX8_isPlace 9 = .ok (.if_icmp .ge 7, 3) := by decide +kernel
theorem dX8_isPlace_12 : decode cX8_isPlace 12 = .ok (.iconst 1, 1) := by decide +kernel
theorem dX8_isPlace_13 : decode cX8_isPlace 13 = .ok (.goto 4, 3) := by decide +kernel
theorem dX8_isPlace_16 : decode cX8_isPlace 16 = .ok (.iconst 0, 1) := by decide +kernel
theorem dX8_isPlace_17 : decode cX8_isPlace 17 = .ok (.ireturn, 1) := by decide +kernel
theorem dX8_hasMove_0 : decode cX8_hasMove 0 = .ok (.aload_n 0, 1) := by decide +kernel
theorem dX8_hasMove_1 : decode cX8_hasMove 1 = .ok (.getfield 17, 3) := by decide +kernel
theorem dX8_hasMove_4 : decode cX8_hasMove 4 = .ok (.iload_n 1, 1) := by decide +kernel
theorem dX8_hasMove_5 : decode cX8_hasMove 5 = .ok (.iaload, 1) := by decide +kernel
theorem dX8_hasMove_6 : decode cX8_hasMove 6 = .ok (.iconst 3, 1) := by decide +kernel
theorem dX8_hasMove_7 : decode cX8_hasMove 7 = .ok (.if_icmp .ge 7, 3) := by decide +kernel
theorem dX8_hasMove_10 : decode cX8_hasMove 10 = .ok (.iconst 1, 1) := by decide +kernel
theorem dX8_hasMove_11 : decode cX8_hasMove 11 = .ok (.goto 4, 3) := by decide +kernel
theorem dX8_hasMove_14 : decode cX8_hasMove 14 = .ok (.iconst 0, 1) := by decide +kernel
theorem dX8_hasMove_15 : decode cX8_hasMove 15 = .ok (.ireturn, 1) := by decide +kernel
theorem dX8_common_0 : decode cX8_common 0 = .ok (.lload_n 0, 1) := by decide +kernel
theorem dX8_common_1 : decode cX8_common 1 = .ok (.lstore 4, 2) := by decide +kernel
theorem dX8_common_3 : decode cX8_common 3 = .ok (.lload_n 2, 1) := by decide +kernel
theorem dX8_common_4 : decode cX8_common 4 = .ok (.lstore 6, 2) := by decide +kernel
theorem dX8_common_6 : decode cX8_common 6 = .ok (.lload 6, 2) := by decide +kernel
theorem dX8_common_8 : decode cX8_common 8 = .ok (.lconst 0, 1) := by decide +kernel
theorem dX8_common_9 : decode cX8_common 9 = .ok (.lcmp, 1) := by decide +kernel
theorem dX8_common_10 : decode cX8_common 10 = .ok (.ifCond .eq 21, 3) := by decide +kernel
theorem dX8_common_13 : decode cX8_common 13 = .ok (.lload 4, 2) := by decide +kernel
theorem dX8_common_15 : decode cX8_common 15 = .ok (.lload 6, 2) := by decide +kernel
theorem dX8_common_17 : decode cX8_common 17 = .ok (.lrem, 1) := by decide +kernel
theorem dX8_common_18 : decode cX8_common 18 = .ok (.lstore 8, 2) := by decide +kernel
theorem dX8_common_20 : decode cX8_common 20 = .ok (.lload 6, 2) := by decide +kernel
theorem dX8_common_22 : decode cX8_common 22 = .ok (.lstore 4, 2) := by decide +kernel
theorem dX8_common_24 : decode cX8_common 24 = .ok (.lload 8, 2) := by decide +kernel
theorem dX8_common_26 : decode cX8_common 26 = .ok (.lstore 6, 2) := by decide +kernel
theorem dX8_common_28 : decode cX8_common 28 = .ok (.goto (-22), 3) := by decide +kernel
theorem dX8_common_31 : decode cX8_common 31 = .ok (.lload 4, 2) := by decide +kernel
theorem dX8_common_33 : decode cX8_common 33 = .ok (.lreturn, 1) := by decide +kernel
theorem dX8_lowest_0 : decode cX8_lowest 0 = .ok (.lload_n 3, 1) := by decide +kernel
theorem dX8_lowest_1 : decode cX8_lowest 1 = .ok (.lload_n 1, 1) := by decide +kernel
theorem dX8_lowest_2 : decode cX8_lowest 2 = .ok (.invokestatic 78, 3) := by decide +kernel
theorem dX8_lowest_5 : decode cX8_lowest 5 = .ok (.lstore 6, 2) := by decide +kernel
theorem dX8_lowest_7 : decode cX8_lowest 7 = .ok (.iload 5, 2) := by decide +kernel
theorem dX8_lowest_9 : decode cX8_lowest 9 = .ok (.ifCond .ne 10, 3) := by decide +kernel
theorem dX8_lowest_12 : decode cX8_lowest 12 = .ok (.lload_n 1, 1) := by decide +kernel
theorem dX8_lowest_13 : decode cX8_lowest 13 = .ok (.lload 6, 2) := by decide +kernel
theorem dX8_lowest_15 : decode cX8_lowest 15 = .ok (.ldiv, 1) := by decide +kernel
theorem dX8_lowest_16 : decode cX8_lowest 16 = .ok (.goto 7, 3) := by decide +kernel
theorem dX8_lowest_19 : decode cX8_lowest 19 = .ok (.lload_n 3, 1) := by decide +kernel
theorem dX8_lowest_20 : decode cX8_lowest 20 = .ok (.lload 6, 2) := by decide +kernel
theorem dX8_lowest_22 : decode cX8_lowest 22 = .ok (.ldiv, 1) := by decide +kernel
theorem dX8_lowest_23 : decode cX8_lowest 23 = .ok (.lreturn, 1) := by decide +kernel
theorem dX8_power_0 : decode cX8_power 0 = .ok (.lconst 1, 1) := by decide +kernel
theorem dX8_power_1 : decode cX8_power 1 = .ok (.lstore_n 3, 1) := by decide +kernel
theorem dX8_power_2 : decode cX8_power 2 = .ok (.iconst 0, 1) := by decide +kernel
theorem dX8_power_3 : decode cX8_power 3 = .ok (.istore 5, 2) := by decide +kernel
theorem dX8_power_5 : decode cX8_power 5 = .ok (.iload 5, 2) := by decide +kernel
theorem dX8_power_7 : decode cX8_power 7 = .ok (.iload_n 2, 1) := by decide +kernel
theorem dX8_power_8 : decode cX8_power 8 = .ok (.if_icmp .ge 13, 3) := by decide +kernel
theorem dX8_power_11 : decode cX8_power 11 = .ok (.lload_n 3, 1) := by decide +kernel
theorem dX8_power_12 : decode cX8_power 12 = .ok (.lload_n 0, 1) := by decide +kernel
theorem dX8_power_13 : decode cX8_power 13 = .ok (.lmul, 1) := by decide +kernel
theorem dX8_power_14 : decode cX8_power 14 = .ok (.lstore_n 3, 1) := by decide +kernel
theorem dX8_power_15 : decode cX8_power 15 = .ok (.iinc 5 1, 3) := by decide +kernel
theorem dX8_power_18 : decode cX8_power 18 = .ok (.goto (-13), 3) := by decide +kernel
theorem dX8_power_21 : decode cX8_power 21 = .ok (.lload_n 3, 1) := by decide +kernel
theorem dX8_power_22 : decode cX8_power 22 = .ok (.lreturn, 1) := by decide +kernel
theorem dX8_orders_0 : decode cX8_orders 0 = .ok (.iconst 1, 1) := by decide +kernel
theorem dX8_orders_1 : decode cX8_orders 1 = .ok (.istore_n 1, 1) := by decide +kernel
theorem dX8_orders_2 : decode cX8_orders 2 = .ok (.iconst 2, 1) := by decide +kernel
theorem dX8_orders_3 : decode cX8_orders 3 = .ok (.istore_n 2, 1) := by decide +kernel
theorem dX8_orders_4 : decode cX8_orders 4 = .ok (.iload_n 2, 1) := by decide +kernel
theorem dX8_orders_5 : decode cX8_orders 5 = .ok (.iload_n 0, 1) := by decide +kernel
theorem dX8_orders_6 : decode cX8_orders 6 = .ok (.if_icmp .gt 13, 3) := by decide +kernel
theorem dX8_orders_9 : decode cX8_orders 9 = .ok (.iload_n 1, 1) := by decide +kernel
theorem dX8_orders_10 : decode cX8_orders 10 = .ok (.iload_n 2, 1) := by decide +kernel
theorem dX8_orders_11 : decode cX8_orders 11 = .ok (.imul, 1) := by decide +kernel
theorem dX8_orders_12 : decode cX8_orders 12 = .ok (.istore_n 1, 1) := by decide +kernel
theorem dX8_orders_13 : decode cX8_orders 13 = .ok (.iinc 2 1, 3) := by decide +kernel
theorem dX8_orders_16 : decode cX8_orders 16 = .ok (.goto (-12), 3) := by decide +kernel
theorem dX8_orders_19 : decode cX8_orders 19 = .ok (.iload_n 1, 1) := by decide +kernel
theorem dX8_orders_20 : decode cX8_orders 20 = .ok (.ireturn, 1) := by decide +kernel
theorem dX8_begin_0 : decode cX8_begin 0 = .ok (.iload_n 1, 1) := by decide +kernel
theorem dX8_begin_1 : decode cX8_begin 1 = .ok (.iconst 1, 1) := by decide +kernel
theorem dX8_begin_2 : decode cX8_begin 2 = .ok (.if_icmp .lt 9, 3) := by decide +kernel
theorem dX8_begin_5 : decode cX8_begin 5 = .ok (.iload_n 1, 1) := by decide +kernel
theorem dX8_begin_6 : decode cX8_begin 6 = .ok (.bipush 10, 2) := by decide +kernel
theorem dX8_begin_8 : decode cX8_begin 8 = .ok (.if_icmp .le 6, 3) := by decide +kernel
theorem dX8_begin_11 : decode cX8_begin 11 = .ok (.bipush (-2), 2) := by decide +kernel
theorem dX8_begin_13 : decode cX8_begin 13 = .ok (.ireturn, 1) := by decide +kernel
theorem dX8_begin_14 : decode cX8_begin 14 = .ok (.aload_n 0, 1) := by decide +kernel
theorem dX8_begin_15 : decode cX8_begin 15 = .ok (.iload_n 1, 1) := by decide +kernel
theorem dX8_begin_16 : decode cX8_begin 16 = .ok (.putfield 7, 3) := by decide +kernel
theorem dX8_begin_19 : decode cX8_begin 19 = .ok (.aload_n 0, 1) := by decide +kernel
theorem dX8_begin_20 : decode cX8_begin 20 = .ok (.iconst 0, 1) := by decide +kernel
theorem dX8_begin_21 : decode cX8_begin 21 = .ok (.putfield 72, 3) := by decide +kernel
theorem dX8_begin_24 : decode cX8_begin 24 = .ok (.aload_n 0, 1) := by decide +kernel
theorem dX8_begin_25 : decode cX8_begin 25 = .ok (.iconst 0, 1) := by decide +kernel
theorem dX8_begin_26 : decode cX8_begin 26 = .ok (.putfield 75, 3) := by decide +kernel
theorem dX8_begin_29 : decode cX8_begin 29 = .ok (.iconst 1, 1) := by decide +kernel
theorem dX8_begin_30 : decode cX8_begin 30 = .ok (.ireturn, 1) := by decide +kernel
theorem dX8_comes_0 : decode cX8_comes 0 = .ok (.iconst 0, 1) := by decide +kernel
theorem dX8_comes_1 : decode cX8_comes 1 = .ok (.istore_n 1, 1) := by decide +kernel
theorem dX8_comes_2 : decode cX8_comes 2 = .ok (.iload_n 1, 1) := by decide +kernel
theorem dX8_comes_3 : decode cX8_comes 3 = .ok (.aload_n 0, 1) := by decide +kernel
theorem dX8_comes_4 : decode cX8_comes 4 = .ok (.getfield 7, 3) := by decide +kernel
theorem dX8_comes_7 : decode cX8_comes 7 = .ok (.if_icmp .ge 29, 3) := by decide +kernel
theorem dX8_comes_10 : decode cX8_comes 10 = .ok (.aload_n 0, 1) := by decide +kernel
theorem dX8_comes_11 : decode cX8_comes 11 = .ok (.getfield 13, 3) := by decide +kernel
theorem dX8_comes_14 : decode cX8_comes 14 = .ok (.bipush 10, 2) := by decide +kernel
theorem dX8_comes_16 : decode cX8_comes 16 = .ok (.aload_n 0, 1) := by decide +kernel
theorem dX8_comes_17 : decode cX8_comes 17 = .ok (.getfield 72, 3) := by decide +kernel
theorem dX8_comes_20 : decode cX8_comes 20 = .ok (.imul, 1) := by decide +kernel
theorem dX8_comes_21 : decode cX8_comes 21 = .ok (.iload_n 1, 1) := by decide +kernel
theorem dX8_comes_22 : decode cX8_comes 22 = .ok (.iadd, 1) := by decide +kernel
theorem dX8_comes_23 : decode cX8_comes 23 = .ok (.aload_n 0, 1) := by decide +kernel
theorem dX8_comes_24 : decode cX8_comes 24 = .ok (.getfield 26, 3) := by decide +kernel
theorem dX8_comes_27 : decode cX8_comes 27 = .ok (.iload_n 1, 1) := by decide +kernel
theorem dX8_comes_28 : decode cX8_comes 28 = .ok (.iaload, 1) := by decide +kernel
theorem dX8_comes_29 : decode cX8_comes 29 = .ok (.iastore, 1) := by decide +kernel
theorem dX8_comes_30 : decode cX8_comes 30 = .ok (.iinc 1 1, 3) := by decide +kernel
theorem dX8_comes_33 : decode cX8_comes 33 = .ok (.goto (-31), 3) := by decide +kernel
theorem dX8_comes_36 : decode cX8_comes 36 = .ok (.aload_n 0, 1) := by decide +kernel
theorem dX8_comes_37 : decode cX8_comes 37 = .ok (.dup, 1) := by decide +kernel
theorem dX8_comes_38 : decode cX8_comes 38 = .ok (.getfield 72, 3) := by decide +kernel
theorem dX8_comes_41 : decode cX8_comes 41 = .ok (.dup_x1, 1) := by decide +kernel
theorem dX8_comes_42 : decode cX8_comes 42 = .ok (.iconst 1, 1) := by decide +kernel
theorem dX8_comes_43 : decode cX8_comes 43 = .ok (.iadd, 1) := by decide +kernel
theorem dX8_comes_44 : decode cX8_comes 44 = .ok (.putfield 72, 3) := by decide +kernel
theorem dX8_comes_47 : decode cX8_comes 47 = .ok (.ireturn, 1) := by decide +kernel
theorem dX8_ofRank_0 : decode cX8_ofRank 0 = .ok (.iload_n 1, 1) := by decide +kernel
theorem dX8_ofRank_1 : decode cX8_ofRank 1 = .ok (.istore_n 2, 1) := by decide +kernel
theorem dX8_ofRank_2 : decode cX8_ofRank 2 = .ok (.iconst 0, 1) := by decide +kernel
theorem dX8_ofRank_3 : decode cX8_ofRank 3 = .ok (.istore_n 3, 1) := by decide +kernel
theorem dX8_ofRank_4 : decode cX8_ofRank 4 = .ok (.iconst 0, 1) := by decide +kernel
theorem dX8_ofRank_5 : decode cX8_ofRank 5 = .ok (.istore 4, 2) := by decide +kernel
theorem dX8_ofRank_7 : decode cX8_ofRank 7 = .ok (.iload 4, 2) := by decide +kernel
theorem dX8_ofRank_9 : decode cX8_ofRank 9 = .ok (.aload_n 0, 1) := by decide +kernel
theorem dX8_ofRank_10 : decode cX8_ofRank 10 = .ok (.getfield 7, 3) := by decide +kernel
theorem dX8_ofRank_13 : decode cX8_ofRank 13 = .ok (.if_icmp .ge 104, 3) := by decide +kernel
theorem dX8_ofRank_16 : decode cX8_ofRank 16 = .ok (.aload_n 0, 1) := by decide +kernel
theorem dX8_ofRank_17 : decode cX8_ofRank 17 = .ok (.getfield 7, 3) := by decide +kernel
theorem dX8_ofRank_20 : decode cX8_ofRank 20 = .ok (.iconst 1, 1) := by decide +kernel
theorem dX8_ofRank_21 : decode cX8_ofRank 21 = .ok (.isub, 1) := by decide +kernel
theorem dX8_ofRank_22 : decode cX8_ofRank 22 = .ok (.iload 4, 2) := by decide +kernel
theorem dX8_ofRank_24 : decode cX8_ofRank 24 = .ok (.isub, 1) := by decide +kernel
theorem dX8_ofRank_25 : decode cX8_ofRank 25 = .ok (.invokestatic 82, 3) := by decide +kernel
theorem dX8_ofRank_28 : decode cX8_ofRank 28 = .ok (.istore 5, 2) := by decide +kernel
theorem dX8_ofRank_30 : decode cX8_ofRank 30 = .ok (.iload_n 2, 1) := by decide +kernel
theorem dX8_ofRank_31 : decode cX8_ofRank 31 = .ok (.iload 5, 2) := by decide +kernel
theorem dX8_ofRank_33 : decode cX8_ofRank 33 = .ok (.idiv, 1) := by decide +kernel
theorem dX8_ofRank_34 : decode cX8_ofRank 34 = .ok (.istore 6, 2) := by decide +kernel
theorem dX8_ofRank_36 : decode cX8_ofRank 36 = .ok (.iload_n 2, 1) := by decide +kernel
theorem dX8_ofRank_37 : decode cX8_ofRank 37 = .ok (.iload 5, 2) := by decide +kernel
theorem dX8_ofRank_39 : decode cX8_ofRank 39 = .ok (.irem, 1) := by decide +kernel
theorem dX8_ofRank_40 : decode cX8_ofRank 40 = .ok (.istore_n 2, 1) := by decide +kernel
theorem dX8_ofRank_41 : decode cX8_ofRank 41 = .ok (.iconst 0, 1) := by decide +kernel
theorem dX8_ofRank_42 : decode cX8_ofRank 42 = .ok (.istore 7, 2) := by decide +kernel
theorem dX8_ofRank_44 : decode cX8_ofRank 44 = .ok (.iload_n 3, 1) := by decide +kernel
theorem dX8_ofRank_45 : decode cX8_ofRank 45 = .ok (.iload 7, 2) := by decide +kernel
theorem dX8_ofRank_47 : decode cX8_ofRank 47 = .ok (.ishr, 1) := by decide +kernel
theorem dX8_ofRank_48 : decode cX8_ofRank 48 = .ok (.iconst 1, 1) := by decide +kernel
theorem dX8_ofRank_49 : decode cX8_ofRank 49 = .ok (.iand, 1) := by decide +kernel
theorem dX8_ofRank_50 : decode cX8_ofRank 50 = .ok (.iconst 1, 1) := by decide +kernel
theorem dX8_ofRank_51 : decode cX8_ofRank 51 = .ok (.if_icmp .ne 9, 3) := by decide +kernel
theorem dX8_ofRank_54 : decode cX8_ofRank 54 = .ok (.iinc 7 1, 3) := by decide +kernel
theorem dX8_ofRank_57 : decode cX8_ofRank 57 = .ok (.goto (-13), 3) := by decide +kernel
theorem dX8_ofRank_60 : decode cX8_ofRank 60 = .ok (.iconst 0, 1) := by decide +kernel
theorem dX8_ofRank_61 : decode cX8_ofRank 61 = .ok (.istore 8, 2) := by decide +kernel
theorem dX8_ofRank_63 : decode cX8_ofRank 63 = .ok (.iload 8, 2) := by decide +kernel
theorem dX8_ofRank_65 : decode cX8_ofRank 65 = .ok (.iload 6, 2) := by decide +kernel
theorem dX8_ofRank_67 : decode cX8_ofRank 67 = .ok (.if_icmp .ge 28, 3) := by decide +kernel
theorem dX8_ofRank_70 : decode cX8_ofRank 70 = .ok (.iinc 7 1, 3) := by decide +kernel
theorem dX8_ofRank_73 : decode cX8_ofRank 73 = .ok (.iload_n 3, 1) := by decide +kernel
theorem dX8_ofRank_74 : decode cX8_ofRank 74 = .ok (.iload 7, 2) := by decide +kernel
theorem dX8_ofRank_76 : decode cX8_ofRank 76 = .ok (.ishr, 1) := by decide +kernel
theorem dX8_ofRank_77 : decode cX8_ofRank 77 = .ok (.iconst 1, 1) := by decide +kernel
theorem dX8_ofRank_78 : decode cX8_ofRank 78 = .ok (.iand, 1) := by decide +kernel
theorem dX8_ofRank_79 : decode cX8_ofRank 79 = .ok (.iconst 1, 1) := by decide +kernel
theorem dX8_ofRank_80 : decode cX8_ofRank 80 = .ok (.if_icmp .ne 9, 3) := by decide +kernel
theorem dX8_ofRank_83 : decode cX8_ofRank 83 = .ok (.iinc 7 1, 3) := by decide +kernel
theorem dX8_ofRank_86 : decode cX8_ofRank 86 = .ok (.goto (-13), 3) := by decide +kernel
theorem dX8_ofRank_89 : decode cX8_ofRank 89 = .ok (.iinc 8 1, 3) := by decide +kernel
theorem dX8_ofRank_92 : decode cX8_ofRank 92 = .ok (.goto (-29), 3) := by decide +kernel
theorem dX8_ofRank_95 : decode cX8_ofRank 95 = .ok (.aload_n 0, 1) := by decide +kernel
theorem dX8_ofRank_96 : decode cX8_ofRank 96 = .ok (.getfield 26, 3) := by decide +kernel
theorem dX8_ofRank_99 : decode cX8_ofRank 99 = .ok (.iload 4, 2) := by decide +kernel
theorem dX8_ofRank_101 : decode cX8_ofRank 101 = .ok (.iload 7, 2) := by decide +kernel
theorem dX8_ofRank_103 : decode cX8_ofRank 103 = .ok (.iastore, 1) := by decide +kernel
theorem dX8_ofRank_104 : decode cX8_ofRank 104 = .ok (.iload_n 3, 1) := by decide +kernel
theorem dX8_ofRank_105 : decode cX8_ofRank 105 = .ok (.iconst 1, 1) := by decide +kernel
theorem dX8_ofRank_106 : decode cX8_ofRank 106 = .ok (.iload 7, 2) := by decide +kernel
theorem dX8_ofRank_108 : decode cX8_ofRank 108 = .ok (.ishl, 1) := by decide +kernel
theorem dX8_ofRank_109 : decode cX8_ofRank 109 = .ok (.ior, 1) := by decide +kernel
theorem dX8_ofRank_110 : decode cX8_ofRank 110 = .ok (.istore_n 3, 1) := by decide +kernel
theorem dX8_ofRank_111 : decode cX8_ofRank 111 = .ok (.iinc 4 1, 3) := by decide +kernel
theorem dX8_ofRank_114 : decode cX8_ofRank 114 = .ok (.goto (-107), 3) := by decide +kernel
theorem dX8_ofRank_117 : decode cX8_ofRank 117 = .ok (.return_, 1) := by decide +kernel
theorem dX8_rank_0 : decode cX8_rank 0 = .ok (.iconst 0, 1) := by decide +kernel
theorem dX8_rank_1 : decode cX8_rank 1 = .ok (.istore_n 1, 1) := by decide +kernel
theorem dX8_rank_2 : decode cX8_rank 2 = .ok (.iconst 0, 1) := by decide +kernel
theorem dX8_rank_3 : decode cX8_rank 3 = .ok (.istore_n 2, 1) := by decide +kernel
theorem dX8_rank_4 : decode cX8_rank 4 = .ok (.iload_n 2, 1) := by decide +kernel
theorem dX8_rank_5 : decode cX8_rank 5 = .ok (.aload_n 0, 1) := by decide +kernel
theorem dX8_rank_6 : decode cX8_rank 6 = .ok (.getfield 7, 3) := by decide +kernel
theorem dX8_rank_9 : decode cX8_rank 9 = .ok (.if_icmp .ge 66, 3) := by decide +kernel
theorem dX8_rank_12 : decode cX8_rank 12 = .ok (.iconst 0, 1) := by decide +kernel
theorem dX8_rank_13 : decode cX8_rank 13 = .ok (.istore_n 3, 1) := by decide +kernel
theorem dX8_rank_14 : decode cX8_rank 14 = .ok (.iload_n 2, 1) := by decide +kernel
theorem dX8_rank_15 : decode cX8_rank 15 = .ok (.iconst 1, 1) := by decide +kernel
theorem dX8_rank_16 : decode cX8_rank 16 = .ok (.iadd, 1) := by decide +kernel
theorem dX8_rank_17 : decode cX8_rank 17 = .ok (.istore 4, 2) := by decide +kernel
theorem dX8_rank_19 : decode cX8_rank 19 = .ok (.iload 4, 2) := by decide +kernel
theorem dX8_rank_21 : decode cX8_rank 21 = .ok (.aload_n 0, 1) := by decide +kernel
theorem dX8_rank_22 : decode cX8_rank 22 = .ok (.getfield 7, 3) := by decide +kernel
theorem dX8_rank_25 : decode cX8_rank 25 = .ok (.if_icmp .ge 28, 3) := by decide +kernel
theorem dX8_rank_28 : decode cX8_rank 28 = .ok (.aload_n 0, 1) := by decide +kernel
theorem dX8_rank_29 : decode cX8_rank 29 = .ok (.getfield 26, 3) := by decide +kernel
theorem dX8_rank_32 : decode cX8_rank 32 = .ok (.iload 4, 2) := by decide +kernel
theorem dX8_rank_34 : decode cX8_rank 34 = .ok (.iaload, 1) := by decide +kernel
theorem dX8_rank_35 : decode cX8_rank 35 = .ok (.aload_n 0, 1) := by decide +kernel
theorem dX8_rank_36 : decode cX8_rank 36 = .ok (.getfield 26, 3) := by decide +kernel
theorem dX8_rank_39 : decode cX8_rank 39 = .ok (.iload_n 2, 1) := by decide +kernel
theorem dX8_rank_40 : decode cX8_rank 40 = .ok (.iaload, 1) := by decide +kernel
theorem dX8_rank_41 : decode cX8_rank 41 = .ok (.if_icmp .ge 6, 3) := by decide +kernel
theorem dX8_rank_44 : decode cX8_rank 44 = .ok (.iinc 3 1, 3) := by decide +kernel
theorem dX8_rank_47 : decode cX8_rank 47 = .ok (.iinc 4 1, 3) := by decide +kernel
theorem dX8_rank_50 : decode cX8_rank 50 = .ok (.goto (-31), 3) := by decide +kernel
theorem dX8_rank_53 : decode cX8_rank 53 = .ok (.iload_n 1, 1) := by decide +kernel
theorem dX8_rank_54 : decode cX8_rank 54 = .ok (.iload_n 3, 1) := by decide +kernel
theorem dX8_rank_55 : decode cX8_rank 55 = .ok (.aload_n 0, 1) := by decide +kernel
theorem dX8_rank_56 : decode cX8_rank 56 = .ok (.getfield 7, 3) := by decide +kernel
theorem dX8_rank_59 : decode cX8_rank 59 = .ok (.iconst 1, 1) := by decide +kernel
theorem dX8_rank_60 : decode cX8_rank 60 = .ok (.isub, 1) := by decide +kernel
theorem dX8_rank_61 : decode cX8_rank 61 = .ok (.iload_n 2, 1) := by decide +kernel
theorem dX8_rank_62 : decode cX8_rank 62 = .ok (.isub, 1) := by decide +kernel
theorem dX8_rank_63 : decode cX8_rank 63 = .ok (.invokestatic 82, 3) := by decide +kernel
theorem dX8_rank_66 : decode cX8_rank 66 = .ok (.imul, 1) := by decide +kernel
theorem dX8_rank_67 : decode cX8_rank 67 = .ok (.iadd, 1) := by decide +kernel
theorem dX8_rank_68 : decode cX8_rank 68 = .ok (.istore_n 1, 1) := by decide +kernel
theorem dX8_rank_69 : decode cX8_rank 69 = .ok (.iinc 2 1, 3) := by decide +kernel
theorem dX8_rank_72 : decode cX8_rank 72 = .ok (.goto (-68), 3) := by decide +kernel
theorem dX8_rank_75 : decode cX8_rank 75 = .ok (.iload_n 1, 1) := by decide +kernel
theorem dX8_rank_76 : decode cX8_rank 76 = .ok (.ireturn, 1) := by decide +kernel
theorem dX8_takes_0 : decode cX8_takes 0 = .ok (.iconst 0, 1) := by decide +kernel
theorem dX8_takes_1 : decode cX8_takes 1 = .ok (.istore_n 2, 1) := by decide +kernel
theorem dX8_takes_2 : decode cX8_takes 2 = .ok (.iload_n 2, 1) := by decide +kernel
theorem dX8_takes_3 : decode cX8_takes 3 = .ok (.aload_n 0, 1) := by decide +kernel
theorem dX8_takes_4 : decode cX8_takes 4 = .ok (.getfield 7, 3) := by decide +kernel
theorem dX8_takes_7 : decode cX8_takes 7 = .ok (.if_icmp .ge 26, 3) := by decide +kernel
theorem dX8_takes_10 : decode cX8_takes 10 = .ok (.aload_n 0, 1) := by decide +kernel
theorem dX8_takes_11 : decode cX8_takes 11 = .ok (.getfield 26, 3) := by decide +kernel
theorem dX8_takes_14 : decode cX8_takes 14 = .ok (.iload_n 2, 1) := by decide +kernel
theorem dX8_takes_15 : decode cX8_takes 15 = .ok (.aload_n 0, 1) := by decide +kernel
theorem dX8_takes_16 : decode cX8_takes 16 = .ok (.getfield 13, 3) := by decide +kernel
theorem dX8_takes_19 : decode cX8_takes 19 = .ok (.bipush 10, 2) := by decide +kernel
theorem dX8_takes_21 : decode cX8_takes 21 = .ok (.iload_n 1, 1) := by decide +kernel
theorem dX8_takes_22 : decode cX8_takes 22 = .ok (.imul, 1) := by decide +kernel
theorem dX8_takes_23 : decode cX8_takes 23 = .ok (.iload_n 2, 1) := by decide +kernel
theorem dX8_takes_24 : decode cX8_takes 24 = .ok (.iadd, 1) := by decide +kernel
theorem dX8_takes_25 : decode cX8_takes 25 = .ok (.iaload, 1) := by decide +kernel
theorem dX8_takes_26 : decode cX8_takes 26 = .ok (.iastore, 1) := by decide +kernel
theorem dX8_takes_27 : decode cX8_takes 27 = .ok (.iinc 2 1, 3) := by decide +kernel
theorem dX8_takes_30 : decode cX8_takes 30 = .ok (.goto (-28), 3) := by decide +kernel
theorem dX8_takes_33 : decode cX8_takes 33 = .ok (.return_, 1) := by decide +kernel
theorem dX8_puts_0 : decode cX8_puts 0 = .ok (.iconst 0, 1) := by decide +kernel
theorem dX8_puts_1 : decode cX8_puts 1 = .ok (.istore_n 2, 1) := by decide +kernel
theorem dX8_puts_2 : decode cX8_puts 2 = .ok (.iload_n 2, 1) := by decide +kernel
theorem dX8_puts_3 : decode cX8_puts 3 = .ok (.aload_n 0, 1) := by decide +kernel
theorem dX8_puts_4 : decode cX8_puts 4 = .ok (.getfield 7, 3) := by decide +kernel
theorem dX8_puts_7 : decode cX8_puts 7 = .ok (.if_icmp .ge 26, 3) := by decide +kernel
theorem dX8_puts_10 : decode cX8_puts 10 = .ok (.aload_n 0, 1) := by decide +kernel
theorem dX8_puts_11 : decode cX8_puts 11 = .ok (.getfield 13, 3) := by decide +kernel
theorem dX8_puts_14 : decode cX8_puts 14 = .ok (.bipush 10, 2) := by decide +kernel
theorem dX8_puts_16 : decode cX8_puts 16 = .ok (.iload_n 1, 1) := by decide +kernel
theorem dX8_puts_17 : decode cX8_puts 17 = .ok (.imul, 1) := by decide +kernel
theorem dX8_puts_18 : decode cX8_puts 18 = .ok (.iload_n 2, 1) := by decide +kernel
theorem dX8_puts_19 : decode cX8_puts 19 = .ok (.iadd, 1) := by decide +kernel
theorem dX8_puts_20 : decode cX8_puts 20 = .ok (.aload_n 0, 1) := by decide +kernel
theorem dX8_puts_21 : decode cX8_puts 21 = .ok (.getfield 26, 3) := by decide +kernel
theorem dX8_puts_24 : decode cX8_puts 24 = .ok (.iload_n 2, 1) := by decide +kernel
theorem dX8_puts_25 : decode cX8_puts 25 = .ok (.iaload, 1) := by decide +kernel
theorem dX8_puts_26 : decode cX8_puts 26 = .ok (.iastore, 1) := by decide +kernel
theorem dX8_puts_27 : decode cX8_puts 27 = .ok (.iinc 2 1, 3) := by decide +kernel
theorem dX8_puts_30 : decode cX8_puts 30 = .ok (.goto (-28), 3) := by decide +kernel
theorem dX8_puts_33 : decode cX8_puts 33 = .ok (.return_, 1) := by decide +kernel
theorem dX8_pack_0 : decode cX8_pack 0 = .ok (.aload_n 0, 1) := by decide +kernel
theorem dX8_pack_1 : decode cX8_pack 1 = .ok (.getfield 72, 3) := by decide +kernel
theorem dX8_pack_4 : decode cX8_pack 4 = .ok (.bipush 12, 2) := by decide +kernel
theorem dX8_pack_6 : decode cX8_pack 6 = .ok (.if_icmp .ne 6, 3) := by decide +kernel
theorem dX8_pack_9 : decode cX8_pack 9 = .ok (.bipush (-4), 2) := by decide +kernel
theorem dX8_pack_11 : decode cX8_pack 11 = .ok (.ireturn, 1) := by decide +kernel
theorem dX8_pack_12 : decode cX8_pack 12 = .ok (.iconst 0, 1) := by decide +kernel
theorem dX8_pack_13 : decode cX8_pack 13 = .ok (.istore_n 1, 1) := by decide +kernel
theorem dX8_pack_14 : decode cX8_pack 14 = .ok (.iload_n 1, 1) := by decide +kernel
theorem dX8_pack_15 : decode cX8_pack 15 = .ok (.aload_n 0, 1) := by decide +kernel
theorem dX8_pack_16 : decode cX8_pack 16 = .ok (.getfield 7, 3) := by decide +kernel
theorem dX8_pack_19 : decode cX8_pack 19 = .ok (.if_icmp .ge 16, 3) := by decide +kernel
theorem dX8_pack_22 : decode cX8_pack 22 = .ok (.aload_n 0, 1) := by decide +kernel
theorem dX8_pack_23 : decode cX8_pack 23 = .ok (.getfield 26, 3) := by decide +kernel
theorem dX8_pack_26 : decode cX8_pack 26 = .ok (.iload_n 1, 1) := by decide +kernel
theorem dX8_pack_27 : decode cX8_pack 27 = .ok (.iload_n 1, 1) := by decide +kernel
theorem dX8_pack_28 : decode cX8_pack 28 = .ok (.iastore, 1) := by decide +kernel
theorem dX8_pack_29 : decode cX8_pack 29 = .ok (.iinc 1 1, 3) := by decide +kernel
theorem dX8_pack_32 : decode cX8_pack 32 = .ok (.goto (-18), 3) := by decide +kernel
theorem dX8_pack_35 : decode cX8_pack 35 = .ok (.aload_n 0, 1) := by decide +kernel
theorem dX8_pack_36 : decode cX8_pack 36 = .ok (.invokevirtual 86, 3) := by decide +kernel
theorem dX8_pack_39 : decode cX8_pack 39 = .ok (.ireturn, 1) := by decide +kernel
theorem dX8_ranked_0 : decode cX8_ranked 0 = .ok (.iload_n 1, 1) := by decide +kernel
theorem dX8_ranked_1 : decode cX8_ranked 1 = .ok (.ifCond .lt 14, 3) := by decide +kernel
theorem dX8_ranked_4 : decode cX8_ranked 4 = .ok (.iload_n 1, 1) := by decide +kernel
theorem dX8_ranked_5 : decode cX8_ranked 5 = .ok (.aload_n 0, 1) := by decide +kernel
theorem dX8_ranked_6 : decode cX8_ranked 6 = .ok (.getfield 7, 3) := by decide +kernel
theorem dX8_ranked_9 : decode cX8_ranked 9 = .ok (.invokestatic 82, 3) := by decide +kernel
theorem dX8_ranked_12 : decode cX8_ranked 12 = .ok (.if_icmp .lt 6, 3) := by decide +kernel
theorem dX8_ranked_15 : decode cX8_ranked 15 = .ok (.bipush (-2), 2) := by decide +kernel
theorem dX8_ranked_17 : decode cX8_ranked 17 = .ok (.ireturn, 1) := by decide +kernel
theorem dX8_ranked_18 : decode cX8_ranked 18 = .ok (.aload_n 0, 1) := by decide +kernel
theorem dX8_ranked_19 : decode cX8_ranked 19 = .ok (.getfield 72, 3) := by decide +kernel
theorem dX8_ranked_22 : decode cX8_ranked 22 = .ok (.bipush 12, 2) := by decide +kernel
theorem dX8_ranked_24 : decode cX8_ranked 24 = .ok (.if_icmp .ne 6, 3) := by decide +kernel
theorem dX8_ranked_27 : decode cX8_ranked 27 = .ok (.bipush (-4), 2) := by decide +kernel
theorem dX8_ranked_29 : decode cX8_ranked 29 = .ok (.ireturn, 1) := by decide +kernel
theorem dX8_ranked_30 : decode cX8_ranked 30 = .ok (.aload_n 0, 1) := by decide +kernel
theorem dX8_ranked_31 : decode cX8_ranked 31 = .ok (.iload_n 1, 1) := by decide +kernel
theorem dX8_ranked_32 : decode cX8_ranked 32 = .ok (.invokevirtual 90, 3) := by decide +kernel
theorem dX8_ranked_35 : decode cX8_ranked 35 = .ok (.aload_n 0, 1) := by decide +kernel
theorem dX8_ranked_36 : decode cX8_ranked 36 = .ok (.invokevirtual 86, 3) := by decide +kernel
theorem dX8_ranked_39 : decode cX8_ranked 39 = .ok (.ireturn, 1) := by decide +kernel
theorem dX8_told_0 : decode cX8_told 0 = .ok (.iload_n 1, 1) := by decide +kernel
theorem dX8_told_1 : decode cX8_told 1 = .ok (.invokestatic 94, 3) := by decide +kernel
theorem dX8_told_4 : decode cX8_told 4 = .ok (.ifCond .eq 12, 3) := by decide +kernel
theorem dX8_told_7 : decode cX8_told 7 = .ok (.iload_n 2, 1) := by decide +kernel
theorem dX8_told_8 : decode cX8_told 8 = .ok (.ifCond .lt 8, 3) := by decide +kernel
theorem dX8_told_11 : decode cX8_told 11 = .ok (.iload_n 2, 1) := by decide +kernel
theorem dX8_told_12 : decode cX8_told 12 = .ok (.iconst 2, 1) := by decide +kernel
theorem dX8_told_13 : decode cX8_told 13 = .ok (.if_icmp .le 6, 3) := by decide +kernel
theorem dX8_told_16 : decode cX8_told 16 = .ok (.bipush (-2), 2) := by decide +kernel
theorem dX8_told_18 : decode cX8_told 18 = .ok (.ireturn, 1) := by decide +kernel
theorem dX8_told_19 : decode cX8_told 19 = .ok (.aload_n 0, 1) := by decide +kernel
theorem dX8_told_20 : decode cX8_told 20 = .ok (.getfield 57, 3) := by decide +kernel
theorem dX8_told_23 : decode cX8_told 23 = .ok (.iload_n 1, 1) := by decide +kernel
theorem dX8_told_24 : decode cX8_told 24 = .ok (.iaload, 1) := by decide +kernel
theorem dX8_told_25 : decode cX8_told 25 = .ok (.ifCond .lt 16, 3) := by decide +kernel
theorem dX8_told_28 : decode cX8_told 28 = .ok (.aload_n 0, 1) := by decide +kernel
theorem dX8_told_29 : decode cX8_told 29 = .ok (.getfield 57, 3) := by decide +kernel
theorem dX8_told_32 : decode cX8_told 32 = .ok (.iload_n 1, 1) := by decide +kernel
theorem dX8_told_33 : decode cX8_told 33 = .ok (.iaload, 1) := by decide +kernel
theorem dX8_told_34 : decode cX8_told 34 = .ok (.iload_n 2, 1) := by decide +kernel
theorem dX8_told_35 : decode cX8_told 35 = .ok (.if_icmp .eq 6, 3) := by decide +kernel
theorem dX8_told_38 : decode cX8_told 38 = .ok (.bipush (-13), 2) := by decide +kernel
theorem dX8_told_40 : decode cX8_told 40 = .ok (.ireturn, 1) := by decide +kernel
theorem dX8_told_41 : decode cX8_told 41 = .ok (.aload_n 0, 1) := by decide +kernel
theorem dX8_told_42 : decode cX8_told 42 = .ok (.getfield 57, 3) := by decide +kernel
theorem dX8_told_45 : decode cX8_told 45 = .ok (.iload_n 1, 1) := by decide +kernel
theorem dX8_told_46 : decode cX8_told 46 = .ok (.iaload, 1) := by decide +kernel
theorem dX8_told_47 : decode cX8_told 47 = .ok (.ifCond .ge 6, 3) := by decide +kernel
theorem dX8_told_50 : decode cX8_told 50 = .ok (.bipush (-11), 2) := by decide +kernel
theorem dX8_told_52 : decode cX8_told 52 = .ok (.ireturn, 1) := by decide +kernel
theorem dX8_told_53 : decode cX8_told 53 = .ok (.iload_n 3, 1) := by decide +kernel
theorem dX8_told_54 : decode cX8_told 54 = .ok (.ifCond .lt 18, 3) := by decide +kernel
theorem dX8_told_57 : decode cX8_told 57 = .ok (.iload_n 3, 1) := by decide +kernel
theorem dX8_told_58 : decode cX8_told 58 = .ok (.aload_n 0, 1) := by decide +kernel
theorem dX8_told_59 : decode cX8_told 59 = .ok (.getfield 60, 3) := by decide +kernel
theorem dX8_told_62 : decode cX8_told 62 = .ok (.iload_n 1, 1) := by decide +kernel
theorem dX8_told_63 : decode cX8_told 63 = .ok (.iaload, 1) := by decide +kernel
theorem dX8_told_64 : decode cX8_told 64 = .ok (.aload_n 0, 1) := by decide +kernel
theorem dX8_told_65 : decode cX8_told 65 = .ok (.getfield 7, 3) := by decide +kernel
theorem dX8_told_68 : decode cX8_told 68 = .ok (.isub, 1) := by decide +kernel
theorem dX8_told_69 : decode cX8_told 69 = .ok (.if_icmp .le 6, 3) := by decide +kernel
theorem dX8_told_72 : decode cX8_told 72 = .ok (.bipush (-12), 2) := by decide +kernel
theorem dX8_told_74 : decode cX8_told 74 = .ok (.ireturn, 1) := by decide +kernel
theorem dX8_told_75 : decode cX8_told 75 = .ok (.iconst 0, 1) := by decide +kernel
theorem dX8_told_76 : decode cX8_told 76 = .ok (.istore 4, 2) := by decide +kernel
theorem dX8_told_78 : decode cX8_told 78 = .ok (.iconst 0, 1) := by decide +kernel
theorem dX8_told_79 : decode cX8_told 79 = .ok (.istore 5, 2) := by decide +kernel
theorem dX8_told_81 : decode cX8_told 81 = .ok (.iload 5, 2) := by decide +kernel
theorem dX8_told_83 : decode cX8_told 83 = .ok (.aload_n 0, 1) := by decide +kernel
theorem dX8_told_84 : decode cX8_told 84 = .ok (.getfield 7, 3) := by decide +kernel
theorem dX8_told_87 : decode cX8_told 87 = .ok (.if_icmp .ge 57, 3) := by decide +kernel
theorem dX8_told_90 : decode cX8_told 90 = .ok (.aload_n 0, 1) := by decide +kernel
theorem dX8_told_91 : decode cX8_told 91 = .ok (.getfield 63, 3) := by decide +kernel
theorem dX8_told_94 : decode cX8_told 94 = .ok (.bipush 40, 2) := by decide +kernel
theorem dX8_told_96 : decode cX8_told 96 = .ok (.iload_n 1, 1) := by decide +kernel
theorem dX8_told_97 : decode cX8_told 97 = .ok (.imul, 1) := by decide +kernel
theorem dX8_told_98 : decode cX8_told 98 = .ok (.iload_n 3, 1) := by decide +kernel
theorem dX8_told_99 : decode cX8_told 99 = .ok (.iadd, 1) := by decide +kernel
theorem dX8_told_100 : decode cX8_told 100 = .ok (.iload 5, 2) := by decide +kernel
theorem dX8_told_102 : decode cX8_told 102 = .ok (.iadd, 1) := by decide +kernel
theorem dX8_told_103 : decode cX8_told 103 = .ok (.iaload, 1) := by decide +kernel
theorem dX8_told_104 : decode cX8_told 104 = .ok (.istore 6, 2) := by decide +kernel
theorem dX8_told_106 : decode cX8_told 106 = .ok (.aload_n 0, 1) := by decide +kernel
theorem dX8_told_107 : decode cX8_told 107 = .ok (.iload 6, 2) := by decide +kernel
theorem dX8_told_109 : decode cX8_told 109 = .ok (.invokevirtual 98, 3) := by decide +kernel
theorem dX8_told_112 : decode cX8_told 112 = .ok (.ifCond .eq 14, 3) := by decide +kernel
theorem dX8_told_115 : decode cX8_told 115 = .ok (.iload 4, 2) := by decide +kernel
theorem dX8_told_117 : decode cX8_told 117 = .ok (.iload 6, 2) := by decide +kernel
theorem dX8_told_119 : decode cX8_told 119 = .ok (.ishr, 1) := by decide +kernel
theorem dX8_told_120 : decode cX8_told 120 = .ok (.iconst 1, 1) := by decide +kernel
theorem dX8_told_121 : decode cX8_told 121 = .ok (.iand, 1) := by decide +kernel
theorem dX8_told_122 : decode cX8_told 122 = .ok (.iconst 1, 1) := by decide +kernel
theorem dX8_told_123 : decode cX8_told 123 = .ok (.if_icmp .ne 6, 3) := by decide +kernel
theorem dX8_told_126 : decode cX8_told 126 = .ok (.bipush (-3), 2) := by decide +kernel
theorem dX8_told_128 : decode cX8_told 128 = .ok (.ireturn, 1) := by decide +kernel
theorem dX8_told_129 : decode cX8_told 129 = .ok (.iload 4, 2) := by decide +kernel
theorem dX8_told_131 : decode cX8_told 131 = .ok (.iconst 1, 1) := by decide +kernel
theorem dX8_told_132 : decode cX8_told 132 = .ok (.iload 6, 2) := by decide +kernel
theorem dX8_told_134 : decode cX8_told 134 = .ok (.ishl, 1) := by decide +kernel
theorem dX8_told_135 : decode cX8_told 135 = .ok (.ior, 1) := by decide +kernel
theorem dX8_told_136 : decode cX8_told 136 = .ok (.istore 4, 2) := by decide +kernel
theorem dX8_told_138 : decode cX8_told 138 = .ok (.iinc 5 1, 3) := by decide +kernel
theorem dX8_told_141 : decode cX8_told 141 = .ok (.goto (-60), 3) := by decide +kernel
theorem dX8_told_144 : decode cX8_told 144 = .ok (.aload_n 0, 1) := by decide +kernel
theorem dX8_told_145 : decode cX8_told 145 = .ok (.getfield 72, 3) := by decide +kernel
theorem dX8_told_148 : decode cX8_told 148 = .ok (.bipush 12, 2) := by decide +kernel
theorem dX8_told_150 : decode cX8_told 150 = .ok (.if_icmp .ne 6, 3) := by decide +kernel
theorem dX8_told_153 : decode cX8_told 153 = .ok (.bipush (-4), 2) := by decide +kernel
theorem dX8_told_155 : decode cX8_told 155 = .ok (.ireturn, 1) := by decide +kernel
theorem dX8_told_156 : decode cX8_told 156 = .ok (.iconst 0, 1) := by decide +kernel
theorem dX8_told_157 : decode cX8_told 157 = .ok (.istore 5, 2) := by decide +kernel
theorem dX8_told_159 : decode cX8_told 159 = .ok (.iload 5, 2) := by decide +kernel
theorem dX8_told_161 : decode cX8_told 161 = .ok (.aload_n 0, 1) := by decide +kernel
theorem dX8_told_162 : decode cX8_told 162 = .ok (.getfield 7, 3) := by decide +kernel
theorem dX8_told_165 : decode cX8_told 165 = .ok (.if_icmp .ge 30, 3) := by decide +kernel
theorem dX8_told_168 : decode cX8_told 168 = .ok (.aload_n 0, 1) := by decide +kernel
theorem dX8_told_169 : decode cX8_told 169 = .ok (.getfield 26, 3) := by decide +kernel
theorem dX8_told_172 : decode cX8_told 172 = .ok (.iload 5, 2) := by decide +kernel
theorem dX8_told_174 : decode cX8_told 174 = .ok (.aload_n 0, 1) := by decide +kernel
theorem dX8_told_175 : decode cX8_told 175 = .ok (.getfield 63, 3) := by decide +kernel
theorem dX8_told_178 : decode cX8_told 178 = .ok (.bipush 40, 2) := by decide +kernel
theorem dX8_told_180 : decode cX8_told 180 = .ok (.iload_n 1, 1) := by decide +kernel
theorem dX8_told_181 : decode cX8_told 181 = .ok (.imul, 1) := by decide +kernel
theorem dX8_told_182 : decode cX8_told 182 = .ok (.iload_n 3, 1) := by decide +kernel
theorem dX8_told_183 : decode cX8_told 183 = .ok (.iadd, 1) := by decide +kernel
theorem dX8_told_184 : decode cX8_told 184 = .ok (.iload 5, 2) := by decide +kernel
theorem dX8_told_186 : decode cX8_told 186 = .ok (.iadd, 1) := by decide +kernel
theorem dX8_told_187 : decode cX8_told 187 = .ok (.iaload, 1) := by decide +kernel
theorem dX8_told_188 : decode cX8_told 188 = .ok (.iastore, 1) := by decide +kernel
theorem dX8_told_189 : decode cX8_told 189 = .ok (.iinc 5 1, 3) := by decide +kernel
theorem dX8_told_192 : decode cX8_told 192 = .ok (.goto (-33), 3) := by decide +kernel
theorem dX8_told_195 : decode cX8_told 195 = .ok (.aload_n 0, 1) := by decide +kernel
theorem dX8_told_196 : decode cX8_told 196 = .ok (.invokevirtual 86, 3) := by decide +kernel
theorem dX8_told_199 : decode cX8_told 199 = .ok (.ireturn, 1) := by decide +kernel
theorem dX8_card_0 : decode cX8_card 0 = .ok (.aload_n 0, 1) := by decide +kernel
theorem dX8_card_1 : decode cX8_card 1 = .ok (.iload_n 1, 1) := by decide +kernel
theorem dX8_card_2 : decode cX8_card 2 = .ok (.invokevirtual 101, 3) := by decide +kernel
theorem dX8_card_5 : decode cX8_card 5 = .ok (.ifCond .eq 25, 3) := by decide +kernel
theorem dX8_card_8 : decode cX8_card 8 = .ok (.aload_n 0, 1) := by decide +kernel
theorem dX8_card_9 : decode cX8_card 9 = .ok (.iload_n 2, 1) := by decide +kernel
theorem dX8_card_10 : decode cX8_card 10 = .ok (.invokevirtual 98, 3) := by decide +kernel
theorem dX8_card_13 : decode cX8_card 13 = .ok (.ifCond .eq 17, 3) := by decide +kernel
theorem dX8_card_16 : decode cX8_card 16 = .ok (.aload_n 0, 1) := by decide +kernel
theorem dX8_card_17 : decode cX8_card 17 = .ok (.getfield 13, 3) := by decide +kernel
theorem dX8_card_20 : decode cX8_card 20 = .ok (.bipush 10, 2) := by decide +kernel
theorem dX8_card_22 : decode cX8_card 22 = .ok (.iload_n 1, 1) := by decide +kernel
theorem dX8_card_23 : decode cX8_card 23 = .ok (.imul, 1) := by decide +kernel
theorem dX8_card_24 : decode cX8_card 24 = .ok (.iload_n 2, 1) := by decide +kernel
theorem dX8_card_25 : decode cX8_card 25 = .ok (.iadd, 1) := by decide +kernel
theorem dX8_card_26 : decode cX8_card 26 = .ok (.iaload, 1) := by decide +kernel
theorem dX8_card_27 : decode cX8_card 27 = .ok (.goto 5, 3) := by decide +kernel
theorem dX8_card_30 : decode cX8_card 30 = .ok (.bipush (-2), 2) := by decide +kernel
theorem dX8_card_32 : decode cX8_card 32 = .ok (.ireturn, 1) := by decide +kernel
theorem dX8_placeOf_0 : decode cX8_placeOf 0 = .ok (.iconst 0, 1) := by decide +kernel
theorem dX8_placeOf_1 : decode cX8_placeOf 1 = .ok (.istore_n 2, 1) := by decide +kernel
theorem dX8_placeOf_2 : decode cX8_placeOf 2 = .ok (.aload_n 0, 1) := by decide +kernel
theorem dX8_placeOf_3 : decode cX8_placeOf 3 = .ok (.getfield 26, 3) := by decide +kernel
theorem dX8_placeOf_6 : decode cX8_placeOf 6 = .ok (.iload_n 2, 1) := by decide +kernel
theorem dX8_placeOf_7 : decode cX8_placeOf 7 = .ok (.iaload, 1) := by decide +kernel
theorem dX8_placeOf_8 : decode cX8_placeOf 8 = .ok (.iload_n 1, 1) := by decide +kernel
theorem dX8_placeOf_9 : decode cX8_placeOf 9 = .ok (.if_icmp .eq 9, 3) := by decide +kernel
theorem dX8_placeOf_12 : decode cX8_placeOf 12 = .ok (.iinc 2 1, 3) := by decide +kernel
theorem dX8_placeOf_15 : decode cX8_placeOf 15 = .ok (.goto (-13), 3) := by decide +kernel
theorem dX8_placeOf_18 : decode cX8_placeOf 18 = .ok (.iload_n 2, 1) := by decide +kernel
theorem dX8_placeOf_19 : decode cX8_placeOf 19 = .ok (.ireturn, 1) := by decide +kernel
theorem dX8_runsOf_0 : decode cX8_runsOf 0 = .ok (.iconst 1, 1) := by decide +kernel
theorem dX8_runsOf_1 : decode cX8_runsOf 1 = .ok (.istore_n 1, 1) := by decide +kernel
theorem dX8_runsOf_2 : decode cX8_runsOf 2 = .ok (.iconst 1, 1) := by decide +kernel
theorem dX8_runsOf_3 : decode cX8_runsOf 3 = .ok (.istore_n 2, 1) := by decide +kernel
theorem dX8_runsOf_4 : decode cX8_runsOf 4 = .ok (.iload_n 2, 1) := by decide +kernel
theorem dX8_runsOf_5 : decode cX8_runsOf 5 = .ok (.aload_n 0, 1) := by decide +kernel
theorem dX8_runsOf_6 : decode cX8_runsOf 6 = .ok (.getfield 7, 3) := by decide +kernel
theorem dX8_runsOf_9 : decode cX8_runsOf 9 = .ok (.if_icmp .ge 27, 3) := by decide +kernel
theorem dX8_runsOf_12 : decode cX8_runsOf 12 = .ok (.aload_n 0, 1) := by decide +kernel
theorem dX8_runsOf_13 : decode cX8_runsOf 13 = .ok (.iload_n 2, 1) := by decide +kernel
theorem dX8_runsOf_14 : decode cX8_runsOf 14 = .ok (.invokevirtual 104, 3) := by decide +kernel
theorem dX8_runsOf_17 : decode cX8_runsOf 17 = .ok (.aload_n 0, 1) := by decide +kernel
theorem dX8_runsOf_18 : decode cX8_runsOf 18 = .ok (.iload_n 2, 1) := by decide +kernel
theorem dX8_runsOf_19 : decode cX8_runsOf 19 = .ok (.iconst 1, 1) := by decide +kernel
theorem dX8_runsOf_20 : decode cX8_runsOf 20 = .ok (.isub, 1) := by decide +kernel
theorem dX8_runsOf_21 : decode cX8_runsOf 21 = .ok (.invokevirtual 104, 3) := by decide +kernel
theorem dX8_runsOf_24 : decode cX8_runsOf 24 = .ok (.if_icmp .ge 6, 3) := by decide +kernel
theorem dX8_runsOf_27 : decode cX8_runsOf 27 = .ok (.iinc 1 1, 3) := by decide +kernel
theorem dX8_runsOf_30 : decode cX8_runsOf 30 = .ok (.iinc 2 1, 3) := by decide +kernel
theorem dX8_runsOf_33 : decode cX8_runsOf 33 = .ok (.goto (-29), 3) := by decide +kernel
theorem dX8_runsOf_36 : decode cX8_runsOf 36 = .ok (.iload_n 1, 1) := by decide +kernel
theorem dX8_runsOf_37 : decode cX8_runsOf 37 = .ok (.ireturn, 1) := by decide +kernel
theorem dX8_packTold_0 : decode cX8_packTold 0 = .ok (.aload_n 0, 1) := by decide +kernel
theorem dX8_packTold_1 : decode cX8_packTold 1 = .ok (.iload_n 1, 1) := by decide +kernel
theorem dX8_packTold_2 : decode cX8_packTold 2 = .ok (.invokevirtual 101, 3) := by decide +kernel
theorem dX8_packTold_5 : decode cX8_packTold 5 = .ok (.ifCond .ne 6, 3) := by decide +kernel
theorem dX8_packTold_8 : decode cX8_packTold 8 = .ok (.bipush (-2), 2) := by decide +kernel
theorem dX8_packTold_10 : decode cX8_packTold 10 = .ok (.ireturn, 1) := by decide +kernel
theorem dX8_packTold_11 : decode cX8_packTold 11 = .ok (.aload_n 0, 1) := by decide +kernel
theorem dX8_packTold_12 : decode cX8_packTold 12 = .ok (.iload_n 1, 1) := by decide +kernel
theorem dX8_packTold_13 : decode cX8_packTold 13 = .ok (.invokevirtual 107, 3) := by decide +kernel
theorem dX8_packTold_16 : decode cX8_packTold 16 = .ok (.iload_n 2, 1) := by decide +kernel
theorem dX8_packTold_17 : decode cX8_packTold 17 = .ok (.ifCond .ne 10, 3) := by decide +kernel
theorem dX8_packTold_20 : decode cX8_packTold 20 = .ok (.aload_n 0, 1) := by decide +kernel
theorem dX8_packTold_21 : decode cX8_packTold 21 = .ok (.invokevirtual 110, 3) := by decide +kernel
theorem dX8_packTold_24 : decode cX8_packTold 24 = .ok (.goto 30, 3) := by decide +kernel
theorem dX8_packTold_27 : decode cX8_packTold 27 = .ok (.iload_n 2, 1) := by decide +kernel
theorem dX8_packTold_28 : decode cX8_packTold 28 = .ok (.iconst 1, 1) := by decide +kernel
theorem dX8_packTold_29 : decode cX8_packTold 29 = .ok (.if_icmp .ne 10, 3) := by decide +kernel
theorem dX8_packTold_32 : decode cX8_packTold 32 = .ok (.aload_n 0, 1) := by decide +kernel
theorem dX8_packTold_33 : decode cX8_packTold 33 = .ok (.invokevirtual 113, 3) := by decide +kernel
theorem dX8_packTold_36 : decode cX8_packTold 36 = .ok (.goto 18, 3) := by decide +kernel
theorem dX8_packTold_39 : decode cX8_packTold 39 = .ok (.iload_n 2, 1) := by decide +kernel
theorem dX8_packTold_40 : decode cX8_packTold 40 = .ok (.iconst 2, 1) := by decide +kernel
theorem dX8_packTold_41 : decode cX8_packTold 41 = .ok (.if_icmp .ne 11, 3) := by decide +kernel
theorem dX8_packTold_44 : decode cX8_packTold 44 = .ok (.aload_n 0, 1) := by decide +kernel
theorem dX8_packTold_45 : decode cX8_packTold 45 = .ok (.iconst 0, 1) := by decide +kernel
theorem dX8_packTold_46 : decode cX8_packTold 46 = .ok (.invokevirtual 104, 3) := by decide +kernel
theorem dX8_packTold_49 : decode cX8_packTold 49 = .ok (.goto 5, 3) := by decide +kernel
theorem dX8_packTold_52 : decode cX8_packTold 52 = .ok (.bipush (-2), 2) := by decide +kernel
theorem dX8_packTold_54 : decode cX8_packTold 54 = .ok (.ireturn, 1) := by decide +kernel
theorem dX8_makes_0 : decode cX8_makes 0 = .ok (.aload_n 0, 1) := by decide +kernel
theorem dX8_makes_1 : decode cX8_makes 1 = .ok (.getfield 17, 3) := by decide +kernel
theorem dX8_makes_4 : decode cX8_makes 4 = .ok (.aload_n 0, 1) := by decide +kernel
theorem dX8_makes_5 : decode cX8_makes 5 = .ok (.getfield 75, 3) := by decide +kernel
theorem dX8_makes_8 : decode cX8_makes 8 = .ok (.iload_n 1, 1) := by decide +kernel
theorem dX8_makes_9 : decode cX8_makes 9 = .ok (.iastore, 1) := by decide +kernel
theorem dX8_makes_10 : decode cX8_makes 10 = .ok (.aload_n 0, 1) := by decide +kernel
theorem dX8_makes_11 : decode cX8_makes 11 = .ok (.getfield 20, 3) := by decide +kernel
theorem dX8_makes_14 : decode cX8_makes 14 = .ok (.aload_n 0, 1) := by decide +kernel
theorem dX8_makes_15 : decode cX8_makes 15 = .ok (.getfield 75, 3) := by decide +kernel
theorem dX8_makes_18 : decode cX8_makes 18 = .ok (.iload_n 2, 1) := by decide +kernel
theorem dX8_makes_19 : decode cX8_makes 19 = .ok (.iastore, 1) := by decide +kernel
theorem dX8_makes_20 : decode cX8_makes 20 = .ok (.iconst 0, 1) := by decide +kernel
theorem dX8_makes_21 : decode cX8_makes 21 = .ok (.istore_n 3, 1) := by decide +kernel
theorem dX8_makes_22 : decode cX8_makes 22 = .ok (.iload_n 3, 1) := by decide +kernel
theorem dX8_makes_23 : decode cX8_makes 23 = .ok (.aload_n 0, 1) := by decide +kernel
theorem dX8_makes_24 : decode cX8_makes 24 = .ok (.getfield 7, 3) := by decide +kernel
theorem dX8_makes_27 : decode cX8_makes 27 = .ok (.if_icmp .ge 29, 3) := by decide +kernel
theorem dX8_makes_30 : decode cX8_makes 30 = .ok (.aload_n 0, 1) := by decide +kernel
theorem dX8_makes_31 : decode cX8_makes 31 = .ok (.getfield 23, 3) := by decide +kernel
theorem dX8_makes_34 : decode cX8_makes 34 = .ok (.bipush 10, 2) := by decide +kernel
theorem dX8_makes_36 : decode cX8_makes 36 = .ok (.aload_n 0, 1) := by decide +kernel
theorem dX8_makes_37 : decode cX8_makes 37 = .ok (.getfield 75, 3) := by decide +kernel
theorem dX8_makes_40 : decode cX8_makes 40 = .ok (.imul, 1) := by decide +kernel
theorem dX8_makes_41 : decode cX8_makes 41 = .ok (.iload_n 3, 1) := by decide +kernel
theorem dX8_makes_42 : decode cX8_makes 42 = .ok (.iadd, 1) := by decide +kernel
theorem dX8_makes_43 : decode cX8_makes 43 = .ok (.aload_n 0, 1) := by decide +kernel
theorem dX8_makes_44 : decode cX8_makes 44 = .ok (.getfield 26, 3) := by decide +kernel
theorem dX8_makes_47 : decode cX8_makes 47 = .ok (.iload_n 3, 1) := by decide +kernel
theorem dX8_makes_48 : decode cX8_makes 48 = .ok (.iaload, 1) := by decide +kernel
theorem dX8_makes_49 : decode cX8_makes 49 = .ok (.iastore, 1) := by decide +kernel
theorem dX8_makes_50 : decode cX8_makes 50 = .ok (.iinc 3 1, 3) := by decide +kernel
theorem dX8_makes_53 : decode cX8_makes 53 = .ok (.goto (-31), 3) := by decide +kernel
theorem dX8_makes_56 : decode cX8_makes 56 = .ok (.aload_n 0, 1) := by decide +kernel
theorem dX8_makes_57 : decode cX8_makes 57 = .ok (.dup, 1) := by decide +kernel
theorem dX8_makes_58 : decode cX8_makes 58 = .ok (.getfield 75, 3) := by decide +kernel
theorem dX8_makes_61 : decode cX8_makes 61 = .ok (.dup_x1, 1) := by decide +kernel
theorem dX8_makes_62 : decode cX8_makes 62 = .ok (.iconst 1, 1) := by decide +kernel
theorem dX8_makes_63 : decode cX8_makes 63 = .ok (.iadd, 1) := by decide +kernel
theorem dX8_makes_64 : decode cX8_makes 64 = .ok (.putfield 75, 3) := by decide +kernel
theorem dX8_makes_67 : decode cX8_makes 67 = .ok (.ireturn, 1) := by decide +kernel
theorem dX8_move_0 : decode cX8_move 0 = .ok (.aload_n 0, 1) := by decide +kernel
theorem dX8_move_1 : decode cX8_move 1 = .ok (.iload_n 1, 1) := by decide +kernel
theorem dX8_move_2 : decode cX8_move 2 = .ok (.invokevirtual 101, 3) := by decide +kernel
theorem dX8_move_5 : decode cX8_move 5 = .ok (.ifCond .ne 6, 3) := by decide +kernel
theorem dX8_move_8 : decode cX8_move 8 = .ok (.bipush (-2), 2) := by decide +kernel
theorem dX8_move_10 : decode cX8_move 10 = .ok (.ireturn, 1) := by decide +kernel
theorem dX8_move_11 : decode cX8_move 11 = .ok (.aload_n 0, 1) := by decide +kernel
theorem dX8_move_12 : decode cX8_move 12 = .ok (.getfield 75, 3) := by decide +kernel
theorem dX8_move_15 : decode cX8_move 15 = .ok (.bipush 10, 2) := by decide +kernel
theorem dX8_move_17 : decode cX8_move 17 = .ok (.if_icmp .ne 6, 3) := by decide +kernel
theorem dX8_move_20 : decode cX8_move 20 = .ok (.bipush (-4), 2) := by decide +kernel
theorem dX8_move_22 : decode cX8_move 22 = .ok (.ireturn, 1) := by decide +kernel
theorem dX8_move_23 : decode cX8_move 23 = .ok (.aload_n 0, 1) := by decide +kernel
theorem dX8_move_24 : decode cX8_move 24 = .ok (.iload_n 1, 1) := by decide +kernel
theorem dX8_move_25 : decode cX8_move 25 = .ok (.invokevirtual 107, 3) := by decide +kernel
theorem dX8_move_28 : decode cX8_move 28 = .ok (.aload_n 0, 1) := by decide +kernel
theorem dX8_move_29 : decode cX8_move 29 = .ok (.iconst 0, 1) := by decide +kernel
theorem dX8_move_30 : decode cX8_move 30 = .ok (.iconst 2, 1) := by decide +kernel
theorem dX8_move_31 : decode cX8_move 31 = .ok (.invokevirtual 116, 3) := by decide +kernel
theorem dX8_move_34 : decode cX8_move 34 = .ok (.ireturn, 1) := by decide +kernel
theorem dX8_goes_0 : decode cX8_goes 0 = .ok (.iload_n 2, 1) := by decide +kernel
theorem dX8_goes_1 : decode cX8_goes 1 = .ok (.aload_n 0, 1) := by decide +kernel
theorem dX8_goes_2 : decode cX8_goes 2 = .ok (.getfield 7, 3) := by decide +kernel
theorem dX8_goes_5 : decode cX8_goes 5 = .ok (.iconst 2, 1) := by decide +kernel
theorem dX8_goes_6 : decode cX8_goes 6 = .ok (.idiv, 1) := by decide +kernel
theorem dX8_goes_7 : decode cX8_goes 7 = .ok (.if_icmp .ge 9, 3) := by decide +kernel
theorem dX8_goes_10 : decode cX8_goes 10 = .ok (.iconst 2, 1) := by decide +kernel
theorem dX8_goes_11 : decode cX8_goes 11 = .ok (.iload_n 2, 1) := by decide +kernel
theorem dX8_goes_12 : decode cX8_goes 12 = .ok (.imul, 1) := by decide +kernel
theorem dX8_goes_13 : decode cX8_goes 13 = .ok (.iload_n 1, 1) := by decide +kernel
theorem dX8_goes_14 : decode cX8_goes 14 = .ok (.iadd, 1) := by decide +kernel
theorem dX8_goes_15 : decode cX8_goes 15 = .ok (.ireturn, 1) := by decide +kernel
theorem dX8_goes_16 : decode cX8_goes 16 = .ok (.iconst 2, 1) := by decide +kernel
theorem dX8_goes_17 : decode cX8_goes 17 = .ok (.iload_n 2, 1) := by decide +kernel
theorem dX8_goes_18 : decode cX8_goes 18 = .ok (.aload_n 0, 1) := by decide +kernel
theorem dX8_goes_19 : decode cX8_goes 19 = .ok (.getfield 7, 3) := by decide +kernel
theorem dX8_goes_22 : decode cX8_goes 22 = .ok (.iconst 2, 1) := by decide +kernel
theorem dX8_goes_23 : decode cX8_goes 23 = .ok (.idiv, 1) := by decide +kernel
theorem dX8_goes_24 : decode cX8_goes 24 = .ok (.isub, 1) := by decide +kernel
theorem dX8_goes_25 : decode cX8_goes 25 = .ok (.imul, 1) := by decide +kernel
theorem dX8_goes_26 : decode cX8_goes 26 = .ok (.iconst 1, 1) := by decide +kernel
theorem dX8_goes_27 : decode cX8_goes 27 = .ok (.iadd, 1) := by decide +kernel
theorem dX8_goes_28 : decode cX8_goes 28 = .ok (.iload_n 1, 1) := by decide +kernel
theorem dX8_goes_29 : decode cX8_goes 29 = .ok (.isub, 1) := by decide +kernel
theorem dX8_goes_30 : decode cX8_goes 30 = .ok (.ireturn, 1) := by decide +kernel
theorem dX8_perfect_0 : decode cX8_perfect 0 = .ok (.iload_n 1, 1) := by decide +kernel
theorem dX8_perfect_1 : decode cX8_perfect 1 = .ok (.ifCond .eq 11, 3) := by decide +kernel
theorem dX8_perfect_4 : decode cX8_perfect 4 = .ok (.iload_n 1, 1) := by decide +kernel
theorem dX8_perfect_5 : decode cX8_perfect 5 = .ok (.iconst 1, 1) := by decide +kernel
theorem dX8_perfect_6 : decode cX8_perfect 6 = .ok (.if_icmp .eq 6, 3) := by decide +kernel
theorem dX8_perfect_9 : decode cX8_perfect 9 = .ok (.bipush (-2), 2) := by decide +kernel
theorem dX8_perfect_11 : decode cX8_perfect 11 = .ok (.ireturn, 1) := by decide +kernel
theorem dX8_perfect_12 : decode cX8_perfect 12 = .ok (.aload_n 0, 1) := by decide +kernel
theorem dX8_perfect_13 : decode cX8_perfect 13 = .ok (.getfield 7, 3) := by decide +kernel
theorem dX8_perfect_16 : decode cX8_perfect 16 = .ok (.iconst 2, 1) := by decide +kernel
theorem dX8_perfect_17 : decode cX8_perfect 17 = .ok (.irem, 1) := by decide +kernel
theorem dX8_perfect_18 : decode cX8_perfect 18 = .ok (.iconst 1, 1) := by decide +kernel
theorem dX8_perfect_19 : decode cX8_perfect 19 = .ok (.if_icmp .ne 6, 3) := by decide +kernel
theorem dX8_perfect_22 : decode cX8_perfect 22 = .ok (.bipush (-3), 2) := by decide +kernel
theorem dX8_perfect_24 : decode cX8_perfect 24 = .ok (.ireturn, 1) := by decide +kernel
theorem dX8_perfect_25 : decode cX8_perfect 25 = .ok (.aload_n 0, 1) := by decide +kernel
theorem dX8_perfect_26 : decode cX8_perfect 26 = .ok (.getfield 75, 3) := by decide +kernel
theorem dX8_perfect_29 : decode cX8_perfect 29 = .ok (.bipush 10, 2) := by decide +kernel
theorem dX8_perfect_31 : decode cX8_perfect 31 = .ok (.if_icmp .ne 6, 3) := by decide +kernel
theorem dX8_perfect_34 : decode cX8_perfect 34 = .ok (.bipush (-4), 2) := by decide +kernel
theorem dX8_perfect_36 : decode cX8_perfect 36 = .ok (.ireturn, 1) := by decide +kernel
theorem dX8_perfect_37 : decode cX8_perfect 37 = .ok (.iconst 0, 1) := by decide +kernel
theorem dX8_perfect_38 : decode cX8_perfect 38 = .ok (.istore_n 2, 1) := by decide +kernel
theorem dX8_perfect_39 : decode cX8_perfect 39 = .ok (.iload_n 2, 1) := by decide +kernel
theorem dX8_perfect_40 : decode cX8_perfect 40 = .ok (.aload_n 0, 1) := by decide +kernel
theorem dX8_perfect_41 : decode cX8_perfect 41 = .ok (.getfield 7, 3) := by decide +kernel
theorem dX8_perfect_44 : decode cX8_perfect 44 = .ok (.if_icmp .ge 21, 3) := by decide +kernel
theorem dX8_perfect_47 : decode cX8_perfect 47 = .ok (.aload_n 0, 1) := by decide +kernel
theorem dX8_perfect_48 : decode cX8_perfect 48 = .ok (.getfield 26, 3) := by decide +kernel
theorem dX8_perfect_51 : decode cX8_perfect 51 = .ok (.aload_n 0, 1) := by decide +kernel
theorem dX8_perfect_52 : decode cX8_perfect 52 = .ok (.iload_n 1, 1) := by decide +kernel
theorem dX8_perfect_53 : decode cX8_perfect 53 = .ok (.iload_n 2, 1) := by decide +kernel
theorem dX8_perfect_54 : decode cX8_perfect 54 = .ok (.invokevirtual 120, 3) := by decide +kernel
theorem dX8_perfect_57 : decode cX8_perfect 57 = .ok (.iload_n 2, 1) := by decide +kernel
theorem dX8_perfect_58 : decode cX8_perfect 58 = .ok (.iastore, 1) := by decide +kernel
theorem dX8_perfect_59 : decode cX8_perfect 59 = .ok (.iinc 2 1, 3) := by decide +kernel
theorem dX8_perfect_62 : decode cX8_perfect 62 = .ok (.goto (-23), 3) := by decide +kernel
theorem dX8_perfect_65 : decode cX8_perfect 65 = .ok (.aload_n 0, 1) := by decide +kernel
theorem dX8_perfect_66 : decode cX8_perfect 66 = .ok (.iconst 1, 1) := by decide +kernel
theorem dX8_perfect_67 : decode cX8_perfect 67 = .ok (.iconst 2, 1) := by decide +kernel
theorem dX8_perfect_68 : decode cX8_perfect 68 = .ok (.invokevirtual 116, 3) := by decide +kernel
theorem dX8_perfect_71 : decode cX8_perfect 71 = .ok (.ireturn, 1) := by decide +kernel
theorem dX8_deal_0 : decode cX8_deal 0 = .ok (.iload_n 1, 1) := by decide +kernel
theorem dX8_deal_1 : decode cX8_deal 1 = .ok (.iconst 1, 1) := by decide +kernel
theorem dX8_deal_2 : decode cX8_deal 2 = .ok (.if_icmp .lt 11, 3) := by decide +kernel
theorem dX8_deal_5 : decode cX8_deal 5 = .ok (.iload_n 1, 1) := by decide +kernel
theorem dX8_deal_6 : decode cX8_deal 6 = .ok (.aload_n 0, 1) := by decide +kernel
theorem dX8_deal_7 : decode cX8_deal 7 = .ok (.getfield 7, 3) := by decide +kernel
theorem dX8_deal_10 : decode cX8_deal 10 = .ok (.if_icmp .le 6, 3) := by decide +kernel
theorem dX8_deal_13 : decode cX8_deal 13 = .ok (.bipush (-2), 2) := by decide +kernel
theorem dX8_deal_15 : decode cX8_deal 15 = .ok (.ireturn, 1) := by decide +kernel
theorem dX8_deal_16 : decode cX8_deal 16 = .ok (.aload_n 0, 1) := by decide +kernel
theorem dX8_deal_17 : decode cX8_deal 17 = .ok (.getfield 75, 3) := by decide +kernel
theorem dX8_deal_20 : decode cX8_deal 20 = .ok (.bipush 10, 2) := by decide +kernel
theorem dX8_deal_22 : decode cX8_deal 22 = .ok (.if_icmp .ne 6, 3) := by decide +kernel
theorem dX8_deal_25 : decode cX8_deal 25 = .ok (.bipush (-4), 2) := by decide +kernel
theorem dX8_deal_27 : decode cX8_deal 27 = .ok (.ireturn, 1) := by decide +kernel
theorem dX8_deal_28 : decode cX8_deal 28 = .ok (.iconst 0, 1) := by decide +kernel
theorem dX8_deal_29 : decode cX8_deal 29 = .ok (.istore_n 2, 1) := by decide +kernel
theorem dX8_deal_30 : decode cX8_deal 30 = .ok (.iconst 0, 1) := by decide +kernel
theorem dX8_deal_31 : decode cX8_deal 31 = .ok (.istore_n 3, 1) := by decide +kernel
theorem dX8_deal_32 : decode cX8_deal 32 = .ok (.iload_n 3, 1) := by decide +kernel
theorem dX8_deal_33 : decode cX8_deal 33 = .ok (.iload_n 1, 1) := by decide +kernel
theorem dX8_deal_34 : decode cX8_deal 34 = .ok (.if_icmp .ge 47, 3) := by decide +kernel
theorem dX8_deal_37 : decode cX8_deal 37 = .ok (.aload_n 0, 1) := by decide +kernel
theorem dX8_deal_38 : decode cX8_deal 38 = .ok (.getfield 7, 3) := by decide +kernel
theorem dX8_deal_41 : decode cX8_deal 41 = .ok (.iconst 1, 1) := by decide +kernel
theorem dX8_deal_42 : decode cX8_deal 42 = .ok (.isub, 1) := by decide +kernel
theorem dX8_deal_43 : decode cX8_deal 43 = .ok (.istore 4, 2) := by decide +kernel
theorem dX8_deal_45 : decode cX8_deal 45 = .ok (.iload 4, 2) := by decide +kernel
theorem dX8_deal_47 : decode cX8_deal 47 = .ok (.ifCond .lt 28, 3) := by decide +kernel
theorem dX8_deal_50 : decode cX8_deal 50 = .ok (.iload 4, 2) := by decide +kernel
theorem dX8_deal_52 : decode cX8_deal 52 = .ok (.iload_n 1, 1) := by decide +kernel
theorem dX8_deal_53 : decode cX8_deal 53 = .ok (.irem, 1) := by decide +kernel
theorem dX8_deal_54 : decode cX8_deal 54 = .ok (.iload_n 3, 1) := by decide +kernel
theorem dX8_deal_55 : decode cX8_deal 55 = .ok (.if_icmp .ne 14, 3) := by decide +kernel
theorem dX8_deal_58 : decode cX8_deal 58 = .ok (.aload_n 0, 1) := by decide +kernel
theorem dX8_deal_59 : decode cX8_deal 59 = .ok (.getfield 26, 3) := by decide +kernel
theorem dX8_deal_62 : decode cX8_deal 62 = .ok (.iload_n 2, 1) := by decide +kernel
theorem dX8_deal_63 : decode cX8_deal 63 = .ok (.iinc 2 1, 3) := by decide +kernel
theorem dX8_deal_66 : decode cX8_deal 66 = .ok (.iload 4, 2) := by decide +kernel
theorem dX8_deal_68 : decode cX8_deal 68 = .ok (.iastore, 1) := by decide +kernel
theorem dX8_deal_69 : decode cX8_deal 69 = .ok (.iinc 4 (-1), 3) := by decide +kernel
theorem dX8_deal_72 : decode cX8_deal 72 = .ok (.goto (-27), 3) := by decide +kernel
theorem dX8_deal_75 : decode cX8_deal 75 = .ok (.iinc 3 1, 3) := by decide +kernel
theorem dX8_deal_78 : decode cX8_deal 78 = .ok (.goto (-46), 3) := by decide +kernel
theorem dX8_deal_81 : decode cX8_deal 81 = .ok (.aload_n 0, 1) := by decide +kernel
theorem dX8_deal_82 : decode cX8_deal 82 = .ok (.iconst 2, 1) := by decide +kernel
theorem dX8_deal_83 : decode cX8_deal 83 = .ok (.iload_n 1, 1) := by decide +kernel
theorem dX8_deal_84 : decode cX8_deal 84 = .ok (.invokevirtual 116, 3) := by decide +kernel
theorem dX8_deal_87 : decode cX8_deal 87 = .ok (.ireturn, 1) := by decide +kernel
theorem dX8_riffle_0 : decode cX8_riffle 0 = .ok (.iload_n 1, 1) := by decide +kernel
theorem dX8_riffle_1 : decode cX8_riffle 1 = .ok (.iconst 1, 1) := by decide +kernel
theorem dX8_riffle_2 : decode cX8_riffle 2 = .ok (.if_icmp .lt 9, 3) := by decide +kernel
theorem dX8_riffle_5 : decode cX8_riffle 5 = .ok (.iload_n 1, 1) := by decide +kernel
theorem dX8_riffle_6 : decode cX8_riffle 6 = .ok (.bipush 10, 2) := by decide +kernel
theorem dX8_riffle_8 : decode cX8_riffle 8 = .ok (.if_icmp .le 6, 3) := by decide +kernel
theorem dX8_riffle_11 : decode cX8_riffle 11 = .ok (.bipush (-2), 2) := by decide +kernel
theorem dX8_riffle_13 : decode cX8_riffle 13 = .ok (.ireturn, 1) := by decide +kernel
theorem dX8_riffle_14 : decode cX8_riffle 14 = .ok (.aload_n 0, 1) := by decide +kernel
theorem dX8_riffle_15 : decode cX8_riffle 15 = .ok (.getfield 75, 3) := by decide +kernel
theorem dX8_riffle_18 : decode cX8_riffle 18 = .ok (.bipush 10, 2) := by decide +kernel
theorem dX8_riffle_20 : decode cX8_riffle 20 = .ok (.if_icmp .ne 8, 3) := by decide +kernel
theorem dX8_riffle_23 : decode cX8_riffle 23 = .ok (.bipush (-4), 2) := by decide +kernel
theorem dX8_riffle_25 : decode cX8_riffle 25 = .ok (.goto 9, 3) := by decide +kernel
theorem dX8_riffle_28 : decode cX8_riffle 28 = .ok (.aload_n 0, 1) := by decide +kernel
theorem dX8_riffle_29 : decode cX8_riffle 29 = .ok (.iconst 3, 1) := by decide +kernel
theorem dX8_riffle_30 : decode cX8_riffle 30 = .ok (.iload_n 1, 1) := by decide +kernel
theorem dX8_riffle_31 : decode cX8_riffle 31 = .ok (.invokevirtual 116, 3) := by decide +kernel
theorem dX8_riffle_34 : decode cX8_riffle 34 = .ok (.ireturn, 1) := by decide +kernel
theorem dX8_top_0 : decode cX8_top 0 = .ok (.aload_n 0, 1) := by decide +kernel
theorem dX8_top_1 : decode cX8_top 1 = .ok (.getfield 75, 3) := by decide +kernel
theorem dX8_top_4 : decode cX8_top 4 = .ok (.bipush 10, 2) := by decide +kernel
theorem dX8_top_6 : decode cX8_top 6 = .ok (.if_icmp .ne 8, 3) := by decide +kernel
theorem dX8_top_9 : decode cX8_top 9 = .ok (.bipush (-4), 2) := by decide +kernel
theorem dX8_top_11 : decode cX8_top 11 = .ok (.goto 12, 3) := by decide +kernel
theorem dX8_top_14 : decode cX8_top 14 = .ok (.aload_n 0, 1) := by decide +kernel
theorem dX8_top_15 : decode cX8_top 15 = .ok (.iconst 4, 1) := by decide +kernel
theorem dX8_top_16 : decode cX8_top 16 = .ok (.aload_n 0, 1) := by decide +kernel
theorem dX8_top_17 : decode cX8_top 17 = .ok (.getfield 7, 3) := by decide +kernel
theorem dX8_top_20 : decode cX8_top 20 = .ok (.invokevirtual 116, 3) := by decide +kernel
theorem dX8_top_23 : decode cX8_top 23 = .ok (.ireturn, 1) := by decide +kernel
theorem dX8_behind_0 : decode cX8_behind 0 = .ok (.aload_n 0, 1) := by decide +kernel
theorem dX8_behind_1 : decode cX8_behind 1 = .ok (.iload_n 1, 1) := by decide +kernel
theorem dX8_behind_2 : decode cX8_behind 2 = .ok (.invokevirtual 123, 3) := by decide +kernel
theorem dX8_behind_5 : decode cX8_behind 5 = .ok (.ifCond .eq 11, 3) := by decide +kernel
theorem dX8_behind_8 : decode cX8_behind 8 = .ok (.aload_n 0, 1) := by decide +kernel
theorem dX8_behind_9 : decode cX8_behind 9 = .ok (.iload_n 2, 1) := by decide +kernel
theorem dX8_behind_10 : decode cX8_behind 10 = .ok (.invokevirtual 123, 3) := by decide +kernel
theorem dX8_behind_13 : decode cX8_behind 13 = .ok (.ifCond .ne 6, 3) := by decide +kernel
theorem dX8_behind_16 : decode cX8_behind 16 = .ok (.bipush (-2), 2) := by decide +kernel
theorem dX8_behind_18 : decode cX8_behind 18 = .ok (.ireturn, 1) := by decide +kernel
theorem dX8_behind_19 : decode cX8_behind 19 = .ok (.aload_n 0, 1) := by decide +kernel
theorem dX8_behind_20 : decode cX8_behind 20 = .ok (.iload_n 1, 1) := by decide +kernel
theorem dX8_behind_21 : decode cX8_behind 21 = .ok (.invokevirtual 126, 3) := by decide +kernel
theorem dX8_behind_24 : decode cX8_behind 24 = .ok (.ifCond .eq 11, 3) := by decide +kernel
theorem dX8_behind_27 : decode cX8_behind 27 = .ok (.aload_n 0, 1) := by decide +kernel
theorem dX8_behind_28 : decode cX8_behind 28 = .ok (.iload_n 2, 1) := by decide +kernel
theorem dX8_behind_29 : decode cX8_behind 29 = .ok (.invokevirtual 126, 3) := by decide +kernel
theorem dX8_behind_32 : decode cX8_behind 32 = .ok (.ifCond .ne 6, 3) := by decide +kernel
theorem dX8_behind_35 : decode cX8_behind 35 = .ok (.bipush (-3), 2) := by decide +kernel
theorem dX8_behind_37 : decode cX8_behind 37 = .ok (.ireturn, 1) := by decide +kernel
theorem dX8_behind_38 : decode cX8_behind 38 = .ok (.aload_n 0, 1) := by decide +kernel
theorem dX8_behind_39 : decode cX8_behind 39 = .ok (.getfield 75, 3) := by decide +kernel
theorem dX8_behind_42 : decode cX8_behind 42 = .ok (.bipush 10, 2) := by decide +kernel
theorem dX8_behind_44 : decode cX8_behind 44 = .ok (.if_icmp .ne 6, 3) := by decide +kernel
theorem dX8_behind_47 : decode cX8_behind 47 = .ok (.bipush (-4), 2) := by decide +kernel
theorem dX8_behind_49 : decode cX8_behind 49 = .ok (.ireturn, 1) := by decide +kernel
theorem dX8_behind_50 : decode cX8_behind 50 = .ok (.iconst 0, 1) := by decide +kernel
theorem dX8_behind_51 : decode cX8_behind 51 = .ok (.istore_n 3, 1) := by decide +kernel
theorem dX8_behind_52 : decode cX8_behind 52 = .ok (.iload_n 3, 1) := by decide +kernel
theorem dX8_behind_53 : decode cX8_behind 53 = .ok (.aload_n 0, 1) := by decide +kernel
theorem dX8_behind_54 : decode cX8_behind 54 = .ok (.getfield 7, 3) := by decide +kernel
theorem dX8_behind_57 : decode cX8_behind 57 = .ok (.if_icmp .ge 36, 3) := by decide +kernel
theorem dX8_behind_60 : decode cX8_behind 60 = .ok (.aload_n 0, 1) := by decide +kernel
theorem dX8_behind_61 : decode cX8_behind 61 = .ok (.getfield 26, 3) := by decide +kernel
theorem dX8_behind_64 : decode cX8_behind 64 = .ok (.iload_n 3, 1) := by decide +kernel
theorem dX8_behind_65 : decode cX8_behind 65 = .ok (.aload_n 0, 1) := by decide +kernel
theorem dX8_behind_66 : decode cX8_behind 66 = .ok (.getfield 23, 3) := by decide +kernel
theorem dX8_behind_69 : decode cX8_behind 69 = .ok (.bipush 10, 2) := by decide +kernel
theorem dX8_behind_71 : decode cX8_behind 71 = .ok (.iload_n 1, 1) := by decide +kernel
theorem dX8_behind_72 : decode cX8_behind 72 = .ok (.imul, 1) := by decide +kernel
theorem dX8_behind_73 : decode cX8_behind 73 = .ok (.aload_n 0, 1) := by decide +kernel
theorem dX8_behind_74 : decode cX8_behind 74 = .ok (.getfield 23, 3) := by decide +kernel
theorem dX8_behind_77 : decode cX8_behind 77 = .ok (.bipush 10, 2) := by decide +kernel
theorem dX8_behind_79 : decode cX8_behind 79 = .ok (.iload_n 2, 1) := by decide +kernel
theorem dX8_behind_80 : decode cX8_behind 80 = .ok (.imul, 1) := by decide +kernel
theorem dX8_behind_81 : decode cX8_behind 81 = .ok (.iload_n 3, 1) := by decide +kernel
theorem dX8_behind_82 : decode cX8_behind 82 = .ok (.iadd, 1) := by decide +kernel
theorem dX8_behind_83 : decode cX8_behind 83 = .ok (.iaload, 1) := by decide +kernel
theorem dX8_behind_84 : decode cX8_behind 84 = .ok (.iadd, 1) := by decide +kernel
theorem dX8_behind_85 : decode cX8_behind 85 = .ok (.iaload, 1) := by decide +kernel
theorem dX8_behind_86 : decode cX8_behind 86 = .ok (.iastore, 1) := by decide +kernel
theorem dX8_behind_87 : decode cX8_behind 87 = .ok (.iinc 3 1, 3) := by decide +kernel
theorem dX8_behind_90 : decode cX8_behind 90 = .ok (.goto (-38), 3) := by decide +kernel
theorem dX8_behind_93 : decode cX8_behind 93 = .ok (.aload_n 0, 1) := by decide +kernel
theorem dX8_behind_94 : decode cX8_behind 94 = .ok (.iconst 0, 1) := by decide +kernel
theorem dX8_behind_95 : decode cX8_behind 95 = .ok (.iconst 2, 1) := by decide +kernel
theorem dX8_behind_96 : decode cX8_behind 96 = .ok (.invokevirtual 116, 3) := by decide +kernel
theorem dX8_behind_99 : decode cX8_behind 99 = .ok (.ireturn, 1) := by decide +kernel
theorem dX8_back_0 : decode cX8_back 0 = .ok (.aload_n 0, 1) := by decide +kernel
theorem dX8_back_1 : decode cX8_back 1 = .ok (.iload_n 1, 1) := by decide +kernel
theorem dX8_back_2 : decode cX8_back 2 = .ok (.invokevirtual 123, 3) := by decide +kernel
theorem dX8_back_5 : decode cX8_back 5 = .ok (.ifCond .ne 6, 3) := by decide +kernel
theorem dX8_back_8 : decode cX8_back 8 = .ok (.bipush (-2), 2) := by decide +kernel
theorem dX8_back_10 : decode cX8_back 10 = .ok (.ireturn, 1) := by decide +kernel
theorem dX8_back_11 : decode cX8_back 11 = .ok (.aload_n 0, 1) := by decide +kernel
theorem dX8_back_12 : decode cX8_back 12 = .ok (.iload_n 1, 1) := by decide +kernel
theorem dX8_back_13 : decode cX8_back 13 = .ok (.invokevirtual 126, 3) := by decide +kernel
theorem dX8_back_16 : decode cX8_back 16 = .ok (.ifCond .ne 6, 3) := by decide +kernel
theorem dX8_back_19 : decode cX8_back 19 = .ok (.bipush (-3), 2) := by decide +kernel
theorem dX8_back_21 : decode cX8_back 21 = .ok (.ireturn, 1) := by decide +kernel
theorem dX8_back_22 : decode cX8_back 22 = .ok (.aload_n 0, 1) := by decide +kernel
theorem dX8_back_23 : decode cX8_back 23 = .ok (.getfield 75, 3) := by decide +kernel
theorem dX8_back_26 : decode cX8_back 26 = .ok (.bipush 10, 2) := by decide +kernel
theorem dX8_back_28 : decode cX8_back 28 = .ok (.if_icmp .ne 6, 3) := by decide +kernel
theorem dX8_back_31 : decode cX8_back 31 = .ok (.bipush (-4), 2) := by decide +kernel
theorem dX8_back_33 : decode cX8_back 33 = .ok (.ireturn, 1) := by decide +kernel
theorem dX8_back_34 : decode cX8_back 34 = .ok (.iconst 0, 1) := by decide +kernel
theorem dX8_back_35 : decode cX8_back 35 = .ok (.istore_n 2, 1) := by decide +kernel
theorem dX8_back_36 : decode cX8_back 36 = .ok (.iload_n 2, 1) := by decide +kernel
theorem dX8_back_37 : decode cX8_back 37 = .ok (.aload_n 0, 1) := by decide +kernel
theorem dX8_back_38 : decode cX8_back 38 = .ok (.getfield 7, 3) := by decide +kernel
theorem dX8_back_41 : decode cX8_back 41 = .ok (.if_icmp .ge 26, 3) := by decide +kernel
theorem dX8_back_44 : decode cX8_back 44 = .ok (.aload_n 0, 1) := by decide +kernel
theorem dX8_back_45 : decode cX8_back 45 = .ok (.getfield 26, 3) := by decide +kernel
theorem dX8_back_48 : decode cX8_back 48 = .ok (.aload_n 0, 1) := by decide +kernel
theorem dX8_back_49 : decode cX8_back 49 = .ok (.getfield 23, 3) := by decide +kernel
theorem dX8_back_52 : decode cX8_back 52 = .ok (.bipush 10, 2) := by decide +kernel
theorem dX8_back_54 : decode cX8_back 54 = .ok (.iload_n 1, 1) := by decide +kernel
theorem dX8_back_55 : decode cX8_back 55 = .ok (.imul, 1) := by decide +kernel
theorem dX8_back_56 : decode cX8_back 56 = .ok (.iload_n 2, 1) := by decide +kernel
theorem dX8_back_57 : decode cX8_back 57 = .ok (.iadd, 1) := by decide +kernel
theorem dX8_back_58 : decode cX8_back 58 = .ok (.iaload, 1) := by decide +kernel
theorem dX8_back_59 : decode cX8_back 59 = .ok (.iload_n 2, 1) := by decide +kernel
theorem dX8_back_60 : decode cX8_back 60 = .ok (.iastore, 1) := by decide +kernel
theorem dX8_back_61 : decode cX8_back 61 = .ok (.iinc 2 1, 3) := by decide +kernel
theorem dX8_back_64 : decode cX8_back 64 = .ok (.goto (-28), 3) := by decide +kernel
theorem dX8_back_67 : decode cX8_back 67 = .ok (.aload_n 0, 1) := by decide +kernel
theorem dX8_back_68 : decode cX8_back 68 = .ok (.iconst 0, 1) := by decide +kernel
theorem dX8_back_69 : decode cX8_back 69 = .ok (.iconst 2, 1) := by decide +kernel
theorem dX8_back_70 : decode cX8_back 70 = .ok (.invokevirtual 116, 3) := by decide +kernel
theorem dX8_back_73 : decode cX8_back 73 = .ok (.ireturn, 1) := by decide +kernel
theorem dX8_moves_0 : decode cX8_moves 0 = .ok (.aload_n 0, 1) := by decide +kernel
theorem dX8_moves_1 : decode cX8_moves 1 = .ok (.iload_n 1, 1) := by decide +kernel
theorem dX8_moves_2 : decode cX8_moves 2 = .ok (.invokevirtual 123, 3) := by decide +kernel
theorem dX8_moves_5 : decode cX8_moves 5 = .ok (.ifCond .eq 11, 3) := by decide +kernel
theorem dX8_moves_8 : decode cX8_moves 8 = .ok (.aload_n 0, 1) := by decide +kernel
theorem dX8_moves_9 : decode cX8_moves 9 = .ok (.iload_n 2, 1) := by decide +kernel
theorem dX8_moves_10 : decode cX8_moves 10 = .ok (.invokevirtual 98, 3) := by decide +kernel
theorem dX8_moves_13 : decode cX8_moves 13 = .ok (.ifCond .ne 6, 3) := by decide +kernel
theorem dX8_moves_16 : decode cX8_moves 16 = .ok (.bipush (-2), 2) := by decide +kernel
theorem dX8_moves_18 : decode cX8_moves 18 = .ok (.ireturn, 1) := by decide +kernel
theorem dX8_moves_19 : decode cX8_moves 19 = .ok (.aload_n 0, 1) := by decide +kernel
theorem dX8_moves_20 : decode cX8_moves 20 = .ok (.iload_n 1, 1) := by decide +kernel
theorem dX8_moves_21 : decode cX8_moves 21 = .ok (.invokevirtual 126, 3) := by decide +kernel
theorem dX8_moves_24 : decode cX8_moves 24 = .ok (.ifCond .eq 17, 3) := by decide +kernel
theorem dX8_moves_27 : decode cX8_moves 27 = .ok (.aload_n 0, 1) := by decide +kernel
theorem dX8_moves_28 : decode cX8_moves 28 = .ok (.getfield 23, 3) := by decide +kernel
theorem dX8_moves_31 : decode cX8_moves 31 = .ok (.bipush 10, 2) := by decide +kernel
theorem dX8_moves_33 : decode cX8_moves 33 = .ok (.iload_n 1, 1) := by decide +kernel
theorem dX8_moves_34 : decode cX8_moves 34 = .ok (.imul, 1) := by decide +kernel
theorem dX8_moves_35 : decode cX8_moves 35 = .ok (.iload_n 2, 1) := by decide +kernel
theorem dX8_moves_36 : decode cX8_moves 36 = .ok (.iadd, 1) := by decide +kernel
theorem dX8_moves_37 : decode cX8_moves 37 = .ok (.iaload, 1) := by decide +kernel
theorem dX8_moves_38 : decode cX8_moves 38 = .ok (.goto 4, 3) := by decide +kernel
theorem dX8_moves_41 : decode cX8_moves 41 = .ok (.iconst (-1), 1) := by decide +kernel
theorem dX8_moves_42 : decode cX8_moves 42 = .ok (.ireturn, 1) := by decide +kernel
theorem dX8_roundOf_0 : decode cX8_roundOf 0 = .ok (.iconst 1, 1) := by decide +kernel
theorem dX8_roundOf_1 : decode cX8_roundOf 1 = .ok (.istore_n 3, 1) := by decide +kernel
theorem dX8_roundOf_2 : decode cX8_roundOf 2 = .ok (.aload_n 0, 1) := by decide +kernel
theorem dX8_roundOf_3 : decode cX8_roundOf 3 = .ok (.getfield 23, 3) := by decide +kernel
theorem dX8_roundOf_6 : decode cX8_roundOf 6 = .ok (.bipush 10, 2) := by decide +kernel
theorem dX8_roundOf_8 : decode cX8_roundOf 8 = .ok (.iload_n 1, 1) := by decide +kernel
theorem dX8_roundOf_9 : decode cX8_roundOf 9 = .ok (.imul, 1) := by decide +kernel
theorem dX8_roundOf_10 : decode cX8_roundOf 10 = .ok (.iload_n 2, 1) := by decide +kernel
theorem dX8_roundOf_11 : decode cX8_roundOf 11 = .ok (.iadd, 1) := by decide +kernel
theorem dX8_roundOf_12 : decode cX8_roundOf 12 = .ok (.iaload, 1) := by decide +kernel
theorem dX8_roundOf_13 : decode cX8_roundOf 13 = .ok (.istore 4, 2) := by decide +kernel
theorem dX8_roundOf_15 : decode cX8_roundOf 15 = .ok (.iload 4, 2) := by decide +kernel
theorem dX8_roundOf_17 : decode cX8_roundOf 17 = .ok (.iload_n 2, 1) := by decide +kernel
theorem dX8_roundOf_18 : decode cX8_roundOf 18 = .ok (.if_icmp .eq 23, 3) := by decide +kernel
theorem dX8_roundOf_21 : decode cX8_roundOf 21 = .ok (.aload_n 0, 1) := by decide +kernel
theorem dX8_roundOf_22 : decode cX8_roundOf 22 = .ok (.getfield 23, 3) := by decide +kernel
theorem dX8_roundOf_25 : decode cX8_roundOf 25 = .ok (.bipush 10, 2) := by decide +kernel
theorem dX8_roundOf_27 : decode cX8_roundOf 27 = .ok (.iload_n 1, 1) := by decide +kernel
theorem dX8_roundOf_28 : decode cX8_roundOf 28 = .ok (.imul, 1) := by decide +kernel
theorem dX8_roundOf_29 : decode cX8_roundOf 29 = .ok (.iload 4, 2) := by decide +kernel
theorem dX8_roundOf_31 : decode cX8_roundOf 31 = .ok (.iadd, 1) := by decide +kernel
theorem dX8_roundOf_32 : decode cX8_roundOf 32 = .ok (.iaload, 1) := by decide +kernel
theorem dX8_roundOf_33 : decode cX8_roundOf 33 = .ok (.istore 4, 2) := by decide +kernel
theorem dX8_roundOf_35 : decode cX8_roundOf 35 = .ok (.iinc 3 1, 3) := by decide +kernel
theorem dX8_roundOf_38 : decode cX8_roundOf 38 = .ok (.goto (-23), 3) := by decide +kernel
theorem dX8_roundOf_41 : decode cX8_roundOf 41 = .ok (.iload_n 3, 1) := by decide +kernel
theorem dX8_roundOf_42 : decode cX8_roundOf 42 = .ok (.ireturn, 1) := by decide +kernel
theorem dX8_rounds_0 : decode cX8_rounds 0 = .ok (.iconst 0, 1) := by decide +kernel
theorem dX8_rounds_1 : decode cX8_rounds 1 = .ok (.istore_n 2, 1) := by decide +kernel
theorem dX8_rounds_2 : decode cX8_rounds 2 = .ok (.iconst 0, 1) := by decide +kernel
theorem dX8_rounds_3 : decode cX8_rounds 3 = .ok (.istore_n 3, 1) := by decide +kernel
theorem dX8_rounds_4 : decode cX8_rounds 4 = .ok (.iload_n 3, 1) := by decide +kernel
theorem dX8_rounds_5 : decode cX8_rounds 5 = .ok (.aload_n 0, 1) := by decide +kernel
theorem dX8_rounds_6 : decode cX8_rounds 6 = .ok (.getfield 7, 3) := by decide +kernel
theorem dX8_rounds_9 : decode cX8_rounds 9 = .ok (.if_icmp .ge 65, 3) := by decide +kernel
theorem dX8_rounds_12 : decode cX8_rounds 12 = .ok (.iconst 1, 1) := by decide +kernel
theorem dX8_rounds_13 : decode cX8_rounds 13 = .ok (.istore 4, 2) := by decide +kernel
theorem dX8_rounds_15 : decode cX8_rounds 15 = .ok (.aload_n 0, 1) := by decide +kernel
theorem dX8_rounds_16 : decode cX8_rounds 16 = .ok (.getfield 23, 3) := by decide +kernel
theorem dX8_rounds_19 : decode cX8_rounds 19 = .ok (.bipush 10, 2) := by decide +kernel
theorem dX8_rounds_21 : decode cX8_rounds 21 = .ok (.iload_n 1, 1) := by decide +kernel
theorem dX8_rounds_22 : decode cX8_rounds 22 = .ok (.imul, 1) := by decide +kernel
theorem dX8_rounds_23 : decode cX8_rounds 23 = .ok (.iload_n 3, 1) := by decide +kernel
theorem dX8_rounds_24 : decode cX8_rounds 24 = .ok (.iadd, 1) := by decide +kernel
theorem dX8_rounds_25 : decode cX8_rounds 25 = .ok (.iaload, 1) := by decide +kernel
theorem dX8_rounds_26 : decode cX8_rounds 26 = .ok (.istore 5, 2) := by decide +kernel
theorem dX8_rounds_28 : decode cX8_rounds 28 = .ok (.iload 5, 2) := by decide +kernel
theorem dX8_rounds_30 : decode cX8_rounds 30 = .ok (.iload_n 3, 1) := by decide +kernel
theorem dX8_rounds_31 : decode cX8_rounds 31 = .ok (.if_icmp .eq 29, 3) := by decide +kernel
theorem dX8_rounds_34 : decode cX8_rounds 34 = .ok (.iload 5, 2) := by decide +kernel
theorem dX8_rounds_36 : decode cX8_rounds 36 = .ok (.iload_n 3, 1) := by decide +kernel
theorem dX8_rounds_37 : decode cX8_rounds 37 = .ok (.if_icmp .ge 6, 3) := by decide +kernel
theorem dX8_rounds_40 : decode cX8_rounds 40 = .ok (.iconst 0, 1) := by decide +kernel
theorem dX8_rounds_41 : decode cX8_rounds 41 = .ok (.istore 4, 2) := by decide +kernel
theorem dX8_rounds_43 : decode cX8_rounds 43 = .ok (.aload_n 0, 1) := by decide +kernel
theorem dX8_rounds_44 : decode cX8_rounds 44 = .ok (.getfield 23, 3) := by decide +kernel
theorem dX8_rounds_47 : decode cX8_rounds 47 = .ok (.bipush 10, 2) := by decide +kernel
theorem dX8_rounds_49 : decode cX8_rounds 49 = .ok (.iload_n 1, 1) := by decide +kernel
theorem dX8_rounds_50 : decode cX8_rounds 50 = .ok (.imul, 1) := by decide +kernel
theorem dX8_rounds_51 : decode cX8_rounds 51 = .ok (.iload 5, 2) := by decide +kernel
theorem dX8_rounds_53 : decode cX8_rounds 53 = .ok (.iadd, 1) := by decide +kernel
theorem dX8_rounds_54 : decode cX8_rounds 54 = .ok (.iaload, 1) := by decide +kernel
theorem dX8_rounds_55 : decode cX8_rounds 55 = .ok (.istore 5, 2) := by decide +kernel
theorem dX8_rounds_57 : decode cX8_rounds 57 = .ok (.goto (-29), 3) := by decide +kernel
theorem dX8_rounds_60 : decode cX8_rounds 60 = .ok (.iload 4, 2) := by decide +kernel
theorem dX8_rounds_62 : decode cX8_rounds 62 = .ok (.ifCond .eq 6, 3) := by decide +kernel
theorem dX8_rounds_65 : decode cX8_rounds 65 = .ok (.iinc 2 1, 3) := by decide +kernel
theorem dX8_rounds_68 : decode cX8_rounds 68 = .ok (.iinc 3 1, 3) := by decide +kernel
theorem dX8_rounds_71 : decode cX8_rounds 71 = .ok (.goto (-67), 3) := by decide +kernel
theorem dX8_rounds_74 : decode cX8_rounds 74 = .ok (.iload_n 2, 1) := by decide +kernel
theorem dX8_rounds_75 : decode cX8_rounds 75 = .ok (.ireturn, 1) := by decide +kernel
theorem dX8_whole_0 : decode cX8_whole 0 = .ok (.iconst 1, 1) := by decide +kernel
theorem dX8_whole_1 : decode cX8_whole 1 = .ok (.istore_n 2, 1) := by decide +kernel
theorem dX8_whole_2 : decode cX8_whole 2 = .ok (.iconst 0, 1) := by decide +kernel
theorem dX8_whole_3 : decode cX8_whole 3 = .ok (.istore_n 3, 1) := by decide +kernel
theorem dX8_whole_4 : decode cX8_whole 4 = .ok (.iload_n 3, 1) := by decide +kernel
theorem dX8_whole_5 : decode cX8_whole 5 = .ok (.aload_n 0, 1) := by decide +kernel
theorem dX8_whole_6 : decode cX8_whole 6 = .ok (.getfield 7, 3) := by decide +kernel
theorem dX8_whole_9 : decode cX8_whole 9 = .ok (.if_icmp .ge 40, 3) := by decide +kernel
theorem dX8_whole_12 : decode cX8_whole 12 = .ok (.aload_n 0, 1) := by decide +kernel
theorem dX8_whole_13 : decode cX8_whole 13 = .ok (.iload_n 1, 1) := by decide +kernel
theorem dX8_whole_14 : decode cX8_whole 14 = .ok (.iload_n 3, 1) := by decide +kernel
theorem dX8_whole_15 : decode cX8_whole 15 = .ok (.invokevirtual 129, 3) := by decide +kernel
theorem dX8_whole_18 : decode cX8_whole 18 = .ok (.istore 4, 2) := by decide +kernel
theorem dX8_whole_20 : decode cX8_whole 20 = .ok (.iload_n 2, 1) := by decide +kernel
theorem dX8_whole_21 : decode cX8_whole 21 = .ok (.istore 5, 2) := by decide +kernel
theorem dX8_whole_23 : decode cX8_whole 23 = .ok (.iload 5, 2) := by decide +kernel
theorem dX8_whole_25 : decode cX8_whole 25 = .ok (.iload 4, 2) := by decide +kernel
theorem dX8_whole_27 : decode cX8_whole 27 = .ok (.irem, 1) := by decide +kernel
theorem dX8_whole_28 : decode cX8_whole 28 = .ok (.ifCond .eq 12, 3) := by decide +kernel
theorem dX8_whole_31 : decode cX8_whole 31 = .ok (.iload 5, 2) := by decide +kernel
theorem dX8_whole_33 : decode cX8_whole 33 = .ok (.iload_n 2, 1) := by decide +kernel
theorem dX8_whole_34 : decode cX8_whole 34 = .ok (.iadd, 1) := by decide +kernel
theorem dX8_whole_35 : decode cX8_whole 35 = .ok (.istore 5, 2) := by decide +kernel
theorem dX8_whole_37 : decode cX8_whole 37 = .ok (.goto (-14), 3) := by decide +kernel
theorem dX8_whole_40 : decode cX8_whole 40 = .ok (.iload 5, 2) := by decide +kernel
theorem dX8_whole_42 : decode cX8_whole 42 = .ok (.istore_n 2, 1) := by decide +kernel
theorem dX8_whole_43 : decode cX8_whole 43 = .ok (.iinc 3 1, 3) := by decide +kernel
theorem dX8_whole_46 : decode cX8_whole 46 = .ok (.goto (-42), 3) := by decide +kernel
theorem dX8_whole_49 : decode cX8_whole 49 = .ok (.iload_n 2, 1) := by decide +kernel
theorem dX8_whole_50 : decode cX8_whole 50 = .ok (.ireturn, 1) := by decide +kernel
theorem dX8_shuffleTold_0 : decode cX8_shuffleTold 0 = .ok (.aload_n 0, 1) := by decide +kernel
theorem dX8_shuffleTold_1 : decode cX8_shuffleTold 1 = .ok (.iload_n 1, 1) := by decide +kernel
theorem dX8_shuffleTold_2 : decode cX8_shuffleTold 2 = .ok (.invokevirtual 123, 3) := by decide +kernel
theorem dX8_shuffleTold_5 : decode cX8_shuffleTold 5 = .ok (.ifCond .ne 6, 3) := by decide +kernel
theorem dX8_shuffleTold_8 : decode cX8_shuffleTold 8 = .ok (.bipush (-2), 2) := by decide +kernel
theorem dX8_shuffleTold_10 : decode cX8_shuffleTold 10 = .ok (.ireturn, 1) := by decide +kernel
theorem dX8_shuffleTold_11 : decode cX8_shuffleTold 11 = .ok (.iload_n 2, 1) := by decide +kernel
theorem dX8_shuffleTold_12 : decode cX8_shuffleTold 12 = .ok (.tableswitch 82 0 3 #[32, 39, 46, 64], 32) := by decide +kernel
theorem dX8_shuffleTold_44 : decode cX8_shuffleTold 44 = .ok (.aload_n 0, 1) := by decide +kernel
theorem dX8_shuffleTold_45 : decode cX8_shuffleTold 45 = .ok (.getfield 17, 3) := by decide +kernel
theorem dX8_shuffleTold_48 : decode cX8_shuffleTold 48 = .ok (.iload_n 1, 1) := by decide +kernel
theorem dX8_shuffleTold_49 : decode cX8_shuffleTold 49 = .ok (.iaload, 1) := by decide +kernel
theorem dX8_shuffleTold_50 : decode cX8_shuffleTold 50 = .ok (.ireturn, 1) := by decide +kernel
theorem dX8_shuffleTold_51 : decode cX8_shuffleTold 51 = .ok (.aload_n 0, 1) := by decide +kernel
theorem dX8_shuffleTold_52 : decode cX8_shuffleTold 52 = .ok (.getfield 20, 3) := by decide +kernel
theorem dX8_shuffleTold_55 : decode cX8_shuffleTold 55 = .ok (.iload_n 1, 1) := by decide +kernel
theorem dX8_shuffleTold_56 : decode cX8_shuffleTold 56 = .ok (.iaload, 1) := by decide +kernel
theorem dX8_shuffleTold_57 : decode cX8_shuffleTold 57 = .ok (.ireturn, 1) := by decide +kernel
theorem dX8_shuffleTold_58 : decode cX8_shuffleTold 58 = .ok (.aload_n 0, 1) := by decide +kernel
theorem dX8_shuffleTold_59 : decode cX8_shuffleTold 59 = .ok (.iload_n 1, 1) := by decide +kernel
theorem dX8_shuffleTold_60 : decode cX8_shuffleTold 60 = .ok (.invokevirtual 126, 3) := by decide +kernel
theorem dX8_shuffleTold_63 : decode cX8_shuffleTold 63 = .ok (.ifCond .eq 11, 3) := by decide +kernel
theorem dX8_shuffleTold_66 : decode cX8_shuffleTold 66 = .ok (.aload_n 0, 1) := by decide +kernel
theorem dX8_shuffleTold_67 : decode cX8_shuffleTold 67 = .ok (.iload_n 1, 1) := by decide +kernel
theorem dX8_shuffleTold_68 : decode cX8_shuffleTold 68 = .ok (.invokevirtual 132, 3) := by decide +kernel
theorem dX8_shuffleTold_71 : decode cX8_shuffleTold 71 = .ok (.goto 4, 3) := by decide +kernel
theorem dX8_shuffleTold_74 : decode cX8_shuffleTold 74 = .ok (.iconst (-1), 1) := by decide +kernel
theorem dX8_shuffleTold_75 : decode cX8_shuffleTold 75 = .ok (.ireturn, 1) := by decide +kernel
theorem dX8_shuffleTold_76 : decode cX8_shuffleTold 76 = .ok (.aload_n 0, 1) := by decide +kernel
theorem dX8_shuffleTold_77 : decode cX8_shuffleTold 77 = .ok (.iload_n 1, 1) := by decide +kernel
theorem dX8_shuffleTold_78 : decode cX8_shuffleTold 78 = .ok (.invokevirtual 126, 3) := by decide +kernel
theorem dX8_shuffleTold_81 : decode cX8_shuffleTold 81 = .ok (.ifCond .eq 11, 3) := by decide +kernel
theorem dX8_shuffleTold_84 : decode cX8_shuffleTold 84 = .ok (.aload_n 0, 1) := by decide +kernel
theorem dX8_shuffleTold_85 : decode cX8_shuffleTold 85 = .ok (.iload_n 1, 1) := by decide +kernel
theorem dX8_shuffleTold_86 : decode cX8_shuffleTold 86 = .ok (.invokevirtual 135, 3) := by decide +kernel
theorem dX8_shuffleTold_89 : decode cX8_shuffleTold 89 = .ok (.goto 4, 3) := by decide +kernel
theorem dX8_shuffleTold_92 : decode cX8_shuffleTold 92 = .ok (.iconst (-1), 1) := by decide +kernel
theorem dX8_shuffleTold_93 : decode cX8_shuffleTold 93 = .ok (.ireturn, 1) := by decide +kernel
theorem dX8_shuffleTold_94 : decode cX8_shuffleTold 94 = .ok (.bipush (-2), 2) := by decide +kernel
theorem dX8_shuffleTold_96 : decode cX8_shuffleTold 96 = .ok (.ireturn, 1) := by decide +kernel
theorem dX8_power__0 : decode cX8_power_ 0 = .ok (.aload_n 0, 1) := by decide +kernel
theorem dX8_power__1 : decode cX8_power_ 1 = .ok (.iload_n 1, 1) := by decide +kernel
theorem dX8_power__2 : decode cX8_power_ 2 = .ok (.invokevirtual 123, 3) := by decide +kernel
theorem dX8_power__5 : decode cX8_power_ 5 = .ok (.ifCond .eq 18, 3) := by decide +kernel
theorem dX8_power__8 : decode cX8_power_ 8 = .ok (.lload_n 2, 1) := by decide +kernel
theorem dX8_power__9 : decode cX8_power_ 9 = .ok (.lconst 0, 1) := by decide +kernel
theorem dX8_power__10 : decode cX8_power_ 10 = .ok (.lcmp, 1) := by decide +kernel
theorem dX8_power__11 : decode cX8_power_ 11 = .ok (.ifCond .lt 12, 3) := by decide +kernel
theorem dX8_power__14 : decode cX8_power_ 14 = .ok (.aload_n 0, 1) := by decide +kernel
theorem dX8_power__15 : decode cX8_power_ 15 = .ok (.iload 4, 2) := by decide +kernel
theorem dX8_power__17 : decode cX8_power_ 17 = .ok (.invokevirtual 98, 3) := by decide +kernel
theorem dX8_power__20 : decode cX8_power_ 20 = .ok (.ifCond .ne 6, 3) := by decide +kernel
theorem dX8_power__23 : decode cX8_power_ 23 = .ok (.bipush (-2), 2) := by decide +kernel
theorem dX8_power__25 : decode cX8_power_ 25 = .ok (.ireturn, 1) := by decide +kernel
theorem dX8_power__26 : decode cX8_power_ 26 = .ok (.aload_n 0, 1) := by decide +kernel
theorem dX8_power__27 : decode cX8_power_ 27 = .ok (.iload_n 1, 1) := by decide +kernel
theorem dX8_power__28 : decode cX8_power_ 28 = .ok (.invokevirtual 126, 3) := by decide +kernel
theorem dX8_power__31 : decode cX8_power_ 31 = .ok (.ifCond .ne 5, 3) := by decide +kernel
theorem dX8_power__34 : decode cX8_power_ 34 = .ok (.iconst (-1), 1) := by decide +kernel
theorem dX8_power__35 : decode cX8_power_ 35 = .ok (.ireturn, 1) := by decide +kernel
theorem dX8_power__36 : decode cX8_power_ 36 = .ok (.lload_n 2, 1) := by decide +kernel
theorem dX8_power__37 : decode cX8_power_ 37 = .ok (.aload_n 0, 1) := by decide +kernel
theorem dX8_power__38 : decode cX8_power_ 38 = .ok (.iload_n 1, 1) := by decide +kernel
theorem dX8_power__39 : decode cX8_power_ 39 = .ok (.iload 4, 2) := by decide +kernel
theorem dX8_power__41 : decode cX8_power_ 41 = .ok (.invokevirtual 129, 3) := by decide +kernel
theorem dX8_power__44 : decode cX8_power_ 44 = .ok (.i2l, 1) := by decide +kernel
theorem dX8_power__45 : decode cX8_power_ 45 = .ok (.lrem, 1) := by decide +kernel
theorem dX8_power__46 : decode cX8_power_ 46 = .ok (.l2i, 1) := by decide +kernel
theorem dX8_power__47 : decode cX8_power_ 47 = .ok (.istore 5, 2) := by decide +kernel
theorem dX8_power__49 : decode cX8_power_ 49 = .ok (.iload 4, 2) := by decide +kernel
theorem dX8_power__51 : decode cX8_power_ 51 = .ok (.istore 6, 2) := by decide +kernel
theorem dX8_power__53 : decode cX8_power_ 53 = .ok (.iconst 0, 1) := by decide +kernel
theorem dX8_power__54 : decode cX8_power_ 54 = .ok (.istore 7, 2) := by decide +kernel
theorem dX8_power__56 : decode cX8_power_ 56 = .ok (.iload 7, 2) := by decide +kernel
theorem dX8_power__58 : decode cX8_power_ 58 = .ok (.iload 5, 2) := by decide +kernel
theorem dX8_power__60 : decode cX8_power_ 60 = .ok (.if_icmp .ge 23, 3) := by decide +kernel
theorem dX8_power__63 : decode cX8_power_ 63 = .ok (.aload_n 0, 1) := by decide +kernel
theorem dX8_power__64 : decode cX8_power_ 64 = .ok (.getfield 23, 3) := by decide +kernel
theorem dX8_power__67 : decode cX8_power_ 67 = .ok (.bipush 10, 2) := by decide +kernel
theorem dX8_power__69 : decode cX8_power_ 69 = .ok (.iload_n 1, 1) := by decide +kernel
theorem dX8_power__70 : decode cX8_power_ 70 = .ok (.imul, 1) := by decide +kernel
theorem dX8_power__71 : decode cX8_power_ 71 = .ok (.iload 6, 2) := by decide +kernel
theorem dX8_power__73 : decode cX8_power_ 73 = .ok (.iadd, 1) := by decide +kernel
theorem dX8_power__74 : decode cX8_power_ 74 = .ok (.iaload, 1) := by decide +kernel
theorem dX8_power__75 : decode cX8_power_ 75 = .ok (.istore 6, 2) := by decide +kernel
theorem dX8_power__77 : decode cX8_power_ 77 = .ok (.iinc 7 1, 3) := by decide +kernel
theorem dX8_power__80 : decode cX8_power_ 80 = .ok (.goto (-24), 3) := by decide +kernel
theorem dX8_power__83 : decode cX8_power_ 83 = .ok (.iload 6, 2) := by decide +kernel
theorem dX8_power__85 : decode cX8_power_ 85 = .ok (.ireturn, 1) := by decide +kernel
theorem dX8_does_0 : decode cX8_does 0 = .ok (.aload_n 0, 1) := by decide +kernel
theorem dX8_does_1 : decode cX8_does 1 = .ok (.iload_n 1, 1) := by decide +kernel
theorem dX8_does_2 : decode cX8_does 2 = .ok (.invokevirtual 123, 3) := by decide +kernel
theorem dX8_does_5 : decode cX8_does 5 = .ok (.ifCond .eq 11, 3) := by decide +kernel
theorem dX8_does_8 : decode cX8_does 8 = .ok (.aload_n 0, 1) := by decide +kernel
theorem dX8_does_9 : decode cX8_does 9 = .ok (.iload_n 2, 1) := by decide +kernel
theorem dX8_does_10 : decode cX8_does 10 = .ok (.invokevirtual 101, 3) := by decide +kernel
theorem dX8_does_13 : decode cX8_does 13 = .ok (.ifCond .ne 6, 3) := by decide +kernel
theorem dX8_does_16 : decode cX8_does 16 = .ok (.bipush (-2), 2) := by decide +kernel
theorem dX8_does_18 : decode cX8_does 18 = .ok (.ireturn, 1) := by decide +kernel
theorem dX8_does_19 : decode cX8_does 19 = .ok (.aload_n 0, 1) := by decide +kernel
theorem dX8_does_20 : decode cX8_does 20 = .ok (.iload_n 1, 1) := by decide +kernel
theorem dX8_does_21 : decode cX8_does 21 = .ok (.invokevirtual 126, 3) := by decide +kernel
theorem dX8_does_24 : decode cX8_does 24 = .ok (.ifCond .ne 6, 3) := by decide +kernel
theorem dX8_does_27 : decode cX8_does 27 = .ok (.bipush (-3), 2) := by decide +kernel
theorem dX8_does_29 : decode cX8_does 29 = .ok (.ireturn, 1) := by decide +kernel
theorem dX8_does_30 : decode cX8_does 30 = .ok (.iconst 0, 1) := by decide +kernel
theorem dX8_does_31 : decode cX8_does 31 = .ok (.istore_n 3, 1) := by decide +kernel
theorem dX8_does_32 : decode cX8_does 32 = .ok (.iload_n 3, 1) := by decide +kernel
theorem dX8_does_33 : decode cX8_does 33 = .ok (.aload_n 0, 1) := by decide +kernel
theorem dX8_does_34 : decode cX8_does 34 = .ok (.getfield 7, 3) := by decide +kernel
theorem dX8_does_37 : decode cX8_does 37 = .ok (.if_icmp .ge 36, 3) := by decide +kernel
theorem dX8_does_40 : decode cX8_does 40 = .ok (.aload_n 0, 1) := by decide +kernel
theorem dX8_does_41 : decode cX8_does 41 = .ok (.getfield 26, 3) := by decide +kernel
theorem dX8_does_44 : decode cX8_does 44 = .ok (.iload_n 3, 1) := by decide +kernel
theorem dX8_does_45 : decode cX8_does 45 = .ok (.aload_n 0, 1) := by decide +kernel
theorem dX8_does_46 : decode cX8_does 46 = .ok (.getfield 13, 3) := by decide +kernel
theorem dX8_does_49 : decode cX8_does 49 = .ok (.bipush 10, 2) := by decide +kernel
theorem dX8_does_51 : decode cX8_does 51 = .ok (.iload_n 2, 1) := by decide +kernel
theorem dX8_does_52 : decode cX8_does 52 = .ok (.imul, 1) := by decide +kernel
theorem dX8_does_53 : decode cX8_does 53 = .ok (.aload_n 0, 1) := by decide +kernel
theorem dX8_does_54 : decode cX8_does 54 = .ok (.getfield 23, 3) := by decide +kernel
theorem dX8_does_57 : decode cX8_does 57 = .ok (.bipush 10, 2) := by decide +kernel
theorem dX8_does_59 : decode cX8_does 59 = .ok (.iload_n 1, 1) := by decide +kernel
theorem dX8_does_60 : decode cX8_does 60 = .ok (.imul, 1) := by decide +kernel
theorem dX8_does_61 : decode cX8_does 61 = .ok (.iload_n 3, 1) := by decide +kernel
theorem dX8_does_62 : decode cX8_does 62 = .ok (.iadd, 1) := by decide +kernel
theorem dX8_does_63 : decode cX8_does 63 = .ok (.iaload, 1) := by decide +kernel
theorem dX8_does_64 : decode cX8_does 64 = .ok (.iadd, 1) := by decide +kernel
theorem dX8_does_65 : decode cX8_does 65 = .ok (.iaload, 1) := by decide +kernel
theorem dX8_does_66 : decode cX8_does 66 = .ok (.iastore, 1) := by decide +kernel
theorem dX8_does_67 : decode cX8_does 67 = .ok (.iinc 3 1, 3) := by decide +kernel
theorem dX8_does_70 : decode cX8_does 70 = .ok (.goto (-38), 3) := by decide +kernel
theorem dX8_does_73 : decode cX8_does 73 = .ok (.aload_n 0, 1) := by decide +kernel
theorem dX8_does_74 : decode cX8_does 74 = .ok (.iload_n 2, 1) := by decide +kernel
theorem dX8_does_75 : decode cX8_does 75 = .ok (.invokevirtual 138, 3) := by decide +kernel
theorem dX8_does_78 : decode cX8_does 78 = .ok (.iconst 1, 1) := by decide +kernel
theorem dX8_does_79 : decode cX8_does 79 = .ok (.ireturn, 1) := by decide +kernel
theorem dX8_lays_0 : decode cX8_lays 0 = .ok (.aload_n 0, 1) := by decide +kernel
theorem dX8_lays_1 : decode cX8_lays 1 = .ok (.iload_n 2, 1) := by decide +kernel
theorem dX8_lays_2 : decode cX8_lays 2 = .ok (.invokevirtual 107, 3) := by decide +kernel
theorem dX8_lays_5 : decode cX8_lays 5 = .ok (.aload_n 0, 1) := by decide +kernel
theorem dX8_lays_6 : decode cX8_lays 6 = .ok (.getfield 17, 3) := by decide +kernel
theorem dX8_lays_9 : decode cX8_lays 9 = .ok (.iload_n 1, 1) := by decide +kernel
theorem dX8_lays_10 : decode cX8_lays 10 = .ok (.iaload, 1) := by decide +kernel
theorem dX8_lays_11 : decode cX8_lays 11 = .ok (.iconst 4, 1) := by decide +kernel
theorem dX8_lays_12 : decode cX8_lays 12 = .ok (.if_icmp .ne 62, 3) := by decide +kernel
theorem dX8_lays_15 : decode cX8_lays 15 = .ok (.lload_n 3, 1) := by decide +kernel
theorem dX8_lays_16 : decode cX8_lays 16 = .ok (.l2i, 1) := by decide +kernel
theorem dX8_lays_17 : decode cX8_lays 17 = .ok (.istore 5, 2) := by decide +kernel
theorem dX8_lays_19 : decode cX8_lays 19 = .ok (.aload_n 0, 1) := by decide +kernel
theorem dX8_lays_20 : decode cX8_lays 20 = .ok (.getfield 26, 3) := by decide +kernel
theorem dX8_lays_23 : decode cX8_lays 23 = .ok (.iconst 0, 1) := by decide +kernel
theorem dX8_lays_24 : decode cX8_lays 24 = .ok (.iaload, 1) := by decide +kernel
theorem dX8_lays_25 : decode cX8_lays 25 = .ok (.istore 6, 2) := by decide +kernel
theorem dX8_lays_27 : decode cX8_lays 27 = .ok (.iconst 0, 1) := by decide +kernel
theorem dX8_lays_28 : decode cX8_lays 28 = .ok (.istore 7, 2) := by decide +kernel
theorem dX8_lays_30 : decode cX8_lays 30 = .ok (.iload 7, 2) := by decide +kernel
theorem dX8_lays_32 : decode cX8_lays 32 = .ok (.iload 5, 2) := by decide +kernel
theorem dX8_lays_34 : decode cX8_lays 34 = .ok (.if_icmp .ge 25, 3) := by decide +kernel
theorem dX8_lays_37 : decode cX8_lays 37 = .ok (.aload_n 0, 1) := by decide +kernel
theorem dX8_lays_38 : decode cX8_lays 38 = .ok (.getfield 26, 3) := by decide +kernel
theorem dX8_lays_41 : decode cX8_lays 41 = .ok (.iload 7, 2) := by decide +kernel
theorem dX8_lays_43 : decode cX8_lays 43 = .ok (.aload_n 0, 1) := by decide +kernel
theorem dX8_lays_44 : decode cX8_lays 44 = .ok (.getfield 26, 3) := by decide +kernel
theorem dX8_lays_47 : decode cX8_lays 47 = .ok (.iload 7, 2) := by decide +kernel
theorem dX8_lays_49 : decode cX8_lays 49 = .ok (.iconst 1, 1) := by decide +kernel
theorem dX8_lays_50 : decode cX8_lays 50 = .ok (.iadd, 1) := by decide +kernel
theorem dX8_lays_51 : decode cX8_lays 51 = .ok (.iaload, 1) := by decide +kernel
theorem dX8_lays_52 : decode cX8_lays 52 = .ok (.iastore, 1) := by decide +kernel
theorem dX8_lays_53 : decode cX8_lays 53 = .ok (.iinc 7 1, 3) := by decide +kernel
theorem dX8_lays_56 : decode cX8_lays 56 = .ok (.goto (-26), 3) := by decide +kernel
theorem dX8_lays_59 : decode cX8_lays 59 = .ok (.aload_n 0, 1) := by decide +kernel
theorem dX8_lays_60 : decode cX8_lays 60 = .ok (.getfield 26, 3) := by decide +kernel
theorem dX8_lays_63 : decode cX8_lays 63 = .ok (.iload 5, 2) := by decide +kernel
theorem dX8_lays_65 : decode cX8_lays 65 = .ok (.iload 6, 2) := by decide +kernel
theorem dX8_lays_67 : decode cX8_lays 67 = .ok (.iastore, 1) := by decide +kernel
theorem dX8_lays_68 : decode cX8_lays 68 = .ok (.aload_n 0, 1) := by decide +kernel
theorem dX8_lays_69 : decode cX8_lays 69 = .ok (.iload_n 2, 1) := by decide +kernel
theorem dX8_lays_70 : decode cX8_lays 70 = .ok (.invokevirtual 138, 3) := by decide +kernel
theorem dX8_lays_73 : decode cX8_lays 73 = .ok (.return_, 1) := by decide +kernel
theorem dX8_lays_74 : decode cX8_lays 74 = .ok (.aload_n 0, 1) := by decide +kernel
theorem dX8_lays_75 : decode cX8_lays 75 = .ok (.getfield 20, 3) := by decide +kernel
theorem dX8_lays_78 : decode cX8_lays 78 = .ok (.iload_n 1, 1) := by decide +kernel
theorem dX8_lays_79 : decode cX8_lays 79 = .ok (.iaload, 1) := by decide +kernel
theorem dX8_lays_80 : decode cX8_lays 80 = .ok (.istore 5, 2) := by decide +kernel
theorem dX8_lays_82 : decode cX8_lays 82 = .ok (.iconst 0, 1) := by decide +kernel
theorem dX8_lays_83 : decode cX8_lays 83 = .ok (.istore 6, 2) := by decide +kernel
theorem dX8_lays_85 : decode cX8_lays 85 = .ok (.iload 6, 2) := by decide +kernel
theorem dX8_lays_87 : decode cX8_lays 87 = .ok (.aload_n 0, 1) := by decide +kernel
theorem dX8_lays_88 : decode cX8_lays 88 = .ok (.getfield 7, 3) := by decide +kernel
theorem dX8_lays_91 : decode cX8_lays 91 = .ok (.if_icmp .ge 93, 3) := by decide +kernel
theorem dX8_lays_94 : decode cX8_lays 94 = .ok (.lload_n 3, 1) := by decide +kernel
theorem dX8_lays_95 : decode cX8_lays 95 = .ok (.iload 5, 2) := by decide +kernel
theorem dX8_lays_97 : decode cX8_lays 97 = .ok (.iload 6, 2) := by decide +kernel
theorem dX8_lays_99 : decode cX8_lays 99 = .ok (.invokestatic 141, 3) := by decide +kernel
theorem dX8_lays_102 : decode cX8_lays 102 = .ok (.istore 7, 2) := by decide +kernel
theorem dX8_lays_104 : decode cX8_lays 104 = .ok (.iconst 0, 1) := by decide +kernel
theorem dX8_lays_105 : decode cX8_lays 105 = .ok (.istore 8, 2) := by decide +kernel
theorem dX8_lays_107 : decode cX8_lays 107 = .ok (.iconst 0, 1) := by decide +kernel
theorem dX8_lays_108 : decode cX8_lays 108 = .ok (.istore 9, 2) := by decide +kernel
theorem dX8_lays_110 : decode cX8_lays 110 = .ok (.iload 9, 2) := by decide +kernel
theorem dX8_lays_112 : decode cX8_lays 112 = .ok (.aload_n 0, 1) := by decide +kernel
theorem dX8_lays_113 : decode cX8_lays 113 = .ok (.getfield 7, 3) := by decide +kernel
theorem dX8_lays_116 : decode cX8_lays 116 = .ok (.if_icmp .ge 43, 3) := by decide +kernel
theorem dX8_lays_119 : decode cX8_lays 119 = .ok (.lload_n 3, 1) := by decide +kernel
theorem dX8_lays_120 : decode cX8_lays 120 = .ok (.iload 5, 2) := by decide +kernel
theorem dX8_lays_122 : decode cX8_lays 122 = .ok (.iload 9, 2) := by decide +kernel
theorem dX8_lays_124 : decode cX8_lays 124 = .ok (.invokestatic 141, 3) := by decide +kernel
theorem dX8_lays_127 : decode cX8_lays 127 = .ok (.istore 10, 2) := by decide +kernel
theorem dX8_lays_129 : decode cX8_lays 129 = .ok (.iload 10, 2) := by decide +kernel
theorem dX8_lays_131 : decode cX8_lays 131 = .ok (.iload 7, 2) := by decide +kernel
theorem dX8_lays_133 : decode cX8_lays 133 = .ok (.if_icmp .lt 17, 3) := by decide +kernel
theorem dX8_lays_136 : decode cX8_lays 136 = .ok (.iload 10, 2) := by decide +kernel
theorem dX8_lays_138 : decode cX8_lays 138 = .ok (.iload 7, 2) := by decide +kernel
theorem dX8_lays_140 : decode cX8_lays 140 = .ok (.if_icmp .ne 13, 3) := by decide +kernel
theorem dX8_lays_143 : decode cX8_lays 143 = .ok (.iload 9, 2) := by decide +kernel
theorem dX8_lays_145 : decode cX8_lays 145 = .ok (.iload 6, 2) := by decide +kernel
theorem dX8_lays_147 : decode cX8_lays 147 = .ok (.if_icmp .ge 6, 3) := by decide +kernel
theorem dX8_lays_150 : decode cX8_lays 150 = .ok (.iinc 8 1, 3) := by decide +kernel
theorem dX8_lays_153 : decode cX8_lays 153 = .ok (.iinc 9 1, 3) := by decide +kernel
theorem dX8_lays_156 : decode cX8_lays 156 = .ok (.goto (-46), 3) := by decide +kernel
theorem dX8_lays_159 : decode cX8_lays 159 = .ok (.aload_n 0, 1) := by decide +kernel
theorem dX8_lays_160 : decode cX8_lays 160 = .ok (.getfield 13, 3) := by decide +kernel
theorem dX8_lays_163 : decode cX8_lays 163 = .ok (.bipush 10, 2) := by decide +kernel
theorem dX8_lays_165 : decode cX8_lays 165 = .ok (.iload_n 2, 1) := by decide +kernel
theorem dX8_lays_166 : decode cX8_lays 166 = .ok (.imul, 1) := by decide +kernel
theorem dX8_lays_167 : decode cX8_lays 167 = .ok (.iload 6, 2) := by decide +kernel
theorem dX8_lays_169 : decode cX8_lays 169 = .ok (.iadd, 1) := by decide +kernel
theorem dX8_lays_170 : decode cX8_lays 170 = .ok (.aload_n 0, 1) := by decide +kernel
theorem dX8_lays_171 : decode cX8_lays 171 = .ok (.getfield 26, 3) := by decide +kernel
theorem dX8_lays_174 : decode cX8_lays 174 = .ok (.iload 8, 2) := by decide +kernel
theorem dX8_lays_176 : decode cX8_lays 176 = .ok (.iaload, 1) := by decide +kernel
theorem dX8_lays_177 : decode cX8_lays 177 = .ok (.iastore, 1) := by decide +kernel
theorem dX8_lays_178 : decode cX8_lays 178 = .ok (.iinc 6 1, 3) := by decide +kernel
theorem dX8_lays_181 : decode cX8_lays 181 = .ok (.goto (-96), 3) := by decide +kernel
theorem dX8_lays_184 : decode cX8_lays 184 = .ok (.return_, 1) := by decide +kernel
theorem dX8_lot_0 : decode cX8_lot 0 = .ok (.lload_n 0, 1) := by decide +kernel
theorem dX8_lot_1 : decode cX8_lot 1 = .ok (.lstore 4, 2) := by decide +kernel
theorem dX8_lot_3 : decode cX8_lot 3 = .ok (.iconst 0, 1) := by decide +kernel
theorem dX8_lot_4 : decode cX8_lot 4 = .ok (.istore 6, 2) := by decide +kernel
theorem dX8_lot_6 : decode cX8_lot 6 = .ok (.iload 6, 2) := by decide +kernel
theorem dX8_lot_8 : decode cX8_lot 8 = .ok (.iload_n 3, 1) := by decide +kernel
theorem dX8_lot_9 : decode cX8_lot 9 = .ok (.if_icmp .ge 16, 3) := by decide +kernel
theorem dX8_lot_12 : decode cX8_lot 12 = .ok (.lload 4, 2) := by decide +kernel
theorem dX8_lot_14 : decode cX8_lot 14 = .ok (.iload_n 2, 1) := by decide +kernel
theorem dX8_lot_15 : decode cX8_lot 15 = .ok (.i2l, 1) := by decide +kernel
theorem dX8_lot_16 : decode cX8_lot 16 = .ok (.ldiv, 1) := by decide +kernel
theorem dX8_lot_17 : decode cX8_lot 17 = .ok (.lstore 4, 2) := by decide +kernel
theorem dX8_lot_19 : decode cX8_lot 19 = .ok (.iinc 6 1, 3) := by decide +kernel
theorem dX8_lot_22 : decode cX8_lot 22 = .ok (.goto (-16), 3) := by decide +kernel
theorem dX8_lot_25 : decode cX8_lot 25 = .ok (.lload 4, 2) := by decide +kernel
theorem dX8_lot_27 : decode cX8_lot 27 = .ok (.iload_n 2, 1) := by decide +kernel
theorem dX8_lot_28 : decode cX8_lot 28 = .ok (.i2l, 1) := by decide +kernel
theorem dX8_lot_29 : decode cX8_lot 29 = .ok (.lrem, 1) := by decide +kernel
theorem dX8_lot_30 : decode cX8_lot 30 = .ok (.l2i, 1) := by decide +kernel
theorem dX8_lot_31 : decode cX8_lot 31 = .ok (.ireturn, 1) := by decide +kernel
theorem dX8_lots_0 : decode cX8_lots 0 = .ok (.aload_n 0, 1) := by decide +kernel
theorem dX8_lots_1 : decode cX8_lots 1 = .ok (.iload_n 1, 1) := by decide +kernel
theorem dX8_lots_2 : decode cX8_lots 2 = .ok (.invokevirtual 123, 3) := by decide +kernel
theorem dX8_lots_5 : decode cX8_lots 5 = .ok (.ifCond .eq 11, 3) := by decide +kernel
theorem dX8_lots_8 : decode cX8_lots 8 = .ok (.aload_n 0, 1) := by decide +kernel
theorem dX8_lots_9 : decode cX8_lots 9 = .ok (.iload_n 2, 1) := by decide +kernel
theorem dX8_lots_10 : decode cX8_lots 10 = .ok (.invokevirtual 101, 3) := by decide +kernel
theorem dX8_lots_13 : decode cX8_lots 13 = .ok (.ifCond .ne 6, 3) := by decide +kernel
theorem dX8_lots_16 : decode cX8_lots 16 = .ok (.bipush (-2), 2) := by decide +kernel
theorem dX8_lots_18 : decode cX8_lots 18 = .ok (.ireturn, 1) := by decide +kernel
theorem dX8_lots_19 : decode cX8_lots 19 = .ok (.aload_n 0, 1) := by decide +kernel
theorem dX8_lots_20 : decode cX8_lots 20 = .ok (.iload_n 1, 1) := by decide +kernel
theorem dX8_lots_21 : decode cX8_lots 21 = .ok (.invokevirtual 126, 3) := by decide +kernel
theorem dX8_lots_24 : decode cX8_lots 24 = .ok (.ifCond .eq 6, 3) := by decide +kernel
theorem dX8_lots_27 : decode cX8_lots 27 = .ok (.bipush (-3), 2) := by decide +kernel
theorem dX8_lots_29 : decode cX8_lots 29 = .ok (.ireturn, 1) := by decide +kernel
theorem dX8_lots_30 : decode cX8_lots 30 = .ok (.lload_n 3, 1) := by decide +kernel
theorem dX8_lots_31 : decode cX8_lots 31 = .ok (.lconst 0, 1) := by decide +kernel
theorem dX8_lots_32 : decode cX8_lots 32 = .ok (.lcmp, 1) := by decide +kernel
theorem dX8_lots_33 : decode cX8_lots 33 = .ok (.ifCond .lt 40, 3) := by decide +kernel
theorem dX8_lots_36 : decode cX8_lots 36 = .ok (.lload_n 3, 1) := by decide +kernel
theorem dX8_lots_37 : decode cX8_lots 37 = .ok (.aload_n 0, 1) := by decide +kernel
theorem dX8_lots_38 : decode cX8_lots 38 = .ok (.getfield 17, 3) := by decide +kernel
theorem dX8_lots_41 : decode cX8_lots 41 = .ok (.iload_n 1, 1) := by decide +kernel
theorem dX8_lots_42 : decode cX8_lots 42 = .ok (.iaload, 1) := by decide +kernel
theorem dX8_lots_43 : decode cX8_lots 43 = .ok (.iconst 4, 1) := by decide +kernel
theorem dX8_lots_44 : decode cX8_lots 44 = .ok (.if_icmp .ne 11, 3) := by decide +kernel
theorem dX8_lots_47 : decode cX8_lots 47 = .ok (.aload_n 0, 1) := by decide +kernel
theorem dX8_lots_48 : decode cX8_lots 48 = .ok (.getfield 7, 3) := by decide +kernel
theorem dX8_lots_51 : decode cX8_lots 51 = .ok (.i2l, 1) := by decide +kernel
theorem dX8_lots_52 : decode cX8_lots 52 = .ok (.goto 17, 3) := by decide +kernel
theorem dX8_lots_55 : decode cX8_lots 55 = .ok (.aload_n 0, 1) := by decide +kernel
theorem dX8_lots_56 : decode cX8_lots 56 = .ok (.getfield 20, 3) := by decide +kernel
theorem dX8_lots_59 : decode cX8_lots 59 = .ok (.iload_n 1, 1) := by decide +kernel
theorem dX8_lots_60 : decode cX8_lots 60 = .ok (.iaload, 1) := by decide +kernel
theorem dX8_lots_61 : decode cX8_lots 61 = .ok (.i2l, 1) := by decide +kernel
theorem dX8_lots_62 : decode cX8_lots 62 = .ok (.aload_n 0, 1) := by decide +kernel
theorem dX8_lots_63 : decode cX8_lots 63 = .ok (.getfield 7, 3) := by decide +kernel
theorem dX8_lots_66 : decode cX8_lots 66 = .ok (.invokestatic 145, 3) := by decide +kernel
theorem dX8_lots_69 : decode cX8_lots 69 = .ok (.lcmp, 1) := by decide +kernel
theorem dX8_lots_70 : decode cX8_lots 70 = .ok (.ifCond .lt 6, 3) := by decide +kernel
theorem dX8_lots_73 : decode cX8_lots 73 = .ok (.bipush (-2), 2) := by decide +kernel
theorem dX8_lots_75 : decode cX8_lots 75 = .ok (.ireturn, 1) := by decide +kernel
theorem dX8_lots_76 : decode cX8_lots 76 = .ok (.aload_n 0, 1) := by decide +kernel
theorem dX8_lots_77 : decode cX8_lots 77 = .ok (.iload_n 1, 1) := by decide +kernel
theorem dX8_lots_78 : decode cX8_lots 78 = .ok (.iload_n 2, 1) := by decide +kernel
theorem dX8_lots_79 : decode cX8_lots 79 = .ok (.lload_n 3, 1) := by decide +kernel
theorem dX8_lots_80 : decode cX8_lots 80 = .ok (.invokevirtual 149, 3) := by decide +kernel
theorem dX8_lots_83 : decode cX8_lots 83 = .ok (.iconst 1, 1) := by decide +kernel
theorem dX8_lots_84 : decode cX8_lots 84 = .ok (.ireturn, 1) := by decide +kernel
theorem dX8_drawn_0 : decode cX8_drawn 0 = .ok (.iload_n 1, 1) := by decide +kernel
theorem dX8_drawn_1 : decode cX8_drawn 1 = .ok (.istore_n 2, 1) := by decide +kernel
theorem dX8_drawn_2 : decode cX8_drawn 2 = .ok (.iload_n 2, 1) := by decide +kernel
theorem dX8_drawn_3 : decode cX8_drawn 3 = .ok (.iload_n 1, 1) := by decide +kernel
theorem dX8_drawn_4 : decode cX8_drawn 4 = .ok (.if_icmp .lt 32, 3) := by decide +kernel
theorem dX8_drawn_7 : decode cX8_drawn 7 = .ok (.aload_n 0, 1) := by decide +kernel
theorem dX8_drawn_8 : decode cX8_drawn 8 = .ok (.aload_n 0, 1) := by decide +kernel
theorem dX8_drawn_9 : decode cX8_drawn 9 = .ok (.getfield 153, 3) := by decide +kernel
theorem dX8_drawn_12 : decode cX8_drawn 12 = .ok (.ldc 156, 2) := by decide +kernel
theorem dX8_drawn_14 : decode cX8_drawn 14 = .ok (.imul, 1) := by decide +kernel
theorem dX8_drawn_15 : decode cX8_drawn 15 = .ok (.sipush 12345, 3) := by decide +kernel
theorem dX8_drawn_18 : decode cX8_drawn 18 = .ok (.iadd, 1) := by decide +kernel
theorem dX8_drawn_19 : decode cX8_drawn 19 = .ok (.putfield 153, 3) := by decide +kernel
theorem dX8_drawn_22 : decode cX8_drawn 22 = .ok (.aload_n 0, 1) := by decide +kernel
theorem dX8_drawn_23 : decode cX8_drawn 23 = .ok (.getfield 153, 3) := by decide +kernel
theorem dX8_drawn_26 : decode cX8_drawn 26 = .ok (.bipush 16, 2) := by decide +kernel
theorem dX8_drawn_28 : decode cX8_drawn 28 = .ok (.iushr, 1) := by decide +kernel
theorem dX8_drawn_29 : decode cX8_drawn 29 = .ok (.bipush 15, 2) := by decide +kernel
theorem dX8_drawn_31 : decode cX8_drawn 31 = .ok (.iand, 1) := by decide +kernel
theorem dX8_drawn_32 : decode cX8_drawn 32 = .ok (.istore_n 2, 1) := by decide +kernel
theorem dX8_drawn_33 : decode cX8_drawn 33 = .ok (.goto (-31), 3) := by decide +kernel
theorem dX8_drawn_36 : decode cX8_drawn 36 = .ok (.iload_n 2, 1) := by decide +kernel
theorem dX8_drawn_37 : decode cX8_drawn 37 = .ok (.ireturn, 1) := by decide +kernel
theorem dX8_draw_0 : decode cX8_draw 0 = .ok (.aload_n 0, 1) := by decide +kernel
theorem dX8_draw_1 : decode cX8_draw 1 = .ok (.iload_n 1, 1) := by decide +kernel
theorem dX8_draw_2 : decode cX8_draw 2 = .ok (.invokevirtual 123, 3) := by decide +kernel
theorem dX8_draw_5 : decode cX8_draw 5 = .ok (.ifCond .eq 19, 3) := by decide +kernel
theorem dX8_draw_8 : decode cX8_draw 8 = .ok (.aload_n 0, 1) := by decide +kernel
theorem dX8_draw_9 : decode cX8_draw 9 = .ok (.iload_n 2, 1) := by decide +kernel
theorem dX8_draw_10 : decode cX8_draw 10 = .ok (.invokevirtual 101, 3) := by decide +kernel
theorem dX8_draw_13 : decode cX8_draw 13 = .ok (.ifCond .eq 11, 3) := by decide +kernel
theorem dX8_draw_16 : decode cX8_draw 16 = .ok (.aload_n 0, 1) := by decide +kernel
theorem dX8_draw_17 : decode cX8_draw 17 = .ok (.iload_n 1, 1) := by decide +kernel
theorem dX8_draw_18 : decode cX8_draw 18 = .ok (.invokevirtual 126, 3) := by decide +kernel
theorem dX8_draw_21 : decode cX8_draw 21 = .ok (.ifCond .eq 7, 3) := by decide +kernel
theorem dX8_draw_24 : decode cX8_draw 24 = .ok (.ldc2_w 157, 3) := by decide +kernel
theorem dX8_draw_27 : decode cX8_draw 27 = .ok (.lreturn, 1) := by decide +kernel
theorem dX8_draw_28 : decode cX8_draw 28 = .ok (.lconst 0, 1) := by decide +kernel
theorem dX8_draw_29 : decode cX8_draw 29 = .ok (.lstore_n 3, 1) := by decide +kernel
theorem dX8_draw_30 : decode cX8_draw 30 = .ok (.aload_n 0, 1) := by decide +kernel
theorem dX8_draw_31 : decode cX8_draw 31 = .ok (.getfield 17, 3) := by decide +kernel
theorem dX8_draw_34 : decode cX8_draw 34 = .ok (.iload_n 1, 1) := by decide +kernel
theorem dX8_draw_35 : decode cX8_draw 35 = .ok (.iaload, 1) := by decide +kernel
theorem dX8_draw_36 : decode cX8_draw 36 = .ok (.iconst 4, 1) := by decide +kernel
theorem dX8_draw_37 : decode cX8_draw 37 = .ok (.if_icmp .ne 16, 3) := by decide +kernel
theorem dX8_draw_40 : decode cX8_draw 40 = .ok (.aload_n 0, 1) := by decide +kernel
theorem dX8_draw_41 : decode cX8_draw 41 = .ok (.aload_n 0, 1) := by decide +kernel
theorem dX8_draw_42 : decode cX8_draw 42 = .ok (.getfield 7, 3) := by decide +kernel
theorem dX8_draw_45 : decode cX8_draw 45 = .ok (.invokevirtual 159, 3) := by decide +kernel
theorem dX8_draw_48 : decode cX8_draw 48 = .ok (.i2l, 1) := by decide +kernel
theorem dX8_draw_49 : decode cX8_draw 49 = .ok (.lstore_n 3, 1) := by decide +kernel
theorem dX8_draw_50 : decode cX8_draw 50 = .ok (.goto 53, 3) := by decide +kernel
theorem dX8_draw_53 : decode cX8_draw 53 = .ok (.lconst 1, 1) := by decide +kernel
theorem dX8_draw_54 : decode cX8_draw 54 = .ok (.lstore 5, 2) := by decide +kernel
theorem dX8_draw_56 : decode cX8_draw 56 = .ok (.iconst 0, 1) := by decide +kernel
theorem dX8_draw_57 : decode cX8_draw 57 = .ok (.istore 7, 2) := by decide +kernel
theorem dX8_draw_59 : decode cX8_draw 59 = .ok (.iload 7, 2) := by decide +kernel
theorem dX8_draw_61 : decode cX8_draw 61 = .ok (.aload_n 0, 1) := by decide +kernel
theorem dX8_draw_62 : decode cX8_draw 62 = .ok (.getfield 7, 3) := by decide +kernel
theorem dX8_draw_65 : decode cX8_draw 65 = .ok (.if_icmp .ge 38, 3) := by decide +kernel
theorem dX8_draw_68 : decode cX8_draw 68 = .ok (.lload_n 3, 1) := by decide +kernel
theorem dX8_draw_69 : decode cX8_draw 69 = .ok (.aload_n 0, 1) := by decide +kernel
theorem dX8_draw_70 : decode cX8_draw 70 = .ok (.aload_n 0, 1) := by decide +kernel
theorem dX8_draw_71 : decode cX8_draw 71 = .ok (.getfield 20, 3) := by decide +kernel
theorem dX8_draw_74 : decode cX8_draw 74 = .ok (.iload_n 1, 1) := by decide +kernel
theorem dX8_draw_75 : decode cX8_draw 75 = .ok (.iaload, 1) := by decide +kernel
theorem dX8_draw_76 : decode cX8_draw 76 = .ok (.invokevirtual 159, 3) := by decide +kernel
theorem dX8_draw_79 : decode cX8_draw 79 = .ok (.i2l, 1) := by decide +kernel
theorem dX8_draw_80 : decode cX8_draw 80 = .ok (.lload 5, 2) := by decide +kernel
theorem dX8_draw_82 : decode cX8_draw 82 = .ok (.lmul, 1) := by decide +kernel
theorem dX8_draw_83 : decode cX8_draw 83 = .ok (.ladd, 1) := by decide +kernel
theorem dX8_draw_84 : decode cX8_draw 84 = .ok (.lstore_n 3, 1) := by decide +kernel
theorem dX8_draw_85 : decode cX8_draw 85 = .ok (.lload 5, 2) := by decide +kernel
theorem dX8_draw_87 : decode cX8_draw 87 = .ok (.aload_n 0, 1) := by decide +kernel
theorem dX8_draw_88 : decode cX8_draw 88 = .ok (.getfield 20, 3) := by decide +kernel
theorem dX8_draw_91 : decode cX8_draw 91 = .ok (.iload_n 1, 1) := by decide +kernel
theorem dX8_draw_92 : decode cX8_draw 92 = .ok (.iaload, 1) := by decide +kernel
theorem dX8_draw_93 : decode cX8_draw 93 = .ok (.i2l, 1) := by decide +kernel
theorem dX8_draw_94 : decode cX8_draw 94 = .ok (.lmul, 1) := by decide +kernel
theorem dX8_draw_95 : decode cX8_draw 95 = .ok (.lstore 5, 2) := by decide +kernel
theorem dX8_draw_97 : decode cX8_draw 97 = .ok (.iinc 7 1, 3) := by decide +kernel
theorem dX8_draw_100 : decode cX8_draw 100 = .ok (.goto (-41), 3) := by decide +kernel
theorem dX8_draw_103 : decode cX8_draw 103 = .ok (.aload_n 0, 1) := by decide +kernel
theorem dX8_draw_104 : decode cX8_draw 104 = .ok (.iload_n 1, 1) := by decide +kernel
theorem dX8_draw_105 : decode cX8_draw 105 = .ok (.iload_n 2, 1) := by decide +kernel
theorem dX8_draw_106 : decode cX8_draw 106 = .ok (.lload_n 3, 1) := by decide +kernel
theorem dX8_draw_107 : decode cX8_draw 107 = .ok (.invokevirtual 149, 3) := by decide +kernel
theorem dX8_draw_110 : decode cX8_draw 110 = .ok (.lload_n 3, 1) := by decide +kernel
theorem dX8_draw_111 : decode cX8_draw 111 = .ok (.lreturn, 1) := by decide +kernel
theorem dX8_seed_0 : decode cX8_seed 0 = .ok (.aload_n 0, 1) := by decide +kernel
theorem dX8_seed_1 : decode cX8_seed 1 = .ok (.getfield 153, 3) := by decide +kernel
theorem dX8_seed_4 : decode cX8_seed 4 = .ok (.istore_n 2, 1) := by decide +kernel
theorem dX8_seed_5 : decode cX8_seed 5 = .ok (.aload_n 0, 1) := by decide +kernel
theorem dX8_seed_6 : decode cX8_seed 6 = .ok (.iload_n 1, 1) := by decide +kernel
theorem dX8_seed_7 : decode cX8_seed 7 = .ok (.putfield 153, 3) := by decide +kernel
theorem dX8_seed_10 : decode cX8_seed 10 = .ok (.iload_n 2, 1) := by decide +kernel
theorem dX8_seed_11 : decode cX8_seed 11 = .ok (.ireturn, 1) := by decide +kernel
theorem dX8_isChance_0 : decode cX8_isChance 0 = .ok (.aload_n 0, 1) := by decide +kernel
theorem dX8_isChance_1 : decode cX8_isChance 1 = .ok (.iload_n 1, 1) := by decide +kernel
theorem dX8_isChance_2 : decode cX8_isChance 2 = .ok (.invokevirtual 123, 3) := by decide +kernel
theorem dX8_isChance_5 : decode cX8_isChance 5 = .ok (.ifCond .eq 21, 3) := by decide +kernel
theorem dX8_isChance_8 : decode cX8_isChance 8 = .ok (.aload_n 0, 1) := by decide +kernel
theorem dX8_isChance_9 : decode cX8_isChance 9 = .ok (.iload_n 1, 1) := by decide +kernel
theorem dX8_isChance_10 : decode cX8_isChance 10 = .ok (.invokevirtual 126, 3) := by decide +kernel
theorem dX8_isChance_13 : decode cX8_isChance 13 = .ok (.ifCond .ne 13, 3) := by decide +kernel
theorem dX8_isChance_16 : decode cX8_isChance 16 = .ok (.iload_n 2, 1) := by decide +kernel
theorem dX8_isChance_17 : decode cX8_isChance 17 = .ok (.ifCond .lt 9, 3) := by decide +kernel
theorem dX8_isChance_20 : decode cX8_isChance 20 = .ok (.iload_n 2, 1) := by decide +kernel
theorem dX8_isChance_21 : decode cX8_isChance 21 = .ok (.bipush 6, 2) := by decide +kernel
theorem dX8_isChance_23 : decode cX8_isChance 23 = .ok (.if_icmp .le 5, 3) := by decide +kernel
theorem dX8_isChance_26 : decode cX8_isChance 26 = .ok (.iconst 0, 1) := by decide +kernel
theorem dX8_isChance_27 : decode cX8_isChance 27 = .ok (.ireturn, 1) := by decide +kernel
theorem dX8_isChance_28 : decode cX8_isChance 28 = .ok (.aload_n 0, 1) := by decide +kernel
theorem dX8_isChance_29 : decode cX8_isChance 29 = .ok (.getfield 17, 3) := by decide +kernel
theorem dX8_isChance_32 : decode cX8_isChance 32 = .ok (.iload_n 1, 1) := by decide +kernel
theorem dX8_isChance_33 : decode cX8_isChance 33 = .ok (.iaload, 1) := by decide +kernel
theorem dX8_isChance_34 : decode cX8_isChance 34 = .ok (.iconst 4, 1) := by decide +kernel
theorem dX8_isChance_35 : decode cX8_isChance 35 = .ok (.if_icmp .ne 20, 3) := by decide +kernel
theorem dX8_isChance_38 : decode cX8_isChance 38 = .ok (.aload_n 0, 1) := by decide +kernel
theorem dX8_isChance_39 : decode cX8_isChance 39 = .ok (.getfield 7, 3) := by decide +kernel
theorem dX8_isChance_42 : decode cX8_isChance 42 = .ok (.bipush 6, 2) := by decide +kernel
theorem dX8_isChance_44 : decode cX8_isChance 44 = .ok (.if_icmp .gt 7, 3) := by decide +kernel
theorem dX8_isChance_47 : decode cX8_isChance 47 = .ok (.iconst 1, 1) := by decide +kernel
theorem dX8_isChance_48 : decode cX8_isChance 48 = .ok (.goto 30, 3) := by decide +kernel
theorem dX8_isChance_51 : decode cX8_isChance 51 = .ok (.iconst 0, 1) := by decide +kernel
theorem dX8_isChance_52 : decode cX8_isChance 52 = .ok (.goto 26, 3) := by decide +kernel
theorem dX8_isChance_55 : decode cX8_isChance 55 = .ok (.aload_n 0, 1) := by decide +kernel
theorem dX8_isChance_56 : decode cX8_isChance 56 = .ok (.getfield 20, 3) := by decide +kernel
theorem dX8_isChance_59 : decode cX8_isChance 59 = .ok (.iload_n 1, 1) := by decide +kernel
theorem dX8_isChance_60 : decode cX8_isChance 60 = .ok (.iaload, 1) := by decide +kernel
theorem dX8_isChance_61 : decode cX8_isChance 61 = .ok (.i2l, 1) := by decide +kernel
theorem dX8_isChance_62 : decode cX8_isChance 62 = .ok (.iload_n 2, 1) := by decide +kernel
theorem dX8_isChance_63 : decode cX8_isChance 63 = .ok (.invokestatic 145, 3) := by decide +kernel
theorem dX8_isChance_66 : decode cX8_isChance 66 = .ok (.ldc2_w 162, 3) := by decide +kernel
theorem dX8_isChance_69 : decode cX8_isChance 69 = .ok (.lcmp, 1) := by decide +kernel
theorem dX8_isChance_70 : decode cX8_isChance 70 = .ok (.ifCond .gt 7, 3) := by decide +kernel
theorem dX8_isChance_73 : decode cX8_isChance 73 = .ok (.iconst 1, 1) := by decide +kernel
theorem dX8_isChance_74 : decode cX8_isChance 74 = .ok (.goto 4, 3) := by decide +kernel
theorem dX8_isChance_77 : decode cX8_isChance 77 = .ok (.iconst 0, 1) := by decide +kernel
theorem dX8_isChance_78 : decode cX8_isChance 78 = .ok (.ireturn, 1) := by decide +kernel
theorem dX8_heapWays_0 : decode cX8_heapWays 0 = .ok (.iconst 0, 1) := by decide +kernel
theorem dX8_heapWays_1 : decode cX8_heapWays 1 = .ok (.istore_n 3, 1) := by decide +kernel
theorem dX8_heapWays_2 : decode cX8_heapWays 2 = .ok (.iload_n 3, 1) := by decide +kernel
theorem dX8_heapWays_3 : decode cX8_heapWays 3 = .ok (.iload_n 1, 1) := by decide +kernel
theorem dX8_heapWays_4 : decode cX8_heapWays 4 = .ok (.if_icmp .ge 16, 3) := by decide +kernel
theorem dX8_heapWays_7 : decode cX8_heapWays 7 = .ok (.aload_n 0, 1) := by decide +kernel
theorem dX8_heapWays_8 : decode cX8_heapWays 8 = .ok (.getfield 32, 3) := by decide +kernel
theorem dX8_heapWays_11 : decode cX8_heapWays 11 = .ok (.iload_n 3, 1) := by decide +kernel
theorem dX8_heapWays_12 : decode cX8_heapWays 12 = .ok (.lconst 1, 1) := by decide +kernel
theorem dX8_heapWays_13 : decode cX8_heapWays 13 = .ok (.lastore, 1) := by decide +kernel
theorem dX8_heapWays_14 : decode cX8_heapWays 14 = .ok (.iinc 3 1, 3) := by decide +kernel
theorem dX8_heapWays_17 : decode cX8_heapWays 17 = .ok (.goto (-15), 3) := by decide +kernel
theorem dX8_heapWays_20 : decode cX8_heapWays 20 = .ok (.iconst 1, 1) := by decide +kernel
theorem dX8_heapWays_21 : decode cX8_heapWays 21 = .ok (.istore_n 3, 1) := by decide +kernel
theorem dX8_heapWays_22 : decode cX8_heapWays 22 = .ok (.iload_n 3, 1) := by decide +kernel
theorem dX8_heapWays_23 : decode cX8_heapWays 23 = .ok (.aload_n 0, 1) := by decide +kernel
theorem dX8_heapWays_24 : decode cX8_heapWays 24 = .ok (.getfield 7, 3) := by decide +kernel
theorem dX8_heapWays_27 : decode cX8_heapWays 27 = .ok (.if_icmp .ge 106, 3) := by decide +kernel
theorem dX8_heapWays_30 : decode cX8_heapWays 30 = .ok (.lconst 0, 1) := by decide +kernel
theorem dX8_heapWays_31 : decode cX8_heapWays 31 = .ok (.lstore 4, 2) := by decide +kernel
theorem dX8_heapWays_33 : decode cX8_heapWays 33 = .ok (.iconst 0, 1) := by decide +kernel
theorem dX8_heapWays_34 : decode cX8_heapWays 34 = .ok (.istore 6, 2) := by decide +kernel
theorem dX8_heapWays_36 : decode cX8_heapWays 36 = .ok (.iload 6, 2) := by decide +kernel
theorem dX8_heapWays_38 : decode cX8_heapWays 38 = .ok (.iload_n 1, 1) := by decide +kernel
theorem dX8_heapWays_39 : decode cX8_heapWays 39 = .ok (.if_icmp .ge 59, 3) := by decide +kernel
theorem dX8_heapWays_42 : decode cX8_heapWays 42 = .ok (.iload_n 3, 1) := by decide +kernel
theorem dX8_heapWays_43 : decode cX8_heapWays 43 = .ok (.iload_n 2, 1) := by decide +kernel
theorem dX8_heapWays_44 : decode cX8_heapWays 44 = .ok (.if_icmp .gt 27, 3) := by decide +kernel
theorem dX8_heapWays_47 : decode cX8_heapWays 47 = .ok (.aload_n 0, 1) := by decide +kernel
theorem dX8_heapWays_48 : decode cX8_heapWays 48 = .ok (.getfield 36, 3) := by decide +kernel
theorem dX8_heapWays_51 : decode cX8_heapWays 51 = .ok (.iload 6, 2) := by decide +kernel
theorem dX8_heapWays_53 : decode cX8_heapWays 53 = .ok (.lload 4, 2) := by decide +kernel
theorem dX8_heapWays_55 : decode cX8_heapWays 55 = .ok (.lastore, 1) := by decide +kernel
theorem dX8_heapWays_56 : decode cX8_heapWays 56 = .ok (.lload 4, 2) := by decide +kernel
theorem dX8_heapWays_58 : decode cX8_heapWays 58 = .ok (.aload_n 0, 1) := by decide +kernel
theorem dX8_heapWays_59 : decode cX8_heapWays 59 = .ok (.getfield 32, 3) := by decide +kernel
theorem dX8_heapWays_62 : decode cX8_heapWays 62 = .ok (.iload 6, 2) := by decide +kernel
theorem dX8_heapWays_64 : decode cX8_heapWays 64 = .ok (.laload, 1) := by decide +kernel
theorem dX8_heapWays_65 : decode cX8_heapWays 65 = .ok (.ladd, 1) := by decide +kernel
theorem dX8_heapWays_66 : decode cX8_heapWays 66 = .ok (.lstore 4, 2) := by decide +kernel
theorem dX8_heapWays_68 : decode cX8_heapWays 68 = .ok (.goto 24, 3) := by decide +kernel
theorem dX8_heapWays_71 : decode cX8_heapWays 71 = .ok (.lload 4, 2) := by decide +kernel
theorem dX8_heapWays_73 : decode cX8_heapWays 73 = .ok (.aload_n 0, 1) := by decide +kernel
theorem dX8_heapWays_74 : decode cX8_heapWays 74 = .ok (.getfield 32, 3) := by decide +kernel
theorem dX8_heapWays_77 : decode cX8_heapWays 77 = .ok (.iload 6, 2) := by decide +kernel
theorem dX8_heapWays_79 : decode cX8_heapWays 79 = .ok (.laload, 1) := by decide +kernel
theorem dX8_heapWays_80 : decode cX8_heapWays 80 = .ok (.ladd, 1) := by decide +kernel
theorem dX8_heapWays_81 : decode cX8_heapWays 81 = .ok (.lstore 4, 2) := by decide +kernel
theorem dX8_heapWays_83 : decode cX8_heapWays 83 = .ok (.aload_n 0, 1) := by decide +kernel
theorem dX8_heapWays_84 : decode cX8_heapWays 84 = .ok (.getfield 36, 3) := by decide +kernel
theorem dX8_heapWays_87 : decode cX8_heapWays 87 = .ok (.iload 6, 2) := by decide +kernel
theorem dX8_heapWays_89 : decode cX8_heapWays 89 = .ok (.lload 4, 2) := by decide +kernel
theorem dX8_heapWays_91 : decode cX8_heapWays 91 = .ok (.lastore, 1) := by decide +kernel
