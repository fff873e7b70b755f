theorem dX7_init_0 : decode cX7_init 0 = .ok (.aload_n 0, 1) := by decide +kernel
theorem dX7_init_1 : decode cX7_init 1 = .ok (.invokespecial 1, 3) := by decide +kernel
theorem dX7_init_4 : decode cX7_init 4 = .ok (.aload_n 0, 1) := by decide +kernel
theorem dX7_init_5 : decode cX7_init 5 = .ok (.bipush 12, 2) := by decide +kernel
theorem dX7_init_7 : decode cX7_init 7 = .ok (.bipush 10, 2) := by decide +kernel
theorem dX7_init_9 : decode cX7_init 9 = .ok (.multianewarray 9 2, 4) := by decide +kernel
theorem dX7_init_13 : decode cX7_init 13 = .ok (.putfield 11, 3) := by decide +kernel
theorem dX7_init_16 : decode cX7_init 16 = .ok (.aload_n 0, 1) := by decide +kernel
theorem dX7_init_17 : decode cX7_init 17 = .ok (.bipush 10, 2) := by decide +kernel
theorem dX7_init_19 : decode cX7_init 19 = .ok (.anewarray 14, 3) := by decide +kernel
theorem dX7_init_22 : decode cX7_init 22 = .ok (.putfield 16, 3) := by decide +kernel
theorem dX7_init_25 : decode cX7_init 25 = .ok (.aload_n 0, 1) := by decide +kernel
theorem dX7_init_26 : decode cX7_init 26 = .ok (.iconst 4, 1) := by decide +kernel
theorem dX7_init_27 : decode cX7_init 27 = .ok (.anewarray 20, 3) := by decide +kernel
theorem dX7_init_30 : decode cX7_init 30 = .ok (.putfield 22, 3) := by decide +kernel
theorem dX7_init_33 : decode cX7_init 33 = .ok (.aload_n 0, 1) := by decide +kernel
theorem dX7_init_34 : decode cX7_init 34 = .ok (.new 26, 3) := by decide +kernel
theorem dX7_init_37 : decode cX7_init 37 = .ok (.dup, 1) := by decide +kernel
theorem dX7_init_38 : decode cX7_init 38 = .ok (.invokespecial 28, 3) := by decide +kernel
theorem dX7_init_41 : decode cX7_init 41 = .ok (.putfield 29, 3) := by decide +kernel
theorem dX7_init_44 : decode cX7_init 44 = .ok (.aload_n 0, 1) := by decide +kernel
theorem dX7_init_45 : decode cX7_init 45 = .ok (.iconst 4, 1) := by decide +kernel
theorem dX7_init_46 : decode cX7_init 46 = .ok (.putfield 33, 3) := by decide +kernel
theorem dX7_init_49 : decode cX7_init 49 = .ok (.aload_n 0, 1) := by decide +kernel
theorem dX7_init_50 : decode cX7_init 50 = .ok (.iconst 0, 1) := by decide +kernel
theorem dX7_init_51 : decode cX7_init 51 = .ok (.putfield 37, 3) := by decide +kernel
theorem dX7_init_54 : decode cX7_init 54 = .ok (.aload_n 0, 1) := by decide +kernel
theorem dX7_init_55 : decode cX7_init 55 = .ok (.iconst 0, 1) := by decide +kernel
theorem dX7_init_56 : decode cX7_init 56 = .ok (.putfield 40, 3) := by decide +kernel
theorem dX7_init_59 : decode cX7_init 59 = .ok (.aload_n 0, 1) := by decide +kernel
theorem dX7_init_60 : decode cX7_init 60 = .ok (.iconst 0, 1) := by decide +kernel
theorem dX7_init_61 : decode cX7_init 61 = .ok (.putfield 43, 3) := by decide +kernel
theorem dX7_init_64 : decode cX7_init 64 = .ok (.aload_n 0, 1) := by decide +kernel
theorem dX7_init_65 : decode cX7_init 65 = .ok (.bipush 10, 2) := by decide +kernel
theorem dX7_init_67 : decode cX7_init 67 = .ok (.newarray .int, 2) := by decide +kernel
theorem dX7_init_69 : decode cX7_init 69 = .ok (.putfield 46, 3) := by decide +kernel
theorem dX7_init_72 : decode cX7_init 72 = .ok (.aload_n 0, 1) := by decide +kernel
theorem dX7_init_73 : decode cX7_init 73 = .ok (.bipush 10, 2) := by decide +kernel
theorem dX7_init_75 : decode cX7_init 75 = .ok (.newarray .int, 2) := by decide +kernel
theorem dX7_init_77 : decode cX7_init 77 = .ok (.putfield 50, 3) := by decide +kernel
theorem dX7_init_80 : decode cX7_init 80 = .ok (.aload_n 0, 1) := by decide +kernel
theorem dX7_init_81 : decode cX7_init 81 = .ok (.bipush 10, 2) := by decide +kernel
theorem dX7_init_83 : decode cX7_init 83 = .ok (.newarray .int, 2) := by decide +kernel
theorem dX7_init_85 : decode cX7_init 85 = .ok (.putfield 53, 3) := by decide +kernel
theorem dX7_init_88 : decode cX7_init 88 = .ok (.aload_n 0, 1) := by decide +kernel
theorem dX7_init_89 : decode cX7_init 89 = .ok (.bipush 10, 2) := by decide +kernel
theorem dX7_init_91 : decode cX7_init 91 = .ok (.newarray .int, 2) := by decide +kernel
theorem dX7_init_93 : decode cX7_init 93 = .ok (.putfield 56, 3) := by decide +kernel
theorem dX7_init_96 : decode cX7_init 96 = .ok (.aload_n 0, 1) := by decide +kernel
theorem dX7_init_97 : decode cX7_init 97 = .ok (.bipush 10, 2) := by decide +kernel
theorem dX7_init_99 : decode cX7_init 99 = .ok (.newarray .long, 2) := by decide +kernel
theorem dX7_init_101 : decode cX7_init 101 = .ok (.putfield 59, 3) := by decide +kernel
theorem dX7_init_104 : decode cX7_init 104 = .ok (.aload_n 0, 1) := by decide +kernel
theorem dX7_init_105 : decode cX7_init 105 = .ok (.bipush 11, 2) := by decide +kernel
theorem dX7_init_107 : decode cX7_init 107 = .ok (.newarray .long, 2) := by decide +kernel
theorem dX7_init_109 : decode cX7_init 109 = .ok (.putfield 63, 3) := by decide +kernel
theorem dX7_init_112 : decode cX7_init 112 = .ok (.iconst 0, 1) := by decide +kernel
theorem dX7_init_113 : decode cX7_init 113 = .ok (.istore_n 1, 1) := by decide +kernel
theorem dX7_init_114 : decode cX7_init 114 = .ok (.iload_n 1, 1) := by decide +kernel
theorem dX7_init_115 : decode cX7_init 115 = .ok (.bipush 10, 2) := by decide +kernel
theorem dX7_init_117 : decode cX7_init 117 = .ok (.if_icmp .ge 22, 3) := by decide +kernel
theorem dX7_init_120 : decode cX7_init 120 = .ok (.aload_n 0, 1) := by decide +kernel
theorem dX7_init_121 : decode cX7_init 121 = .ok (.getfield 16, 3) := by decide +kernel
theorem dX7_init_124 : decode cX7_init 124 = .ok (.iload_n 1, 1) := by decide +kernel
theorem dX7_init_125 : decode cX7_init 125 = .ok (.new 14, 3) := by decide +kernel
theorem dX7_init_128 : decode cX7_init 128 = .ok (.dup, 1) := by decide +kernel
theorem dX7_init_129 : decode cX7_init 129 = .ok (.invokespecial 66, 3) := by decide +kernel
theorem dX7_init_132 : decode cX7_init 132 = .ok (.aastore, 1) := by decide +kernel
theorem dX7_init_133 : decode cX7_init 133 = .ok (.iinc 1 1, 3) := by decide +kernel
theorem dX7_init_136 : decode cX7_init 136 = .ok (.goto (-22), 3) := by decide +kernel
theorem dX7_init_139 : decode cX7_init 139 = .ok (.iconst 0, 1) := by decide +kernel
theorem dX7_init_140 : decode cX7_init 140 = .ok (.istore_n 1, 1) := by decide +kernel
theorem dX7_init_141 : decode cX7_init 141 = .ok (.iload_n 1, 1) := by decide +kernel
theorem dX7_init_142 : decode cX7_init 142 = .ok (.iconst 4, 1) := by decide +kernel
theorem dX7_init_143 : decode cX7_init 143 = .ok (.if_icmp .ge 22, 3) := by decide +kernel
theorem dX7_init_146 : decode cX7_init 146 = .ok (.aload_n 0, 1) := by decide +kernel
theorem dX7_init_147 : decode cX7_init 147 = .ok (.getfield 22, 3) := by decide +kernel
theorem dX7_init_150 : decode cX7_init 150 = .ok (.iload_n 1, 1) := by decide +kernel
theorem dX7_init_151 : decode cX7_init 151 = .ok (.new 20, 3) := by decide +kernel
theorem dX7_init_154 : decode cX7_init 154 = .ok (.dup, 1) := by decide +kernel
theorem dX7_init_155 : decode cX7_init 155 = .ok (.invokespecial 67, 3) := by decide +kernel
theorem dX7_init_158 : decode cX7_init 158 = .ok (.aastore, 1) := by decide +kernel
theorem dX7_init_159 : decode cX7_init 159 = .ok (.iinc 1 1, 3) := by decide +kernel
theorem dX7_init_162 : decode cX7_init 162 = .ok (.goto (-21), 3) := by decide +kernel
theorem dX7_init_165 : decode cX7_init 165 = .ok (.return_, 1) := by decide +kernel
theorem dX7_begin_0 : decode cX7_begin 0 = .ok (.iload_n 1, 1) := by decide +kernel
theorem dX7_begin_1 : decode cX7_begin 1 = .ok (.iconst 1, 1) := by decide +kernel
theorem dX7_begin_2 : decode cX7_begin 2 = .ok (.if_icmp .lt 9, 3) := by decide +kernel
theorem dX7_begin_5 : decode cX7_begin 5 = .ok (.iload_n 1, 1) := by decide +kernel
theorem dX7_begin_6 : decode cX7_begin 6 = .ok (.bipush 10, 2) := by decide +kernel
theorem dX7_begin_8 : decode cX7_begin 8 = .ok (.if_icmp .le 6, 3) := by decide +kernel
theorem dX7_begin_11 : decode cX7_begin 11 = .ok (.bipush (-2), 2) := by decide +kernel
theorem dX7_begin_13 : decode cX7_begin 13 = .ok (.ireturn, 1) := by decide +kernel
theorem dX7_begin_14 : decode cX7_begin 14 = .ok (.aload_n 0, 1) := by decide +kernel
theorem dX7_begin_15 : decode cX7_begin 15 = .ok (.iload_n 1, 1) := by decide +kernel
theorem dX7_begin_16 : decode cX7_begin 16 = .ok (.putfield 33, 3) := by decide +kernel
theorem dX7_begin_19 : decode cX7_begin 19 = .ok (.aload_n 0, 1) := by decide +kernel
theorem dX7_begin_20 : decode cX7_begin 20 = .ok (.iconst 0, 1) := by decide +kernel
theorem dX7_begin_21 : decode cX7_begin 21 = .ok (.putfield 37, 3) := by decide +kernel
theorem dX7_begin_24 : decode cX7_begin 24 = .ok (.aload_n 0, 1) := by decide +kernel
theorem dX7_begin_25 : decode cX7_begin 25 = .ok (.iconst 0, 1) := by decide +kernel
theorem dX7_begin_26 : decode cX7_begin 26 = .ok (.putfield 40, 3) := by decide +kernel
theorem dX7_begin_29 : decode cX7_begin 29 = .ok (.iconst 1, 1) := by decide +kernel
theorem dX7_begin_30 : decode cX7_begin 30 = .ok (.ireturn, 1) := by decide +kernel
theorem dX7_pack_0 : decode cX7_pack 0 = .ok (.aload_n 0, 1) := by decide +kernel
theorem dX7_pack_1 : decode cX7_pack 1 = .ok (.iconst 0, 1) := by decide +kernel
theorem dX7_pack_2 : decode cX7_pack 2 = .ok (.invokevirtual 68, 3) := by decide +kernel
theorem dX7_pack_5 : decode cX7_pack 5 = .ok (.ireturn, 1) := by decide +kernel
theorem dX7_ranked_0 : decode cX7_ranked 0 = .ok (.iload_n 1, 1) := by decide +kernel
theorem dX7_ranked_1 : decode cX7_ranked 1 = .ok (.ifCond .lt 15, 3) := by decide +kernel
theorem dX7_ranked_4 : decode cX7_ranked 4 = .ok (.iload_n 1, 1) := by decide +kernel
theorem dX7_ranked_5 : decode cX7_ranked 5 = .ok (.getstatic 72, 3) := by decide +kernel
theorem dX7_ranked_8 : decode cX7_ranked 8 = .ok (.aload_n 0, 1) := by decide +kernel
theorem dX7_ranked_9 : decode cX7_ranked 9 = .ok (.getfield 33, 3) := by decide +kernel
theorem dX7_ranked_12 : decode cX7_ranked 12 = .ok (.iaload, 1) := by decide +kernel
theorem dX7_ranked_13 : decode cX7_ranked 13 = .ok (.if_icmp .lt 6, 3) := by decide +kernel
theorem dX7_ranked_16 : decode cX7_ranked 16 = .ok (.bipush (-2), 2) := by decide +kernel
theorem dX7_ranked_18 : decode cX7_ranked 18 = .ok (.ireturn, 1) := by decide +kernel
theorem dX7_ranked_19 : decode cX7_ranked 19 = .ok (.aload_n 0, 1) := by decide +kernel
theorem dX7_ranked_20 : decode cX7_ranked 20 = .ok (.getfield 37, 3) := by decide +kernel
theorem dX7_ranked_23 : decode cX7_ranked 23 = .ok (.bipush 12, 2) := by decide +kernel
theorem dX7_ranked_25 : decode cX7_ranked 25 = .ok (.if_icmp .lt 6, 3) := by decide +kernel
theorem dX7_ranked_28 : decode cX7_ranked 28 = .ok (.bipush (-4), 2) := by decide +kernel
theorem dX7_ranked_30 : decode cX7_ranked 30 = .ok (.ireturn, 1) := by decide +kernel
theorem dX7_ranked_31 : decode cX7_ranked 31 = .ok (.aload_n 0, 1) := by decide +kernel
theorem dX7_ranked_32 : decode cX7_ranked 32 = .ok (.getfield 11, 3) := by decide +kernel
theorem dX7_ranked_35 : decode cX7_ranked 35 = .ok (.aload_n 0, 1) := by decide +kernel
theorem dX7_ranked_36 : decode cX7_ranked 36 = .ok (.getfield 37, 3) := by decide +kernel
theorem dX7_ranked_39 : decode cX7_ranked 39 = .ok (.aaload, 1) := by decide +kernel
theorem dX7_ranked_40 : decode cX7_ranked 40 = .ok (.aload_n 0, 1) := by decide +kernel
theorem dX7_ranked_41 : decode cX7_ranked 41 = .ok (.getfield 33, 3) := by decide +kernel
theorem dX7_ranked_44 : decode cX7_ranked 44 = .ok (.iload_n 1, 1) := by decide +kernel
theorem dX7_ranked_45 : decode cX7_ranked 45 = .ok (.invokestatic 75, 3) := by decide +kernel
theorem dX7_ranked_48 : decode cX7_ranked 48 = .ok (.aload_n 0, 1) := by decide +kernel
theorem dX7_ranked_49 : decode cX7_ranked 49 = .ok (.dup, 1) := by decide +kernel
theorem dX7_ranked_50 : decode cX7_ranked 50 = .ok (.getfield 37, 3) := by decide +kernel
theorem dX7_ranked_53 : decode cX7_ranked 53 = .ok (.dup_x1, 1) := by decide +kernel
theorem dX7_ranked_54 : decode cX7_ranked 54 = .ok (.iconst 1, 1) := by decide +kernel
theorem dX7_ranked_55 : decode cX7_ranked 55 = .ok (.iadd, 1) := by decide +kernel
theorem dX7_ranked_56 : decode cX7_ranked 56 = .ok (.putfield 37, 3) := by decide +kernel
theorem dX7_ranked_59 : decode cX7_ranked 59 = .ok (.ireturn, 1) := by decide +kernel
theorem dX7_told_0 : decode cX7_told 0 = .ok (.iload_n 1, 1) := by decide +kernel
theorem dX7_told_1 : decode cX7_told 1 = .ok (.invokestatic 81, 3) := by decide +kernel
theorem dX7_told_4 : decode cX7_told 4 = .ok (.ifCond .eq 10, 3) := by decide +kernel
theorem dX7_told_7 : decode cX7_told 7 = .ok (.iload_n 2, 1) := by decide +kernel
theorem dX7_told_8 : decode cX7_told 8 = .ok (.invokestatic 85, 3) := by decide +kernel
theorem dX7_told_11 : decode cX7_told 11 = .ok (.ifCond .ne 6, 3) := by decide +kernel
theorem dX7_told_14 : decode cX7_told 14 = .ok (.bipush (-2), 2) := by decide +kernel
theorem dX7_told_16 : decode cX7_told 16 = .ok (.ireturn, 1) := by decide +kernel
theorem dX7_told_17 : decode cX7_told 17 = .ok (.aload_n 0, 1) := by decide +kernel
theorem dX7_told_18 : decode cX7_told 18 = .ok (.getfield 22, 3) := by decide +kernel
theorem dX7_told_21 : decode cX7_told 21 = .ok (.iload_n 1, 1) := by decide +kernel
theorem dX7_told_22 : decode cX7_told 22 = .ok (.aaload, 1) := by decide +kernel
theorem dX7_told_23 : decode cX7_told 23 = .ok (.astore 4, 2) := by decide +kernel
theorem dX7_told_25 : decode cX7_told 25 = .ok (.aload 4, 2) := by decide +kernel
theorem dX7_told_27 : decode cX7_told 27 = .ok (.invokevirtual 88, 3) := by decide +kernel
theorem dX7_told_30 : decode cX7_told 30 = .ok (.ifCond .ne 15, 3) := by decide +kernel
theorem dX7_told_33 : decode cX7_told 33 = .ok (.aload 4, 2) := by decide +kernel
theorem dX7_told_35 : decode cX7_told 35 = .ok (.getfield 92, 3) := by decide +kernel
theorem dX7_told_38 : decode cX7_told 38 = .ok (.iload_n 2, 1) := by decide +kernel
theorem dX7_told_39 : decode cX7_told 39 = .ok (.if_icmp .eq 6, 3) := by decide +kernel
theorem dX7_told_42 : decode cX7_told 42 = .ok (.bipush (-13), 2) := by decide +kernel
theorem dX7_told_44 : decode cX7_told 44 = .ok (.ireturn, 1) := by decide +kernel
theorem dX7_told_45 : decode cX7_told 45 = .ok (.aload 4, 2) := by decide +kernel
theorem dX7_told_47 : decode cX7_told 47 = .ok (.invokevirtual 88, 3) := by decide +kernel
theorem dX7_told_50 : decode cX7_told 50 = .ok (.ifCond .eq 6, 3) := by decide +kernel
theorem dX7_told_53 : decode cX7_told 53 = .ok (.bipush (-11), 2) := by decide +kernel
theorem dX7_told_55 : decode cX7_told 55 = .ok (.ireturn, 1) := by decide +kernel
theorem dX7_told_56 : decode cX7_told 56 = .ok (.aload 4, 2) := by decide +kernel
theorem dX7_told_58 : decode cX7_told 58 = .ok (.iload_n 3, 1) := by decide +kernel
theorem dX7_told_59 : decode cX7_told 59 = .ok (.aload_n 0, 1) := by decide +kernel
theorem dX7_told_60 : decode cX7_told 60 = .ok (.getfield 33, 3) := by decide +kernel
theorem dX7_told_63 : decode cX7_told 63 = .ok (.invokevirtual 95, 3) := by decide +kernel
theorem dX7_told_66 : decode cX7_told 66 = .ok (.ifCond .ne 6, 3) := by decide +kernel
theorem dX7_told_69 : decode cX7_told 69 = .ok (.bipush (-12), 2) := by decide +kernel
theorem dX7_told_71 : decode cX7_told 71 = .ok (.ireturn, 1) := by decide +kernel
theorem dX7_told_72 : decode cX7_told 72 = .ok (.aload 4, 2) := by decide +kernel
theorem dX7_told_74 : decode cX7_told 74 = .ok (.getfield 99, 3) := by decide +kernel
theorem dX7_told_77 : decode cX7_told 77 = .ok (.iload_n 3, 1) := by decide +kernel
theorem dX7_told_78 : decode cX7_told 78 = .ok (.aload_n 0, 1) := by decide +kernel
theorem dX7_told_79 : decode cX7_told 79 = .ok (.getfield 33, 3) := by decide +kernel
theorem dX7_told_82 : decode cX7_told 82 = .ok (.invokestatic 102, 3) := by decide +kernel
theorem dX7_told_85 : decode cX7_told 85 = .ok (.ifCond .ne 6, 3) := by decide +kernel
theorem dX7_told_88 : decode cX7_told 88 = .ok (.bipush (-3), 2) := by decide +kernel
theorem dX7_told_90 : decode cX7_told 90 = .ok (.ireturn, 1) := by decide +kernel
theorem dX7_told_91 : decode cX7_told 91 = .ok (.aload_n 0, 1) := by decide +kernel
theorem dX7_told_92 : decode cX7_told 92 = .ok (.getfield 37, 3) := by decide +kernel
theorem dX7_told_95 : decode cX7_told 95 = .ok (.bipush 12, 2) := by decide +kernel
theorem dX7_told_97 : decode cX7_told 97 = .ok (.if_icmp .lt 6, 3) := by decide +kernel
theorem dX7_told_100 : decode cX7_told 100 = .ok (.bipush (-4), 2) := by decide +kernel
theorem dX7_told_102 : decode cX7_told 102 = .ok (.ireturn, 1) := by decide +kernel
theorem dX7_told_103 : decode cX7_told 103 = .ok (.aload 4, 2) := by decide +kernel
theorem dX7_told_105 : decode cX7_told 105 = .ok (.getfield 99, 3) := by decide +kernel
theorem dX7_told_108 : decode cX7_told 108 = .ok (.iload_n 3, 1) := by decide +kernel
theorem dX7_told_109 : decode cX7_told 109 = .ok (.aload_n 0, 1) := by decide +kernel
theorem dX7_told_110 : decode cX7_told 110 = .ok (.getfield 11, 3) := by decide +kernel
theorem dX7_told_113 : decode cX7_told 113 = .ok (.aload_n 0, 1) := by decide +kernel
theorem dX7_told_114 : decode cX7_told 114 = .ok (.getfield 37, 3) := by decide +kernel
theorem dX7_told_117 : decode cX7_told 117 = .ok (.aaload, 1) := by decide +kernel
theorem dX7_told_118 : decode cX7_told 118 = .ok (.iconst 0, 1) := by decide +kernel
theorem dX7_told_119 : decode cX7_told 119 = .ok (.aload_n 0, 1) := by decide +kernel
theorem dX7_told_120 : decode cX7_told 120 = .ok (.getfield 33, 3) := by decide +kernel
theorem dX7_told_123 : decode cX7_told 123 = .ok (.invokestatic 106, 3) := by decide +kernel
theorem dX7_told_126 : decode cX7_told 126 = .ok (.aload_n 0, 1) := by decide +kernel
theorem dX7_told_127 : decode cX7_told 127 = .ok (.dup, 1) := by decide +kernel
theorem dX7_told_128 : decode cX7_told 128 = .ok (.getfield 37, 3) := by decide +kernel
theorem dX7_told_131 : decode cX7_told 131 = .ok (.dup_x1, 1) := by decide +kernel
theorem dX7_told_132 : decode cX7_told 132 = .ok (.iconst 1, 1) := by decide +kernel
theorem dX7_told_133 : decode cX7_told 133 = .ok (.iadd, 1) := by decide +kernel
theorem dX7_told_134 : decode cX7_told 134 = .ok (.putfield 37, 3) := by decide +kernel
theorem dX7_told_137 : decode cX7_told 137 = .ok (.ireturn, 1) := by decide +kernel
theorem dX7_card_0 : decode cX7_card 0 = .ok (.aload_n 0, 1) := by decide +kernel
theorem dX7_card_1 : decode cX7_card 1 = .ok (.iload_n 1, 1) := by decide +kernel
theorem dX7_card_2 : decode cX7_card 2 = .ok (.invokevirtual 112, 3) := by decide +kernel
theorem dX7_card_5 : decode cX7_card 5 = .ok (.ifCond .eq 22, 3) := by decide +kernel
theorem dX7_card_8 : decode cX7_card 8 = .ok (.aload_n 0, 1) := by decide +kernel
theorem dX7_card_9 : decode cX7_card 9 = .ok (.iload_n 2, 1) := by decide +kernel
theorem dX7_card_10 : decode cX7_card 10 = .ok (.invokevirtual 115, 3) := by decide +kernel
theorem dX7_card_13 : decode cX7_card 13 = .ok (.ifCond .eq 14, 3) := by decide +kernel
theorem dX7_card_16 : decode cX7_card 16 = .ok (.aload_n 0, 1) := by decide +kernel
theorem dX7_card_17 : decode cX7_card 17 = .ok (.getfield 11, 3) := by decide +kernel
theorem dX7_card_20 : decode cX7_card 20 = .ok (.iload_n 1, 1) := by decide +kernel
theorem dX7_card_21 : decode cX7_card 21 = .ok (.aaload, 1) := by decide +kernel
theorem dX7_card_22 : decode cX7_card 22 = .ok (.iload_n 2, 1) := by decide +kernel
theorem dX7_card_23 : decode cX7_card 23 = .ok (.iaload, 1) := by decide +kernel
theorem dX7_card_24 : decode cX7_card 24 = .ok (.goto 5, 3) := by decide +kernel
theorem dX7_card_27 : decode cX7_card 27 = .ok (.bipush (-2), 2) := by decide +kernel
theorem dX7_card_29 : decode cX7_card 29 = .ok (.ireturn, 1) := by decide +kernel
theorem dX7_packTold_0 : decode cX7_packTold 0 = .ok (.aload_n 0, 1) := by decide +kernel
theorem dX7_packTold_1 : decode cX7_packTold 1 = .ok (.iload_n 1, 1) := by decide +kernel
theorem dX7_packTold_2 : decode cX7_packTold 2 = .ok (.invokevirtual 112, 3) := by decide +kernel
theorem dX7_packTold_5 : decode cX7_packTold 5 = .ok (.ifCond .ne 6, 3) := by decide +kernel
theorem dX7_packTold_8 : decode cX7_packTold 8 = .ok (.bipush (-2), 2) := by decide +kernel
theorem dX7_packTold_10 : decode cX7_packTold 10 = .ok (.ireturn, 1) := by decide +kernel
theorem dX7_packTold_11 : decode cX7_packTold 11 = .ok (.aload_n 0, 1) := by decide +kernel
theorem dX7_packTold_12 : decode cX7_packTold 12 = .ok (.getfield 11, 3) := by decide +kernel
theorem dX7_packTold_15 : decode cX7_packTold 15 = .ok (.iload_n 1, 1) := by decide +kernel
theorem dX7_packTold_16 : decode cX7_packTold 16 = .ok (.aaload, 1) := by decide +kernel
theorem dX7_packTold_17 : decode cX7_packTold 17 = .ok (.aload_n 0, 1) := by decide +kernel
theorem dX7_packTold_18 : decode cX7_packTold 18 = .ok (.getfield 50, 3) := by decide +kernel
theorem dX7_packTold_21 : decode cX7_packTold 21 = .ok (.aload_n 0, 1) := by decide +kernel
theorem dX7_packTold_22 : decode cX7_packTold 22 = .ok (.getfield 33, 3) := by decide +kernel
theorem dX7_packTold_25 : decode cX7_packTold 25 = .ok (.invokestatic 118, 3) := by decide +kernel
theorem dX7_packTold_28 : decode cX7_packTold 28 = .ok (.iload_n 2, 1) := by decide +kernel
theorem dX7_packTold_29 : decode cX7_packTold 29 = .ok (.tableswitch 60 0 2 #[27, 41, 53], 27) := by decide +kernel
theorem dX7_packTold_56 : decode cX7_packTold 56 = .ok (.aload_n 0, 1) := by decide +kernel
theorem dX7_packTold_57 : decode cX7_packTold 57 = .ok (.getfield 11, 3) := by decide +kernel
theorem dX7_packTold_60 : decode cX7_packTold 60 = .ok (.iload_n 1, 1) := by decide +kernel
theorem dX7_packTold_61 : decode cX7_packTold 61 = .ok (.aaload, 1) := by decide +kernel
theorem dX7_packTold_62 : decode cX7_packTold 62 = .ok (.aload_n 0, 1) := by decide +kernel
theorem dX7_packTold_63 : decode cX7_packTold 63 = .ok (.getfield 33, 3) := by decide +kernel
theorem dX7_packTold_66 : decode cX7_packTold 66 = .ok (.invokestatic 122, 3) := by decide +kernel
theorem dX7_packTold_69 : decode cX7_packTold 69 = .ok (.ireturn, 1) := by decide +kernel
theorem dX7_packTold_70 : decode cX7_packTold 70 = .ok (.aload_n 0, 1) := by decide +kernel
theorem dX7_packTold_71 : decode cX7_packTold 71 = .ok (.getfield 50, 3) := by decide +kernel
theorem dX7_packTold_74 : decode cX7_packTold 74 = .ok (.aload_n 0, 1) := by decide +kernel
theorem dX7_packTold_75 : decode cX7_packTold 75 = .ok (.getfield 33, 3) := by decide +kernel
theorem dX7_packTold_78 : decode cX7_packTold 78 = .ok (.invokestatic 126, 3) := by decide +kernel
theorem dX7_packTold_81 : decode cX7_packTold 81 = .ok (.ireturn, 1) := by decide +kernel
theorem dX7_packTold_82 : decode cX7_packTold 82 = .ok (.aload_n 0, 1) := by decide +kernel
theorem dX7_packTold_83 : decode cX7_packTold 83 = .ok (.getfield 50, 3) := by decide +kernel
theorem dX7_packTold_86 : decode cX7_packTold 86 = .ok (.iconst 0, 1) := by decide +kernel
theorem dX7_packTold_87 : decode cX7_packTold 87 = .ok (.iaload, 1) := by decide +kernel
theorem dX7_packTold_88 : decode cX7_packTold 88 = .ok (.ireturn, 1) := by decide +kernel
theorem dX7_packTold_89 : decode cX7_packTold 89 = .ok (.bipush (-2), 2) := by decide +kernel
theorem dX7_packTold_91 : decode cX7_packTold 91 = .ok (.ireturn, 1) := by decide +kernel
theorem dX7_move_0 : decode cX7_move 0 = .ok (.aload_n 0, 1) := by decide +kernel
theorem dX7_move_1 : decode cX7_move 1 = .ok (.iload_n 1, 1) := by decide +kernel
theorem dX7_move_2 : decode cX7_move 2 = .ok (.invokevirtual 112, 3) := by decide +kernel
theorem dX7_move_5 : decode cX7_move 5 = .ok (.ifCond .ne 6, 3) := by decide +kernel
theorem dX7_move_8 : decode cX7_move 8 = .ok (.bipush (-2), 2) := by decide +kernel
theorem dX7_move_10 : decode cX7_move 10 = .ok (.ireturn, 1) := by decide +kernel
theorem dX7_move_11 : decode cX7_move 11 = .ok (.aload_n 0, 1) := by decide +kernel
theorem dX7_move_12 : decode cX7_move 12 = .ok (.getfield 40, 3) := by decide +kernel
theorem dX7_move_15 : decode cX7_move 15 = .ok (.bipush 10, 2) := by decide +kernel
theorem dX7_move_17 : decode cX7_move 17 = .ok (.if_icmp .lt 6, 3) := by decide +kernel
theorem dX7_move_20 : decode cX7_move 20 = .ok (.bipush (-4), 2) := by decide +kernel
theorem dX7_move_22 : decode cX7_move 22 = .ok (.ireturn, 1) := by decide +kernel
theorem dX7_move_23 : decode cX7_move 23 = .ok (.aload_n 0, 1) := by decide +kernel
theorem dX7_move_24 : decode cX7_move 24 = .ok (.getfield 11, 3) := by decide +kernel
theorem dX7_move_27 : decode cX7_move 27 = .ok (.iload_n 1, 1) := by decide +kernel
theorem dX7_move_28 : decode cX7_move 28 = .ok (.aaload, 1) := by decide +kernel
theorem dX7_move_29 : decode cX7_move 29 = .ok (.iconst 0, 1) := by decide +kernel
theorem dX7_move_30 : decode cX7_move 30 = .ok (.aload_n 0, 1) := by decide +kernel
theorem dX7_move_31 : decode cX7_move 31 = .ok (.getfield 16, 3) := by decide +kernel
theorem dX7_move_34 : decode cX7_move 34 = .ok (.aload_n 0, 1) := by decide +kernel
theorem dX7_move_35 : decode cX7_move 35 = .ok (.getfield 40, 3) := by decide +kernel
theorem dX7_move_38 : decode cX7_move 38 = .ok (.aaload, 1) := by decide +kernel
theorem dX7_move_39 : decode cX7_move 39 = .ok (.getfield 129, 3) := by decide +kernel
theorem dX7_move_42 : decode cX7_move 42 = .ok (.iconst 0, 1) := by decide +kernel
theorem dX7_move_43 : decode cX7_move 43 = .ok (.aload_n 0, 1) := by decide +kernel
theorem dX7_move_44 : decode cX7_move 44 = .ok (.getfield 33, 3) := by decide +kernel
theorem dX7_move_47 : decode cX7_move 47 = .ok (.invokestatic 106, 3) := by decide +kernel
theorem dX7_move_50 : decode cX7_move 50 = .ok (.aload_n 0, 1) := by decide +kernel
theorem dX7_move_51 : decode cX7_move 51 = .ok (.iconst 0, 1) := by decide +kernel
theorem dX7_move_52 : decode cX7_move 52 = .ok (.iconst 2, 1) := by decide +kernel
theorem dX7_move_53 : decode cX7_move 53 = .ok (.invokevirtual 132, 3) := by decide +kernel
theorem dX7_move_56 : decode cX7_move 56 = .ok (.ireturn, 1) := by decide +kernel
theorem dX7_perfect_0 : decode cX7_perfect 0 = .ok (.iload_n 1, 1) := by decide +kernel
theorem dX7_perfect_1 : decode cX7_perfect 1 = .ok (.ifCond .eq 11, 3) := by decide +kernel
theorem dX7_perfect_4 : decode cX7_perfect 4 = .ok (.iload_n 1, 1) := by decide +kernel
theorem dX7_perfect_5 : decode cX7_perfect 5 = .ok (.iconst 1, 1) := by decide +kernel
theorem dX7_perfect_6 : decode cX7_perfect 6 = .ok (.if_icmp .eq 6, 3) := by decide +kernel
theorem dX7_perfect_9 : decode cX7_perfect 9 = .ok (.bipush (-2), 2) := by decide +kernel
theorem dX7_perfect_11 : decode cX7_perfect 11 = .ok (.ireturn, 1) := by decide +kernel
theorem dX7_perfect_12 : decode cX7_perfect 12 = .ok (.aload_n 0, 1) := by decide +kernel
theorem dX7_perfect_13 : decode cX7_perfect 13 = .ok (.invokevirtual 136, 3) := by decide +kernel
theorem dX7_perfect_16 : decode cX7_perfect 16 = .ok (.ifCond .eq 6, 3) := by decide +kernel
theorem dX7_perfect_19 : decode cX7_perfect 19 = .ok (.bipush (-3), 2) := by decide +kernel
theorem dX7_perfect_21 : decode cX7_perfect 21 = .ok (.ireturn, 1) := by decide +kernel
theorem dX7_perfect_22 : decode cX7_perfect 22 = .ok (.aload_n 0, 1) := by decide +kernel
theorem dX7_perfect_23 : decode cX7_perfect 23 = .ok (.getfield 40, 3) := by decide +kernel
theorem dX7_perfect_26 : decode cX7_perfect 26 = .ok (.bipush 10, 2) := by decide +kernel
theorem dX7_perfect_28 : decode cX7_perfect 28 = .ok (.if_icmp .lt 6, 3) := by decide +kernel
theorem dX7_perfect_31 : decode cX7_perfect 31 = .ok (.bipush (-4), 2) := by decide +kernel
theorem dX7_perfect_33 : decode cX7_perfect 33 = .ok (.ireturn, 1) := by decide +kernel
theorem dX7_perfect_34 : decode cX7_perfect 34 = .ok (.aload_n 0, 1) := by decide +kernel
theorem dX7_perfect_35 : decode cX7_perfect 35 = .ok (.getfield 16, 3) := by decide +kernel
theorem dX7_perfect_38 : decode cX7_perfect 38 = .ok (.aload_n 0, 1) := by decide +kernel
theorem dX7_perfect_39 : decode cX7_perfect 39 = .ok (.getfield 40, 3) := by decide +kernel
theorem dX7_perfect_42 : decode cX7_perfect 42 = .ok (.aaload, 1) := by decide +kernel
theorem dX7_perfect_43 : decode cX7_perfect 43 = .ok (.getfield 129, 3) := by decide +kernel
theorem dX7_perfect_46 : decode cX7_perfect 46 = .ok (.astore_n 2, 1) := by decide +kernel
theorem dX7_perfect_47 : decode cX7_perfect 47 = .ok (.iconst 0, 1) := by decide +kernel
theorem dX7_perfect_48 : decode cX7_perfect 48 = .ok (.istore_n 3, 1) := by decide +kernel
theorem dX7_perfect_49 : decode cX7_perfect 49 = .ok (.iload_n 3, 1) := by decide +kernel
theorem dX7_perfect_50 : decode cX7_perfect 50 = .ok (.aload_n 0, 1) := by decide +kernel
theorem dX7_perfect_51 : decode cX7_perfect 51 = .ok (.getfield 33, 3) := by decide +kernel
theorem dX7_perfect_54 : decode cX7_perfect 54 = .ok (.if_icmp .ge 21, 3) := by decide +kernel
theorem dX7_perfect_57 : decode cX7_perfect 57 = .ok (.aload_n 2, 1) := by decide +kernel
theorem dX7_perfect_58 : decode cX7_perfect 58 = .ok (.iload_n 3, 1) := by decide +kernel
theorem dX7_perfect_59 : decode cX7_perfect 59 = .ok (.iload_n 1, 1) := by decide +kernel
theorem dX7_perfect_60 : decode cX7_perfect 60 = .ok (.aload_n 0, 1) := by decide +kernel
theorem dX7_perfect_61 : decode cX7_perfect 61 = .ok (.getfield 33, 3) := by decide +kernel
theorem dX7_perfect_64 : decode cX7_perfect 64 = .ok (.invokestatic 139, 3) := by decide +kernel
theorem dX7_perfect_67 : decode cX7_perfect 67 = .ok (.iload_n 3, 1) := by decide +kernel
theorem dX7_perfect_68 : decode cX7_perfect 68 = .ok (.iastore, 1) := by decide +kernel
theorem dX7_perfect_69 : decode cX7_perfect 69 = .ok (.iinc 3 1, 3) := by decide +kernel
theorem dX7_perfect_72 : decode cX7_perfect 72 = .ok (.goto (-23), 3) := by decide +kernel
theorem dX7_perfect_75 : decode cX7_perfect 75 = .ok (.aload_n 0, 1) := by decide +kernel
theorem dX7_perfect_76 : decode cX7_perfect 76 = .ok (.iconst 1, 1) := by decide +kernel
theorem dX7_perfect_77 : decode cX7_perfect 77 = .ok (.iconst 2, 1) := by decide +kernel
theorem dX7_perfect_78 : decode cX7_perfect 78 = .ok (.invokevirtual 132, 3) := by decide +kernel
theorem dX7_perfect_81 : decode cX7_perfect 81 = .ok (.ireturn, 1) := by decide +kernel
theorem dX7_deal_0 : decode cX7_deal 0 = .ok (.iload_n 1, 1) := by decide +kernel
theorem dX7_deal_1 : decode cX7_deal 1 = .ok (.iconst 1, 1) := by decide +kernel
theorem dX7_deal_2 : decode cX7_deal 2 = .ok (.if_icmp .lt 11, 3) := by decide +kernel
theorem dX7_deal_5 : decode cX7_deal 5 = .ok (.iload_n 1, 1) := by decide +kernel
theorem dX7_deal_6 : decode cX7_deal 6 = .ok (.aload_n 0, 1) := by decide +kernel
theorem dX7_deal_7 : decode cX7_deal 7 = .ok (.getfield 33, 3) := by decide +kernel
theorem dX7_deal_10 : decode cX7_deal 10 = .ok (.if_icmp .le 6, 3) := by decide +kernel
theorem dX7_deal_13 : decode cX7_deal 13 = .ok (.bipush (-2), 2) := by decide +kernel
theorem dX7_deal_15 : decode cX7_deal 15 = .ok (.ireturn, 1) := by decide +kernel
theorem dX7_deal_16 : decode cX7_deal 16 = .ok (.aload_n 0, 1) := by decide +kernel
theorem dX7_deal_17 : decode cX7_deal 17 = .ok (.getfield 40, 3) := by decide +kernel
theorem dX7_deal_20 : decode cX7_deal 20 = .ok (.bipush 10, 2) := by decide +kernel
theorem dX7_deal_22 : decode cX7_deal 22 = .ok (.if_icmp .lt 6, 3) := by decide +kernel
theorem dX7_deal_25 : decode cX7_deal 25 = .ok (.bipush (-4), 2) := by decide +kernel
theorem dX7_deal_27 : decode cX7_deal 27 = .ok (.ireturn, 1) := by decide +kernel
theorem dX7_deal_28 : decode cX7_deal 28 = .ok (.aload_n 0, 1) := by decide +kernel
theorem dX7_deal_29 : decode cX7_deal 29 = .ok (.getfield 16, 3) := by decide +kernel
theorem dX7_deal_32 : decode cX7_deal 32 = .ok (.aload_n 0, 1) := by decide +kernel
theorem dX7_deal_33 : decode cX7_deal 33 = .ok (.getfield 40, 3) := by decide +kernel
theorem dX7_deal_36 : decode cX7_deal 36 = .ok (.aaload, 1) := by decide +kernel
theorem dX7_deal_37 : decode cX7_deal 37 = .ok (.getfield 129, 3) := by decide +kernel
theorem dX7_deal_40 : decode cX7_deal 40 = .ok (.aload_n 0, 1) := by decide +kernel
theorem dX7_deal_41 : decode cX7_deal 41 = .ok (.getfield 33, 3) := by decide +kernel
theorem dX7_deal_44 : decode cX7_deal 44 = .ok (.iload_n 1, 1) := by decide +kernel
theorem dX7_deal_45 : decode cX7_deal 45 = .ok (.invokestatic 145, 3) := by decide +kernel
theorem dX7_deal_48 : decode cX7_deal 48 = .ok (.aload_n 0, 1) := by decide +kernel
theorem dX7_deal_49 : decode cX7_deal 49 = .ok (.iconst 2, 1) := by decide +kernel
theorem dX7_deal_50 : decode cX7_deal 50 = .ok (.iload_n 1, 1) := by decide +kernel
theorem dX7_deal_51 : decode cX7_deal 51 = .ok (.invokevirtual 132, 3) := by decide +kernel
theorem dX7_deal_54 : decode cX7_deal 54 = .ok (.ireturn, 1) := by decide +kernel
theorem dX7_riffle_0 : decode cX7_riffle 0 = .ok (.iload_n 1, 1) := by decide +kernel
theorem dX7_riffle_1 : decode cX7_riffle 1 = .ok (.iconst 1, 1) := by decide +kernel
theorem dX7_riffle_2 : decode cX7_riffle 2 = .ok (.if_icmp .lt 9, 3) := by decide +kernel
theorem dX7_riffle_5 : decode cX7_riffle 5 = .ok (.iload_n 1, 1) := by decide +kernel
theorem dX7_riffle_6 : decode cX7_riffle 6 = .ok (.bipush 10, 2) := by decide +kernel
theorem dX7_riffle_8 : decode cX7_riffle 8 = .ok (.if_icmp .le 6, 3) := by decide +kernel
theorem dX7_riffle_11 : decode cX7_riffle 11 = .ok (.bipush (-2), 2) := by decide +kernel
theorem dX7_riffle_13 : decode cX7_riffle 13 = .ok (.ireturn, 1) := by decide +kernel
theorem dX7_riffle_14 : decode cX7_riffle 14 = .ok (.aload_n 0, 1) := by decide +kernel
theorem dX7_riffle_15 : decode cX7_riffle 15 = .ok (.getfield 40, 3) := by decide +kernel
theorem dX7_riffle_18 : decode cX7_riffle 18 = .ok (.bipush 10, 2) := by decide +kernel
theorem dX7_riffle_20 : decode cX7_riffle 20 = .ok (.if_icmp .lt 8, 3) := by decide +kernel
theorem dX7_riffle_23 : decode cX7_riffle 23 = .ok (.bipush (-4), 2) := by decide +kernel
theorem dX7_riffle_25 : decode cX7_riffle 25 = .ok (.goto 9, 3) := by decide +kernel
theorem dX7_riffle_28 : decode cX7_riffle 28 = .ok (.aload_n 0, 1) := by decide +kernel
theorem dX7_riffle_29 : decode cX7_riffle 29 = .ok (.iconst 3, 1) := by decide +kernel
theorem dX7_riffle_30 : decode cX7_riffle 30 = .ok (.iload_n 1, 1) := by decide +kernel
theorem dX7_riffle_31 : decode cX7_riffle 31 = .ok (.invokevirtual 132, 3) := by decide +kernel
theorem dX7_riffle_34 : decode cX7_riffle 34 = .ok (.ireturn, 1) := by decide +kernel
theorem dX7_top_0 : decode cX7_top 0 = .ok (.aload_n 0, 1) := by decide +kernel
theorem dX7_top_1 : decode cX7_top 1 = .ok (.getfield 40, 3) := by decide +kernel
theorem dX7_top_4 : decode cX7_top 4 = .ok (.bipush 10, 2) := by decide +kernel
theorem dX7_top_6 : decode cX7_top 6 = .ok (.if_icmp .lt 8, 3) := by decide +kernel
theorem dX7_top_9 : decode cX7_top 9 = .ok (.bipush (-4), 2) := by decide +kernel
theorem dX7_top_11 : decode cX7_top 11 = .ok (.goto 12, 3) := by decide +kernel
theorem dX7_top_14 : decode cX7_top 14 = .ok (.aload_n 0, 1) := by decide +kernel
theorem dX7_top_15 : decode cX7_top 15 = .ok (.iconst 4, 1) := by decide +kernel
theorem dX7_top_16 : decode cX7_top 16 = .ok (.aload_n 0, 1) := by decide +kernel
theorem dX7_top_17 : decode cX7_top 17 = .ok (.getfield 33, 3) := by decide +kernel
theorem dX7_top_20 : decode cX7_top 20 = .ok (.invokevirtual 132, 3) := by decide +kernel
theorem dX7_top_23 : decode cX7_top 23 = .ok (.ireturn, 1) := by decide +kernel
theorem dX7_behind_0 : decode cX7_behind 0 = .ok (.aload_n 0, 1) := by decide +kernel
theorem dX7_behind_1 : decode cX7_behind 1 = .ok (.iload_n 1, 1) := by decide +kernel
theorem dX7_behind_2 : decode cX7_behind 2 = .ok (.invokevirtual 148, 3) := by decide +kernel
theorem dX7_behind_5 : decode cX7_behind 5 = .ok (.ifCond .eq 11, 3) := by decide +kernel
theorem dX7_behind_8 : decode cX7_behind 8 = .ok (.aload_n 0, 1) := by decide +kernel
theorem dX7_behind_9 : decode cX7_behind 9 = .ok (.iload_n 2, 1) := by decide +kernel
theorem dX7_behind_10 : decode cX7_behind 10 = .ok (.invokevirtual 148, 3) := by decide +kernel
theorem dX7_behind_13 : decode cX7_behind 13 = .ok (.ifCond .ne 6, 3) := by decide +kernel
theorem dX7_behind_16 : decode cX7_behind 16 = .ok (.bipush (-2), 2) := by decide +kernel
theorem dX7_behind_18 : decode cX7_behind 18 = .ok (.ireturn, 1) := by decide +kernel
theorem dX7_behind_19 : decode cX7_behind 19 = .ok (.aload_n 0, 1) := by decide +kernel
theorem dX7_behind_20 : decode cX7_behind 20 = .ok (.getfield 16, 3) := by decide +kernel
theorem dX7_behind_23 : decode cX7_behind 23 = .ok (.iload_n 1, 1) := by decide +kernel
theorem dX7_behind_24 : decode cX7_behind 24 = .ok (.aaload, 1) := by decide +kernel
theorem dX7_behind_25 : decode cX7_behind 25 = .ok (.invokevirtual 151, 3) := by decide +kernel
theorem dX7_behind_28 : decode cX7_behind 28 = .ok (.ifCond .eq 15, 3) := by decide +kernel
theorem dX7_behind_31 : decode cX7_behind 31 = .ok (.aload_n 0, 1) := by decide +kernel
theorem dX7_behind_32 : decode cX7_behind 32 = .ok (.getfield 16, 3) := by decide +kernel
theorem dX7_behind_35 : decode cX7_behind 35 = .ok (.iload_n 2, 1) := by decide +kernel
theorem dX7_behind_36 : decode cX7_behind 36 = .ok (.aaload, 1) := by decide +kernel
theorem dX7_behind_37 : decode cX7_behind 37 = .ok (.invokevirtual 151, 3) := by decide +kernel
theorem dX7_behind_40 : decode cX7_behind 40 = .ok (.ifCond .ne 6, 3) := by decide +kernel
theorem dX7_behind_43 : decode cX7_behind 43 = .ok (.bipush (-3), 2) := by decide +kernel
theorem dX7_behind_45 : decode cX7_behind 45 = .ok (.ireturn, 1) := by decide +kernel
theorem dX7_behind_46 : decode cX7_behind 46 = .ok (.aload_n 0, 1) := by decide +kernel
theorem dX7_behind_47 : decode cX7_behind 47 = .ok (.getfield 40, 3) := by decide +kernel
theorem dX7_behind_50 : decode cX7_behind 50 = .ok (.bipush 10, 2) := by decide +kernel
theorem dX7_behind_52 : decode cX7_behind 52 = .ok (.if_icmp .lt 6, 3) := by decide +kernel
theorem dX7_behind_55 : decode cX7_behind 55 = .ok (.bipush (-4), 2) := by decide +kernel
theorem dX7_behind_57 : decode cX7_behind 57 = .ok (.ireturn, 1) := by decide +kernel
theorem dX7_behind_58 : decode cX7_behind 58 = .ok (.aload_n 0, 1) := by decide +kernel
theorem dX7_behind_59 : decode cX7_behind 59 = .ok (.getfield 16, 3) := by decide +kernel
theorem dX7_behind_62 : decode cX7_behind 62 = .ok (.iload_n 1, 1) := by decide +kernel
theorem dX7_behind_63 : decode cX7_behind 63 = .ok (.aaload, 1) := by decide +kernel
theorem dX7_behind_64 : decode cX7_behind 64 = .ok (.getfield 129, 3) := by decide +kernel
theorem dX7_behind_67 : decode cX7_behind 67 = .ok (.aload_n 0, 1) := by decide +kernel
theorem dX7_behind_68 : decode cX7_behind 68 = .ok (.getfield 16, 3) := by decide +kernel
theorem dX7_behind_71 : decode cX7_behind 71 = .ok (.iload_n 2, 1) := by decide +kernel
theorem dX7_behind_72 : decode cX7_behind 72 = .ok (.aaload, 1) := by decide +kernel
theorem dX7_behind_73 : decode cX7_behind 73 = .ok (.getfield 129, 3) := by decide +kernel
theorem dX7_behind_76 : decode cX7_behind 76 = .ok (.aload_n 0, 1) := by decide +kernel
theorem dX7_behind_77 : decode cX7_behind 77 = .ok (.getfield 16, 3) := by decide +kernel
theorem dX7_behind_80 : decode cX7_behind 80 = .ok (.aload_n 0, 1) := by decide +kernel
theorem dX7_behind_81 : decode cX7_behind 81 = .ok (.getfield 40, 3) := by decide +kernel
theorem dX7_behind_84 : decode cX7_behind 84 = .ok (.aaload, 1) := by decide +kernel
theorem dX7_behind_85 : decode cX7_behind 85 = .ok (.getfield 129, 3) := by decide +kernel
theorem dX7_behind_88 : decode cX7_behind 88 = .ok (.aload_n 0, 1) := by decide +kernel
theorem dX7_behind_89 : decode cX7_behind 89 = .ok (.getfield 33, 3) := by decide +kernel
theorem dX7_behind_92 : decode cX7_behind 92 = .ok (.invokestatic 154, 3) := by decide +kernel
theorem dX7_behind_95 : decode cX7_behind 95 = .ok (.aload_n 0, 1) := by decide +kernel
theorem dX7_behind_96 : decode cX7_behind 96 = .ok (.iconst 0, 1) := by decide +kernel
theorem dX7_behind_97 : decode cX7_behind 97 = .ok (.iconst 2, 1) := by decide +kernel
theorem dX7_behind_98 : decode cX7_behind 98 = .ok (.invokevirtual 132, 3) := by decide +kernel
theorem dX7_behind_101 : decode cX7_behind 101 = .ok (.ireturn, 1) := by decide +kernel
theorem dX7_back_0 : decode cX7_back 0 = .ok (.aload_n 0, 1) := by decide +kernel
theorem dX7_back_1 : decode cX7_back 1 = .ok (.iload_n 1, 1) := by decide +kernel
theorem dX7_back_2 : decode cX7_back 2 = .ok (.invokevirtual 148, 3) := by decide +kernel
theorem dX7_back_5 : decode cX7_back 5 = .ok (.ifCond .ne 6, 3) := by decide +kernel
theorem dX7_back_8 : decode cX7_back 8 = .ok (.bipush (-2), 2) := by decide +kernel
theorem dX7_back_10 : decode cX7_back 10 = .ok (.ireturn, 1) := by decide +kernel
theorem dX7_back_11 : decode cX7_back 11 = .ok (.aload_n 0, 1) := by decide +kernel
theorem dX7_back_12 : decode cX7_back 12 = .ok (.getfield 16, 3) := by decide +kernel
theorem dX7_back_15 : decode cX7_back 15 = .ok (.iload_n 1, 1) := by decide +kernel
theorem dX7_back_16 : decode cX7_back 16 = .ok (.aaload, 1) := by decide +kernel
theorem dX7_back_17 : decode cX7_back 17 = .ok (.invokevirtual 151, 3) := by decide +kernel
theorem dX7_back_20 : decode cX7_back 20 = .ok (.ifCond .ne 6, 3) := by decide +kernel
theorem dX7_back_23 : decode cX7_back 23 = .ok (.bipush (-3), 2) := by decide +kernel
theorem dX7_back_25 : decode cX7_back 25 = .ok (.ireturn, 1) := by decide +kernel
theorem dX7_back_26 : decode cX7_back 26 = .ok (.aload_n 0, 1) := by decide +kernel
theorem dX7_back_27 : decode cX7_back 27 = .ok (.getfield 40, 3) := by decide +kernel
theorem dX7_back_30 : decode cX7_back 30 = .ok (.bipush 10, 2) := by decide +kernel
theorem dX7_back_32 : decode cX7_back 32 = .ok (.if_icmp .lt 6, 3) := by decide +kernel
theorem dX7_back_35 : decode cX7_back 35 = .ok (.bipush (-4), 2) := by decide +kernel
theorem dX7_back_37 : decode cX7_back 37 = .ok (.ireturn, 1) := by decide +kernel
theorem dX7_back_38 : decode cX7_back 38 = .ok (.aload_n 0, 1) := by decide +kernel
theorem dX7_back_39 : decode cX7_back 39 = .ok (.getfield 16, 3) := by decide +kernel
theorem dX7_back_42 : decode cX7_back 42 = .ok (.iload_n 1, 1) := by decide +kernel
theorem dX7_back_43 : decode cX7_back 43 = .ok (.aaload, 1) := by decide +kernel
theorem dX7_back_44 : decode cX7_back 44 = .ok (.getfield 129, 3) := by decide +kernel
theorem dX7_back_47 : decode cX7_back 47 = .ok (.aload_n 0, 1) := by decide +kernel
theorem dX7_back_48 : decode cX7_back 48 = .ok (.getfield 16, 3) := by decide +kernel
theorem dX7_back_51 : decode cX7_back 51 = .ok (.aload_n 0, 1) := by decide +kernel
theorem dX7_back_52 : decode cX7_back 52 = .ok (.getfield 40, 3) := by decide +kernel
theorem dX7_back_55 : decode cX7_back 55 = .ok (.aaload, 1) := by decide +kernel
theorem dX7_back_56 : decode cX7_back 56 = .ok (.getfield 129, 3) := by decide +kernel
theorem dX7_back_59 : decode cX7_back 59 = .ok (.aload_n 0, 1) := by decide +kernel
theorem dX7_back_60 : decode cX7_back 60 = .ok (.getfield 33, 3) := by decide +kernel
theorem dX7_back_63 : decode cX7_back 63 = .ok (.invokestatic 118, 3) := by decide +kernel
theorem dX7_back_66 : decode cX7_back 66 = .ok (.aload_n 0, 1) := by decide +kernel
theorem dX7_back_67 : decode cX7_back 67 = .ok (.iconst 0, 1) := by decide +kernel
theorem dX7_back_68 : decode cX7_back 68 = .ok (.iconst 2, 1) := by decide +kernel
theorem dX7_back_69 : decode cX7_back 69 = .ok (.invokevirtual 132, 3) := by decide +kernel
theorem dX7_back_72 : decode cX7_back 72 = .ok (.ireturn, 1) := by decide +kernel
theorem dX7_moves_0 : decode cX7_moves 0 = .ok (.aload_n 0, 1) := by decide +kernel
theorem dX7_moves_1 : decode cX7_moves 1 = .ok (.iload_n 1, 1) := by decide +kernel
theorem dX7_moves_2 : decode cX7_moves 2 = .ok (.invokevirtual 148, 3) := by decide +kernel
theorem dX7_moves_5 : decode cX7_moves 5 = .ok (.ifCond .eq 11, 3) := by decide +kernel
theorem dX7_moves_8 : decode cX7_moves 8 = .ok (.aload_n 0, 1) := by decide +kernel
theorem dX7_moves_9 : decode cX7_moves 9 = .ok (.iload_n 2, 1) := by decide +kernel
theorem dX7_moves_10 : decode cX7_moves 10 = .ok (.invokevirtual 115, 3) := by decide +kernel
theorem dX7_moves_13 : decode cX7_moves 13 = .ok (.ifCond .ne 6, 3) := by decide +kernel
theorem dX7_moves_16 : decode cX7_moves 16 = .ok (.bipush (-2), 2) := by decide +kernel
theorem dX7_moves_18 : decode cX7_moves 18 = .ok (.ireturn, 1) := by decide +kernel
theorem dX7_moves_19 : decode cX7_moves 19 = .ok (.aload_n 0, 1) := by decide +kernel
theorem dX7_moves_20 : decode cX7_moves 20 = .ok (.getfield 16, 3) := by decide +kernel
theorem dX7_moves_23 : decode cX7_moves 23 = .ok (.iload_n 1, 1) := by decide +kernel
theorem dX7_moves_24 : decode cX7_moves 24 = .ok (.aaload, 1) := by decide +kernel
theorem dX7_moves_25 : decode cX7_moves 25 = .ok (.invokevirtual 151, 3) := by decide +kernel
theorem dX7_moves_28 : decode cX7_moves 28 = .ok (.ifCond .eq 17, 3) := by decide +kernel
theorem dX7_moves_31 : decode cX7_moves 31 = .ok (.aload_n 0, 1) := by decide +kernel
theorem dX7_moves_32 : decode cX7_moves 32 = .ok (.getfield 16, 3) := by decide +kernel
theorem dX7_moves_35 : decode cX7_moves 35 = .ok (.iload_n 1, 1) := by decide +kernel
theorem dX7_moves_36 : decode cX7_moves 36 = .ok (.aaload, 1) := by decide +kernel
theorem dX7_moves_37 : decode cX7_moves 37 = .ok (.getfield 129, 3) := by decide +kernel
theorem dX7_moves_40 : decode cX7_moves 40 = .ok (.iload_n 2, 1) := by decide +kernel
theorem dX7_moves_41 : decode cX7_moves 41 = .ok (.iaload, 1) := by decide +kernel
theorem dX7_moves_42 : decode cX7_moves 42 = .ok (.goto 4, 3) := by decide +kernel
theorem dX7_moves_45 : decode cX7_moves 45 = .ok (.iconst (-1), 1) := by decide +kernel
theorem dX7_moves_46 : decode cX7_moves 46 = .ok (.ireturn, 1) := by decide +kernel
theorem dX7_shuffleTold_0 : decode cX7_shuffleTold 0 = .ok (.aload_n 0, 1) := by decide +kernel
theorem dX7_shuffleTold_1 : decode cX7_shuffleTold 1 = .ok (.iload_n 1, 1) := by decide +kernel
theorem dX7_shuffleTold_2 : decode cX7_shuffleTold 2 = .ok (.invokevirtual 148, 3) := by decide +kernel
theorem dX7_shuffleTold_5 : decode cX7_shuffleTold 5 = .ok (.ifCond .ne 6, 3) := by decide +kernel
theorem dX7_shuffleTold_8 : decode cX7_shuffleTold 8 = .ok (.bipush (-2), 2) := by decide +kernel
theorem dX7_shuffleTold_10 : decode cX7_shuffleTold 10 = .ok (.ireturn, 1) := by decide +kernel
theorem dX7_shuffleTold_11 : decode cX7_shuffleTold 11 = .ok (.aload_n 0, 1) := by decide +kernel
theorem dX7_shuffleTold_12 : decode cX7_shuffleTold 12 = .ok (.getfield 16, 3) := by decide +kernel
theorem dX7_shuffleTold_15 : decode cX7_shuffleTold 15 = .ok (.iload_n 1, 1) := by decide +kernel
theorem dX7_shuffleTold_16 : decode cX7_shuffleTold 16 = .ok (.aaload, 1) := by decide +kernel
theorem dX7_shuffleTold_17 : decode cX7_shuffleTold 17 = .ok (.astore_n 3, 1) := by decide +kernel
theorem dX7_shuffleTold_18 : decode cX7_shuffleTold 18 = .ok (.iload_n 2, 1) := by decide +kernel
theorem dX7_shuffleTold_19 : decode cX7_shuffleTold 19 = .ok (.tableswitch 85 0 3 #[29, 34, 39, 62], 29) := by decide +kernel
theorem dX7_shuffleTold_48 : decode cX7_shuffleTold 48 = .ok (.aload_n 3, 1) := by decide +kernel
theorem dX7_shuffleTold_49 : decode cX7_shuffleTold 49 = .ok (.getfield 158, 3) := by decide +kernel
theorem dX7_shuffleTold_52 : decode cX7_shuffleTold 52 = .ok (.ireturn, 1) := by decide +kernel
theorem dX7_shuffleTold_53 : decode cX7_shuffleTold 53 = .ok (.aload_n 3, 1) := by decide +kernel
theorem dX7_shuffleTold_54 : decode cX7_shuffleTold 54 = .ok (.getfield 161, 3) := by decide +kernel
theorem dX7_shuffleTold_57 : decode cX7_shuffleTold 57 = .ok (.ireturn, 1) := by decide +kernel
theorem dX7_shuffleTold_58 : decode cX7_shuffleTold 58 = .ok (.aload_n 3, 1) := by decide +kernel
theorem dX7_shuffleTold_59 : decode cX7_shuffleTold 59 = .ok (.invokevirtual 151, 3) := by decide +kernel
theorem dX7_shuffleTold_62 : decode cX7_shuffleTold 62 = .ok (.ifCond .eq 17, 3) := by decide +kernel
theorem dX7_shuffleTold_65 : decode cX7_shuffleTold 65 = .ok (.aload_n 3, 1) := by decide +kernel
theorem dX7_shuffleTold_66 : decode cX7_shuffleTold 66 = .ok (.getfield 129, 3) := by decide +kernel
theorem dX7_shuffleTold_69 : decode cX7_shuffleTold 69 = .ok (.aload_n 0, 1) := by decide +kernel
theorem dX7_shuffleTold_70 : decode cX7_shuffleTold 70 = .ok (.getfield 33, 3) := by decide +kernel
theorem dX7_shuffleTold_73 : decode cX7_shuffleTold 73 = .ok (.invokestatic 164, 3) := by decide +kernel
theorem dX7_shuffleTold_76 : decode cX7_shuffleTold 76 = .ok (.goto 4, 3) := by decide +kernel
theorem dX7_shuffleTold_79 : decode cX7_shuffleTold 79 = .ok (.iconst (-1), 1) := by decide +kernel
theorem dX7_shuffleTold_80 : decode cX7_shuffleTold 80 = .ok (.ireturn, 1) := by decide +kernel
theorem dX7_shuffleTold_81 : decode cX7_shuffleTold 81 = .ok (.aload_n 3, 1) := by decide +kernel
theorem dX7_shuffleTold_82 : decode cX7_shuffleTold 82 = .ok (.invokevirtual 151, 3) := by decide +kernel
theorem dX7_shuffleTold_85 : decode cX7_shuffleTold 85 = .ok (.ifCond .eq 17, 3) := by decide +kernel
theorem dX7_shuffleTold_88 : decode cX7_shuffleTold 88 = .ok (.aload_n 3, 1) := by decide +kernel
theorem dX7_shuffleTold_89 : decode cX7_shuffleTold 89 = .ok (.getfield 129, 3) := by decide +kernel
theorem dX7_shuffleTold_92 : decode cX7_shuffleTold 92 = .ok (.aload_n 0, 1) := by decide +kernel
theorem dX7_shuffleTold_93 : decode cX7_shuffleTold 93 = .ok (.getfield 33, 3) := by decide +kernel
theorem dX7_shuffleTold_96 : decode cX7_shuffleTold 96 = .ok (.invokestatic 169, 3) := by decide +kernel
theorem dX7_shuffleTold_99 : decode cX7_shuffleTold 99 = .ok (.goto 4, 3) := by decide +kernel
theorem dX7_shuffleTold_102 : decode cX7_shuffleTold 102 = .ok (.iconst (-1), 1) := by decide +kernel
theorem dX7_shuffleTold_103 : decode cX7_shuffleTold 103 = .ok (.ireturn, 1) := by decide +kernel
theorem dX7_shuffleTold_104 : decode cX7_shuffleTold 104 = .ok (.bipush (-2), 2) := by decide +kernel
theorem dX7_shuffleTold_106 : decode cX7_shuffleTold 106 = .ok (.ireturn, 1) := by decide +kernel
theorem dX7_power_0 : decode cX7_power 0 = .ok (.aload_n 0, 1) := by decide +kernel
theorem dX7_power_1 : decode cX7_power 1 = .ok (.iload_n 1, 1) := by decide +kernel
theorem dX7_power_2 : decode cX7_power 2 = .ok (.invokevirtual 148, 3) := by decide +kernel
theorem dX7_power_5 : decode cX7_power 5 = .ok (.ifCond .eq 18, 3) := by decide +kernel
theorem dX7_power_8 : decode cX7_power 8 = .ok (.aload_n 0, 1) := by decide +kernel
theorem dX7_power_9 : decode cX7_power 9 = .ok (.iload 4, 2) := by decide +kernel
theorem dX7_power_11 : decode cX7_power 11 = .ok (.invokevirtual 115, 3) := by decide +kernel
theorem dX7_power_14 : decode cX7_power 14 = .ok (.ifCond .eq 9, 3) := by decide +kernel
theorem dX7_power_17 : decode cX7_power 17 = .ok (.lload_n 2, 1) := by decide +kernel
theorem dX7_power_18 : decode cX7_power 18 = .ok (.lconst 0, 1) := by decide +kernel
theorem dX7_power_19 : decode cX7_power 19 = .ok (.lcmp, 1) := by decide +kernel
theorem dX7_power_20 : decode cX7_power 20 = .ok (.ifCond .ge 6, 3) := by decide +kernel
theorem dX7_power_23 : decode cX7_power 23 = .ok (.bipush (-2), 2) := by decide +kernel
theorem dX7_power_25 : decode cX7_power 25 = .ok (.ireturn, 1) := by decide +kernel
theorem dX7_power_26 : decode cX7_power 26 = .ok (.aload_n 0, 1) := by decide +kernel
theorem dX7_power_27 : decode cX7_power 27 = .ok (.getfield 16, 3) := by decide +kernel
theorem dX7_power_30 : decode cX7_power 30 = .ok (.iload_n 1, 1) := by decide +kernel
theorem dX7_power_31 : decode cX7_power 31 = .ok (.aaload, 1) := by decide +kernel
theorem dX7_power_32 : decode cX7_power 32 = .ok (.invokevirtual 151, 3) := by decide +kernel
theorem dX7_power_35 : decode cX7_power 35 = .ok (.ifCond .eq 25, 3) := by decide +kernel
theorem dX7_power_38 : decode cX7_power 38 = .ok (.aload_n 0, 1) := by decide +kernel
theorem dX7_power_39 : decode cX7_power 39 = .ok (.getfield 16, 3) := by decide +kernel
theorem dX7_power_42 : decode cX7_power 42 = .ok (.iload_n 1, 1) := by decide +kernel
theorem dX7_power_43 : decode cX7_power 43 = .ok (.aaload, 1) := by decide +kernel
theorem dX7_power_44 : decode cX7_power 44 = .ok (.getfield 129, 3) := by decide +kernel
theorem dX7_power_47 : decode cX7_power 47 = .ok (.aload_n 0, 1) := by decide +kernel
theorem dX7_power_48 : decode cX7_power 48 = .ok (.getfield 33, 3) := by decide +kernel
theorem dX7_power_51 : decode cX7_power 51 = .ok (.iload 4, 2) := by decide +kernel
theorem dX7_power_53 : decode cX7_power 53 = .ok (.lload_n 2, 1) := by decide +kernel
theorem dX7_power_54 : decode cX7_power 54 = .ok (.invokestatic 172, 3) := by decide +kernel
theorem dX7_power_57 : decode cX7_power 57 = .ok (.goto 4, 3) := by decide +kernel
theorem dX7_power_60 : decode cX7_power 60 = .ok (.iconst (-1), 1) := by decide +kernel
theorem dX7_power_61 : decode cX7_power 61 = .ok (.ireturn, 1) := by decide +kernel
theorem dX7_taken_0 : decode cX7_taken 0 = .ok (.iload_n 2, 1) := by decide +kernel
theorem dX7_taken_1 : decode cX7_taken 1 = .ok (.ifCond .lt 8, 3) := by decide +kernel
theorem dX7_taken_4 : decode cX7_taken 4 = .ok (.iload_n 2, 1) := by decide +kernel
theorem dX7_taken_5 : decode cX7_taken 5 = .ok (.iconst 5, 1) := by decide +kernel
theorem dX7_taken_6 : decode cX7_taken 6 = .ok (.if_icmp .lt 6, 3) := by decide +kernel
theorem dX7_taken_9 : decode cX7_taken 9 = .ok (.bipush (-2), 2) := by decide +kernel
theorem dX7_taken_11 : decode cX7_taken 11 = .ok (.ireturn, 1) := by decide +kernel
theorem dX7_taken_12 : decode cX7_taken 12 = .ok (.aload_n 0, 1) := by decide +kernel
theorem dX7_taken_13 : decode cX7_taken 13 = .ok (.iload_n 1, 1) := by decide +kernel
theorem dX7_taken_14 : decode cX7_taken 14 = .ok (.invokevirtual 148, 3) := by decide +kernel
theorem dX7_taken_17 : decode cX7_taken 17 = .ok (.ifCond .ne 6, 3) := by decide +kernel
theorem dX7_taken_20 : decode cX7_taken 20 = .ok (.bipush (-11), 2) := by decide +kernel
theorem dX7_taken_22 : decode cX7_taken 22 = .ok (.ireturn, 1) := by decide +kernel
theorem dX7_taken_23 : decode cX7_taken 23 = .ok (.aload_n 0, 1) := by decide +kernel
theorem dX7_taken_24 : decode cX7_taken 24 = .ok (.getfield 16, 3) := by decide +kernel
theorem dX7_taken_27 : decode cX7_taken 27 = .ok (.iload_n 1, 1) := by decide +kernel
theorem dX7_taken_28 : decode cX7_taken 28 = .ok (.aaload, 1) := by decide +kernel
theorem dX7_taken_29 : decode cX7_taken 29 = .ok (.iload_n 2, 1) := by decide +kernel
theorem dX7_taken_30 : decode cX7_taken 30 = .ok (.invokevirtual 176, 3) := by decide +kernel
theorem dX7_taken_33 : decode cX7_taken 33 = .ok (.ifCond .eq 15, 3) := by decide +kernel
theorem dX7_taken_36 : decode cX7_taken 36 = .ok (.aload_n 0, 1) := by decide +kernel
theorem dX7_taken_37 : decode cX7_taken 37 = .ok (.getfield 16, 3) := by decide +kernel
theorem dX7_taken_40 : decode cX7_taken 40 = .ok (.iload_n 1, 1) := by decide +kernel
theorem dX7_taken_41 : decode cX7_taken 41 = .ok (.aaload, 1) := by decide +kernel
theorem dX7_taken_42 : decode cX7_taken 42 = .ok (.getfield 161, 3) := by decide +kernel
theorem dX7_taken_45 : decode cX7_taken 45 = .ok (.goto 5, 3) := by decide +kernel
theorem dX7_taken_48 : decode cX7_taken 48 = .ok (.bipush (-13), 2) := by decide +kernel
theorem dX7_taken_50 : decode cX7_taken 50 = .ok (.ireturn, 1) := by decide +kernel
theorem dX7_does_0 : decode cX7_does 0 = .ok (.aload_n 0, 1) := by decide +kernel
theorem dX7_does_1 : decode cX7_does 1 = .ok (.iload_n 1, 1) := by decide +kernel
theorem dX7_does_2 : decode cX7_does 2 = .ok (.invokevirtual 148, 3) := by decide +kernel
theorem dX7_does_5 : decode cX7_does 5 = .ok (.ifCond .eq 11, 3) := by decide +kernel
theorem dX7_does_8 : decode cX7_does 8 = .ok (.aload_n 0, 1) := by decide +kernel
theorem dX7_does_9 : decode cX7_does 9 = .ok (.iload_n 2, 1) := by decide +kernel
theorem dX7_does_10 : decode cX7_does 10 = .ok (.invokevirtual 112, 3) := by decide +kernel
theorem dX7_does_13 : decode cX7_does 13 = .ok (.ifCond .ne 6, 3) := by decide +kernel
theorem dX7_does_16 : decode cX7_does 16 = .ok (.bipush (-2), 2) := by decide +kernel
theorem dX7_does_18 : decode cX7_does 18 = .ok (.ireturn, 1) := by decide +kernel
theorem dX7_does_19 : decode cX7_does 19 = .ok (.aload_n 0, 1) := by decide +kernel
theorem dX7_does_20 : decode cX7_does 20 = .ok (.getfield 16, 3) := by decide +kernel
theorem dX7_does_23 : decode cX7_does 23 = .ok (.iload_n 1, 1) := by decide +kernel
theorem dX7_does_24 : decode cX7_does 24 = .ok (.aaload, 1) := by decide +kernel
theorem dX7_does_25 : decode cX7_does 25 = .ok (.invokevirtual 151, 3) := by decide +kernel
theorem dX7_does_28 : decode cX7_does 28 = .ok (.ifCond .ne 6, 3) := by decide +kernel
theorem dX7_does_31 : decode cX7_does 31 = .ok (.bipush (-3), 2) := by decide +kernel
theorem dX7_does_33 : decode cX7_does 33 = .ok (.ireturn, 1) := by decide +kernel
theorem dX7_does_34 : decode cX7_does 34 = .ok (.aload_n 0, 1) := by decide +kernel
theorem dX7_does_35 : decode cX7_does 35 = .ok (.getfield 11, 3) := by decide +kernel
theorem dX7_does_38 : decode cX7_does 38 = .ok (.iload_n 2, 1) := by decide +kernel
theorem dX7_does_39 : decode cX7_does 39 = .ok (.aaload, 1) := by decide +kernel
theorem dX7_does_40 : decode cX7_does 40 = .ok (.iconst 0, 1) := by decide +kernel
theorem dX7_does_41 : decode cX7_does 41 = .ok (.aload_n 0, 1) := by decide +kernel
theorem dX7_does_42 : decode cX7_does 42 = .ok (.getfield 46, 3) := by decide +kernel
theorem dX7_does_45 : decode cX7_does 45 = .ok (.iconst 0, 1) := by decide +kernel
theorem dX7_does_46 : decode cX7_does 46 = .ok (.aload_n 0, 1) := by decide +kernel
theorem dX7_does_47 : decode cX7_does 47 = .ok (.getfield 33, 3) := by decide +kernel
theorem dX7_does_50 : decode cX7_does 50 = .ok (.invokestatic 106, 3) := by decide +kernel
theorem dX7_does_53 : decode cX7_does 53 = .ok (.aload_n 0, 1) := by decide +kernel
theorem dX7_does_54 : decode cX7_does 54 = .ok (.getfield 46, 3) := by decide +kernel
theorem dX7_does_57 : decode cX7_does 57 = .ok (.aload_n 0, 1) := by decide +kernel
theorem dX7_does_58 : decode cX7_does 58 = .ok (.getfield 16, 3) := by decide +kernel
theorem dX7_does_61 : decode cX7_does 61 = .ok (.iload_n 1, 1) := by decide +kernel
theorem dX7_does_62 : decode cX7_does 62 = .ok (.aaload, 1) := by decide +kernel
theorem dX7_does_63 : decode cX7_does 63 = .ok (.getfield 129, 3) := by decide +kernel
theorem dX7_does_66 : decode cX7_does 66 = .ok (.aload_n 0, 1) := by decide +kernel
theorem dX7_does_67 : decode cX7_does 67 = .ok (.getfield 11, 3) := by decide +kernel
theorem dX7_does_70 : decode cX7_does 70 = .ok (.iload_n 2, 1) := by decide +kernel
theorem dX7_does_71 : decode cX7_does 71 = .ok (.aaload, 1) := by decide +kernel
theorem dX7_does_72 : decode cX7_does 72 = .ok (.aload_n 0, 1) := by decide +kernel
theorem dX7_does_73 : decode cX7_does 73 = .ok (.getfield 33, 3) := by decide +kernel
theorem dX7_does_76 : decode cX7_does 76 = .ok (.invokestatic 154, 3) := by decide +kernel
theorem dX7_does_79 : decode cX7_does 79 = .ok (.iconst 1, 1) := by decide +kernel
theorem dX7_does_80 : decode cX7_does 80 = .ok (.ireturn, 1) := by decide +kernel
theorem dX7_lots_0 : decode cX7_lots 0 = .ok (.aload_n 0, 1) := by decide +kernel
theorem dX7_lots_1 : decode cX7_lots 1 = .ok (.iload_n 1, 1) := by decide +kernel
theorem dX7_lots_2 : decode cX7_lots 2 = .ok (.invokevirtual 148, 3) := by decide +kernel
theorem dX7_lots_5 : decode cX7_lots 5 = .ok (.ifCond .eq 11, 3) := by decide +kernel
theorem dX7_lots_8 : decode cX7_lots 8 = .ok (.aload_n 0, 1) := by decide +kernel
theorem dX7_lots_9 : decode cX7_lots 9 = .ok (.iload_n 2, 1) := by decide +kernel
theorem dX7_lots_10 : decode cX7_lots 10 = .ok (.invokevirtual 112, 3) := by decide +kernel
theorem dX7_lots_13 : decode cX7_lots 13 = .ok (.ifCond .ne 6, 3) := by decide +kernel
theorem dX7_lots_16 : decode cX7_lots 16 = .ok (.bipush (-2), 2) := by decide +kernel
theorem dX7_lots_18 : decode cX7_lots 18 = .ok (.ireturn, 1) := by decide +kernel
theorem dX7_lots_19 : decode cX7_lots 19 = .ok (.aload_n 0, 1) := by decide +kernel
theorem dX7_lots_20 : decode cX7_lots 20 = .ok (.getfield 16, 3) := by decide +kernel
theorem dX7_lots_23 : decode cX7_lots 23 = .ok (.iload_n 1, 1) := by decide +kernel
theorem dX7_lots_24 : decode cX7_lots 24 = .ok (.aaload, 1) := by decide +kernel
theorem dX7_lots_25 : decode cX7_lots 25 = .ok (.astore 5, 2) := by decide +kernel
theorem dX7_lots_27 : decode cX7_lots 27 = .ok (.aload 5, 2) := by decide +kernel
theorem dX7_lots_29 : decode cX7_lots 29 = .ok (.invokevirtual 151, 3) := by decide +kernel
theorem dX7_lots_32 : decode cX7_lots 32 = .ok (.ifCond .eq 6, 3) := by decide +kernel
theorem dX7_lots_35 : decode cX7_lots 35 = .ok (.bipush (-3), 2) := by decide +kernel
theorem dX7_lots_37 : decode cX7_lots 37 = .ok (.ireturn, 1) := by decide +kernel
theorem dX7_lots_38 : decode cX7_lots 38 = .ok (.lload_n 3, 1) := by decide +kernel
theorem dX7_lots_39 : decode cX7_lots 39 = .ok (.lconst 0, 1) := by decide +kernel
theorem dX7_lots_40 : decode cX7_lots 40 = .ok (.lcmp, 1) := by decide +kernel
theorem dX7_lots_41 : decode cX7_lots 41 = .ok (.ifCond .lt 23, 3) := by decide +kernel
theorem dX7_lots_44 : decode cX7_lots 44 = .ok (.lload_n 3, 1) := by decide +kernel
theorem dX7_lots_45 : decode cX7_lots 45 = .ok (.aload 5, 2) := by decide +kernel
theorem dX7_lots_47 : decode cX7_lots 47 = .ok (.getfield 161, 3) := by decide +kernel
theorem dX7_lots_50 : decode cX7_lots 50 = .ok (.i2l, 1) := by decide +kernel
theorem dX7_lots_51 : decode cX7_lots 51 = .ok (.aload_n 0, 1) := by decide +kernel
theorem dX7_lots_52 : decode cX7_lots 52 = .ok (.aload 5, 2) := by decide +kernel
theorem dX7_lots_54 : decode cX7_lots 54 = .ok (.invokevirtual 179, 3) := by decide +kernel
theorem dX7_lots_57 : decode cX7_lots 57 = .ok (.invokestatic 183, 3) := by decide +kernel
theorem dX7_lots_60 : decode cX7_lots 60 = .ok (.lcmp, 1) := by decide +kernel
theorem dX7_lots_61 : decode cX7_lots 61 = .ok (.ifCond .lt 6, 3) := by decide +kernel
theorem dX7_lots_64 : decode cX7_lots 64 = .ok (.bipush (-2), 2) := by decide +kernel
theorem dX7_lots_66 : decode cX7_lots 66 = .ok (.ireturn, 1) := by decide +kernel
theorem dX7_lots_67 : decode cX7_lots 67 = .ok (.lload_n 3, 1) := by decide +kernel
theorem dX7_lots_68 : decode cX7_lots 68 = .ok (.lstore 6, 2) := by decide +kernel
theorem dX7_lots_70 : decode cX7_lots 70 = .ok (.iconst 0, 1) := by decide +kernel
theorem dX7_lots_71 : decode cX7_lots 71 = .ok (.istore 8, 2) := by decide +kernel
theorem dX7_lots_73 : decode cX7_lots 73 = .ok (.iload 8, 2) := by decide +kernel
theorem dX7_lots_75 : decode cX7_lots 75 = .ok (.aload_n 0, 1) := by decide +kernel
theorem dX7_lots_76 : decode cX7_lots 76 = .ok (.aload 5, 2) := by decide +kernel
theorem dX7_lots_78 : decode cX7_lots 78 = .ok (.invokevirtual 179, 3) := by decide +kernel
theorem dX7_lots_81 : decode cX7_lots 81 = .ok (.if_icmp .ge 37, 3) := by decide +kernel
theorem dX7_lots_84 : decode cX7_lots 84 = .ok (.aload_n 0, 1) := by decide +kernel
theorem dX7_lots_85 : decode cX7_lots 85 = .ok (.getfield 53, 3) := by decide +kernel
theorem dX7_lots_88 : decode cX7_lots 88 = .ok (.iload 8, 2) := by decide +kernel
theorem dX7_lots_90 : decode cX7_lots 90 = .ok (.lload 6, 2) := by decide +kernel
theorem dX7_lots_92 : decode cX7_lots 92 = .ok (.aload 5, 2) := by decide +kernel
theorem dX7_lots_94 : decode cX7_lots 94 = .ok (.getfield 161, 3) := by decide +kernel
theorem dX7_lots_97 : decode cX7_lots 97 = .ok (.i2l, 1) := by decide +kernel
theorem dX7_lots_98 : decode cX7_lots 98 = .ok (.lrem, 1) := by decide +kernel
theorem dX7_lots_99 : decode cX7_lots 99 = .ok (.l2i, 1) := by decide +kernel
theorem dX7_lots_100 : decode cX7_lots 100 = .ok (.iastore, 1) := by decide +kernel
theorem dX7_lots_101 : decode cX7_lots 101 = .ok (.lload 6, 2) := by decide +kernel
theorem dX7_lots_103 : decode cX7_lots 103 = .ok (.aload 5, 2) := by decide +kernel
theorem dX7_lots_105 : decode cX7_lots 105 = .ok (.getfield 161, 3) := by decide +kernel
theorem dX7_lots_108 : decode cX7_lots 108 = .ok (.i2l, 1) := by decide +kernel
theorem dX7_lots_109 : decode cX7_lots 109 = .ok (.ldiv, 1) := by decide +kernel
theorem dX7_lots_110 : decode cX7_lots 110 = .ok (.lstore 6, 2) := by decide +kernel
theorem dX7_lots_112 : decode cX7_lots 112 = .ok (.iinc 8 1, 3) := by decide +kernel
theorem dX7_lots_115 : decode cX7_lots 115 = .ok (.goto (-42), 3) := by decide +kernel
theorem dX7_lots_118 : decode cX7_lots 118 = .ok (.aload_n 0, 1) := by decide +kernel
theorem dX7_lots_119 : decode cX7_lots 119 = .ok (.aload 5, 2) := by decide +kernel
theorem dX7_lots_121 : decode cX7_lots 121 = .ok (.aload_n 0, 1) := by decide +kernel
theorem dX7_lots_122 : decode cX7_lots 122 = .ok (.getfield 11, 3) := by decide +kernel
theorem dX7_lots_125 : decode cX7_lots 125 = .ok (.iload_n 2, 1) := by decide +kernel
theorem dX7_lots_126 : decode cX7_lots 126 = .ok (.aaload, 1) := by decide +kernel
theorem dX7_lots_127 : decode cX7_lots 127 = .ok (.invokevirtual 189, 3) := by decide +kernel
theorem dX7_lots_130 : decode cX7_lots 130 = .ok (.iconst 1, 1) := by decide +kernel
theorem dX7_lots_131 : decode cX7_lots 131 = .ok (.ireturn, 1) := by decide +kernel
theorem dX7_draw_0 : decode cX7_draw 0 = .ok (.aload_n 0, 1) := by decide +kernel
theorem dX7_draw_1 : decode cX7_draw 1 = .ok (.iload_n 1, 1) := by decide +kernel
theorem dX7_draw_2 : decode cX7_draw 2 = .ok (.invokevirtual 148, 3) := by decide +kernel
theorem dX7_draw_5 : decode cX7_draw 5 = .ok (.ifCond .eq 23, 3) := by decide +kernel
theorem dX7_draw_8 : decode cX7_draw 8 = .ok (.aload_n 0, 1) := by decide +kernel
theorem dX7_draw_9 : decode cX7_draw 9 = .ok (.iload_n 2, 1) := by decide +kernel
theorem dX7_draw_10 : decode cX7_draw 10 = .ok (.invokevirtual 112, 3) := by decide +kernel
theorem dX7_draw_13 : decode cX7_draw 13 = .ok (.ifCond .eq 15, 3) := by decide +kernel
theorem dX7_draw_16 : decode cX7_draw 16 = .ok (.aload_n 0, 1) := by decide +kernel
theorem dX7_draw_17 : decode cX7_draw 17 = .ok (.getfield 16, 3) := by decide +kernel
theorem dX7_draw_20 : decode cX7_draw 20 = .ok (.iload_n 1, 1) := by decide +kernel
theorem dX7_draw_21 : decode cX7_draw 21 = .ok (.aaload, 1) := by decide +kernel
theorem dX7_draw_22 : decode cX7_draw 22 = .ok (.invokevirtual 151, 3) := by decide +kernel
theorem dX7_draw_25 : decode cX7_draw 25 = .ok (.ifCond .eq 7, 3) := by decide +kernel
theorem dX7_draw_28 : decode cX7_draw 28 = .ok (.ldc2_w 193, 3) := by decide +kernel
theorem dX7_draw_31 : decode cX7_draw 31 = .ok (.lreturn, 1) := by decide +kernel
theorem dX7_draw_32 : decode cX7_draw 32 = .ok (.aload_n 0, 1) := by decide +kernel
theorem dX7_draw_33 : decode cX7_draw 33 = .ok (.getfield 16, 3) := by decide +kernel
theorem dX7_draw_36 : decode cX7_draw 36 = .ok (.iload_n 1, 1) := by decide +kernel
theorem dX7_draw_37 : decode cX7_draw 37 = .ok (.aaload, 1) := by decide +kernel
theorem dX7_draw_38 : decode cX7_draw 38 = .ok (.astore_n 3, 1) := by decide +kernel
theorem dX7_draw_39 : decode cX7_draw 39 = .ok (.lconst 0, 1) := by decide +kernel
theorem dX7_draw_40 : decode cX7_draw 40 = .ok (.lstore 4, 2) := by decide +kernel
theorem dX7_draw_42 : decode cX7_draw 42 = .ok (.lconst 1, 1) := by decide +kernel
theorem dX7_draw_43 : decode cX7_draw 43 = .ok (.lstore 6, 2) := by decide +kernel
theorem dX7_draw_45 : decode cX7_draw 45 = .ok (.iconst 0, 1) := by decide +kernel
theorem dX7_draw_46 : decode cX7_draw 46 = .ok (.istore 8, 2) := by decide +kernel
theorem dX7_draw_48 : decode cX7_draw 48 = .ok (.iload 8, 2) := by decide +kernel
theorem dX7_draw_50 : decode cX7_draw 50 = .ok (.aload_n 0, 1) := by decide +kernel
theorem dX7_draw_51 : decode cX7_draw 51 = .ok (.aload_n 3, 1) := by decide +kernel
theorem dX7_draw_52 : decode cX7_draw 52 = .ok (.invokevirtual 179, 3) := by decide +kernel
theorem dX7_draw_55 : decode cX7_draw 55 = .ok (.if_icmp .ge 50, 3) := by decide +kernel
theorem dX7_draw_58 : decode cX7_draw 58 = .ok (.aload_n 0, 1) := by decide +kernel
theorem dX7_draw_59 : decode cX7_draw 59 = .ok (.getfield 53, 3) := by decide +kernel
theorem dX7_draw_62 : decode cX7_draw 62 = .ok (.iload 8, 2) := by decide +kernel
theorem dX7_draw_64 : decode cX7_draw 64 = .ok (.aload_n 0, 1) := by decide +kernel
theorem dX7_draw_65 : decode cX7_draw 65 = .ok (.aload_n 3, 1) := by decide +kernel
theorem dX7_draw_66 : decode cX7_draw 66 = .ok (.getfield 161, 3) := by decide +kernel
theorem dX7_draw_69 : decode cX7_draw 69 = .ok (.invokevirtual 195, 3) := by decide +kernel
theorem dX7_draw_72 : decode cX7_draw 72 = .ok (.iastore, 1) := by decide +kernel
theorem dX7_draw_73 : decode cX7_draw 73 = .ok (.lload 4, 2) := by decide +kernel
theorem dX7_draw_75 : decode cX7_draw 75 = .ok (.aload_n 0, 1) := by decide +kernel
theorem dX7_draw_76 : decode cX7_draw 76 = .ok (.getfield 53, 3) := by decide +kernel
theorem dX7_draw_79 : decode cX7_draw 79 = .ok (.iload 8, 2) := by decide +kernel
theorem dX7_draw_81 : decode cX7_draw 81 = .ok (.iaload, 1) := by decide +kernel
theorem dX7_draw_82 : decode cX7_draw 82 = .ok (.i2l, 1) := by decide +kernel
theorem dX7_draw_83 : decode cX7_draw 83 = .ok (.lload 6, 2) := by decide +kernel
theorem dX7_draw_85 : decode cX7_draw 85 = .ok (.lmul, 1) := by decide +kernel
theorem dX7_draw_86 : decode cX7_draw 86 = .ok (.ladd, 1) := by decide +kernel
theorem dX7_draw_87 : decode cX7_draw 87 = .ok (.lstore 4, 2) := by decide +kernel
theorem dX7_draw_89 : decode cX7_draw 89 = .ok (.lload 6, 2) := by decide +kernel
theorem dX7_draw_91 : decode cX7_draw 91 = .ok (.aload_n 3, 1) := by decide +kernel
theorem dX7_draw_92 : decode cX7_draw 92 = .ok (.getfield 161, 3) := by decide +kernel
theorem dX7_draw_95 : decode cX7_draw 95 = .ok (.i2l, 1) := by decide +kernel
theorem dX7_draw_96 : decode cX7_draw 96 = .ok (.lmul, 1) := by decide +kernel
theorem dX7_draw_97 : decode cX7_draw 97 = .ok (.lstore 6, 2) := by decide +kernel
theorem dX7_draw_99 : decode cX7_draw 99 = .ok (.iinc 8 1, 3) := by decide +kernel
theorem dX7_draw_102 : decode cX7_draw 102 = .ok (.goto (-54), 3) := by decide +kernel
theorem dX7_draw_105 : decode cX7_draw 105 = .ok (.aload_n 0, 1) := by decide +kernel
theorem dX7_draw_106 : decode cX7_draw 106 = .ok (.aload_n 3, 1) := by decide +kernel
theorem dX7_draw_107 : decode cX7_draw 107 = .ok (.aload_n 0, 1) := by decide +kernel
theorem dX7_draw_108 : decode cX7_draw 108 = .ok (.getfield 11, 3) := by decide +kernel
theorem dX7_draw_111 : decode cX7_draw 111 = .ok (.iload_n 2, 1) := by decide +kernel
theorem dX7_draw_112 : decode cX7_draw 112 = .ok (.aaload, 1) := by decide +kernel
theorem dX7_draw_113 : decode cX7_draw 113 = .ok (.invokevirtual 189, 3) := by decide +kernel
theorem dX7_draw_116 : decode cX7_draw 116 = .ok (.lload 4, 2) := by decide +kernel
theorem dX7_draw_118 : decode cX7_draw 118 = .ok (.lreturn, 1) := by decide +kernel
theorem dX7_seed_0 : decode cX7_seed 0 = .ok (.aload_n 0, 1) := by decide +kernel
theorem dX7_seed_1 : decode cX7_seed 1 = .ok (.getfield 43, 3) := by decide +kernel
theorem dX7_seed_4 : decode cX7_seed 4 = .ok (.istore_n 2, 1) := by decide +kernel
theorem dX7_seed_5 : decode cX7_seed 5 = .ok (.aload_n 0, 1) := by decide +kernel
theorem dX7_seed_6 : decode cX7_seed 6 = .ok (.iload_n 1, 1) := by decide +kernel
theorem dX7_seed_7 : decode cX7_seed 7 = .ok (.putfield 43, 3) := by decide +kernel
theorem dX7_seed_10 : decode cX7_seed 10 = .ok (.iload_n 2, 1) := by decide +kernel
theorem dX7_seed_11 : decode cX7_seed 11 = .ok (.ireturn, 1) := by decide +kernel
theorem dX7_chance_0 : decode cX7_chance 0 = .ok (.aload_n 0, 1) := by decide +kernel
theorem dX7_chance_1 : decode cX7_chance 1 = .ok (.iload_n 1, 1) := by decide +kernel
theorem dX7_chance_2 : decode cX7_chance 2 = .ok (.invokevirtual 148, 3) := by decide +kernel
theorem dX7_chance_5 : decode cX7_chance 5 = .ok (.ifCond .eq 33, 3) := by decide +kernel
theorem dX7_chance_8 : decode cX7_chance 8 = .ok (.aload_n 0, 1) := by decide +kernel
theorem dX7_chance_9 : decode cX7_chance 9 = .ok (.iload_n 3, 1) := by decide +kernel
theorem dX7_chance_10 : decode cX7_chance 10 = .ok (.invokevirtual 112, 3) := by decide +kernel
theorem dX7_chance_13 : decode cX7_chance 13 = .ok (.ifCond .eq 25, 3) := by decide +kernel
theorem dX7_chance_16 : decode cX7_chance 16 = .ok (.iload 4, 2) := by decide +kernel
theorem dX7_chance_18 : decode cX7_chance 18 = .ok (.invokestatic 198, 3) := by decide +kernel
theorem dX7_chance_21 : decode cX7_chance 21 = .ok (.ifCond .eq 17, 3) := by decide +kernel
theorem dX7_chance_24 : decode cX7_chance 24 = .ok (.aload_n 0, 1) := by decide +kernel
theorem dX7_chance_25 : decode cX7_chance 25 = .ok (.aload_n 0, 1) := by decide +kernel
theorem dX7_chance_26 : decode cX7_chance 26 = .ok (.getfield 16, 3) := by decide +kernel
theorem dX7_chance_29 : decode cX7_chance 29 = .ok (.iload_n 1, 1) := by decide +kernel
theorem dX7_chance_30 : decode cX7_chance 30 = .ok (.aaload, 1) := by decide +kernel
theorem dX7_chance_31 : decode cX7_chance 31 = .ok (.iload_n 2, 1) := by decide +kernel
theorem dX7_chance_32 : decode cX7_chance 32 = .ok (.invokevirtual 201, 3) := by decide +kernel
theorem dX7_chance_35 : decode cX7_chance 35 = .ok (.ifCond .ne 7, 3) := by decide +kernel
theorem dX7_chance_38 : decode cX7_chance 38 = .ok (.ldc2_w 193, 3) := by decide +kernel
theorem dX7_chance_41 : decode cX7_chance 41 = .ok (.lreturn, 1) := by decide +kernel
theorem dX7_chance_42 : decode cX7_chance 42 = .ok (.aload_n 0, 1) := by decide +kernel
theorem dX7_chance_43 : decode cX7_chance 43 = .ok (.getfield 16, 3) := by decide +kernel
theorem dX7_chance_46 : decode cX7_chance 46 = .ok (.iload_n 1, 1) := by decide +kernel
theorem dX7_chance_47 : decode cX7_chance 47 = .ok (.aaload, 1) := by decide +kernel
theorem dX7_chance_48 : decode cX7_chance 48 = .ok (.astore 5, 2) := by decide +kernel
theorem dX7_chance_50 : decode cX7_chance 50 = .ok (.aload_n 0, 1) := by decide +kernel
theorem dX7_chance_51 : decode cX7_chance 51 = .ok (.aload 5, 2) := by decide +kernel
theorem dX7_chance_53 : decode cX7_chance 53 = .ok (.iload_n 2, 1) := by decide +kernel
theorem dX7_chance_54 : decode cX7_chance 54 = .ok (.aload_n 0, 1) := by decide +kernel
theorem dX7_chance_55 : decode cX7_chance 55 = .ok (.aload 5, 2) := by decide +kernel
theorem dX7_chance_57 : decode cX7_chance 57 = .ok (.aload_n 0, 1) := by decide +kernel
theorem dX7_chance_58 : decode cX7_chance 58 = .ok (.getfield 11, 3) := by decide +kernel
theorem dX7_chance_61 : decode cX7_chance 61 = .ok (.iload_n 3, 1) := by decide +kernel
theorem dX7_chance_62 : decode cX7_chance 62 = .ok (.aaload, 1) := by decide +kernel
theorem dX7_chance_63 : decode cX7_chance 63 = .ok (.invokevirtual 205, 3) := by decide +kernel
theorem dX7_chance_66 : decode cX7_chance 66 = .ok (.invokevirtual 209, 3) := by decide +kernel
theorem dX7_chance_69 : decode cX7_chance 69 = .ok (.aload_n 0, 1) := by decide +kernel
theorem dX7_chance_70 : decode cX7_chance 70 = .ok (.aload 5, 2) := by decide +kernel
theorem dX7_chance_72 : decode cX7_chance 72 = .ok (.iload_n 2, 1) := by decide +kernel
theorem dX7_chance_73 : decode cX7_chance 73 = .ok (.invokevirtual 213, 3) := by decide +kernel
theorem dX7_chance_76 : decode cX7_chance 76 = .ok (.iload 4, 2) := by decide +kernel
theorem dX7_chance_78 : decode cX7_chance 78 = .ok (.invokestatic 217, 3) := by decide +kernel
theorem dX7_chance_81 : decode cX7_chance 81 = .ok (.lreturn, 1) := by decide +kernel
theorem dX7_place_0 : decode cX7_place 0 = .ok (.aload_n 0, 1) := by decide +kernel
theorem dX7_place_1 : decode cX7_place 1 = .ok (.iload_n 1, 1) := by decide +kernel
theorem dX7_place_2 : decode cX7_place 2 = .ok (.invokevirtual 148, 3) := by decide +kernel
theorem dX7_place_5 : decode cX7_place 5 = .ok (.ifCond .eq 27, 3) := by decide +kernel
theorem dX7_place_8 : decode cX7_place 8 = .ok (.aload_n 0, 1) := by decide +kernel
theorem dX7_place_9 : decode cX7_place 9 = .ok (.iload_n 2, 1) := by decide +kernel
theorem dX7_place_10 : decode cX7_place 10 = .ok (.invokevirtual 115, 3) := by decide +kernel
theorem dX7_place_13 : decode cX7_place 13 = .ok (.ifCond .eq 19, 3) := by decide +kernel
theorem dX7_place_16 : decode cX7_place 16 = .ok (.aload_n 0, 1) := by decide +kernel
theorem dX7_place_17 : decode cX7_place 17 = .ok (.iload_n 3, 1) := by decide +kernel
theorem dX7_place_18 : decode cX7_place 18 = .ok (.invokevirtual 115, 3) := by decide +kernel
theorem dX7_place_21 : decode cX7_place 21 = .ok (.ifCond .eq 11, 3) := by decide +kernel
theorem dX7_place_24 : decode cX7_place 24 = .ok (.iload 4, 2) := by decide +kernel
theorem dX7_place_26 : decode cX7_place 26 = .ok (.invokestatic 198, 3) := by decide +kernel
theorem dX7_place_29 : decode cX7_place 29 = .ok (.ifCond .ne 7, 3) := by decide +kernel
theorem dX7_place_32 : decode cX7_place 32 = .ok (.ldc2_w 193, 3) := by decide +kernel
theorem dX7_place_35 : decode cX7_place 35 = .ok (.lreturn, 1) := by decide +kernel
theorem dX7_place_36 : decode cX7_place 36 = .ok (.aload_n 0, 1) := by decide +kernel
theorem dX7_place_37 : decode cX7_place 37 = .ok (.getfield 16, 3) := by decide +kernel
theorem dX7_place_40 : decode cX7_place 40 = .ok (.iload_n 1, 1) := by decide +kernel
theorem dX7_place_41 : decode cX7_place 41 = .ok (.aaload, 1) := by decide +kernel
theorem dX7_place_42 : decode cX7_place 42 = .ok (.astore 5, 2) := by decide +kernel
theorem dX7_place_44 : decode cX7_place 44 = .ok (.aload 5, 2) := by decide +kernel
theorem dX7_place_46 : decode cX7_place 46 = .ok (.invokevirtual 151, 3) := by decide +kernel
theorem dX7_place_49 : decode cX7_place 49 = .ok (.ifCond .eq 7, 3) := by decide +kernel
theorem dX7_place_52 : decode cX7_place 52 = .ok (.ldc2_w 193, 3) := by decide +kernel
theorem dX7_place_55 : decode cX7_place 55 = .ok (.lreturn, 1) := by decide +kernel
theorem dX7_place_56 : decode cX7_place 56 = .ok (.aload 5, 2) := by decide +kernel
theorem dX7_place_58 : decode cX7_place 58 = .ok (.getfield 158, 3) := by decide +kernel
theorem dX7_place_61 : decode cX7_place 61 = .ok (.iconst 4, 1) := by decide +kernel
theorem dX7_place_62 : decode cX7_place 62 = .ok (.if_icmp .ne 21, 3) := by decide +kernel
theorem dX7_place_65 : decode cX7_place 65 = .ok (.aload_n 0, 1) := by decide +kernel
theorem dX7_place_66 : decode cX7_place 66 = .ok (.iload_n 2, 1) := by decide +kernel
theorem dX7_place_67 : decode cX7_place 67 = .ok (.iload_n 3, 1) := by decide +kernel
theorem dX7_place_68 : decode cX7_place 68 = .ok (.invokevirtual 221, 3) := by decide +kernel
theorem dX7_place_71 : decode cX7_place 71 = .ok (.i2l, 1) := by decide +kernel
theorem dX7_place_72 : decode cX7_place 72 = .ok (.aload_n 0, 1) := by decide +kernel
theorem dX7_place_73 : decode cX7_place 73 = .ok (.getfield 33, 3) := by decide +kernel
theorem dX7_place_76 : decode cX7_place 76 = .ok (.i2l, 1) := by decide +kernel
theorem dX7_place_77 : decode cX7_place 77 = .ok (.iload 4, 2) := by decide +kernel
theorem dX7_place_79 : decode cX7_place 79 = .ok (.invokestatic 217, 3) := by decide +kernel
theorem dX7_place_82 : decode cX7_place 82 = .ok (.lreturn, 1) := by decide +kernel
theorem dX7_place_83 : decode cX7_place 83 = .ok (.aload_n 0, 1) := by decide +kernel
theorem dX7_place_84 : decode cX7_place 84 = .ok (.aload 5, 2) := by decide +kernel
theorem dX7_place_86 : decode cX7_place 86 = .ok (.getfield 161, 3) := by decide +kernel
theorem dX7_place_89 : decode cX7_place 89 = .ok (.iload_n 2, 1) := by decide +kernel
theorem dX7_place_90 : decode cX7_place 90 = .ok (.iload_n 3, 1) := by decide +kernel
theorem dX7_place_91 : decode cX7_place 91 = .ok (.invokevirtual 224, 3) := by decide +kernel
theorem dX7_place_94 : decode cX7_place 94 = .ok (.aload 5, 2) := by decide +kernel
theorem dX7_place_96 : decode cX7_place 96 = .ok (.getfield 161, 3) := by decide +kernel
theorem dX7_place_99 : decode cX7_place 99 = .ok (.i2l, 1) := by decide +kernel
theorem dX7_place_100 : decode cX7_place 100 = .ok (.aload_n 0, 1) := by decide +kernel
theorem dX7_place_101 : decode cX7_place 101 = .ok (.getfield 33, 3) := by decide +kernel
theorem dX7_place_104 : decode cX7_place 104 = .ok (.invokestatic 183, 3) := by decide +kernel
theorem dX7_place_107 : decode cX7_place 107 = .ok (.iload 4, 2) := by decide +kernel
theorem dX7_place_109 : decode cX7_place 109 = .ok (.invokestatic 217, 3) := by decide +kernel
theorem dX7_place_112 : decode cX7_place 112 = .ok (.lreturn, 1) := by decide +kernel
theorem dX7_far_0 : decode cX7_far 0 = .ok (.aload_n 0, 1) := by decide +kernel
theorem dX7_far_1 : decode cX7_far 1 = .ok (.iload_n 1, 1) := by decide +kernel
theorem dX7_far_2 : decode cX7_far 2 = .ok (.invokevirtual 148, 3) := by decide +kernel
theorem dX7_far_5 : decode cX7_far 5 = .ok (.ifCond .eq 24, 3) := by decide +kernel
theorem dX7_far_8 : decode cX7_far 8 = .ok (.iload_n 3, 1) := by decide +kernel
theorem dX7_far_9 : decode cX7_far 9 = .ok (.invokestatic 198, 3) := by decide +kernel
theorem dX7_far_12 : decode cX7_far 12 = .ok (.ifCond .eq 17, 3) := by decide +kernel
theorem dX7_far_15 : decode cX7_far 15 = .ok (.aload_n 0, 1) := by decide +kernel
theorem dX7_far_16 : decode cX7_far 16 = .ok (.aload_n 0, 1) := by decide +kernel
theorem dX7_far_17 : decode cX7_far 17 = .ok (.getfield 16, 3) := by decide +kernel
theorem dX7_far_20 : decode cX7_far 20 = .ok (.iload_n 1, 1) := by decide +kernel
theorem dX7_far_21 : decode cX7_far 21 = .ok (.aaload, 1) := by decide +kernel
theorem dX7_far_22 : decode cX7_far 22 = .ok (.iload_n 2, 1) := by decide +kernel
theorem dX7_far_23 : decode cX7_far 23 = .ok (.invokevirtual 201, 3) := by decide +kernel
theorem dX7_far_26 : decode cX7_far 26 = .ok (.ifCond .ne 7, 3) := by decide +kernel
theorem dX7_far_29 : decode cX7_far 29 = .ok (.ldc2_w 193, 3) := by decide +kernel
theorem dX7_far_32 : decode cX7_far 32 = .ok (.lreturn, 1) := by decide +kernel
theorem dX7_far_33 : decode cX7_far 33 = .ok (.aload_n 0, 1) := by decide +kernel
theorem dX7_far_34 : decode cX7_far 34 = .ok (.getfield 16, 3) := by decide +kernel
theorem dX7_far_37 : decode cX7_far 37 = .ok (.iload_n 1, 1) := by decide +kernel
theorem dX7_far_38 : decode cX7_far 38 = .ok (.aaload, 1) := by decide +kernel
theorem dX7_far_39 : decode cX7_far 39 = .ok (.astore 4, 2) := by decide +kernel
theorem dX7_far_41 : decode cX7_far 41 = .ok (.aload_n 0, 1) := by decide +kernel
theorem dX7_far_42 : decode cX7_far 42 = .ok (.aload 4, 2) := by decide +kernel
theorem dX7_far_44 : decode cX7_far 44 = .ok (.iload_n 2, 1) := by decide +kernel
theorem dX7_far_45 : decode cX7_far 45 = .ok (.invokevirtual 213, 3) := by decide +kernel
theorem dX7_far_48 : decode cX7_far 48 = .ok (.lstore 5, 2) := by decide +kernel
theorem dX7_far_50 : decode cX7_far 50 = .ok (.getstatic 72, 3) := by decide +kernel
theorem dX7_far_53 : decode cX7_far 53 = .ok (.aload_n 0, 1) := by decide +kernel
theorem dX7_far_54 : decode cX7_far 54 = .ok (.getfield 33, 3) := by decide +kernel
theorem dX7_far_57 : decode cX7_far 57 = .ok (.iaload, 1) := by decide +kernel
theorem dX7_far_58 : decode cX7_far 58 = .ok (.i2l, 1) := by decide +kernel
theorem dX7_far_59 : decode cX7_far 59 = .ok (.lstore 7, 2) := by decide +kernel
theorem dX7_far_61 : decode cX7_far 61 = .ok (.lconst 0, 1) := by decide +kernel
theorem dX7_far_62 : decode cX7_far 62 = .ok (.lstore 9, 2) := by decide +kernel
theorem dX7_far_64 : decode cX7_far 64 = .ok (.aload_n 0, 1) := by decide +kernel
theorem dX7_far_65 : decode cX7_far 65 = .ok (.aload 4, 2) := by decide +kernel
theorem dX7_far_67 : decode cX7_far 67 = .ok (.invokevirtual 228, 3) := by decide +kernel
theorem dX7_far_70 : decode cX7_far 70 = .ok (.iconst 0, 1) := by decide +kernel
theorem dX7_far_71 : decode cX7_far 71 = .ok (.istore 11, 2) := by decide +kernel
theorem dX7_far_73 : decode cX7_far 73 = .ok (.iload 11, 2) := by decide +kernel
theorem dX7_far_75 : decode cX7_far 75 = .ok (.aload_n 0, 1) := by decide +kernel
theorem dX7_far_76 : decode cX7_far 76 = .ok (.getfield 33, 3) := by decide +kernel
theorem dX7_far_79 : decode cX7_far 79 = .ok (.if_icmp .ge 40, 3) := by decide +kernel
theorem dX7_far_82 : decode cX7_far 82 = .ok (.lload 9, 2) := by decide +kernel
theorem dX7_far_84 : decode cX7_far 84 = .ok (.aload_n 0, 1) := by decide +kernel
theorem dX7_far_85 : decode cX7_far 85 = .ok (.getfield 59, 3) := by decide +kernel
theorem dX7_far_88 : decode cX7_far 88 = .ok (.iload 11, 2) := by decide +kernel
theorem dX7_far_90 : decode cX7_far 90 = .ok (.laload, 1) := by decide +kernel
theorem dX7_far_91 : decode cX7_far 91 = .ok (.aload_n 0, 1) := by decide +kernel
theorem dX7_far_92 : decode cX7_far 92 = .ok (.aload 4, 2) := by decide +kernel
theorem dX7_far_94 : decode cX7_far 94 = .ok (.iload_n 2, 1) := by decide +kernel
theorem dX7_far_95 : decode cX7_far 95 = .ok (.iload 11, 2) := by decide +kernel
theorem dX7_far_97 : decode cX7_far 97 = .ok (.invokevirtual 209, 3) := by decide +kernel
theorem dX7_far_100 : decode cX7_far 100 = .ok (.lload 7, 2) := by decide +kernel
theorem dX7_far_102 : decode cX7_far 102 = .ok (.lmul, 1) := by decide +kernel
theorem dX7_far_103 : decode cX7_far 103 = .ok (.lload 5, 2) := by decide +kernel
theorem dX7_far_105 : decode cX7_far 105 = .ok (.lsub, 1) := by decide +kernel
theorem dX7_far_106 : decode cX7_far 106 = .ok (.invokestatic 232, 3) := by decide +kernel
theorem dX7_far_109 : decode cX7_far 109 = .ok (.lmul, 1) := by decide +kernel
theorem dX7_far_110 : decode cX7_far 110 = .ok (.ladd, 1) := by decide +kernel
theorem dX7_far_111 : decode cX7_far 111 = .ok (.lstore 9, 2) := by decide +kernel
theorem dX7_far_113 : decode cX7_far 113 = .ok (.iinc 11 1, 3) := by decide +kernel
theorem dX7_far_116 : decode cX7_far 116 = .ok (.goto (-43), 3) := by decide +kernel
theorem dX7_far_119 : decode cX7_far 119 = .ok (.lload 9, 2) := by decide +kernel
theorem dX7_far_121 : decode cX7_far 121 = .ok (.ldc2_w 238, 3) := by decide +kernel
theorem dX7_far_124 : decode cX7_far 124 = .ok (.lload 5, 2) := by decide +kernel
theorem dX7_far_126 : decode cX7_far 126 = .ok (.lmul, 1) := by decide +kernel
theorem dX7_far_127 : decode cX7_far 127 = .ok (.lload 7, 2) := by decide +kernel
theorem dX7_far_129 : decode cX7_far 129 = .ok (.lmul, 1) := by decide +kernel
theorem dX7_far_130 : decode cX7_far 130 = .ok (.iload_n 3, 1) := by decide +kernel
theorem dX7_far_131 : decode cX7_far 131 = .ok (.invokestatic 217, 3) := by decide +kernel
theorem dX7_far_134 : decode cX7_far 134 = .ok (.lreturn, 1) := by decide +kernel
theorem dX7_unlike_0 : decode cX7_unlike 0 = .ok (.aload_n 0, 1) := by decide +kernel
theorem dX7_unlike_1 : decode cX7_unlike 1 = .ok (.iload_n 1, 1) := by decide +kernel
theorem dX7_unlike_2 : decode cX7_unlike 2 = .ok (.invokevirtual 148, 3) := by decide +kernel
theorem dX7_unlike_5 : decode cX7_unlike 5 = .ok (.ifCond .eq 24, 3) := by decide +kernel
theorem dX7_unlike_8 : decode cX7_unlike 8 = .ok (.iload_n 3, 1) := by decide +kernel
theorem dX7_unlike_9 : decode cX7_unlike 9 = .ok (.invokestatic 198, 3) := by decide +kernel
theorem dX7_unlike_12 : decode cX7_unlike 12 = .ok (.ifCond .eq 17, 3) := by decide +kernel
theorem dX7_unlike_15 : decode cX7_unlike 15 = .ok (.aload_n 0, 1) := by decide +kernel
theorem dX7_unlike_16 : decode cX7_unlike 16 = .ok (.aload_n 0, 1) := by decide +kernel
theorem dX7_unlike_17 : decode cX7_unlike 17 = .ok (.getfield 16, 3) := by decide +kernel
theorem dX7_unlike_20 : decode cX7_unlike 20 = .ok (.iload_n 1, 1) := by decide +kernel
theorem dX7_unlike_21 : decode cX7_unlike 21 = .ok (.aaload, 1) := by decide +kernel
theorem dX7_unlike_22 : decode cX7_unlike 22 = .ok (.iload_n 2, 1) := by decide +kernel
theorem dX7_unlike_23 : decode cX7_unlike 23 = .ok (.invokevirtual 201, 3) := by decide +kernel
theorem dX7_unlike_26 : decode cX7_unlike 26 = .ok (.ifCond .ne 7, 3) := by decide +kernel
theorem dX7_unlike_29 : decode cX7_unlike 29 = .ok (.ldc2_w 193, 3) := by decide +kernel
theorem dX7_unlike_32 : decode cX7_unlike 32 = .ok (.lreturn, 1) := by decide +kernel
theorem dX7_unlike_33 : decode cX7_unlike 33 = .ok (.aload_n 0, 1) := by decide +kernel
theorem dX7_unlike_34 : decode cX7_unlike 34 = .ok (.getfield 16, 3) := by decide +kernel
theorem dX7_unlike_37 : decode cX7_unlike 37 = .ok (.iload_n 1, 1) := by decide +kernel
theorem dX7_unlike_38 : decode cX7_unlike 38 = .ok (.aaload, 1) := by decide +kernel
theorem dX7_unlike_39 : decode cX7_unlike 39 = .ok (.getfield 158, 3) := by decide +kernel
theorem dX7_unlike_42 : decode cX7_unlike 42 = .ok (.iconst 3, 1) := by decide +kernel
theorem dX7_unlike_43 : decode cX7_unlike 43 = .ok (.if_icmp .eq 7, 3) := by decide +kernel
theorem dX7_unlike_46 : decode cX7_unlike 46 = .ok (.ldc2_w 193, 3) := by decide +kernel
theorem dX7_unlike_49 : decode cX7_unlike 49 = .ok (.lreturn, 1) := by decide +kernel
theorem dX7_unlike_50 : decode cX7_unlike 50 = .ok (.aload_n 0, 1) := by decide +kernel
theorem dX7_unlike_51 : decode cX7_unlike 51 = .ok (.getfield 16, 3) := by decide +kernel
theorem dX7_unlike_54 : decode cX7_unlike 54 = .ok (.iload_n 1, 1) := by decide +kernel
theorem dX7_unlike_55 : decode cX7_unlike 55 = .ok (.aaload, 1) := by decide +kernel
theorem dX7_unlike_56 : decode cX7_unlike 56 = .ok (.getfield 161, 3) := by decide +kernel
theorem dX7_unlike_59 : decode cX7_unlike 59 = .ok (.i2l, 1) := by decide +kernel
theorem dX7_unlike_60 : decode cX7_unlike 60 = .ok (.iload_n 2, 1) := by decide +kernel
theorem dX7_unlike_61 : decode cX7_unlike 61 = .ok (.invokestatic 183, 3) := by decide +kernel
theorem dX7_unlike_64 : decode cX7_unlike 64 = .ok (.lstore 4, 2) := by decide +kernel
theorem dX7_unlike_66 : decode cX7_unlike 66 = .ok (.lconst 1, 1) := by decide +kernel
theorem dX7_unlike_67 : decode cX7_unlike 67 = .ok (.lstore 6, 2) := by decide +kernel
theorem dX7_unlike_69 : decode cX7_unlike 69 = .ok (.iconst 0, 1) := by decide +kernel
theorem dX7_unlike_70 : decode cX7_unlike 70 = .ok (.istore 8, 2) := by decide +kernel
theorem dX7_unlike_72 : decode cX7_unlike 72 = .ok (.iload 8, 2) := by decide +kernel
theorem dX7_unlike_74 : decode cX7_unlike 74 = .ok (.aload_n 0, 1) := by decide +kernel
theorem dX7_unlike_75 : decode cX7_unlike 75 = .ok (.getfield 33, 3) := by decide +kernel
theorem dX7_unlike_78 : decode cX7_unlike 78 = .ok (.if_icmp .ge 24, 3) := by decide +kernel
theorem dX7_unlike_81 : decode cX7_unlike 81 = .ok (.lload 6, 2) := by decide +kernel
theorem dX7_unlike_83 : decode cX7_unlike 83 = .ok (.lconst 0, 1) := by decide +kernel
theorem dX7_unlike_84 : decode cX7_unlike 84 = .ok (.lload 4, 2) := by decide +kernel
theorem dX7_unlike_86 : decode cX7_unlike 86 = .ok (.iload 8, 2) := by decide +kernel
theorem dX7_unlike_88 : decode cX7_unlike 88 = .ok (.i2l, 1) := by decide +kernel
theorem dX7_unlike_89 : decode cX7_unlike 89 = .ok (.lsub, 1) := by decide +kernel
theorem dX7_unlike_90 : decode cX7_unlike 90 = .ok (.invokestatic 240, 3) := by decide +kernel
theorem dX7_unlike_93 : decode cX7_unlike 93 = .ok (.lmul, 1) := by decide +kernel
theorem dX7_unlike_94 : decode cX7_unlike 94 = .ok (.lstore 6, 2) := by decide +kernel
theorem dX7_unlike_96 : decode cX7_unlike 96 = .ok (.iinc 8 1, 3) := by decide +kernel
theorem dX7_unlike_99 : decode cX7_unlike 99 = .ok (.goto (-27), 3) := by decide +kernel
theorem dX7_unlike_102 : decode cX7_unlike 102 = .ok (.lload 6, 2) := by decide +kernel
theorem dX7_unlike_104 : decode cX7_unlike 104 = .ok (.lload 4, 2) := by decide +kernel
theorem dX7_unlike_106 : decode cX7_unlike 106 = .ok (.aload_n 0, 1) := by decide +kernel
theorem dX7_unlike_107 : decode cX7_unlike 107 = .ok (.getfield 33, 3) := by decide +kernel
theorem dX7_unlike_110 : decode cX7_unlike 110 = .ok (.invokestatic 183, 3) := by decide +kernel
theorem dX7_unlike_113 : decode cX7_unlike 113 = .ok (.iload_n 3, 1) := by decide +kernel
theorem dX7_unlike_114 : decode cX7_unlike 114 = .ok (.invokestatic 217, 3) := by decide +kernel
theorem dX7_unlike_117 : decode cX7_unlike 117 = .ok (.lreturn, 1) := by decide +kernel
theorem dX7_runs_0 : decode cX7_runs 0 = .ok (.iload_n 1, 1) := by decide +kernel
theorem dX7_runs_1 : decode cX7_runs 1 = .ok (.iconst 1, 1) := by decide +kernel
theorem dX7_runs_2 : decode cX7_runs 2 = .ok (.if_icmp .lt 11, 3) := by decide +kernel
theorem dX7_runs_5 : decode cX7_runs 5 = .ok (.iload_n 1, 1) := by decide +kernel
theorem dX7_runs_6 : decode cX7_runs 6 = .ok (.aload_n 0, 1) := by decide +kernel
theorem dX7_runs_7 : decode cX7_runs 7 = .ok (.getfield 33, 3) := by decide +kernel
theorem dX7_runs_10 : decode cX7_runs 10 = .ok (.if_icmp .le 7, 3) := by decide +kernel
theorem dX7_runs_13 : decode cX7_runs 13 = .ok (.ldc2_w 193, 3) := by decide +kernel
theorem dX7_runs_16 : decode cX7_runs 16 = .ok (.lreturn, 1) := by decide +kernel
theorem dX7_runs_17 : decode cX7_runs 17 = .ok (.aload_n 0, 1) := by decide +kernel
theorem dX7_runs_18 : decode cX7_runs 18 = .ok (.getfield 59, 3) := by decide +kernel
theorem dX7_runs_21 : decode cX7_runs 21 = .ok (.aload_n 0, 1) := by decide +kernel
theorem dX7_runs_22 : decode cX7_runs 22 = .ok (.getfield 33, 3) := by decide +kernel
theorem dX7_runs_25 : decode cX7_runs 25 = .ok (.invokestatic 244, 3) := by decide +kernel
theorem dX7_runs_28 : decode cX7_runs 28 = .ok (.aload_n 0, 1) := by decide +kernel
theorem dX7_runs_29 : decode cX7_runs 29 = .ok (.getfield 59, 3) := by decide +kernel
theorem dX7_runs_32 : decode cX7_runs 32 = .ok (.iload_n 1, 1) := by decide +kernel
theorem dX7_runs_33 : decode cX7_runs 33 = .ok (.iconst 1, 1) := by decide +kernel
theorem dX7_runs_34 : decode cX7_runs 34 = .ok (.isub, 1) := by decide +kernel
theorem dX7_runs_35 : decode cX7_runs 35 = .ok (.laload, 1) := by decide +kernel
theorem dX7_runs_36 : decode cX7_runs 36 = .ok (.lreturn, 1) := by decide +kernel
theorem dX7_leads_0 : decode cX7_leads 0 = .ok (.aload_n 0, 1) := by decide +kernel
theorem dX7_leads_1 : decode cX7_leads 1 = .ok (.iload_n 1, 1) := by decide +kernel
theorem dX7_leads_2 : decode cX7_leads 2 = .ok (.invokevirtual 115, 3) := by decide +kernel
theorem dX7_leads_5 : decode cX7_leads 5 = .ok (.ifCond .eq 11, 3) := by decide +kernel
theorem dX7_leads_8 : decode cX7_leads 8 = .ok (.aload_n 0, 1) := by decide +kernel
theorem dX7_leads_9 : decode cX7_leads 9 = .ok (.iload_n 2, 1) := by decide +kernel
theorem dX7_leads_10 : decode cX7_leads 10 = .ok (.invokevirtual 115, 3) := by decide +kernel
theorem dX7_leads_13 : decode cX7_leads 13 = .ok (.ifCond .ne 6, 3) := by decide +kernel
theorem dX7_leads_16 : decode cX7_leads 16 = .ok (.bipush (-2), 2) := by decide +kernel
theorem dX7_leads_18 : decode cX7_leads 18 = .ok (.ireturn, 1) := by decide +kernel
theorem dX7_leads_19 : decode cX7_leads 19 = .ok (.aload_n 0, 1) := by decide +kernel
theorem dX7_leads_20 : decode cX7_leads 20 = .ok (.invokevirtual 136, 3) := by decide +kernel
theorem dX7_leads_23 : decode cX7_leads 23 = .ok (.ifCond .eq 8, 3) := by decide +kernel
theorem dX7_leads_26 : decode cX7_leads 26 = .ok (.bipush (-3), 2) := by decide +kernel
theorem dX7_leads_28 : decode cX7_leads 28 = .ok (.goto 15, 3) := by decide +kernel
theorem dX7_leads_31 : decode cX7_leads 31 = .ok (.iload_n 1, 1) := by decide +kernel
theorem dX7_leads_32 : decode cX7_leads 32 = .ok (.iload_n 2, 1) := by decide +kernel
theorem dX7_leads_33 : decode cX7_leads 33 = .ok (.aload_n 0, 1) := by decide +kernel
theorem dX7_leads_34 : decode cX7_leads 34 = .ok (.getfield 33, 3) := by decide +kernel
theorem dX7_leads_37 : decode cX7_leads 37 = .ok (.invokestatic 248, 3) := by decide +kernel
theorem dX7_leads_40 : decode cX7_leads 40 = .ok (.invokestatic 251, 3) := by decide +kernel
theorem dX7_leads_43 : decode cX7_leads 43 = .ok (.ireturn, 1) := by decide +kernel
theorem dX7_lead_0 : decode cX7_lead 0 = .ok (.aload_n 0, 1) := by decide +kernel
theorem dX7_lead_1 : decode cX7_lead 1 = .ok (.iload_n 1, 1) := by decide +kernel
theorem dX7_lead_2 : decode cX7_lead 2 = .ok (.invokevirtual 115, 3) := by decide +kernel
theorem dX7_lead_5 : decode cX7_lead 5 = .ok (.ifCond .eq 11, 3) := by decide +kernel
theorem dX7_lead_8 : decode cX7_lead 8 = .ok (.aload_n 0, 1) := by decide +kernel
theorem dX7_lead_9 : decode cX7_lead 9 = .ok (.iload_n 2, 1) := by decide +kernel
theorem dX7_lead_10 : decode cX7_lead 10 = .ok (.invokevirtual 115, 3) := by decide +kernel
theorem dX7_lead_13 : decode cX7_lead 13 = .ok (.ifCond .ne 6, 3) := by decide +kernel
theorem dX7_lead_16 : decode cX7_lead 16 = .ok (.bipush (-2), 2) := by decide +kernel
theorem dX7_lead_18 : decode cX7_lead 18 = .ok (.ireturn, 1) := by decide +kernel
theorem dX7_lead_19 : decode cX7_lead 19 = .ok (.aload_n 0, 1) := by decide +kernel
theorem dX7_lead_20 : decode cX7_lead 20 = .ok (.invokevirtual 136, 3) := by decide +kernel
theorem dX7_lead_23 : decode cX7_lead 23 = .ok (.ifCond .eq 6, 3) := by decide +kernel
theorem dX7_lead_26 : decode cX7_lead 26 = .ok (.bipush (-3), 2) := by decide +kernel
theorem dX7_lead_28 : decode cX7_lead 28 = .ok (.ireturn, 1) := by decide +kernel
theorem dX7_lead_29 : decode cX7_lead 29 = .ok (.iload_n 1, 1) := by decide +kernel
theorem dX7_lead_30 : decode cX7_lead 30 = .ok (.iload_n 2, 1) := by decide +kernel
theorem dX7_lead_31 : decode cX7_lead 31 = .ok (.aload_n 0, 1) := by decide +kernel
theorem dX7_lead_32 : decode cX7_lead 32 = .ok (.getfield 33, 3) := by decide +kernel
theorem dX7_lead_35 : decode cX7_lead 35 = .ok (.invokestatic 248, 3) := by decide +kernel
theorem dX7_lead_38 : decode cX7_lead 38 = .ok (.istore 4, 2) := by decide +kernel
theorem dX7_lead_40 : decode cX7_lead 40 = .ok (.iload 4, 2) := by decide +kernel
theorem dX7_lead_42 : decode cX7_lead 42 = .ok (.invokestatic 251, 3) := by decide +kernel
theorem dX7_lead_45 : decode cX7_lead 45 = .ok (.istore 5, 2) := by decide +kernel
theorem dX7_lead_47 : decode cX7_lead 47 = .ok (.iload_n 3, 1) := by decide +kernel
theorem dX7_lead_48 : decode cX7_lead 48 = .ok (.ifCond .lt 9, 3) := by decide +kernel
theorem dX7_lead_51 : decode cX7_lead 51 = .ok (.iload_n 3, 1) := by decide +kernel
theorem dX7_lead_52 : decode cX7_lead 52 = .ok (.iload 5, 2) := by decide +kernel
theorem dX7_lead_54 : decode cX7_lead 54 = .ok (.if_icmp .lt 7, 3) := by decide +kernel
theorem dX7_lead_57 : decode cX7_lead 57 = .ok (.iconst (-1), 1) := by decide +kernel
theorem dX7_lead_58 : decode cX7_lead 58 = .ok (.goto 14, 3) := by decide +kernel
theorem dX7_lead_61 : decode cX7_lead 61 = .ok (.iload 4, 2) := by decide +kernel
theorem dX7_lead_63 : decode cX7_lead 63 = .ok (.iload 5, 2) := by decide +kernel
theorem dX7_lead_65 : decode cX7_lead 65 = .ok (.iconst 1, 1) := by decide +kernel
theorem dX7_lead_66 : decode cX7_lead 66 = .ok (.isub, 1) := by decide +kernel
theorem dX7_lead_67 : decode cX7_lead 67 = .ok (.iload_n 3, 1) := by decide +kernel
theorem dX7_lead_68 : decode cX7_lead 68 = .ok (.isub, 1) := by decide +kernel
theorem dX7_lead_69 : decode cX7_lead 69 = .ok (.ishr, 1) := by decide +kernel
theorem dX7_lead_70 : decode cX7_lead 70 = .ok (.iconst 1, 1) := by decide +kernel
theorem dX7_lead_71 : decode cX7_lead 71 = .ok (.iand, 1) := by decide +kernel
theorem dX7_lead_72 : decode cX7_lead 72 = .ok (.ireturn, 1) := by decide +kernel
theorem dX7_group_0 : decode cX7_group 0 = .ok (.aload_n 0, 1) := by decide +kernel
theorem dX7_group_1 : decode cX7_group 1 = .ok (.invokevirtual 136, 3) := by decide +kernel
theorem dX7_group_4 : decode cX7_group 4 = .ok (.ifCond .eq 8, 3) := by decide +kernel
theorem dX7_group_7 : decode cX7_group 7 = .ok (.bipush (-3), 2) := by decide +kernel
theorem dX7_group_9 : decode cX7_group 9 = .ok (.goto 13, 3) := by decide +kernel
theorem dX7_group_12 : decode cX7_group 12 = .ok (.getstatic 254, 3) := by decide +kernel
theorem dX7_group_15 : decode cX7_group 15 = .ok (.aload_n 0, 1) := by decide +kernel
theorem dX7_group_16 : decode cX7_group 16 = .ok (.getfield 33, 3) := by decide +kernel
theorem dX7_group_19 : decode cX7_group 19 = .ok (.iconst 2, 1) := by decide +kernel
theorem dX7_group_20 : decode cX7_group 20 = .ok (.idiv, 1) := by decide +kernel
theorem dX7_group_21 : decode cX7_group 21 = .ok (.iaload, 1) := by decide +kernel
theorem dX7_group_22 : decode cX7_group 22 = .ok (.ireturn, 1) := by decide +kernel
theorem dX7_act_0 : decode cX7_act 0 = .ok (.aload_n 0, 1) := by decide +kernel
theorem dX7_act_1 : decode cX7_act 1 = .ok (.getfield 29, 3) := by decide +kernel
theorem dX7_act_4 : decode cX7_act 4 = .ok (.invokevirtual 257, 3) := by decide +kernel
theorem dX7_act_7 : decode cX7_act 7 = .ok (.aload_n 0, 1) := by decide +kernel
theorem dX7_act_8 : decode cX7_act 8 = .ok (.iload_n 1, 1) := by decide +kernel
theorem dX7_act_9 : decode cX7_act 9 = .ok (.invokevirtual 148, 3) := by decide +kernel
theorem dX7_act_12 : decode cX7_act 12 = .ok (.ifCond .eq 12, 3) := by decide +kernel
theorem dX7_act_15 : decode cX7_act 15 = .ok (.iload_n 2, 1) := by decide +kernel
theorem dX7_act_16 : decode cX7_act 16 = .ok (.ifCond .lt 8, 3) := by decide +kernel
theorem dX7_act_19 : decode cX7_act 19 = .ok (.iload_n 2, 1) := by decide +kernel
theorem dX7_act_20 : decode cX7_act 20 = .ok (.iconst 3, 1) := by decide +kernel
theorem dX7_act_21 : decode cX7_act 21 = .ok (.if_icmp .lt 5, 3) := by decide +kernel
theorem dX7_act_24 : decode cX7_act 24 = .ok (.iconst 0, 1) := by decide +kernel
theorem dX7_act_25 : decode cX7_act 25 = .ok (.ireturn, 1) := by decide +kernel
theorem dX7_act_26 : decode cX7_act 26 = .ok (.aload_n 0, 1) := by decide +kernel
theorem dX7_act_27 : decode cX7_act 27 = .ok (.getfield 29, 3) := by decide +kernel
theorem dX7_act_30 : decode cX7_act 30 = .ok (.aload_n 0, 1) := by decide +kernel
theorem dX7_act_31 : decode cX7_act 31 = .ok (.getfield 16, 3) := by decide +kernel
theorem dX7_act_34 : decode cX7_act 34 = .ok (.iload_n 1, 1) := by decide +kernel
theorem dX7_act_35 : decode cX7_act 35 = .ok (.aaload, 1) := by decide +kernel
theorem dX7_act_36 : decode cX7_act 36 = .ok (.iload_n 1, 1) := by decide +kernel
theorem dX7_act_37 : decode cX7_act 37 = .ok (.iload_n 2, 1) := by decide +kernel
theorem dX7_act_38 : decode cX7_act 38 = .ok (.iload_n 3, 1) := by decide +kernel
theorem dX7_act_39 : decode cX7_act 39 = .ok (.invokevirtual 260, 3) := by decide +kernel
theorem dX7_act_42 : decode cX7_act 42 = .ok (.ireturn, 1) := by decide +kernel
theorem dX7_trace_0 : decode cX7_trace 0 = .ok (.iload_n 1, 1) := by decide +kernel
theorem dX7_trace_1 : decode cX7_trace 1 = .ok (.ifCond .lt 20, 3) := by decide +kernel
theorem dX7_trace_4 : decode cX7_trace 4 = .ok (.iload_n 1, 1) := by decide +kernel
theorem dX7_trace_5 : decode cX7_trace 5 = .ok (.bipush 40, 2) := by decide +kernel
theorem dX7_trace_7 : decode cX7_trace 7 = .ok (.if_icmp .ge 14, 3) := by decide +kernel
theorem dX7_trace_10 : decode cX7_trace 10 = .ok (.iload_n 1, 1) := by decide +kernel
theorem dX7_trace_11 : decode cX7_trace 11 = .ok (.aload_n 0, 1) := by decide +kernel
theorem dX7_trace_12 : decode cX7_trace 12 = .ok (.getfield 29, 3) := by decide +kernel
theorem dX7_trace_15 : decode cX7_trace 15 = .ok (.getfield 264, 3) := by decide +kernel
theorem dX7_trace_18 : decode cX7_trace 18 = .ok (.if_icmp .lt 7, 3) := by decide +kernel
theorem dX7_trace_21 : decode cX7_trace 21 = .ok (.iconst (-1), 1) := by decide +kernel
theorem dX7_trace_22 : decode cX7_trace 22 = .ok (.goto 12, 3) := by decide +kernel
theorem dX7_trace_25 : decode cX7_trace 25 = .ok (.aload_n 0, 1) := by decide +kernel
theorem dX7_trace_26 : decode cX7_trace 26 = .ok (.getfield 29, 3) := by decide +kernel
theorem dX7_trace_29 : decode cX7_trace 29 = .ok (.getfield 267, 3) := by decide +kernel
theorem dX7_trace_32 : decode cX7_trace 32 = .ok (.iload_n 1, 1) := by decide +kernel
theorem dX7_trace_33 : decode cX7_trace 33 = .ok (.iaload, 1) := by decide +kernel
theorem dX7_trace_34 : decode cX7_trace 34 = .ok (.ireturn, 1) := by decide +kernel
theorem dX7_count_0 : decode cX7_count 0 = .ok (.iload_n 1, 1) := by decide +kernel
theorem dX7_count_1 : decode cX7_count 1 = .ok (.tableswitch 54 0 3 #[31, 36, 41, 46], 31) := by decide +kernel
theorem dX7_count_32 : decode cX7_count 32 = .ok (.aload_n 0, 1) := by decide +kernel
theorem dX7_count_33 : decode cX7_count 33 = .ok (.getfield 33, 3) := by decide +kernel
theorem dX7_count_36 : decode cX7_count 36 = .ok (.ireturn, 1) := by decide +kernel
theorem dX7_count_37 : decode cX7_count 37 = .ok (.aload_n 0, 1) := by decide +kernel
theorem dX7_count_38 : decode cX7_count 38 = .ok (.getfield 37, 3) := by decide +kernel
theorem dX7_count_41 : decode cX7_count 41 = .ok (.ireturn, 1) := by decide +kernel
theorem dX7_count_42 : decode cX7_count 42 = .ok (.aload_n 0, 1) := by decide +kernel
theorem dX7_count_43 : decode cX7_count 43 = .ok (.getfield 40, 3) := by decide +kernel
theorem dX7_count_46 : decode cX7_count 46 = .ok (.ireturn, 1) := by decide +kernel
theorem dX7_count_47 : decode cX7_count 47 = .ok (.aload_n 0, 1) := by decide +kernel
theorem dX7_count_48 : decode cX7_count 48 = .ok (.getfield 29, 3) := by decide +kernel
theorem dX7_count_51 : decode cX7_count 51 = .ok (.getfield 264, 3) := by decide +kernel
theorem dX7_count_54 : decode cX7_count 54 = .ok (.ireturn, 1) := by decide +kernel
theorem dX7_count_55 : decode cX7_count 55 = .ok (.bipush (-2), 2) := by decide +kernel
theorem dX7_count_57 : decode cX7_count 57 = .ok (.ireturn, 1) := by decide +kernel
theorem dX7_tray_0 : decode cX7_tray 0 = .ok (.iload_n 1, 1) := by decide +kernel
theorem dX7_tray_1 : decode cX7_tray 1 = .ok (.invokestatic 81, 3) := by decide +kernel
theorem dX7_tray_4 : decode cX7_tray 4 = .ok (.ifCond .eq 15, 3) := by decide +kernel
theorem dX7_tray_7 : decode cX7_tray 7 = .ok (.iload_n 2, 1) := by decide +kernel
theorem dX7_tray_8 : decode cX7_tray 8 = .ok (.iconst (-1), 1) := by decide +kernel
theorem dX7_tray_9 : decode cX7_tray 9 = .ok (.if_icmp .eq 13, 3) := by decide +kernel
theorem dX7_tray_12 : decode cX7_tray 12 = .ok (.iload_n 2, 1) := by decide +kernel
theorem dX7_tray_13 : decode cX7_tray 13 = .ok (.invokestatic 85, 3) := by decide +kernel
theorem dX7_tray_16 : decode cX7_tray 16 = .ok (.ifCond .ne 6, 3) := by decide +kernel
theorem dX7_tray_19 : decode cX7_tray 19 = .ok (.bipush (-2), 2) := by decide +kernel
theorem dX7_tray_21 : decode cX7_tray 21 = .ok (.ireturn, 1) := by decide +kernel
theorem dX7_tray_22 : decode cX7_tray 22 = .ok (.iload_n 2, 1) := by decide +kernel
theorem dX7_tray_23 : decode cX7_tray 23 = .ok (.iconst (-1), 1) := by decide +kernel
theorem dX7_tray_24 : decode cX7_tray 24 = .ok (.if_icmp .ne 16, 3) := by decide +kernel
theorem dX7_tray_27 : decode cX7_tray 27 = .ok (.aload_n 0, 1) := by decide +kernel
theorem dX7_tray_28 : decode cX7_tray 28 = .ok (.getfield 22, 3) := by decide +kernel
theorem dX7_tray_31 : decode cX7_tray 31 = .ok (.iload_n 1, 1) := by decide +kernel
theorem dX7_tray_32 : decode cX7_tray 32 = .ok (.aaload, 1) := by decide +kernel
theorem dX7_tray_33 : decode cX7_tray 33 = .ok (.iconst (-1), 1) := by decide +kernel
theorem dX7_tray_34 : decode cX7_tray 34 = .ok (.iconst 0, 1) := by decide +kernel
theorem dX7_tray_35 : decode cX7_tray 35 = .ok (.invokevirtual 270, 3) := by decide +kernel
theorem dX7_tray_38 : decode cX7_tray 38 = .ok (.iconst 1, 1) := by decide +kernel
theorem dX7_tray_39 : decode cX7_tray 39 = .ok (.ireturn, 1) := by decide +kernel
theorem dX7_tray_40 : decode cX7_tray 40 = .ok (.iload_n 3, 1) := by decide +kernel
theorem dX7_tray_41 : decode cX7_tray 41 = .ok (.bipush 40, 2) := by decide +kernel
theorem dX7_tray_43 : decode cX7_tray 43 = .ok (.if_icmp .le 6, 3) := by decide +kernel
theorem dX7_tray_46 : decode cX7_tray 46 = .ok (.bipush (-2), 2) := by decide +kernel
theorem dX7_tray_48 : decode cX7_tray 48 = .ok (.ireturn, 1) := by decide +kernel
theorem dX7_tray_49 : decode cX7_tray 49 = .ok (.iload_n 3, 1) := by decide +kernel
theorem dX7_tray_50 : decode cX7_tray 50 = .ok (.ifCond .ge 6, 3) := by decide +kernel
theorem dX7_tray_53 : decode cX7_tray 53 = .ok (.bipush (-14), 2) := by decide +kernel
theorem dX7_tray_55 : decode cX7_tray 55 = .ok (.ireturn, 1) := by decide +kernel
theorem dX7_tray_56 : decode cX7_tray 56 = .ok (.aload_n 0, 1) := by decide +kernel
theorem dX7_tray_57 : decode cX7_tray 57 = .ok (.getfield 22, 3) := by decide +kernel
theorem dX7_tray_60 : decode cX7_tray 60 = .ok (.iload_n 1, 1) := by decide +kernel
theorem dX7_tray_61 : decode cX7_tray 61 = .ok (.aaload, 1) := by decide +kernel
theorem dX7_tray_62 : decode cX7_tray 62 = .ok (.iload_n 2, 1) := by decide +kernel
theorem dX7_tray_63 : decode cX7_tray 63 = .ok (.iload_n 3, 1) := by decide +kernel
theorem dX7_tray_64 : decode cX7_tray 64 = .ok (.invokevirtual 270, 3) := by decide +kernel
theorem dX7_tray_67 : decode cX7_tray 67 = .ok (.iconst 1, 1) := by decide +kernel
theorem dX7_tray_68 : decode cX7_tray 68 = .ok (.ireturn, 1) := by decide +kernel
theorem dX7_cell_0 : decode cX7_cell 0 = .ok (.iload_n 1, 1) := by decide +kernel
theorem dX7_cell_1 : decode cX7_cell 1 = .ok (.invokestatic 81, 3) := by decide +kernel
theorem dX7_cell_4 : decode cX7_cell 4 = .ok (.ifCond .ne 6, 3) := by decide +kernel
theorem dX7_cell_7 : decode cX7_cell 7 = .ok (.bipush (-2), 2) := by decide +kernel
theorem dX7_cell_9 : decode cX7_cell 9 = .ok (.ireturn, 1) := by decide +kernel
theorem dX7_cell_10 : decode cX7_cell 10 = .ok (.aload_n 0, 1) := by decide +kernel
theorem dX7_cell_11 : decode cX7_cell 11 = .ok (.getfield 22, 3) := by decide +kernel
theorem dX7_cell_14 : decode cX7_cell 14 = .ok (.iload_n 1, 1) := by decide +kernel
theorem dX7_cell_15 : decode cX7_cell 15 = .ok (.aaload, 1) := by decide +kernel
theorem dX7_cell_16 : decode cX7_cell 16 = .ok (.invokevirtual 88, 3) := by decide +kernel
theorem dX7_cell_19 : decode cX7_cell 19 = .ok (.ifCond .eq 6, 3) := by decide +kernel
theorem dX7_cell_22 : decode cX7_cell 22 = .ok (.bipush (-11), 2) := by decide +kernel
theorem dX7_cell_24 : decode cX7_cell 24 = .ok (.ireturn, 1) := by decide +kernel
theorem dX7_cell_25 : decode cX7_cell 25 = .ok (.aload_n 0, 1) := by decide +kernel
theorem dX7_cell_26 : decode cX7_cell 26 = .ok (.getfield 22, 3) := by decide +kernel
theorem dX7_cell_29 : decode cX7_cell 29 = .ok (.iload_n 1, 1) := by decide +kernel
theorem dX7_cell_30 : decode cX7_cell 30 = .ok (.aaload, 1) := by decide +kernel
theorem dX7_cell_31 : decode cX7_cell 31 = .ok (.iload_n 2, 1) := by decide +kernel
theorem dX7_cell_32 : decode cX7_cell 32 = .ok (.iconst 1, 1) := by decide +kernel
theorem dX7_cell_33 : decode cX7_cell 33 = .ok (.invokevirtual 95, 3) := by decide +kernel
theorem dX7_cell_36 : decode cX7_cell 36 = .ok (.ifCond .ne 6, 3) := by decide +kernel
theorem dX7_cell_39 : decode cX7_cell 39 = .ok (.bipush (-12), 2) := by decide +kernel
theorem dX7_cell_41 : decode cX7_cell 41 = .ok (.ireturn, 1) := by decide +kernel
theorem dX7_cell_42 : decode cX7_cell 42 = .ok (.aload_n 0, 1) := by decide +kernel
theorem dX7_cell_43 : decode cX7_cell 43 = .ok (.getfield 22, 3) := by decide +kernel
theorem dX7_cell_46 : decode cX7_cell 46 = .ok (.iload_n 1, 1) := by decide +kernel
theorem dX7_cell_47 : decode cX7_cell 47 = .ok (.aaload, 1) := by decide +kernel
theorem dX7_cell_48 : decode cX7_cell 48 = .ok (.getfield 99, 3) := by decide +kernel
theorem dX7_cell_51 : decode cX7_cell 51 = .ok (.iload_n 2, 1) := by decide +kernel
theorem dX7_cell_52 : decode cX7_cell 52 = .ok (.aload_n 0, 1) := by decide +kernel
theorem dX7_cell_53 : decode cX7_cell 53 = .ok (.getfield 22, 3) := by decide +kernel
theorem dX7_cell_56 : decode cX7_cell 56 = .ok (.iload_n 1, 1) := by decide +kernel
theorem dX7_cell_57 : decode cX7_cell 57 = .ok (.aaload, 1) := by decide +kernel
theorem dX7_cell_58 : decode cX7_cell 58 = .ok (.iload_n 3, 1) := by decide +kernel
theorem dX7_cell_59 : decode cX7_cell 59 = .ok (.invokevirtual 274, 3) := by decide +kernel
theorem dX7_cell_62 : decode cX7_cell 62 = .ok (.iastore, 1) := by decide +kernel
theorem dX7_cell_63 : decode cX7_cell 63 = .ok (.iconst 1, 1) := by decide +kernel
theorem dX7_cell_64 : decode cX7_cell 64 = .ok (.ireturn, 1) := by decide +kernel
theorem dX7_copy_0 : decode cX7_copy 0 = .ok (.iload_n 1, 1) := by decide +kernel
theorem dX7_copy_1 : decode cX7_copy 1 = .ok (.invokestatic 81, 3) := by decide +kernel
theorem dX7_copy_4 : decode cX7_copy 4 = .ok (.ifCond .eq 10, 3) := by decide +kernel
theorem dX7_copy_7 : decode cX7_copy 7 = .ok (.iload_n 3, 1) := by decide +kernel
theorem dX7_copy_8 : decode cX7_copy 8 = .ok (.invokestatic 81, 3) := by decide +kernel
theorem dX7_copy_11 : decode cX7_copy 11 = .ok (.ifCond .ne 6, 3) := by decide +kernel
theorem dX7_copy_14 : decode cX7_copy 14 = .ok (.bipush (-2), 2) := by decide +kernel
theorem dX7_copy_16 : decode cX7_copy 16 = .ok (.ireturn, 1) := by decide +kernel
theorem dX7_copy_17 : decode cX7_copy 17 = .ok (.aload_n 0, 1) := by decide +kernel
theorem dX7_copy_18 : decode cX7_copy 18 = .ok (.getfield 22, 3) := by decide +kernel
theorem dX7_copy_21 : decode cX7_copy 21 = .ok (.iload_n 1, 1) := by decide +kernel
theorem dX7_copy_22 : decode cX7_copy 22 = .ok (.aaload, 1) := by decide +kernel
theorem dX7_copy_23 : decode cX7_copy 23 = .ok (.astore 6, 2) := by decide +kernel
theorem dX7_copy_25 : decode cX7_copy 25 = .ok (.aload_n 0, 1) := by decide +kernel
theorem dX7_copy_26 : decode cX7_copy 26 = .ok (.getfield 22, 3) := by decide +kernel
theorem dX7_copy_29 : decode cX7_copy 29 = .ok (.iload_n 3, 1) := by decide +kernel
theorem dX7_copy_30 : decode cX7_copy 30 = .ok (.aaload, 1) := by decide +kernel
theorem dX7_copy_31 : decode cX7_copy 31 = .ok (.astore 7, 2) := by decide +kernel
theorem dX7_copy_33 : decode cX7_copy 33 = .ok (.aload 6, 2) := by decide +kernel
theorem dX7_copy_35 : decode cX7_copy 35 = .ok (.invokevirtual 88, 3) := by decide +kernel
theorem dX7_copy_38 : decode cX7_copy 38 = .ok (.ifCond .ne 11, 3) := by decide +kernel
theorem dX7_copy_41 : decode cX7_copy 41 = .ok (.aload 7, 2) := by decide +kernel
theorem dX7_copy_43 : decode cX7_copy 43 = .ok (.invokevirtual 88, 3) := by decide +kernel
theorem dX7_copy_46 : decode cX7_copy 46 = .ok (.ifCond .eq 6, 3) := by decide +kernel
theorem dX7_copy_49 : decode cX7_copy 49 = .ok (.bipush (-11), 2) := by decide +kernel
theorem dX7_copy_51 : decode cX7_copy 51 = .ok (.ireturn, 1) := by decide +kernel
theorem dX7_copy_52 : decode cX7_copy 52 = .ok (.aload 6, 2) := by decide +kernel
theorem dX7_copy_54 : decode cX7_copy 54 = .ok (.getfield 92, 3) := by decide +kernel
theorem dX7_copy_57 : decode cX7_copy 57 = .ok (.aload 7, 2) := by decide +kernel
theorem dX7_copy_59 : decode cX7_copy 59 = .ok (.getfield 92, 3) := by decide +kernel
theorem dX7_copy_62 : decode cX7_copy 62 = .ok (.if_icmp .eq 6, 3) := by decide +kernel
theorem dX7_copy_65 : decode cX7_copy 65 = .ok (.bipush (-13), 2) := by decide +kernel
theorem dX7_copy_67 : decode cX7_copy 67 = .ok (.ireturn, 1) := by decide +kernel
theorem dX7_copy_68 : decode cX7_copy 68 = .ok (.aload 6, 2) := by decide +kernel
theorem dX7_copy_70 : decode cX7_copy 70 = .ok (.iload_n 2, 1) := by decide +kernel
theorem dX7_copy_71 : decode cX7_copy 71 = .ok (.iload 5, 2) := by decide +kernel
theorem dX7_copy_73 : decode cX7_copy 73 = .ok (.invokevirtual 95, 3) := by decide +kernel
theorem dX7_copy_76 : decode cX7_copy 76 = .ok (.ifCond .eq 15, 3) := by decide +kernel
theorem dX7_copy_79 : decode cX7_copy 79 = .ok (.aload 7, 2) := by decide +kernel
theorem dX7_copy_81 : decode cX7_copy 81 = .ok (.iload 4, 2) := by decide +kernel
theorem dX7_copy_83 : decode cX7_copy 83 = .ok (.iload 5, 2) := by decide +kernel
theorem dX7_copy_85 : decode cX7_copy 85 = .ok (.invokevirtual 95, 3) := by decide +kernel
theorem dX7_copy_88 : decode cX7_copy 88 = .ok (.ifCond .ne 6, 3) := by decide +kernel
theorem dX7_copy_91 : decode cX7_copy 91 = .ok (.bipush (-12), 2) := by decide +kernel
theorem dX7_copy_93 : decode cX7_copy 93 = .ok (.ireturn, 1) := by decide +kernel
theorem dX7_copy_94 : decode cX7_copy 94 = .ok (.aload 6, 2) := by decide +kernel
theorem dX7_copy_96 : decode cX7_copy 96 = .ok (.getfield 99, 3) := by decide +kernel
theorem dX7_copy_99 : decode cX7_copy 99 = .ok (.iload_n 2, 1) := by decide +kernel
theorem dX7_copy_100 : decode cX7_copy 100 = .ok (.aload 7, 2) := by decide +kernel
theorem dX7_copy_102 : decode cX7_copy 102 = .ok (.getfield 99, 3) := by decide +kernel
theorem dX7_copy_105 : decode cX7_copy 105 = .ok (.iload 4, 2) := by decide +kernel
theorem dX7_copy_107 : decode cX7_copy 107 = .ok (.iload 5, 2) := by decide +kernel
theorem dX7_copy_109 : decode cX7_copy 109 = .ok (.invokestatic 106, 3) := by decide +kernel
theorem dX7_copy_112 : decode cX7_copy 112 = .ok (.iload 5, 2) := by decide +kernel
theorem dX7_copy_114 : decode cX7_copy 114 = .ok (.ireturn, 1) := by decide +kernel
theorem dX7_isPack_0 : decode cX7_isPack 0 = .ok (.iload_n 1, 1) := by decide +kernel
theorem dX7_isPack_1 : decode cX7_isPack 1 = .ok (.ifCond .lt 15, 3) := by decide +kernel
theorem dX7_isPack_4 : decode cX7_isPack 4 = .ok (.iload_n 1, 1) := by decide +kernel
theorem dX7_isPack_5 : decode cX7_isPack 5 = .ok (.aload_n 0, 1) := by decide +kernel
theorem dX7_isPack_6 : decode cX7_isPack 6 = .ok (.getfield 37, 3) := by decide +kernel
theorem dX7_isPack_9 : decode cX7_isPack 9 = .ok (.if_icmp .ge 7, 3) := by decide +kernel
theorem dX7_isPack_12 : decode cX7_isPack 12 = .ok (.iconst 1, 1) := by decide +kernel
theorem dX7_isPack_13 : decode cX7_isPack 13 = .ok (.goto 4, 3) := by decide +kernel
theorem dX7_isPack_16 : decode cX7_isPack 16 = .ok (.iconst 0, 1) := by decide +kernel
theorem dX7_isPack_17 : decode cX7_isPack 17 = .ok (.ireturn, 1) := by decide +kernel
theorem dX7_isShuffle_0 : decode cX7_isShuffle 0 = .ok (.iload_n 1, 1) := by decide +kernel
theorem dX7_isShuffle_1 : decode cX7_isShuffle 1 = .ok (.ifCond .lt 15, 3) := by decide +kernel
theorem dX7_isShuffle_4 : decode cX7_isShuffle 4 = .ok (.iload_n 1, 1) := by decide +kernel
theorem dX7_isShuffle_5 : decode cX7_isShuffle 5 = .ok (.aload_n 0, 1) := by decide +kernel
theorem dX7_isShuffle_6 : decode cX7_isShuffle 6 = .ok (.getfield 40, 3) := by decide +kernel
theorem dX7_isShuffle_9 : decode cX7_isShuffle 9 = .ok (.if_icmp .ge 7, 3) := by decide +kernel
theorem dX7_isShuffle_12 : decode cX7_isShuffle 12 = .ok (.iconst 1, 1) := by decide +kernel
theorem dX7_isShuffle_13 : decode cX7_isShuffle 13 = .ok (.goto 4, 3) := by decide +kernel
theorem dX7_isShuffle_16 : decode cX7_isShuffle 16 = .ok (.iconst 0, 1) := by decide +kernel
theorem dX7_isShuffle_17 : decode cX7_isShuffle 17 = .ok (.ireturn, 1) := by decide +kernel
theorem dX7_isPlace_0 : decode cX7_isPlace 0 = .ok (.iload_n 1, 1) := by decide +kernel
theorem dX7_isPlace_1 : decode cX7_isPlace 1 = .ok (.ifCond .lt 15, 3) := by decide +kernel
theorem dX7_isPlace_4 : decode cX7_isPlace 4 = .ok (.iload_n 1, 1) := by decide +kernel
theorem dX7_isPlace_5 : decode cX7_isPlace 5 = .ok (.aload_n 0, 1) := by decide +kernel
theorem dX7_isPlace_6 : decode cX7_isPlace 6 = .ok (.getfield 33, 3) := by decide +kernel
theorem dX7_isPlace_9 : decode cX7_isPlace 9 = .ok (.if_icmp .ge 7, 3) := by decide +kernel
theorem dX7_isPlace_12 : decode cX7_isPlace 12 = .ok (.iconst 1, 1) := by decide +kernel
theorem dX7_isPlace_13 : decode cX7_isPlace 13 = .ok (.goto 4, 3) := by decide +kernel
theorem dX7_isPlace_16 : decode cX7_isPlace 16 = .ok (.iconst 0, 1) := by decide +kernel
theorem dX7_isPlace_17 : decode cX7_isPlace 17 = .ok (.ireturn, 1) := by decide +kernel
theorem dX7_isOdd_0 : decode cX7_isOdd 0 = .ok (.aload_n 0, 1) := by decide +kernel
theorem dX7_isOdd_1 : decode cX7_isOdd 1 = .ok (.getfield 33, 3) := by decide +kernel
theorem dX7_isOdd_4 : decode cX7_isOdd 4 = .ok (.iconst 1, 1) := by decide +kernel
theorem dX7_isOdd_5 : decode cX7_isOdd 5 = .ok (.iand, 1) := by decide +kernel
theorem dX7_isOdd_6 : decode cX7_isOdd 6 = .ok (.ifCond .eq 7, 3) := by decide +kernel
theorem dX7_isOdd_9 : decode cX7_isOdd 9 = .ok (.iconst 1, 1) := by decide +kernel
theorem dX7_isOdd_10 : decode cX7_isOdd 10 = .ok (.goto 4, 3) := by decide +kernel
theorem dX7_isOdd_13 : decode cX7_isOdd 13 = .ok (.iconst 0, 1) := by decide +kernel
theorem dX7_isOdd_14 : decode cX7_isOdd 14 = .ok (.ireturn, 1) := by decide +kernel
theorem dX7_isTray_0 : decode cX7_isTray 0 = .ok (.iload_n 0, 1) := by decide +kernel
theorem dX7_isTray_1 : decode cX7_isTray 1 = .ok (.ifCond .lt 12, 3) := by decide +kernel
theorem dX7_isTray_4 : decode cX7_isTray 4 = .ok (.iload_n 0, 1) := by decide +kernel
theorem dX7_isTray_5 : decode cX7_isTray 5 = .ok (.iconst 4, 1) := by decide +kernel
theorem dX7_isTray_6 : decode cX7_isTray 6 = .ok (.if_icmp .ge 7, 3) := by decide +kernel
theorem dX7_isTray_9 : decode cX7_isTray 9 = .ok (.iconst 1, 1) := by decide +kernel
theorem dX7_isTray_10 : decode cX7_isTray 10 = .ok (.goto 4, 3) := by decide +kernel
theorem dX7_isTray_13 : decode cX7_isTray 13 = .ok (.iconst 0, 1) := by decide +kernel
theorem dX7_isTray_14 : decode cX7_isTray 14 = .ok (.ireturn, 1) := by decide +kernel
theorem dX7_isSort_0 : decode cX7_isSort 0 = .ok (.iload_n 0, 1) := by decide +kernel
theorem dX7_isSort_1 : decode cX7_isSort 1 = .ok (.ifCond .lt 12, 3) := by decide +kernel
theorem dX7_isSort_4 : decode cX7_isSort 4 = .ok (.iload_n 0, 1) := by decide +kernel
theorem dX7_isSort_5 : decode cX7_isSort 5 = .ok (.iconst 2, 1) := by decide +kernel
theorem dX7_isSort_6 : decode cX7_isSort 6 = .ok (.if_icmp .gt 7, 3) := by decide +kernel
theorem dX7_isSort_9 : decode cX7_isSort 9 = .ok (.iconst 1, 1) := by decide +kernel
theorem dX7_isSort_10 : decode cX7_isSort 10 = .ok (.goto 4, 3) := by decide +kernel
theorem dX7_isSort_13 : decode cX7_isSort 13 = .ok (.iconst 0, 1) := by decide +kernel
theorem dX7_isSort_14 : decode cX7_isSort 14 = .ok (.ireturn, 1) := by decide +kernel
theorem dX7_isPart_0 : decode cX7_isPart 0 = .ok (.iload_n 0, 1) := by decide +kernel
theorem dX7_isPart_1 : decode cX7_isPart 1 = .ok (.ifCond .eq 8, 3) := by decide +kernel
theorem dX7_isPart_4 : decode cX7_isPart 4 = .ok (.iload_n 0, 1) := by decide +kernel
theorem dX7_isPart_5 : decode cX7_isPart 5 = .ok (.iconst 1, 1) := by decide +kernel
theorem dX7_isPart_6 : decode cX7_isPart 6 = .ok (.if_icmp .ne 7, 3) := by decide +kernel
theorem dX7_isPart_9 : decode cX7_isPart 9 = .ok (.iconst 1, 1) := by decide +kernel
theorem dX7_isPart_10 : decode cX7_isPart 10 = .ok (.goto 4, 3) := by decide +kernel
theorem dX7_isPart_13 : decode cX7_isPart 13 = .ok (.iconst 0, 1) := by decide +kernel
theorem dX7_isPart_14 : decode cX7_isPart 14 = .ok (.ireturn, 1) := by decide +kernel
theorem dX7_addShuffle_0 : decode cX7_addShuffle 0 = .ok (.aload_n 0, 1) := by decide +kernel
theorem dX7_addShuffle_1 : decode cX7_addShuffle 1 = .ok (.getfield 16, 3) := by decide +kernel
theorem dX7_addShuffle_4 : decode cX7_addShuffle 4 = .ok (.aload_n 0, 1) := by decide +kernel
theorem dX7_addShuffle_5 : decode cX7_addShuffle 5 = .ok (.getfield 40, 3) := by decide +kernel
theorem dX7_addShuffle_8 : decode cX7_addShuffle 8 = .ok (.aaload, 1) := by decide +kernel
theorem dX7_addShuffle_9 : decode cX7_addShuffle 9 = .ok (.iload_n 1, 1) := by decide +kernel
theorem dX7_addShuffle_10 : decode cX7_addShuffle 10 = .ok (.putfield 158, 3) := by decide +kernel
theorem dX7_addShuffle_13 : decode cX7_addShuffle 13 = .ok (.aload_n 0, 1) := by decide +kernel
theorem dX7_addShuffle_14 : decode cX7_addShuffle 14 = .ok (.getfield 16, 3) := by decide +kernel
theorem dX7_addShuffle_17 : decode cX7_addShuffle 17 = .ok (.aload_n 0, 1) := by decide +kernel
theorem dX7_addShuffle_18 : decode cX7_addShuffle 18 = .ok (.getfield 40, 3) := by decide +kernel
theorem dX7_addShuffle_21 : decode cX7_addShuffle 21 = .ok (.aaload, 1) := by decide +kernel
theorem dX7_addShuffle_22 : decode cX7_addShuffle 22 = .ok (.iload_n 2, 1) := by decide +kernel
theorem dX7_addShuffle_23 : decode cX7_addShuffle 23 = .ok (.putfield 161, 3) := by decide +kernel
theorem dX7_addShuffle_26 : decode cX7_addShuffle 26 = .ok (.aload_n 0, 1) := by decide +kernel
theorem dX7_addShuffle_27 : decode cX7_addShuffle 27 = .ok (.dup, 1) := by decide +kernel
theorem dX7_addShuffle_28 : decode cX7_addShuffle 28 = .ok (.getfield 40, 3) := by decide +kernel
theorem dX7_addShuffle_31 : decode cX7_addShuffle 31 = .ok (.dup_x1, 1) := by decide +kernel
theorem dX7_addShuffle_32 : decode cX7_addShuffle 32 = .ok (.iconst 1, 1) := by decide +kernel
theorem dX7_addShuffle_33 : decode cX7_addShuffle 33 = .ok (.iadd, 1) := by decide +kernel
theorem dX7_addShuffle_34 : decode cX7_addShuffle 34 = .ok (.putfield 40, 3) := by decide +kernel
theorem dX7_addShuffle_37 : decode cX7_addShuffle 37 = .ok (.ireturn, 1) := by decide +kernel
theorem dX7_lotsOf_0 : decode cX7_lotsOf 0 = .ok (.aload_n 1, 1) := by decide +kernel
theorem dX7_lotsOf_1 : decode cX7_lotsOf 1 = .ok (.getfield 158, 3) := by decide +kernel
theorem dX7_lotsOf_4 : decode cX7_lotsOf 4 = .ok (.iconst 4, 1) := by decide +kernel
theorem dX7_lotsOf_5 : decode cX7_lotsOf 5 = .ok (.if_icmp .ne 7, 3) := by decide +kernel
theorem dX7_lotsOf_8 : decode cX7_lotsOf 8 = .ok (.iconst 1, 1) := by decide +kernel
theorem dX7_lotsOf_9 : decode cX7_lotsOf 9 = .ok (.goto 7, 3) := by decide +kernel
theorem dX7_lotsOf_12 : decode cX7_lotsOf 12 = .ok (.aload_n 0, 1) := by decide +kernel
theorem dX7_lotsOf_13 : decode cX7_lotsOf 13 = .ok (.getfield 33, 3) := by decide +kernel
theorem dX7_lotsOf_16 : decode cX7_lotsOf 16 = .ok (.ireturn, 1) := by decide +kernel
theorem dX7_drawnLot_0 : decode cX7_drawnLot 0 = .ok (.iconst 0, 1) := by decide +kernel
theorem dX7_drawnLot_1 : decode cX7_drawnLot 1 = .ok (.istore_n 2, 1) := by decide +kernel
theorem dX7_drawnLot_2 : decode cX7_drawnLot 2 = .ok (.iload_n 2, 1) := by decide +kernel
theorem dX7_drawnLot_3 : decode cX7_drawnLot 3 = .ok (.ldc_w 277, 3) := by decide +kernel
theorem dX7_drawnLot_6 : decode cX7_drawnLot 6 = .ok (.if_icmp .ge 43, 3) := by decide +kernel
theorem dX7_drawnLot_9 : decode cX7_drawnLot 9 = .ok (.aload_n 0, 1) := by decide +kernel
theorem dX7_drawnLot_10 : decode cX7_drawnLot 10 = .ok (.aload_n 0, 1) := by decide +kernel
theorem dX7_drawnLot_11 : decode cX7_drawnLot 11 = .ok (.getfield 43, 3) := by decide +kernel
theorem dX7_drawnLot_14 : decode cX7_drawnLot 14 = .ok (.ldc_w 278, 3) := by decide +kernel
theorem dX7_drawnLot_17 : decode cX7_drawnLot 17 = .ok (.imul, 1) := by decide +kernel
theorem dX7_drawnLot_18 : decode cX7_drawnLot 18 = .ok (.sipush 12345, 3) := by decide +kernel
theorem dX7_drawnLot_21 : decode cX7_drawnLot 21 = .ok (.iadd, 1) := by decide +kernel
theorem dX7_drawnLot_22 : decode cX7_drawnLot 22 = .ok (.putfield 43, 3) := by decide +kernel
theorem dX7_drawnLot_25 : decode cX7_drawnLot 25 = .ok (.aload_n 0, 1) := by decide +kernel
theorem dX7_drawnLot_26 : decode cX7_drawnLot 26 = .ok (.getfield 43, 3) := by decide +kernel
theorem dX7_drawnLot_29 : decode cX7_drawnLot 29 = .ok (.bipush 16, 2) := by decide +kernel
theorem dX7_drawnLot_31 : decode cX7_drawnLot 31 = .ok (.iushr, 1) := by decide +kernel
theorem dX7_drawnLot_32 : decode cX7_drawnLot 32 = .ok (.bipush 15, 2) := by decide +kernel
theorem dX7_drawnLot_34 : decode cX7_drawnLot 34 = .ok (.iand, 1) := by decide +kernel
theorem dX7_drawnLot_35 : decode cX7_drawnLot 35 = .ok (.istore_n 3, 1) := by decide +kernel
theorem dX7_drawnLot_36 : decode cX7_drawnLot 36 = .ok (.iload_n 3, 1) := by decide +kernel
theorem dX7_drawnLot_37 : decode cX7_drawnLot 37 = .ok (.iload_n 1, 1) := by decide +kernel
theorem dX7_drawnLot_38 : decode cX7_drawnLot 38 = .ok (.if_icmp .ge 5, 3) := by decide +kernel
theorem dX7_drawnLot_41 : decode cX7_drawnLot 41 = .ok (.iload_n 3, 1) := by decide +kernel
theorem dX7_drawnLot_42 : decode cX7_drawnLot 42 = .ok (.ireturn, 1) := by decide +kernel
theorem dX7_drawnLot_43 : decode cX7_drawnLot 43 = .ok (.iinc 2 1, 3) := by decide +kernel
theorem dX7_drawnLot_46 : decode cX7_drawnLot 46 = .ok (.goto (-44), 3) := by decide +kernel
theorem dX7_drawnLot_49 : decode cX7_drawnLot 49 = .ok (.iconst 0, 1) := by decide +kernel
theorem dX7_drawnLot_50 : decode cX7_drawnLot 50 = .ok (.ireturn, 1) := by decide +kernel
theorem dX7_layByLots_0 : decode cX7_layByLots 0 = .ok (.aload_n 1, 1) := by decide +kernel
theorem dX7_layByLots_1 : decode cX7_layByLots 1 = .ok (.getfield 158, 3) := by decide +kernel
theorem dX7_layByLots_4 : decode cX7_layByLots 4 = .ok (.iconst 4, 1) := by decide +kernel
theorem dX7_layByLots_5 : decode cX7_layByLots 5 = .ok (.if_icmp .ne 16, 3) := by decide +kernel
theorem dX7_layByLots_8 : decode cX7_layByLots 8 = .ok (.aload_n 2, 1) := by decide +kernel
theorem dX7_layByLots_9 : decode cX7_layByLots 9 = .ok (.aload_n 0, 1) := by decide +kernel
theorem dX7_layByLots_10 : decode cX7_layByLots 10 = .ok (.getfield 53, 3) := by decide +kernel
theorem dX7_layByLots_13 : decode cX7_layByLots 13 = .ok (.iconst 0, 1) := by decide +kernel
theorem dX7_layByLots_14 : decode cX7_layByLots 14 = .ok (.iaload, 1) := by decide +kernel
theorem dX7_layByLots_15 : decode cX7_layByLots 15 = .ok (.invokestatic 279, 3) := by decide +kernel
theorem dX7_layByLots_18 : decode cX7_layByLots 18 = .ok (.goto 12, 3) := by decide +kernel
theorem dX7_layByLots_21 : decode cX7_layByLots 21 = .ok (.aload_n 0, 1) := by decide +kernel
theorem dX7_layByLots_22 : decode cX7_layByLots 22 = .ok (.aload_n 2, 1) := by decide +kernel
theorem dX7_layByLots_23 : decode cX7_layByLots 23 = .ok (.aload_n 1, 1) := by decide +kernel
theorem dX7_layByLots_24 : decode cX7_layByLots 24 = .ok (.getfield 161, 3) := by decide +kernel
theorem dX7_layByLots_27 : decode cX7_layByLots 27 = .ok (.invokevirtual 283, 3) := by decide +kernel
theorem dX7_layByLots_30 : decode cX7_layByLots 30 = .ok (.return_, 1) := by decide +kernel
theorem dX7_layTop_0 : decode cX7_layTop 0 = .ok (.aload_n 0, 1) := by decide +kernel
theorem dX7_layTop_1 : decode cX7_layTop 1 = .ok (.iconst 0, 1) := by decide +kernel
theorem dX7_layTop_2 : decode cX7_layTop 2 = .ok (.iaload, 1) := by decide +kernel
theorem dX7_layTop_3 : decode cX7_layTop 3 = .ok (.istore_n 2, 1) := by decide +kernel
theorem dX7_layTop_4 : decode cX7_layTop 4 = .ok (.iconst 0, 1) := by decide +kernel
theorem dX7_layTop_5 : decode cX7_layTop 5 = .ok (.istore_n 3, 1) := by decide +kernel
theorem dX7_layTop_6 : decode cX7_layTop 6 = .ok (.iload_n 3, 1) := by decide +kernel
theorem dX7_layTop_7 : decode cX7_layTop 7 = .ok (.iload_n 1, 1) := by decide +kernel
theorem dX7_layTop_8 : decode cX7_layTop 8 = .ok (.if_icmp .ge 17, 3) := by decide +kernel
theorem dX7_layTop_11 : decode cX7_layTop 11 = .ok (.aload_n 0, 1) := by decide +kernel
theorem dX7_layTop_12 : decode cX7_layTop 12 = .ok (.iload_n 3, 1) := by decide +kernel
theorem dX7_layTop_13 : decode cX7_layTop 13 = .ok (.aload_n 0, 1) := by decide +kernel
theorem dX7_layTop_14 : decode cX7_layTop 14 = .ok (.iload_n 3, 1) := by decide +kernel
theorem dX7_layTop_15 : decode cX7_layTop 15 = .ok (.iconst 1, 1) := by decide +kernel
theorem dX7_layTop_16 : decode cX7_layTop 16 = .ok (.iadd, 1) := by decide +kernel
theorem dX7_layTop_17 : decode cX7_layTop 17 = .ok (.iaload, 1) := by decide +kernel
theorem dX7_layTop_18 : decode cX7_layTop 18 = .ok (.iastore, 1) := by decide +kernel
theorem dX7_layTop_19 : decode cX7_layTop 19 = .ok (.iinc 3 1, 3) := by decide +kernel
theorem dX7_layTop_22 : decode cX7_layTop 22 = .ok (.goto (-16), 3) := by decide +kernel
theorem dX7_layTop_25 : decode cX7_layTop 25 = .ok (.aload_n 0, 1) := by decide +kernel
theorem dX7_layTop_26 : decode cX7_layTop 26 = .ok (.iload_n 1, 1) := by decide +kernel
theorem dX7_layTop_27 : decode cX7_layTop 27 = .ok (.iload_n 2, 1) := by decide +kernel
theorem dX7_layTop_28 : decode cX7_layTop 28 = .ok (.iastore, 1) := by decide +kernel
theorem dX7_layTop_29 : decode cX7_layTop 29 = .ok (.return_, 1) := by decide +kernel
theorem dX7_layRiffle_0 : decode cX7_layRiffle 0 = .ok (.iconst 0, 1) := by decide +kernel
theorem dX7_layRiffle_1 : decode cX7_layRiffle 1 = .ok (.istore_n 3, 1) := by decide +kernel
theorem dX7_layRiffle_2 : decode cX7_layRiffle 2 = .ok (.iload_n 3, 1) := by decide +kernel
theorem dX7_layRiffle_3 : decode cX7_layRiffle 3 = .ok (.iload_n 2, 1) := by decide +kernel
theorem dX7_layRiffle_4 : decode cX7_layRiffle 4 = .ok (.if_icmp .ge 16, 3) := by decide +kernel
theorem dX7_layRiffle_7 : decode cX7_layRiffle 7 = .ok (.aload_n 0, 1) := by decide +kernel
theorem dX7_layRiffle_8 : decode cX7_layRiffle 8 = .ok (.getfield 56, 3) := by decide +kernel
theorem dX7_layRiffle_11 : decode cX7_layRiffle 11 = .ok (.iload_n 3, 1) := by decide +kernel
theorem dX7_layRiffle_12 : decode cX7_layRiffle 12 = .ok (.iconst 0, 1) := by decide +kernel
theorem dX7_layRiffle_13 : decode cX7_layRiffle 13 = .ok (.iastore, 1) := by decide +kernel
theorem dX7_layRiffle_14 : decode cX7_layRiffle 14 = .ok (.iinc 3 1, 3) := by decide +kernel
theorem dX7_layRiffle_17 : decode cX7_layRiffle 17 = .ok (.goto (-15), 3) := by decide +kernel
theorem dX7_layRiffle_20 : decode cX7_layRiffle 20 = .ok (.iconst 0, 1) := by decide +kernel
theorem dX7_layRiffle_21 : decode cX7_layRiffle 21 = .ok (.istore_n 3, 1) := by decide +kernel
theorem dX7_layRiffle_22 : decode cX7_layRiffle 22 = .ok (.iload_n 3, 1) := by decide +kernel
theorem dX7_layRiffle_23 : decode cX7_layRiffle 23 = .ok (.aload_n 0, 1) := by decide +kernel
theorem dX7_layRiffle_24 : decode cX7_layRiffle 24 = .ok (.getfield 33, 3) := by decide +kernel
theorem dX7_layRiffle_27 : decode cX7_layRiffle 27 = .ok (.if_icmp .ge 33, 3) := by decide +kernel
theorem dX7_layRiffle_30 : decode cX7_layRiffle 30 = .ok (.aload_n 0, 1) := by decide +kernel
theorem dX7_layRiffle_31 : decode cX7_layRiffle 31 = .ok (.getfield 46, 3) := by decide +kernel
theorem dX7_layRiffle_34 : decode cX7_layRiffle 34 = .ok (.iload_n 3, 1) := by decide +kernel
theorem dX7_layRiffle_35 : decode cX7_layRiffle 35 = .ok (.aload_n 1, 1) := by decide +kernel
theorem dX7_layRiffle_36 : decode cX7_layRiffle 36 = .ok (.iload_n 3, 1) := by decide +kernel
theorem dX7_layRiffle_37 : decode cX7_layRiffle 37 = .ok (.iaload, 1) := by decide +kernel
theorem dX7_layRiffle_38 : decode cX7_layRiffle 38 = .ok (.iastore, 1) := by decide +kernel
theorem dX7_layRiffle_39 : decode cX7_layRiffle 39 = .ok (.aload_n 0, 1) := by decide +kernel
theorem dX7_layRiffle_40 : decode cX7_layRiffle 40 = .ok (.getfield 56, 3) := by decide +kernel
theorem dX7_layRiffle_43 : decode cX7_layRiffle 43 = .ok (.aload_n 0, 1) := by decide +kernel
theorem dX7_layRiffle_44 : decode cX7_layRiffle 44 = .ok (.getfield 53, 3) := by decide +kernel
theorem dX7_layRiffle_47 : decode cX7_layRiffle 47 = .ok (.iload_n 3, 1) := by decide +kernel
theorem dX7_layRiffle_48 : decode cX7_layRiffle 48 = .ok (.iaload, 1) := by decide +kernel
theorem dX7_layRiffle_49 : decode cX7_layRiffle 49 = .ok (.dup2, 1) := by decide +kernel
theorem dX7_layRiffle_50 : decode cX7_layRiffle 50 = .ok (.iaload, 1) := by decide +kernel
theorem dX7_layRiffle_51 : decode cX7_layRiffle 51 = .ok (.iconst 1, 1) := by decide +kernel
theorem dX7_layRiffle_52 : decode cX7_layRiffle 52 = .ok (.iadd, 1) := by decide +kernel
theorem dX7_layRiffle_53 : decode cX7_layRiffle 53 = .ok (.iastore, 1) := by decide +kernel
theorem dX7_layRiffle_54 : decode cX7_layRiffle 54 = .ok (.iinc 3 1, 3) := by decide +kernel
theorem dX7_layRiffle_57 : decode cX7_layRiffle 57 = .ok (.goto (-35), 3) := by decide +kernel
theorem dX7_layRiffle_60 : decode cX7_layRiffle 60 = .ok (.iconst 0, 1) := by decide +kernel
theorem dX7_layRiffle_61 : decode cX7_layRiffle 61 = .ok (.istore_n 3, 1) := by decide +kernel
theorem dX7_layRiffle_62 : decode cX7_layRiffle 62 = .ok (.iconst 0, 1) := by decide +kernel
theorem dX7_layRiffle_63 : decode cX7_layRiffle 63 = .ok (.istore 4, 2) := by decide +kernel
theorem dX7_layRiffle_65 : decode cX7_layRiffle 65 = .ok (.iload 4, 2) := by decide +kernel
theorem dX7_layRiffle_67 : decode cX7_layRiffle 67 = .ok (.iload_n 2, 1) := by decide +kernel
theorem dX7_layRiffle_68 : decode cX7_layRiffle 68 = .ok (.if_icmp .ge 31, 3) := by decide +kernel
theorem dX7_layRiffle_71 : decode cX7_layRiffle 71 = .ok (.aload_n 0, 1) := by decide +kernel
theorem dX7_layRiffle_72 : decode cX7_layRiffle 72 = .ok (.getfield 56, 3) := by decide +kernel
theorem dX7_layRiffle_75 : decode cX7_layRiffle 75 = .ok (.iload 4, 2) := by decide +kernel
theorem dX7_layRiffle_77 : decode cX7_layRiffle 77 = .ok (.iaload, 1) := by decide +kernel
theorem dX7_layRiffle_78 : decode cX7_layRiffle 78 = .ok (.istore 5, 2) := by decide +kernel
theorem dX7_layRiffle_80 : decode cX7_layRiffle 80 = .ok (.aload_n 0, 1) := by decide +kernel
theorem dX7_layRiffle_81 : decode cX7_layRiffle 81 = .ok (.getfield 56, 3) := by decide +kernel
theorem dX7_layRiffle_84 : decode cX7_layRiffle 84 = .ok (.iload 4, 2) := by decide +kernel
theorem dX7_layRiffle_86 : decode cX7_layRiffle 86 = .ok (.iload_n 3, 1) := by decide +kernel
theorem dX7_layRiffle_87 : decode cX7_layRiffle 87 = .ok (.iastore, 1) := by decide +kernel
theorem dX7_layRiffle_88 : decode cX7_layRiffle 88 = .ok (.iload_n 3, 1) := by decide +kernel
theorem dX7_layRiffle_89 : decode cX7_layRiffle 89 = .ok (.iload 5, 2) := by decide +kernel
theorem dX7_layRiffle_91 : decode cX7_layRiffle 91 = .ok (.iadd, 1) := by decide +kernel
theorem dX7_layRiffle_92 : decode cX7_layRiffle 92 = .ok (.istore_n 3, 1) := by decide +kernel
theorem dX7_layRiffle_93 : decode cX7_layRiffle 93 = .ok (.iinc 4 1, 3) := by decide +kernel
theorem dX7_layRiffle_96 : decode cX7_layRiffle 96 = .ok (.goto (-31), 3) := by decide +kernel
theorem dX7_layRiffle_99 : decode cX7_layRiffle 99 = .ok (.iconst 0, 1) := by decide +kernel
theorem dX7_layRiffle_100 : decode cX7_layRiffle 100 = .ok (.istore 4, 2) := by decide +kernel
theorem dX7_layRiffle_102 : decode cX7_layRiffle 102 = .ok (.iload 4, 2) := by decide +kernel
theorem dX7_layRiffle_104 : decode cX7_layRiffle 104 = .ok (.aload_n 0, 1) := by decide +kernel
theorem dX7_layRiffle_105 : decode cX7_layRiffle 105 = .ok (.getfield 33, 3) := by decide +kernel
theorem dX7_layRiffle_108 : decode cX7_layRiffle 108 = .ok (.if_icmp .ge 35, 3) := by decide +kernel
theorem dX7_layRiffle_111 : decode cX7_layRiffle 111 = .ok (.aload_n 1, 1) := by decide +kernel
theorem dX7_layRiffle_112 : decode cX7_layRiffle 112 = .ok (.iload 4, 2) := by decide +kernel
theorem dX7_layRiffle_114 : decode cX7_layRiffle 114 = .ok (.aload_n 0, 1) := by decide +kernel
theorem dX7_layRiffle_115 : decode cX7_layRiffle 115 = .ok (.getfield 46, 3) := by decide +kernel
theorem dX7_layRiffle_118 : decode cX7_layRiffle 118 = .ok (.aload_n 0, 1) := by decide +kernel
theorem dX7_layRiffle_119 : decode cX7_layRiffle 119 = .ok (.getfield 56, 3) := by decide +kernel
theorem dX7_layRiffle_122 : decode cX7_layRiffle 122 = .ok (.aload_n 0, 1) := by decide +kernel
theorem dX7_layRiffle_123 : decode cX7_layRiffle 123 = .ok (.getfield 53, 3) := by decide +kernel
theorem dX7_layRiffle_126 : decode cX7_layRiffle 126 = .ok (.iload 4, 2) := by decide +kernel
theorem dX7_layRiffle_128 : decode cX7_layRiffle 128 = .ok (.iaload, 1) := by decide +kernel
theorem dX7_layRiffle_129 : decode cX7_layRiffle 129 = .ok (.dup2, 1) := by decide +kernel
theorem dX7_layRiffle_130 : decode cX7_layRiffle 130 = .ok (.iaload, 1) := by decide +kernel
theorem dX7_layRiffle_131 : decode cX7_layRiffle 131 = .ok (.dup_x2, 1) := by decide +kernel
theorem dX7_layRiffle_132 : decode cX7_layRiffle 132 = .ok (.iconst 1, 1) := by decide +kernel
theorem dX7_layRiffle_133 : decode cX7_layRiffle 133 = .ok (.iadd, 1) := by decide +kernel
theorem dX7_layRiffle_134 : decode cX7_layRiffle 134 = .ok (.iastore, 1) := by decide +kernel
theorem dX7_layRiffle_135 : decode cX7_layRiffle 135 = .ok (.iaload, 1) := by decide +kernel
theorem dX7_layRiffle_136 : decode cX7_layRiffle 136 = .ok (.iastore, 1) := by decide +kernel
theorem dX7_layRiffle_137 : decode cX7_layRiffle 137 = .ok (.iinc 4 1, 3) := by decide +kernel
theorem dX7_layRiffle_140 : decode cX7_layRiffle 140 = .ok (.goto (-38), 3) := by decide +kernel
theorem dX7_layRiffle_143 : decode cX7_layRiffle 143 = .ok (.return_, 1) := by decide +kernel
theorem dX7_hasChances_0 : decode cX7_hasChances 0 = .ok (.aload_n 1, 1) := by decide +kernel
theorem dX7_hasChances_1 : decode cX7_hasChances 1 = .ok (.invokevirtual 151, 3) := by decide +kernel
theorem dX7_hasChances_4 : decode cX7_hasChances 4 = .ok (.ifCond .ne 13, 3) := by decide +kernel
theorem dX7_hasChances_7 : decode cX7_hasChances 7 = .ok (.iload_n 2, 1) := by decide +kernel
theorem dX7_hasChances_8 : decode cX7_hasChances 8 = .ok (.ifCond .lt 9, 3) := by decide +kernel
theorem dX7_hasChances_11 : decode cX7_hasChances 11 = .ok (.iload_n 2, 1) := by decide +kernel
theorem dX7_hasChances_12 : decode cX7_hasChances 12 = .ok (.bipush 6, 2) := by decide +kernel
theorem dX7_hasChances_14 : decode cX7_hasChances 14 = .ok (.if_icmp .le 5, 3) := by decide +kernel
theorem dX7_hasChances_17 : decode cX7_hasChances 17 = .ok (.iconst 0, 1) := by decide +kernel
theorem dX7_hasChances_18 : decode cX7_hasChances 18 = .ok (.ireturn, 1) := by decide +kernel
theorem dX7_hasChances_19 : decode cX7_hasChances 19 = .ok (.aload_n 1, 1) := by decide +kernel
theorem dX7_hasChances_20 : decode cX7_hasChances 20 = .ok (.getfield 158, 3) := by decide +kernel
theorem dX7_hasChances_23 : decode cX7_hasChances 23 = .ok (.iconst 4, 1) := by decide +kernel
theorem dX7_hasChances_24 : decode cX7_hasChances 24 = .ok (.if_icmp .ne 20, 3) := by decide +kernel
theorem dX7_hasChances_27 : decode cX7_hasChances 27 = .ok (.aload_n 0, 1) := by decide +kernel
theorem dX7_hasChances_28 : decode cX7_hasChances 28 = .ok (.getfield 33, 3) := by decide +kernel
theorem dX7_hasChances_31 : decode cX7_hasChances 31 = .ok (.bipush 6, 2) := by decide +kernel
theorem dX7_hasChances_33 : decode cX7_hasChances 33 = .ok (.if_icmp .gt 7, 3) := by decide +kernel
theorem dX7_hasChances_36 : decode cX7_hasChances 36 = .ok (.iconst 1, 1) := by decide +kernel
theorem dX7_hasChances_37 : decode cX7_hasChances 37 = .ok (.goto 28, 3) := by decide +kernel
theorem dX7_hasChances_40 : decode cX7_hasChances 40 = .ok (.iconst 0, 1) := by decide +kernel
theorem dX7_hasChances_41 : decode cX7_hasChances 41 = .ok (.goto 24, 3) := by decide +kernel
theorem dX7_hasChances_44 : decode cX7_hasChances 44 = .ok (.aload_n 1, 1) := by decide +kernel
theorem dX7_hasChances_45 : decode cX7_hasChances 45 = .ok (.getfield 161, 3) := by decide +kernel
theorem dX7_hasChances_48 : decode cX7_hasChances 48 = .ok (.i2l, 1) := by decide +kernel
theorem dX7_hasChances_49 : decode cX7_hasChances 49 = .ok (.iload_n 2, 1) := by decide +kernel
theorem dX7_hasChances_50 : decode cX7_hasChances 50 = .ok (.invokestatic 183, 3) := by decide +kernel
theorem dX7_hasChances_53 : decode cX7_hasChances 53 = .ok (.ldc2_w 286, 3) := by decide +kernel
theorem dX7_hasChances_56 : decode cX7_hasChances 56 = .ok (.lcmp, 1) := by decide +kernel
theorem dX7_hasChances_57 : decode cX7_hasChances 57 = .ok (.ifCond .gt 7, 3) := by decide +kernel
theorem dX7_hasChances_60 : decode cX7_hasChances 60 = .ok (.iconst 1, 1) := by decide +kernel
theorem dX7_hasChances_61 : decode cX7_hasChances 61 = .ok (.goto 4, 3) := by decide +kernel
theorem dX7_hasChances_64 : decode cX7_hasChances 64 = .ok (.iconst 0, 1) := by decide +kernel
theorem dX7_hasChances_65 : decode cX7_hasChances 65 = .ok (.ireturn, 1) := by decide +kernel
theorem dX7_allRows_0 : decode cX7_allRows 0 = .ok (.aload_n 1, 1) := by decide +kernel
theorem dX7_allRows_1 : decode cX7_allRows 1 = .ok (.getfield 161, 3) := by decide +kernel
theorem dX7_allRows_4 : decode cX7_allRows 4 = .ok (.i2l, 1) := by decide +kernel
theorem dX7_allRows_5 : decode cX7_allRows 5 = .ok (.iload_n 2, 1) := by decide +kernel
theorem dX7_allRows_6 : decode cX7_allRows 6 = .ok (.aload_n 0, 1) := by decide +kernel
theorem dX7_allRows_7 : decode cX7_allRows 7 = .ok (.aload_n 1, 1) := by decide +kernel
theorem dX7_allRows_8 : decode cX7_allRows 8 = .ok (.invokevirtual 179, 3) := by decide +kernel
theorem dX7_allRows_11 : decode cX7_allRows 11 = .ok (.imul, 1) := by decide +kernel
theorem dX7_allRows_12 : decode cX7_allRows 12 = .ok (.invokestatic 183, 3) := by decide +kernel
theorem dX7_allRows_15 : decode cX7_allRows 15 = .ok (.lreturn, 1) := by decide +kernel
theorem dX7_levelOf_0 : decode cX7_levelOf 0 = .ok (.aload_n 2, 1) := by decide +kernel
theorem dX7_levelOf_1 : decode cX7_levelOf 1 = .ok (.aload_n 0, 1) := by decide +kernel
theorem dX7_levelOf_2 : decode cX7_levelOf 2 = .ok (.getfield 50, 3) := by decide +kernel
theorem dX7_levelOf_5 : decode cX7_levelOf 5 = .ok (.aload_n 0, 1) := by decide +kernel
theorem dX7_levelOf_6 : decode cX7_levelOf 6 = .ok (.getfield 33, 3) := by decide +kernel
theorem dX7_levelOf_9 : decode cX7_levelOf 9 = .ok (.invokestatic 118, 3) := by decide +kernel
theorem dX7_levelOf_12 : decode cX7_levelOf 12 = .ok (.aload_n 1, 1) := by decide +kernel
theorem dX7_levelOf_13 : decode cX7_levelOf 13 = .ok (.getfield 158, 3) := by decide +kernel
theorem dX7_levelOf_16 : decode cX7_levelOf 16 = .ok (.iconst 4, 1) := by decide +kernel
theorem dX7_levelOf_17 : decode cX7_levelOf 17 = .ok (.if_icmp .ne 17, 3) := by decide +kernel
theorem dX7_levelOf_20 : decode cX7_levelOf 20 = .ok (.aload_n 0, 1) := by decide +kernel
theorem dX7_levelOf_21 : decode cX7_levelOf 21 = .ok (.getfield 50, 3) := by decide +kernel
theorem dX7_levelOf_24 : decode cX7_levelOf 24 = .ok (.aload_n 0, 1) := by decide +kernel
theorem dX7_levelOf_25 : decode cX7_levelOf 25 = .ok (.getfield 33, 3) := by decide +kernel
theorem dX7_levelOf_28 : decode cX7_levelOf 28 = .ok (.invokestatic 288, 3) := by decide +kernel
theorem dX7_levelOf_31 : decode cX7_levelOf 31 = .ok (.goto 16, 3) := by decide +kernel
theorem dX7_levelOf_34 : decode cX7_levelOf 34 = .ok (.aload_n 0, 1) := by decide +kernel
theorem dX7_levelOf_35 : decode cX7_levelOf 35 = .ok (.getfield 50, 3) := by decide +kernel
theorem dX7_levelOf_38 : decode cX7_levelOf 38 = .ok (.aload_n 0, 1) := by decide +kernel
theorem dX7_levelOf_39 : decode cX7_levelOf 39 = .ok (.getfield 33, 3) := by decide +kernel
theorem dX7_levelOf_42 : decode cX7_levelOf 42 = .ok (.invokestatic 126, 3) := by decide +kernel
theorem dX7_levelOf_45 : decode cX7_levelOf 45 = .ok (.iconst 1, 1) := by decide +kernel
theorem dX7_levelOf_46 : decode cX7_levelOf 46 = .ok (.isub, 1) := by decide +kernel
theorem dX7_levelOf_47 : decode cX7_levelOf 47 = .ok (.ireturn, 1) := by decide +kernel
theorem dX7_countLevels_0 : decode cX7_countLevels 0 = .ok (.aload_n 1, 1) := by decide +kernel
theorem dX7_countLevels_1 : decode cX7_countLevels 1 = .ok (.getfield 158, 3) := by decide +kernel
theorem dX7_countLevels_4 : decode cX7_countLevels 4 = .ok (.iconst 4, 1) := by decide +kernel
theorem dX7_countLevels_5 : decode cX7_countLevels 5 = .ok (.if_icmp .ne 17, 3) := by decide +kernel
theorem dX7_countLevels_8 : decode cX7_countLevels 8 = .ok (.aload_n 0, 1) := by decide +kernel
theorem dX7_countLevels_9 : decode cX7_countLevels 9 = .ok (.getfield 59, 3) := by decide +kernel
theorem dX7_countLevels_12 : decode cX7_countLevels 12 = .ok (.aload_n 0, 1) := by decide +kernel
theorem dX7_countLevels_13 : decode cX7_countLevels 13 = .ok (.getfield 33, 3) := by decide +kernel
theorem dX7_countLevels_16 : decode cX7_countLevels 16 = .ok (.invokestatic 291, 3) := by decide +kernel
theorem dX7_countLevels_19 : decode cX7_countLevels 19 = .ok (.goto 14, 3) := by decide +kernel
theorem dX7_countLevels_22 : decode cX7_countLevels 22 = .ok (.aload_n 0, 1) := by decide +kernel
theorem dX7_countLevels_23 : decode cX7_countLevels 23 = .ok (.getfield 59, 3) := by decide +kernel
theorem dX7_countLevels_26 : decode cX7_countLevels 26 = .ok (.aload_n 0, 1) := by decide +kernel
theorem dX7_countLevels_27 : decode cX7_countLevels 27 = .ok (.getfield 33, 3) := by decide +kernel
theorem dX7_countLevels_30 : decode cX7_countLevels 30 = .ok (.invokestatic 244, 3) := by decide +kernel
theorem dX7_countLevels_33 : decode cX7_countLevels 33 = .ok (.return_, 1) := by decide +kernel
theorem dX7_rowsToLevel_0 : decode cX7_rowsToLevel 0 = .ok (.aload_n 1, 1) := by decide +kernel
theorem dX7_rowsToLevel_1 : decode cX7_rowsToLevel 1 = .ok (.getfield 158, 3) := by decide +kernel
theorem dX7_rowsToLevel_4 : decode cX7_rowsToLevel 4 = .ok (.iconst 4, 1) := by decide +kernel
theorem dX7_rowsToLevel_5 : decode cX7_rowsToLevel 5 = .ok (.if_icmp .eq 30, 3) := by decide +kernel
theorem dX7_rowsToLevel_8 : decode cX7_rowsToLevel 8 = .ok (.aload_n 1, 1) := by decide +kernel
theorem dX7_rowsToLevel_9 : decode cX7_rowsToLevel 9 = .ok (.getfield 161, 3) := by decide +kernel
theorem dX7_rowsToLevel_12 : decode cX7_rowsToLevel 12 = .ok (.i2l, 1) := by decide +kernel
theorem dX7_rowsToLevel_13 : decode cX7_rowsToLevel 13 = .ok (.iload_n 2, 1) := by decide +kernel
theorem dX7_rowsToLevel_14 : decode cX7_rowsToLevel 14 = .ok (.invokestatic 183, 3) := by decide +kernel
theorem dX7_rowsToLevel_17 : decode cX7_rowsToLevel 17 = .ok (.l2i, 1) := by decide +kernel
theorem dX7_rowsToLevel_18 : decode cX7_rowsToLevel 18 = .ok (.aload_n 0, 1) := by decide +kernel
theorem dX7_rowsToLevel_19 : decode cX7_rowsToLevel 19 = .ok (.getfield 33, 3) := by decide +kernel
theorem dX7_rowsToLevel_22 : decode cX7_rowsToLevel 22 = .ok (.iadd, 1) := by decide +kernel
theorem dX7_rowsToLevel_23 : decode cX7_rowsToLevel 23 = .ok (.iconst 1, 1) := by decide +kernel
theorem dX7_rowsToLevel_24 : decode cX7_rowsToLevel 24 = .ok (.isub, 1) := by decide +kernel
theorem dX7_rowsToLevel_25 : decode cX7_rowsToLevel 25 = .ok (.iload_n 3, 1) := by decide +kernel
theorem dX7_rowsToLevel_26 : decode cX7_rowsToLevel 26 = .ok (.isub, 1) := by decide +kernel
theorem dX7_rowsToLevel_27 : decode cX7_rowsToLevel 27 = .ok (.aload_n 0, 1) := by decide +kernel
theorem dX7_rowsToLevel_28 : decode cX7_rowsToLevel 28 = .ok (.getfield 33, 3) := by decide +kernel
theorem dX7_rowsToLevel_31 : decode cX7_rowsToLevel 31 = .ok (.invokestatic 294, 3) := by decide +kernel
theorem dX7_rowsToLevel_34 : decode cX7_rowsToLevel 34 = .ok (.lreturn, 1) := by decide +kernel
theorem dX7_rowsToLevel_35 : decode cX7_rowsToLevel 35 = .ok (.aload_n 0, 1) := by decide +kernel
theorem dX7_rowsToLevel_36 : decode cX7_rowsToLevel 36 = .ok (.getfield 63, 3) := by decide +kernel
theorem dX7_rowsToLevel_39 : decode cX7_rowsToLevel 39 = .ok (.aload_n 0, 1) := by decide +kernel
theorem dX7_rowsToLevel_40 : decode cX7_rowsToLevel 40 = .ok (.getfield 33, 3) := by decide +kernel
theorem dX7_rowsToLevel_43 : decode cX7_rowsToLevel 43 = .ok (.iload_n 2, 1) := by decide +kernel
theorem dX7_rowsToLevel_44 : decode cX7_rowsToLevel 44 = .ok (.invokestatic 298, 3) := by decide +kernel
theorem dX7_rowsToLevel_47 : decode cX7_rowsToLevel 47 = .ok (.lconst 0, 1) := by decide +kernel
theorem dX7_rowsToLevel_48 : decode cX7_rowsToLevel 48 = .ok (.lstore 4, 2) := by decide +kernel
theorem dX7_rowsToLevel_50 : decode cX7_rowsToLevel 50 = .ok (.iload_n 3, 1) := by decide +kernel
theorem dX7_rowsToLevel_51 : decode cX7_rowsToLevel 51 = .ok (.istore 6, 2) := by decide +kernel
theorem dX7_rowsToLevel_53 : decode cX7_rowsToLevel 53 = .ok (.iload 6, 2) := by decide +kernel
theorem dX7_rowsToLevel_55 : decode cX7_rowsToLevel 55 = .ok (.aload_n 0, 1) := by decide +kernel
theorem dX7_rowsToLevel_56 : decode cX7_rowsToLevel 56 = .ok (.getfield 33, 3) := by decide +kernel
theorem dX7_rowsToLevel_59 : decode cX7_rowsToLevel 59 = .ok (.if_icmp .gt 21, 3) := by decide +kernel
theorem dX7_rowsToLevel_62 : decode cX7_rowsToLevel 62 = .ok (.lload 4, 2) := by decide +kernel
theorem dX7_rowsToLevel_64 : decode cX7_rowsToLevel 64 = .ok (.aload_n 0, 1) := by decide +kernel
theorem dX7_rowsToLevel_65 : decode cX7_rowsToLevel 65 = .ok (.getfield 63, 3) := by decide +kernel
theorem dX7_rowsToLevel_68 : decode cX7_rowsToLevel 68 = .ok (.iload 6, 2) := by decide +kernel
theorem dX7_rowsToLevel_70 : decode cX7_rowsToLevel 70 = .ok (.laload, 1) := by decide +kernel
theorem dX7_rowsToLevel_71 : decode cX7_rowsToLevel 71 = .ok (.ladd, 1) := by decide +kernel
theorem dX7_rowsToLevel_72 : decode cX7_rowsToLevel 72 = .ok (.lstore 4, 2) := by decide +kernel
theorem dX7_rowsToLevel_74 : decode cX7_rowsToLevel 74 = .ok (.iinc 6 1, 3) := by decide +kernel
theorem dX7_rowsToLevel_77 : decode cX7_rowsToLevel 77 = .ok (.goto (-24), 3) := by decide +kernel
theorem dX7_rowsToLevel_80 : decode cX7_rowsToLevel 80 = .ok (.lload 4, 2) := by decide +kernel
theorem dX7_rowsToLevel_82 : decode cX7_rowsToLevel 82 = .ok (.lreturn, 1) := by decide +kernel
theorem dX7_topLotsToPlace_0 : decode cX7_topLotsToPlace 0 = .ok (.iload_n 1, 1) := by decide +kernel
theorem dX7_topLotsToPlace_1 : decode cX7_topLotsToPlace 1 = .ok (.ifCond .ne 5, 3) := by decide +kernel
theorem dX7_topLotsToPlace_4 : decode cX7_topLotsToPlace 4 = .ok (.iconst 1, 1) := by decide +kernel
theorem dX7_topLotsToPlace_5 : decode cX7_topLotsToPlace 5 = .ok (.ireturn, 1) := by decide +kernel
theorem dX7_topLotsToPlace_6 : decode cX7_topLotsToPlace 6 = .ok (.iload_n 2, 1) := by decide +kernel
theorem dX7_topLotsToPlace_7 : decode cX7_topLotsToPlace 7 = .ok (.iload_n 1, 1) := by decide +kernel
theorem dX7_topLotsToPlace_8 : decode cX7_topLotsToPlace 8 = .ok (.if_icmp .ne 5, 3) := by decide +kernel
theorem dX7_topLotsToPlace_11 : decode cX7_topLotsToPlace 11 = .ok (.iload_n 1, 1) := by decide +kernel
theorem dX7_topLotsToPlace_12 : decode cX7_topLotsToPlace 12 = .ok (.ireturn, 1) := by decide +kernel
theorem dX7_topLotsToPlace_13 : decode cX7_topLotsToPlace 13 = .ok (.iload_n 2, 1) := by decide +kernel
theorem dX7_topLotsToPlace_14 : decode cX7_topLotsToPlace 14 = .ok (.iload_n 1, 1) := by decide +kernel
theorem dX7_topLotsToPlace_15 : decode cX7_topLotsToPlace 15 = .ok (.iconst 1, 1) := by decide +kernel
theorem dX7_topLotsToPlace_16 : decode cX7_topLotsToPlace 16 = .ok (.isub, 1) := by decide +kernel
theorem dX7_topLotsToPlace_17 : decode cX7_topLotsToPlace 17 = .ok (.if_icmp .ne 12, 3) := by decide +kernel
theorem dX7_topLotsToPlace_20 : decode cX7_topLotsToPlace 20 = .ok (.aload_n 0, 1) := by decide +kernel
theorem dX7_topLotsToPlace_21 : decode cX7_topLotsToPlace 21 = .ok (.getfield 33, 3) := by decide +kernel
theorem dX7_topLotsToPlace_24 : decode cX7_topLotsToPlace 24 = .ok (.iload_n 1, 1) := by decide +kernel
theorem dX7_topLotsToPlace_25 : decode cX7_topLotsToPlace 25 = .ok (.isub, 1) := by decide +kernel
theorem dX7_topLotsToPlace_26 : decode cX7_topLotsToPlace 26 = .ok (.goto 4, 3) := by decide +kernel
theorem dX7_topLotsToPlace_29 : decode cX7_topLotsToPlace 29 = .ok (.iconst 0, 1) := by decide +kernel
theorem dX7_topLotsToPlace_30 : decode cX7_topLotsToPlace 30 = .ok (.ireturn, 1) := by decide +kernel
theorem dX7_riffleRowsToPlace_0 : decode cX7_riffleRowsToPlace 0 = .ok (.aload_n 0, 1) := by decide +kernel
theorem dX7_riffleRowsToPlace_1 : decode cX7_riffleRowsToPlace 1 = .ok (.getfield 33, 3) := by decide +kernel
theorem dX7_riffleRowsToPlace_4 : decode cX7_riffleRowsToPlace 4 = .ok (.iconst 1, 1) := by decide +kernel
theorem dX7_riffleRowsToPlace_5 : decode cX7_riffleRowsToPlace 5 = .ok (.isub, 1) := by decide +kernel
theorem dX7_riffleRowsToPlace_6 : decode cX7_riffleRowsToPlace 6 = .ok (.iload_n 3, 1) := by decide +kernel
theorem dX7_riffleRowsToPlace_7 : decode cX7_riffleRowsToPlace 7 = .ok (.isub, 1) := by decide +kernel
theorem dX7_riffleRowsToPlace_8 : decode cX7_riffleRowsToPlace 8 = .ok (.istore 4, 2) := by decide +kernel
theorem dX7_riffleRowsToPlace_10 : decode cX7_riffleRowsToPlace 10 = .ok (.lconst 0, 1) := by decide +kernel
theorem dX7_riffleRowsToPlace_11 : decode cX7_riffleRowsToPlace 11 = .ok (.lstore 5, 2) := by decide +kernel
theorem dX7_riffleRowsToPlace_13 : decode cX7_riffleRowsToPlace 13 = .ok (.iconst 0, 1) := by decide +kernel
theorem dX7_riffleRowsToPlace_14 : decode cX7_riffleRowsToPlace 14 = .ok (.istore 7, 2) := by decide +kernel
theorem dX7_riffleRowsToPlace_16 : decode cX7_riffleRowsToPlace 16 = .ok (.iload 7, 2) := by decide +kernel
theorem dX7_riffleRowsToPlace_18 : decode cX7_riffleRowsToPlace 18 = .ok (.iload_n 1, 1) := by decide +kernel
theorem dX7_riffleRowsToPlace_19 : decode cX7_riffleRowsToPlace 19 = .ok (.if_icmp .ge 72, 3) := by decide +kernel
theorem dX7_riffleRowsToPlace_22 : decode cX7_riffleRowsToPlace 22 = .ok (.iconst 0, 1) := by decide +kernel
theorem dX7_riffleRowsToPlace_23 : decode cX7_riffleRowsToPlace 23 = .ok (.iload_n 2, 1) := by decide +kernel
theorem dX7_riffleRowsToPlace_24 : decode cX7_riffleRowsToPlace 24 = .ok (.iload 4, 2) := by decide +kernel
theorem dX7_riffleRowsToPlace_26 : decode cX7_riffleRowsToPlace 26 = .ok (.isub, 1) := by decide +kernel
theorem dX7_riffleRowsToPlace_27 : decode cX7_riffleRowsToPlace 27 = .ok (.invokestatic 302, 3) := by decide +kernel
theorem dX7_riffleRowsToPlace_30 : decode cX7_riffleRowsToPlace 30 = .ok (.istore 8, 2) := by decide +kernel
theorem dX7_riffleRowsToPlace_32 : decode cX7_riffleRowsToPlace 32 = .ok (.iload 8, 2) := by decide +kernel
theorem dX7_riffleRowsToPlace_34 : decode cX7_riffleRowsToPlace 34 = .ok (.iload_n 2, 1) := by decide +kernel
theorem dX7_riffleRowsToPlace_35 : decode cX7_riffleRowsToPlace 35 = .ok (.iload_n 3, 1) := by decide +kernel
theorem dX7_riffleRowsToPlace_36 : decode cX7_riffleRowsToPlace 36 = .ok (.invokestatic 304, 3) := by decide +kernel
theorem dX7_riffleRowsToPlace_39 : decode cX7_riffleRowsToPlace 39 = .ok (.if_icmp .gt 46, 3) := by decide +kernel
theorem dX7_riffleRowsToPlace_42 : decode cX7_riffleRowsToPlace 42 = .ok (.lload 5, 2) := by decide +kernel
theorem dX7_riffleRowsToPlace_44 : decode cX7_riffleRowsToPlace 44 = .ok (.iload_n 3, 1) := by decide +kernel
theorem dX7_riffleRowsToPlace_45 : decode cX7_riffleRowsToPlace 45 = .ok (.iload 8, 2) := by decide +kernel
theorem dX7_riffleRowsToPlace_47 : decode cX7_riffleRowsToPlace 47 = .ok (.iload 7, 2) := by decide +kernel
theorem dX7_riffleRowsToPlace_49 : decode cX7_riffleRowsToPlace 49 = .ok (.iconst 1, 1) := by decide +kernel
theorem dX7_riffleRowsToPlace_50 : decode cX7_riffleRowsToPlace 50 = .ok (.iadd, 1) := by decide +kernel
theorem dX7_riffleRowsToPlace_51 : decode cX7_riffleRowsToPlace 51 = .ok (.iload_n 1, 1) := by decide +kernel
theorem dX7_riffleRowsToPlace_52 : decode cX7_riffleRowsToPlace 52 = .ok (.iload 7, 2) := by decide +kernel
theorem dX7_riffleRowsToPlace_54 : decode cX7_riffleRowsToPlace 54 = .ok (.isub, 1) := by decide +kernel
theorem dX7_riffleRowsToPlace_55 : decode cX7_riffleRowsToPlace 55 = .ok (.iconst 1, 1) := by decide +kernel
theorem dX7_riffleRowsToPlace_56 : decode cX7_riffleRowsToPlace 56 = .ok (.isub, 1) := by decide +kernel
theorem dX7_riffleRowsToPlace_57 : decode cX7_riffleRowsToPlace 57 = .ok (.invokestatic 307, 3) := by decide +kernel
theorem dX7_riffleRowsToPlace_60 : decode cX7_riffleRowsToPlace 60 = .ok (.iload 4, 2) := by decide +kernel
theorem dX7_riffleRowsToPlace_62 : decode cX7_riffleRowsToPlace 62 = .ok (.iload_n 2, 1) := by decide +kernel
theorem dX7_riffleRowsToPlace_63 : decode cX7_riffleRowsToPlace 63 = .ok (.iload 8, 2) := by decide +kernel
theorem dX7_riffleRowsToPlace_65 : decode cX7_riffleRowsToPlace 65 = .ok (.isub, 1) := by decide +kernel
theorem dX7_riffleRowsToPlace_66 : decode cX7_riffleRowsToPlace 66 = .ok (.iload 7, 2) := by decide +kernel
theorem dX7_riffleRowsToPlace_68 : decode cX7_riffleRowsToPlace 68 = .ok (.iload_n 1, 1) := by decide +kernel
theorem dX7_riffleRowsToPlace_69 : decode cX7_riffleRowsToPlace 69 = .ok (.iload 7, 2) := by decide +kernel
theorem dX7_riffleRowsToPlace_71 : decode cX7_riffleRowsToPlace 71 = .ok (.isub, 1) := by decide +kernel
theorem dX7_riffleRowsToPlace_72 : decode cX7_riffleRowsToPlace 72 = .ok (.invokestatic 307, 3) := by decide +kernel
theorem dX7_riffleRowsToPlace_75 : decode cX7_riffleRowsToPlace 75 = .ok (.lmul, 1) := by decide +kernel
theorem dX7_riffleRowsToPlace_76 : decode cX7_riffleRowsToPlace 76 = .ok (.ladd, 1) := by decide +kernel
theorem dX7_riffleRowsToPlace_77 : decode cX7_riffleRowsToPlace 77 = .ok (.lstore 5, 2) := by decide +kernel
theorem dX7_riffleRowsToPlace_79 : decode cX7_riffleRowsToPlace 79 = .ok (.iinc 8 1, 3) := by decide +kernel
theorem dX7_riffleRowsToPlace_82 : decode cX7_riffleRowsToPlace 82 = .ok (.goto (-50), 3) := by decide +kernel
theorem dX7_riffleRowsToPlace_85 : decode cX7_riffleRowsToPlace 85 = .ok (.iinc 7 1, 3) := by decide +kernel
theorem dX7_riffleRowsToPlace_88 : decode cX7_riffleRowsToPlace 88 = .ok (.goto (-72), 3) := by decide +kernel
theorem dX7_riffleRowsToPlace_91 : decode cX7_riffleRowsToPlace 91 = .ok (.lload 5, 2) := by decide +kernel
theorem dX7_riffleRowsToPlace_93 : decode cX7_riffleRowsToPlace 93 = .ok (.lreturn, 1) := by decide +kernel
