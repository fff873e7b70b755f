theorem dX8_heapWays_92 : decode cX8_heapWays 92 = .ok (.iinc 6 1, 3) := by decide +kernel
theorem dX8_heapWays_95 : decode cX8_heapWays 95 = .ok (.goto (-59), 3) := by decide +kernel
theorem dX8_heapWays_98 : decode cX8_heapWays 98 = .ok (.iconst 0, 1) := by decide +kernel
theorem dX8_heapWays_99 : decode cX8_heapWays 99 = .ok (.istore 6, 2) := by decide +kernel
theorem dX8_heapWays_101 : decode cX8_heapWays 101 = .ok (.iload 6, 2) := by decide +kernel
theorem dX8_heapWays_103 : decode cX8_heapWays 103 = .ok (.iload_n 1, 1) := by decide +kernel
theorem dX8_heapWays_104 : decode cX8_heapWays 104 = .ok (.if_icmp .ge 23, 3) := by decide +kernel
theorem dX8_heapWays_107 : decode cX8_heapWays 107 = .ok (.aload_n 0, 1) := by decide +kernel
theorem dX8_heapWays_108 : decode cX8_heapWays 108 = .ok (.getfield 32, 3) := by decide +kernel
theorem dX8_heapWays_111 : decode cX8_heapWays 111 = .ok (.iload 6, 2) := by decide +kernel
theorem dX8_heapWays_113 : decode cX8_heapWays 113 = .ok (.aload_n 0, 1) := by decide +kernel
theorem dX8_heapWays_114 : decode cX8_heapWays 114 = .ok (.getfield 36, 3) := by decide +kernel
theorem dX8_heapWays_117 : decode cX8_heapWays 117 = .ok (.iload 6, 2) := by decide +kernel
theorem dX8_heapWays_119 : decode cX8_heapWays 119 = .ok (.laload, 1) := by decide +kernel
theorem dX8_heapWays_120 : decode cX8_heapWays 120 = .ok (.lastore, 1) := by decide +kernel
theorem dX8_heapWays_121 : decode cX8_heapWays 121 = .ok (.iinc 6 1, 3) := by decide +kernel
theorem dX8_heapWays_124 : decode cX8_heapWays 124 = .ok (.goto (-23), 3) := by decide +kernel
theorem dX8_heapWays_127 : decode cX8_heapWays 127 = .ok (.iinc 3 1, 3) := by decide +kernel
theorem dX8_heapWays_130 : decode cX8_heapWays 130 = .ok (.goto (-108), 3) := by decide +kernel
theorem dX8_heapWays_133 : decode cX8_heapWays 133 = .ok (.lconst 0, 1) := by decide +kernel
theorem dX8_heapWays_134 : decode cX8_heapWays 134 = .ok (.lstore_n 3, 1) := by decide +kernel
theorem dX8_heapWays_135 : decode cX8_heapWays 135 = .ok (.iconst 0, 1) := by decide +kernel
theorem dX8_heapWays_136 : decode cX8_heapWays 136 = .ok (.istore 5, 2) := by decide +kernel
theorem dX8_heapWays_138 : decode cX8_heapWays 138 = .ok (.iload 5, 2) := by decide +kernel
theorem dX8_heapWays_140 : decode cX8_heapWays 140 = .ok (.iload_n 1, 1) := by decide +kernel
theorem dX8_heapWays_141 : decode cX8_heapWays 141 = .ok (.if_icmp .ge 19, 3) := by decide +kernel
theorem dX8_heapWays_144 : decode cX8_heapWays 144 = .ok (.lload_n 3, 1) := by decide +kernel
theorem dX8_heapWays_145 : decode cX8_heapWays 145 = .ok (.aload_n 0, 1) := by decide +kernel
theorem dX8_heapWays_146 : decode cX8_heapWays 146 = .ok (.getfield 32, 3) := by decide +kernel
theorem dX8_heapWays_149 : decode cX8_heapWays 149 = .ok (.iload 5, 2) := by decide +kernel
theorem dX8_heapWays_151 : decode cX8_heapWays 151 = .ok (.laload, 1) := by decide +kernel
theorem dX8_heapWays_152 : decode cX8_heapWays 152 = .ok (.ladd, 1) := by decide +kernel
theorem dX8_heapWays_153 : decode cX8_heapWays 153 = .ok (.lstore_n 3, 1) := by decide +kernel
theorem dX8_heapWays_154 : decode cX8_heapWays 154 = .ok (.iinc 5 1, 3) := by decide +kernel
theorem dX8_heapWays_157 : decode cX8_heapWays 157 = .ok (.goto (-19), 3) := by decide +kernel
theorem dX8_heapWays_160 : decode cX8_heapWays 160 = .ok (.lload_n 3, 1) := by decide +kernel
theorem dX8_heapWays_161 : decode cX8_heapWays 161 = .ok (.lreturn, 1) := by decide +kernel
theorem dX8_tops_0 : decode cX8_tops 0 = .ok (.aload_n 0, 1) := by decide +kernel
theorem dX8_tops_1 : decode cX8_tops 1 = .ok (.getfield 7, 3) := by decide +kernel
theorem dX8_tops_4 : decode cX8_tops 4 = .ok (.invokestatic 82, 3) := by decide +kernel
theorem dX8_tops_7 : decode cX8_tops 7 = .ok (.istore_n 2, 1) := by decide +kernel
theorem dX8_tops_8 : decode cX8_tops 8 = .ok (.iconst 0, 1) := by decide +kernel
theorem dX8_tops_9 : decode cX8_tops 9 = .ok (.istore_n 3, 1) := by decide +kernel
theorem dX8_tops_10 : decode cX8_tops 10 = .ok (.iload_n 3, 1) := by decide +kernel
theorem dX8_tops_11 : decode cX8_tops 11 = .ok (.iload_n 2, 1) := by decide +kernel
theorem dX8_tops_12 : decode cX8_tops 12 = .ok (.if_icmp .ge 24, 3) := by decide +kernel
theorem dX8_tops_15 : decode cX8_tops 15 = .ok (.aload_n 0, 1) := by decide +kernel
theorem dX8_tops_16 : decode cX8_tops 16 = .ok (.getfield 39, 3) := by decide +kernel
theorem dX8_tops_19 : decode cX8_tops 19 = .ok (.iload_n 3, 1) := by decide +kernel
theorem dX8_tops_20 : decode cX8_tops 20 = .ok (.iload_n 3, 1) := by decide +kernel
theorem dX8_tops_21 : decode cX8_tops 21 = .ok (.ifCond .ne 7, 3) := by decide +kernel
theorem dX8_tops_24 : decode cX8_tops 24 = .ok (.lconst 1, 1) := by decide +kernel
theorem dX8_tops_25 : decode cX8_tops 25 = .ok (.goto 4, 3) := by decide +kernel
theorem dX8_tops_28 : decode cX8_tops 28 = .ok (.lconst 0, 1) := by decide +kernel
theorem dX8_tops_29 : decode cX8_tops 29 = .ok (.lastore, 1) := by decide +kernel
theorem dX8_tops_30 : decode cX8_tops 30 = .ok (.iinc 3 1, 3) := by decide +kernel
theorem dX8_tops_33 : decode cX8_tops 33 = .ok (.goto (-23), 3) := by decide +kernel
theorem dX8_tops_36 : decode cX8_tops 36 = .ok (.iconst 0, 1) := by decide +kernel
theorem dX8_tops_37 : decode cX8_tops 37 = .ok (.istore_n 3, 1) := by decide +kernel
theorem dX8_tops_38 : decode cX8_tops 38 = .ok (.iload_n 3, 1) := by decide +kernel
theorem dX8_tops_39 : decode cX8_tops 39 = .ok (.iload_n 1, 1) := by decide +kernel
theorem dX8_tops_40 : decode cX8_tops 40 = .ok (.if_icmp .ge 175, 3) := by decide +kernel
theorem dX8_tops_43 : decode cX8_tops 43 = .ok (.iconst 0, 1) := by decide +kernel
theorem dX8_tops_44 : decode cX8_tops 44 = .ok (.istore 4, 2) := by decide +kernel
theorem dX8_tops_46 : decode cX8_tops 46 = .ok (.iload 4, 2) := by decide +kernel
theorem dX8_tops_48 : decode cX8_tops 48 = .ok (.iload_n 2, 1) := by decide +kernel
theorem dX8_tops_49 : decode cX8_tops 49 = .ok (.if_icmp .ge 17, 3) := by decide +kernel
theorem dX8_tops_52 : decode cX8_tops 52 = .ok (.aload_n 0, 1) := by decide +kernel
theorem dX8_tops_53 : decode cX8_tops 53 = .ok (.getfield 42, 3) := by decide +kernel
theorem dX8_tops_56 : decode cX8_tops 56 = .ok (.iload 4, 2) := by decide +kernel
theorem dX8_tops_58 : decode cX8_tops 58 = .ok (.lconst 0, 1) := by decide +kernel
theorem dX8_tops_59 : decode cX8_tops 59 = .ok (.lastore, 1) := by decide +kernel
theorem dX8_tops_60 : decode cX8_tops 60 = .ok (.iinc 4 1, 3) := by decide +kernel
theorem dX8_tops_63 : decode cX8_tops 63 = .ok (.goto (-17), 3) := by decide +kernel
theorem dX8_tops_66 : decode cX8_tops 66 = .ok (.iconst 0, 1) := by decide +kernel
theorem dX8_tops_67 : decode cX8_tops 67 = .ok (.istore 4, 2) := by decide +kernel
theorem dX8_tops_69 : decode cX8_tops 69 = .ok (.iload 4, 2) := by decide +kernel
theorem dX8_tops_71 : decode cX8_tops 71 = .ok (.iload_n 2, 1) := by decide +kernel
theorem dX8_tops_72 : decode cX8_tops 72 = .ok (.if_icmp .ge 108, 3) := by decide +kernel
theorem dX8_tops_75 : decode cX8_tops 75 = .ok (.aload_n 0, 1) := by decide +kernel
theorem dX8_tops_76 : decode cX8_tops 76 = .ok (.getfield 39, 3) := by decide +kernel
theorem dX8_tops_79 : decode cX8_tops 79 = .ok (.iload 4, 2) := by decide +kernel
theorem dX8_tops_81 : decode cX8_tops 81 = .ok (.laload, 1) := by decide +kernel
theorem dX8_tops_82 : decode cX8_tops 82 = .ok (.lconst 0, 1) := by decide +kernel
theorem dX8_tops_83 : decode cX8_tops 83 = .ok (.lcmp, 1) := by decide +kernel
theorem dX8_tops_84 : decode cX8_tops 84 = .ok (.ifCond .ne 6, 3) := by decide +kernel
theorem dX8_tops_87 : decode cX8_tops 87 = .ok (.goto 87, 3) := by decide +kernel
theorem dX8_tops_90 : decode cX8_tops 90 = .ok (.aload_n 0, 1) := by decide +kernel
theorem dX8_tops_91 : decode cX8_tops 91 = .ok (.iload 4, 2) := by decide +kernel
theorem dX8_tops_93 : decode cX8_tops 93 = .ok (.invokevirtual 90, 3) := by decide +kernel
theorem dX8_tops_96 : decode cX8_tops 96 = .ok (.iconst 0, 1) := by decide +kernel
theorem dX8_tops_97 : decode cX8_tops 97 = .ok (.istore 5, 2) := by decide +kernel
theorem dX8_tops_99 : decode cX8_tops 99 = .ok (.iload 5, 2) := by decide +kernel
theorem dX8_tops_101 : decode cX8_tops 101 = .ok (.aload_n 0, 1) := by decide +kernel
theorem dX8_tops_102 : decode cX8_tops 102 = .ok (.getfield 7, 3) := by decide +kernel
theorem dX8_tops_105 : decode cX8_tops 105 = .ok (.if_icmp .ge 69, 3) := by decide +kernel
theorem dX8_tops_108 : decode cX8_tops 108 = .ok (.iload 5, 2) := by decide +kernel
theorem dX8_tops_110 : decode cX8_tops 110 = .ok (.ifCond .le 39, 3) := by decide +kernel
theorem dX8_tops_113 : decode cX8_tops 113 = .ok (.aload_n 0, 1) := by decide +kernel
theorem dX8_tops_114 : decode cX8_tops 114 = .ok (.getfield 26, 3) := by decide +kernel
theorem dX8_tops_117 : decode cX8_tops 117 = .ok (.iload 5, 2) := by decide +kernel
theorem dX8_tops_119 : decode cX8_tops 119 = .ok (.iaload, 1) := by decide +kernel
theorem dX8_tops_120 : decode cX8_tops 120 = .ok (.istore 6, 2) := by decide +kernel
theorem dX8_tops_122 : decode cX8_tops 122 = .ok (.aload_n 0, 1) := by decide +kernel
theorem dX8_tops_123 : decode cX8_tops 123 = .ok (.getfield 26, 3) := by decide +kernel
theorem dX8_tops_126 : decode cX8_tops 126 = .ok (.iload 5, 2) := by decide +kernel
theorem dX8_tops_128 : decode cX8_tops 128 = .ok (.aload_n 0, 1) := by decide +kernel
theorem dX8_tops_129 : decode cX8_tops 129 = .ok (.getfield 26, 3) := by decide +kernel
theorem dX8_tops_132 : decode cX8_tops 132 = .ok (.iload 5, 2) := by decide +kernel
theorem dX8_tops_134 : decode cX8_tops 134 = .ok (.iconst 1, 1) := by decide +kernel
theorem dX8_tops_135 : decode cX8_tops 135 = .ok (.isub, 1) := by decide +kernel
theorem dX8_tops_136 : decode cX8_tops 136 = .ok (.iaload, 1) := by decide +kernel
theorem dX8_tops_137 : decode cX8_tops 137 = .ok (.iastore, 1) := by decide +kernel
theorem dX8_tops_138 : decode cX8_tops 138 = .ok (.aload_n 0, 1) := by decide +kernel
theorem dX8_tops_139 : decode cX8_tops 139 = .ok (.getfield 26, 3) := by decide +kernel
theorem dX8_tops_142 : decode cX8_tops 142 = .ok (.iload 5, 2) := by decide +kernel
theorem dX8_tops_144 : decode cX8_tops 144 = .ok (.iconst 1, 1) := by decide +kernel
theorem dX8_tops_145 : decode cX8_tops 145 = .ok (.isub, 1) := by decide +kernel
theorem dX8_tops_146 : decode cX8_tops 146 = .ok (.iload 6, 2) := by decide +kernel
theorem dX8_tops_148 : decode cX8_tops 148 = .ok (.iastore, 1) := by decide +kernel
theorem dX8_tops_149 : decode cX8_tops 149 = .ok (.aload_n 0, 1) := by decide +kernel
theorem dX8_tops_150 : decode cX8_tops 150 = .ok (.getfield 42, 3) := by decide +kernel
theorem dX8_tops_153 : decode cX8_tops 153 = .ok (.aload_n 0, 1) := by decide +kernel
theorem dX8_tops_154 : decode cX8_tops 154 = .ok (.invokevirtual 110, 3) := by decide +kernel
theorem dX8_tops_157 : decode cX8_tops 157 = .ok (.dup2, 1) := by decide +kernel
theorem dX8_tops_158 : decode cX8_tops 158 = .ok (.laload, 1) := by decide +kernel
theorem dX8_tops_159 : decode cX8_tops 159 = .ok (.aload_n 0, 1) := by decide +kernel
theorem dX8_tops_160 : decode cX8_tops 160 = .ok (.getfield 39, 3) := by decide +kernel
theorem dX8_tops_163 : decode cX8_tops 163 = .ok (.iload 4, 2) := by decide +kernel
theorem dX8_tops_165 : decode cX8_tops 165 = .ok (.laload, 1) := by decide +kernel
theorem dX8_tops_166 : decode cX8_tops 166 = .ok (.ladd, 1) := by decide +kernel
theorem dX8_tops_167 : decode cX8_tops 167 = .ok (.lastore, 1) := by decide +kernel
theorem dX8_tops_168 : decode cX8_tops 168 = .ok (.iinc 5 1, 3) := by decide +kernel
theorem dX8_tops_171 : decode cX8_tops 171 = .ok (.goto (-72), 3) := by decide +kernel
theorem dX8_tops_174 : decode cX8_tops 174 = .ok (.iinc 4 1, 3) := by decide +kernel
theorem dX8_tops_177 : decode cX8_tops 177 = .ok (.goto (-108), 3) := by decide +kernel
theorem dX8_tops_180 : decode cX8_tops 180 = .ok (.iconst 0, 1) := by decide +kernel
theorem dX8_tops_181 : decode cX8_tops 181 = .ok (.istore 4, 2) := by decide +kernel
theorem dX8_tops_183 : decode cX8_tops 183 = .ok (.iload 4, 2) := by decide +kernel
theorem dX8_tops_185 : decode cX8_tops 185 = .ok (.iload_n 2, 1) := by decide +kernel
theorem dX8_tops_186 : decode cX8_tops 186 = .ok (.if_icmp .ge 23, 3) := by decide +kernel
theorem dX8_tops_189 : decode cX8_tops 189 = .ok (.aload_n 0, 1) := by decide +kernel
theorem dX8_tops_190 : decode cX8_tops 190 = .ok (.getfield 39, 3) := by decide +kernel
theorem dX8_tops_193 : decode cX8_tops 193 = .ok (.iload 4, 2) := by decide +kernel
theorem dX8_tops_195 : decode cX8_tops 195 = .ok (.aload_n 0, 1) := by decide +kernel
theorem dX8_tops_196 : decode cX8_tops 196 = .ok (.getfield 42, 3) := by decide +kernel
theorem dX8_tops_199 : decode cX8_tops 199 = .ok (.iload 4, 2) := by decide +kernel
theorem dX8_tops_201 : decode cX8_tops 201 = .ok (.laload, 1) := by decide +kernel
theorem dX8_tops_202 : decode cX8_tops 202 = .ok (.lastore, 1) := by decide +kernel
theorem dX8_tops_203 : decode cX8_tops 203 = .ok (.iinc 4 1, 3) := by decide +kernel
theorem dX8_tops_206 : decode cX8_tops 206 = .ok (.goto (-23), 3) := by decide +kernel
theorem dX8_tops_209 : decode cX8_tops 209 = .ok (.iinc 3 1, 3) := by decide +kernel
theorem dX8_tops_212 : decode cX8_tops 212 = .ok (.goto (-174), 3) := by decide +kernel
theorem dX8_tops_215 : decode cX8_tops 215 = .ok (.return_, 1) := by decide +kernel
theorem dX8_chance_0 : decode cX8_chance 0 = .ok (.aload_n 0, 1) := by decide +kernel
theorem dX8_chance_1 : decode cX8_chance 1 = .ok (.iload_n 1, 1) := by decide +kernel
theorem dX8_chance_2 : decode cX8_chance 2 = .ok (.iload_n 2, 1) := by decide +kernel
theorem dX8_chance_3 : decode cX8_chance 3 = .ok (.invokevirtual 164, 3) := by decide +kernel
theorem dX8_chance_6 : decode cX8_chance 6 = .ok (.ifCond .eq 22, 3) := by decide +kernel
theorem dX8_chance_9 : decode cX8_chance 9 = .ok (.aload_n 0, 1) := by decide +kernel
theorem dX8_chance_10 : decode cX8_chance 10 = .ok (.iload_n 3, 1) := by decide +kernel
theorem dX8_chance_11 : decode cX8_chance 11 = .ok (.invokevirtual 101, 3) := by decide +kernel
theorem dX8_chance_14 : decode cX8_chance 14 = .ok (.ifCond .eq 14, 3) := by decide +kernel
theorem dX8_chance_17 : decode cX8_chance 17 = .ok (.iload 4, 2) := by decide +kernel
theorem dX8_chance_19 : decode cX8_chance 19 = .ok (.ifCond .lt 9, 3) := by decide +kernel
theorem dX8_chance_22 : decode cX8_chance 22 = .ok (.iload 4, 2) := by decide +kernel
theorem dX8_chance_24 : decode cX8_chance 24 = .ok (.iconst 1, 1) := by decide +kernel
theorem dX8_chance_25 : decode cX8_chance 25 = .ok (.if_icmp .le 7, 3) := by decide +kernel
theorem dX8_chance_28 : decode cX8_chance 28 = .ok (.ldc2_w 157, 3) := by decide +kernel
theorem dX8_chance_31 : decode cX8_chance 31 = .ok (.lreturn, 1) := by decide +kernel
theorem dX8_chance_32 : decode cX8_chance 32 = .ok (.aload_n 0, 1) := by decide +kernel
theorem dX8_chance_33 : decode cX8_chance 33 = .ok (.iload_n 3, 1) := by decide +kernel
theorem dX8_chance_34 : decode cX8_chance 34 = .ok (.invokevirtual 107, 3) := by decide +kernel
theorem dX8_chance_37 : decode cX8_chance 37 = .ok (.aload_n 0, 1) := by decide +kernel
theorem dX8_chance_38 : decode cX8_chance 38 = .ok (.getfield 17, 3) := by decide +kernel
theorem dX8_chance_41 : decode cX8_chance 41 = .ok (.iload_n 1, 1) := by decide +kernel
theorem dX8_chance_42 : decode cX8_chance 42 = .ok (.iaload, 1) := by decide +kernel
theorem dX8_chance_43 : decode cX8_chance 43 = .ok (.iconst 4, 1) := by decide +kernel
theorem dX8_chance_44 : decode cX8_chance 44 = .ok (.if_icmp .ne 37, 3) := by decide +kernel
theorem dX8_chance_47 : decode cX8_chance 47 = .ok (.aload_n 0, 1) := by decide +kernel
theorem dX8_chance_48 : decode cX8_chance 48 = .ok (.invokevirtual 110, 3) := by decide +kernel
theorem dX8_chance_51 : decode cX8_chance 51 = .ok (.istore 5, 2) := by decide +kernel
theorem dX8_chance_53 : decode cX8_chance 53 = .ok (.aload_n 0, 1) := by decide +kernel
theorem dX8_chance_54 : decode cX8_chance 54 = .ok (.iload_n 2, 1) := by decide +kernel
theorem dX8_chance_55 : decode cX8_chance 55 = .ok (.invokevirtual 168, 3) := by decide +kernel
theorem dX8_chance_58 : decode cX8_chance 58 = .ok (.aload_n 0, 1) := by decide +kernel
theorem dX8_chance_59 : decode cX8_chance 59 = .ok (.aload_n 0, 1) := by decide +kernel
theorem dX8_chance_60 : decode cX8_chance 60 = .ok (.getfield 39, 3) := by decide +kernel
theorem dX8_chance_63 : decode cX8_chance 63 = .ok (.iload 5, 2) := by decide +kernel
theorem dX8_chance_65 : decode cX8_chance 65 = .ok (.laload, 1) := by decide +kernel
theorem dX8_chance_66 : decode cX8_chance 66 = .ok (.aload_n 0, 1) := by decide +kernel
theorem dX8_chance_67 : decode cX8_chance 67 = .ok (.getfield 7, 3) := by decide +kernel
theorem dX8_chance_70 : decode cX8_chance 70 = .ok (.i2l, 1) := by decide +kernel
theorem dX8_chance_71 : decode cX8_chance 71 = .ok (.iload_n 2, 1) := by decide +kernel
theorem dX8_chance_72 : decode cX8_chance 72 = .ok (.invokestatic 145, 3) := by decide +kernel
theorem dX8_chance_75 : decode cX8_chance 75 = .ok (.iload 4, 2) := by decide +kernel
theorem dX8_chance_77 : decode cX8_chance 77 = .ok (.invokevirtual 171, 3) := by decide +kernel
theorem dX8_chance_80 : decode cX8_chance 80 = .ok (.lreturn, 1) := by decide +kernel
theorem dX8_chance_81 : decode cX8_chance 81 = .ok (.aload_n 0, 1) := by decide +kernel
theorem dX8_chance_82 : decode cX8_chance 82 = .ok (.getfield 20, 3) := by decide +kernel
theorem dX8_chance_85 : decode cX8_chance 85 = .ok (.iload_n 1, 1) := by decide +kernel
theorem dX8_chance_86 : decode cX8_chance 86 = .ok (.iaload, 1) := by decide +kernel
theorem dX8_chance_87 : decode cX8_chance 87 = .ok (.i2l, 1) := by decide +kernel
theorem dX8_chance_88 : decode cX8_chance 88 = .ok (.iload_n 2, 1) := by decide +kernel
theorem dX8_chance_89 : decode cX8_chance 89 = .ok (.invokestatic 145, 3) := by decide +kernel
theorem dX8_chance_92 : decode cX8_chance 92 = .ok (.l2i, 1) := by decide +kernel
theorem dX8_chance_93 : decode cX8_chance 93 = .ok (.istore 5, 2) := by decide +kernel
theorem dX8_chance_95 : decode cX8_chance 95 = .ok (.aload_n 0, 1) := by decide +kernel
theorem dX8_chance_96 : decode cX8_chance 96 = .ok (.aload_n 0, 1) := by decide +kernel
theorem dX8_chance_97 : decode cX8_chance 97 = .ok (.iload 5, 2) := by decide +kernel
theorem dX8_chance_99 : decode cX8_chance 99 = .ok (.aload_n 0, 1) := by decide +kernel
theorem dX8_chance_100 : decode cX8_chance 100 = .ok (.invokevirtual 113, 3) := by decide +kernel
theorem dX8_chance_103 : decode cX8_chance 103 = .ok (.iconst 1, 1) := by decide +kernel
theorem dX8_chance_104 : decode cX8_chance 104 = .ok (.isub, 1) := by decide +kernel
theorem dX8_chance_105 : decode cX8_chance 105 = .ok (.invokevirtual 175, 3) := by decide +kernel
theorem dX8_chance_108 : decode cX8_chance 108 = .ok (.iload 5, 2) := by decide +kernel
theorem dX8_chance_110 : decode cX8_chance 110 = .ok (.i2l, 1) := by decide +kernel
theorem dX8_chance_111 : decode cX8_chance 111 = .ok (.aload_n 0, 1) := by decide +kernel
theorem dX8_chance_112 : decode cX8_chance 112 = .ok (.getfield 7, 3) := by decide +kernel
theorem dX8_chance_115 : decode cX8_chance 115 = .ok (.invokestatic 145, 3) := by decide +kernel
theorem dX8_chance_118 : decode cX8_chance 118 = .ok (.iload 4, 2) := by decide +kernel
theorem dX8_chance_120 : decode cX8_chance 120 = .ok (.invokevirtual 171, 3) := by decide +kernel
theorem dX8_chance_123 : decode cX8_chance 123 = .ok (.lreturn, 1) := by decide +kernel
theorem dX8_place_0 : decode cX8_place 0 = .ok (.aload_n 0, 1) := by decide +kernel
theorem dX8_place_1 : decode cX8_place 1 = .ok (.iload_n 1, 1) := by decide +kernel
theorem dX8_place_2 : decode cX8_place 2 = .ok (.invokevirtual 123, 3) := by decide +kernel
theorem dX8_place_5 : decode cX8_place 5 = .ok (.ifCond .eq 38, 3) := by decide +kernel
theorem dX8_place_8 : decode cX8_place 8 = .ok (.aload_n 0, 1) := by decide +kernel
theorem dX8_place_9 : decode cX8_place 9 = .ok (.iload_n 1, 1) := by decide +kernel
theorem dX8_place_10 : decode cX8_place 10 = .ok (.invokevirtual 126, 3) := by decide +kernel
theorem dX8_place_13 : decode cX8_place 13 = .ok (.ifCond .ne 30, 3) := by decide +kernel
theorem dX8_place_16 : decode cX8_place 16 = .ok (.aload_n 0, 1) := by decide +kernel
theorem dX8_place_17 : decode cX8_place 17 = .ok (.iload_n 2, 1) := by decide +kernel
theorem dX8_place_18 : decode cX8_place 18 = .ok (.invokevirtual 98, 3) := by decide +kernel
theorem dX8_place_21 : decode cX8_place 21 = .ok (.ifCond .eq 22, 3) := by decide +kernel
theorem dX8_place_24 : decode cX8_place 24 = .ok (.aload_n 0, 1) := by decide +kernel
theorem dX8_place_25 : decode cX8_place 25 = .ok (.iload_n 3, 1) := by decide +kernel
theorem dX8_place_26 : decode cX8_place 26 = .ok (.invokevirtual 98, 3) := by decide +kernel
theorem dX8_place_29 : decode cX8_place 29 = .ok (.ifCond .eq 14, 3) := by decide +kernel
theorem dX8_place_32 : decode cX8_place 32 = .ok (.iload 4, 2) := by decide +kernel
theorem dX8_place_34 : decode cX8_place 34 = .ok (.ifCond .lt 9, 3) := by decide +kernel
theorem dX8_place_37 : decode cX8_place 37 = .ok (.iload 4, 2) := by decide +kernel
theorem dX8_place_39 : decode cX8_place 39 = .ok (.iconst 1, 1) := by decide +kernel
theorem dX8_place_40 : decode cX8_place 40 = .ok (.if_icmp .le 7, 3) := by decide +kernel
theorem dX8_place_43 : decode cX8_place 43 = .ok (.ldc2_w 157, 3) := by decide +kernel
theorem dX8_place_46 : decode cX8_place 46 = .ok (.lreturn, 1) := by decide +kernel
theorem dX8_place_47 : decode cX8_place 47 = .ok (.aload_n 0, 1) := by decide +kernel
theorem dX8_place_48 : decode cX8_place 48 = .ok (.getfield 17, 3) := by decide +kernel
theorem dX8_place_51 : decode cX8_place 51 = .ok (.iload_n 1, 1) := by decide +kernel
theorem dX8_place_52 : decode cX8_place 52 = .ok (.iaload, 1) := by decide +kernel
theorem dX8_place_53 : decode cX8_place 53 = .ok (.iconst 4, 1) := by decide +kernel
theorem dX8_place_54 : decode cX8_place 54 = .ok (.if_icmp .ne 72, 3) := by decide +kernel
theorem dX8_place_57 : decode cX8_place 57 = .ok (.iconst 0, 1) := by decide +kernel
theorem dX8_place_58 : decode cX8_place 58 = .ok (.istore 5, 2) := by decide +kernel
theorem dX8_place_60 : decode cX8_place 60 = .ok (.iconst 0, 1) := by decide +kernel
theorem dX8_place_61 : decode cX8_place 61 = .ok (.istore 6, 2) := by decide +kernel
theorem dX8_place_63 : decode cX8_place 63 = .ok (.iload 6, 2) := by decide +kernel
theorem dX8_place_65 : decode cX8_place 65 = .ok (.aload_n 0, 1) := by decide +kernel
theorem dX8_place_66 : decode cX8_place 66 = .ok (.getfield 7, 3) := by decide +kernel
theorem dX8_place_69 : decode cX8_place 69 = .ok (.if_icmp .ge 42, 3) := by decide +kernel
theorem dX8_place_72 : decode cX8_place 72 = .ok (.iload_n 2, 1) := by decide +kernel
theorem dX8_place_73 : decode cX8_place 73 = .ok (.ifCond .ne 8, 3) := by decide +kernel
theorem dX8_place_76 : decode cX8_place 76 = .ok (.iload 6, 2) := by decide +kernel
theorem dX8_place_78 : decode cX8_place 78 = .ok (.goto 16, 3) := by decide +kernel
theorem dX8_place_81 : decode cX8_place 81 = .ok (.iload_n 2, 1) := by decide +kernel
theorem dX8_place_82 : decode cX8_place 82 = .ok (.iload 6, 2) := by decide +kernel
theorem dX8_place_84 : decode cX8_place 84 = .ok (.if_icmp .gt 9, 3) := by decide +kernel
theorem dX8_place_87 : decode cX8_place 87 = .ok (.iload_n 2, 1) := by decide +kernel
theorem dX8_place_88 : decode cX8_place 88 = .ok (.iconst 1, 1) := by decide +kernel
theorem dX8_place_89 : decode cX8_place 89 = .ok (.isub, 1) := by decide +kernel
theorem dX8_place_90 : decode cX8_place 90 = .ok (.goto 4, 3) := by decide +kernel
theorem dX8_place_93 : decode cX8_place 93 = .ok (.iload_n 2, 1) := by decide +kernel
theorem dX8_place_94 : decode cX8_place 94 = .ok (.istore 7, 2) := by decide +kernel
theorem dX8_place_96 : decode cX8_place 96 = .ok (.iload 7, 2) := by decide +kernel
theorem dX8_place_98 : decode cX8_place 98 = .ok (.iload_n 3, 1) := by decide +kernel
theorem dX8_place_99 : decode cX8_place 99 = .ok (.if_icmp .ne 6, 3) := by decide +kernel
theorem dX8_place_102 : decode cX8_place 102 = .ok (.iinc 5 1, 3) := by decide +kernel
theorem dX8_place_105 : decode cX8_place 105 = .ok (.iinc 6 1, 3) := by decide +kernel
theorem dX8_place_108 : decode cX8_place 108 = .ok (.goto (-45), 3) := by decide +kernel
theorem dX8_place_111 : decode cX8_place 111 = .ok (.aload_n 0, 1) := by decide +kernel
theorem dX8_place_112 : decode cX8_place 112 = .ok (.iload 5, 2) := by decide +kernel
theorem dX8_place_114 : decode cX8_place 114 = .ok (.i2l, 1) := by decide +kernel
theorem dX8_place_115 : decode cX8_place 115 = .ok (.aload_n 0, 1) := by decide +kernel
theorem dX8_place_116 : decode cX8_place 116 = .ok (.getfield 7, 3) := by decide +kernel
theorem dX8_place_119 : decode cX8_place 119 = .ok (.i2l, 1) := by decide +kernel
theorem dX8_place_120 : decode cX8_place 120 = .ok (.iload 4, 2) := by decide +kernel
theorem dX8_place_122 : decode cX8_place 122 = .ok (.invokevirtual 171, 3) := by decide +kernel
theorem dX8_place_125 : decode cX8_place 125 = .ok (.lreturn, 1) := by decide +kernel
theorem dX8_place_126 : decode cX8_place 126 = .ok (.aload_n 0, 1) := by decide +kernel
theorem dX8_place_127 : decode cX8_place 127 = .ok (.getfield 20, 3) := by decide +kernel
theorem dX8_place_130 : decode cX8_place 130 = .ok (.iload_n 1, 1) := by decide +kernel
theorem dX8_place_131 : decode cX8_place 131 = .ok (.iaload, 1) := by decide +kernel
theorem dX8_place_132 : decode cX8_place 132 = .ok (.istore 5, 2) := by decide +kernel
theorem dX8_place_134 : decode cX8_place 134 = .ok (.lconst 0, 1) := by decide +kernel
theorem dX8_place_135 : decode cX8_place 135 = .ok (.lstore 6, 2) := by decide +kernel
theorem dX8_place_137 : decode cX8_place 137 = .ok (.iconst 0, 1) := by decide +kernel
theorem dX8_place_138 : decode cX8_place 138 = .ok (.istore 8, 2) := by decide +kernel
theorem dX8_place_140 : decode cX8_place 140 = .ok (.iload 8, 2) := by decide +kernel
theorem dX8_place_142 : decode cX8_place 142 = .ok (.iload 5, 2) := by decide +kernel
theorem dX8_place_144 : decode cX8_place 144 = .ok (.if_icmp .ge 160, 3) := by decide +kernel
theorem dX8_place_147 : decode cX8_place 147 = .ok (.iconst 0, 1) := by decide +kernel
theorem dX8_place_148 : decode cX8_place 148 = .ok (.istore 9, 2) := by decide +kernel
theorem dX8_place_150 : decode cX8_place 150 = .ok (.iload 9, 2) := by decide +kernel
theorem dX8_place_152 : decode cX8_place 152 = .ok (.aload_n 0, 1) := by decide +kernel
theorem dX8_place_153 : decode cX8_place 153 = .ok (.getfield 7, 3) := by decide +kernel
theorem dX8_place_156 : decode cX8_place 156 = .ok (.if_icmp .gt 26, 3) := by decide +kernel
theorem dX8_place_159 : decode cX8_place 159 = .ok (.aload_n 0, 1) := by decide +kernel
theorem dX8_place_160 : decode cX8_place 160 = .ok (.getfield 32, 3) := by decide +kernel
theorem dX8_place_163 : decode cX8_place 163 = .ok (.iload 9, 2) := by decide +kernel
theorem dX8_place_165 : decode cX8_place 165 = .ok (.iload 9, 2) := by decide +kernel
theorem dX8_place_167 : decode cX8_place 167 = .ok (.ifCond .ne 7, 3) := by decide +kernel
theorem dX8_place_170 : decode cX8_place 170 = .ok (.lconst 1, 1) := by decide +kernel
theorem dX8_place_171 : decode cX8_place 171 = .ok (.goto 4, 3) := by decide +kernel
theorem dX8_place_174 : decode cX8_place 174 = .ok (.lconst 0, 1) := by decide +kernel
theorem dX8_place_175 : decode cX8_place 175 = .ok (.lastore, 1) := by decide +kernel
theorem dX8_place_176 : decode cX8_place 176 = .ok (.iinc 9 1, 3) := by decide +kernel
theorem dX8_place_179 : decode cX8_place 179 = .ok (.goto (-29), 3) := by decide +kernel
theorem dX8_place_182 : decode cX8_place 182 = .ok (.iconst 0, 1) := by decide +kernel
theorem dX8_place_183 : decode cX8_place 183 = .ok (.istore 9, 2) := by decide +kernel
theorem dX8_place_185 : decode cX8_place 185 = .ok (.iload 9, 2) := by decide +kernel
theorem dX8_place_187 : decode cX8_place 187 = .ok (.aload_n 0, 1) := by decide +kernel
theorem dX8_place_188 : decode cX8_place 188 = .ok (.getfield 7, 3) := by decide +kernel
theorem dX8_place_191 : decode cX8_place 191 = .ok (.if_icmp .ge 96, 3) := by decide +kernel
theorem dX8_place_194 : decode cX8_place 194 = .ok (.iload 9, 2) := by decide +kernel
theorem dX8_place_196 : decode cX8_place 196 = .ok (.iload_n 3, 1) := by decide +kernel
theorem dX8_place_197 : decode cX8_place 197 = .ok (.if_icmp .ne 6, 3) := by decide +kernel
theorem dX8_place_200 : decode cX8_place 200 = .ok (.goto 81, 3) := by decide +kernel
theorem dX8_place_203 : decode cX8_place 203 = .ok (.iload 9, 2) := by decide +kernel
theorem dX8_place_205 : decode cX8_place 205 = .ok (.iload_n 3, 1) := by decide +kernel
theorem dX8_place_206 : decode cX8_place 206 = .ok (.if_icmp .ge 10, 3) := by decide +kernel
theorem dX8_place_209 : decode cX8_place 209 = .ok (.iload 8, 2) := by decide +kernel
theorem dX8_place_211 : decode cX8_place 211 = .ok (.iconst 1, 1) := by decide +kernel
theorem dX8_place_212 : decode cX8_place 212 = .ok (.iadd, 1) := by decide +kernel
theorem dX8_place_213 : decode cX8_place 213 = .ok (.goto 5, 3) := by decide +kernel
theorem dX8_place_216 : decode cX8_place 216 = .ok (.iload 8, 2) := by decide +kernel
theorem dX8_place_218 : decode cX8_place 218 = .ok (.istore 10, 2) := by decide +kernel
theorem dX8_place_220 : decode cX8_place 220 = .ok (.aload_n 0, 1) := by decide +kernel
theorem dX8_place_221 : decode cX8_place 221 = .ok (.getfield 7, 3) := by decide +kernel
theorem dX8_place_224 : decode cX8_place 224 = .ok (.istore 11, 2) := by decide +kernel
theorem dX8_place_226 : decode cX8_place 226 = .ok (.iload 11, 2) := by decide +kernel
theorem dX8_place_228 : decode cX8_place 228 = .ok (.ifCond .lt 53, 3) := by decide +kernel
theorem dX8_place_231 : decode cX8_place 231 = .ok (.aload_n 0, 1) := by decide +kernel
theorem dX8_place_232 : decode cX8_place 232 = .ok (.getfield 32, 3) := by decide +kernel
theorem dX8_place_235 : decode cX8_place 235 = .ok (.iload 11, 2) := by decide +kernel
theorem dX8_place_237 : decode cX8_place 237 = .ok (.aload_n 0, 1) := by decide +kernel
theorem dX8_place_238 : decode cX8_place 238 = .ok (.getfield 32, 3) := by decide +kernel
theorem dX8_place_241 : decode cX8_place 241 = .ok (.iload 11, 2) := by decide +kernel
theorem dX8_place_243 : decode cX8_place 243 = .ok (.laload, 1) := by decide +kernel
theorem dX8_place_244 : decode cX8_place 244 = .ok (.iload 5, 2) := by decide +kernel
theorem dX8_place_246 : decode cX8_place 246 = .ok (.iload 10, 2) := by decide +kernel
theorem dX8_place_248 : decode cX8_place 248 = .ok (.isub, 1) := by decide +kernel
theorem dX8_place_249 : decode cX8_place 249 = .ok (.i2l, 1) := by decide +kernel
theorem dX8_place_250 : decode cX8_place 250 = .ok (.lmul, 1) := by decide +kernel
theorem dX8_place_251 : decode cX8_place 251 = .ok (.iload 11, 2) := by decide +kernel
theorem dX8_place_253 : decode cX8_place 253 = .ok (.ifCond .le 19, 3) := by decide +kernel
theorem dX8_place_256 : decode cX8_place 256 = .ok (.aload_n 0, 1) := by decide +kernel
theorem dX8_place_257 : decode cX8_place 257 = .ok (.getfield 32, 3) := by decide +kernel
theorem dX8_place_260 : decode cX8_place 260 = .ok (.iload 11, 2) := by decide +kernel
theorem dX8_place_262 : decode cX8_place 262 = .ok (.iconst 1, 1) := by decide +kernel
theorem dX8_place_263 : decode cX8_place 263 = .ok (.isub, 1) := by decide +kernel
theorem dX8_place_264 : decode cX8_place 264 = .ok (.laload, 1) := by decide +kernel
theorem dX8_place_265 : decode cX8_place 265 = .ok (.iload 10, 2) := by decide +kernel
theorem dX8_place_267 : decode cX8_place 267 = .ok (.i2l, 1) := by decide +kernel
theorem dX8_place_268 : decode cX8_place 268 = .ok (.lmul, 1) := by decide +kernel
theorem dX8_place_269 : decode cX8_place 269 = .ok (.goto 4, 3) := by decide +kernel
theorem dX8_place_272 : decode cX8_place 272 = .ok (.lconst 0, 1) := by decide +kernel
theorem dX8_place_273 : decode cX8_place 273 = .ok (.ladd, 1) := by decide +kernel
theorem dX8_place_274 : decode cX8_place 274 = .ok (.lastore, 1) := by decide +kernel
theorem dX8_place_275 : decode cX8_place 275 = .ok (.iinc 11 (-1), 3) := by decide +kernel
theorem dX8_place_278 : decode cX8_place 278 = .ok (.goto (-52), 3) := by decide +kernel
theorem dX8_place_281 : decode cX8_place 281 = .ok (.iinc 9 1, 3) := by decide +kernel
theorem dX8_place_284 : decode cX8_place 284 = .ok (.goto (-99), 3) := by decide +kernel
theorem dX8_place_287 : decode cX8_place 287 = .ok (.lload 6, 2) := by decide +kernel
theorem dX8_place_289 : decode cX8_place 289 = .ok (.aload_n 0, 1) := by decide +kernel
theorem dX8_place_290 : decode cX8_place 290 = .ok (.getfield 32, 3) := by decide +kernel
theorem dX8_place_293 : decode cX8_place 293 = .ok (.iload_n 2, 1) := by decide +kernel
theorem dX8_place_294 : decode cX8_place 294 = .ok (.laload, 1) := by decide +kernel
theorem dX8_place_295 : decode cX8_place 295 = .ok (.ladd, 1) := by decide +kernel
theorem dX8_place_296 : decode cX8_place 296 = .ok (.lstore 6, 2) := by decide +kernel
theorem dX8_place_298 : decode cX8_place 298 = .ok (.iinc 8 1, 3) := by decide +kernel
theorem dX8_place_301 : decode cX8_place 301 = .ok (.goto (-161), 3) := by decide +kernel
theorem dX8_place_304 : decode cX8_place 304 = .ok (.aload_n 0, 1) := by decide +kernel
theorem dX8_place_305 : decode cX8_place 305 = .ok (.lload 6, 2) := by decide +kernel
theorem dX8_place_307 : decode cX8_place 307 = .ok (.iload 5, 2) := by decide +kernel
theorem dX8_place_309 : decode cX8_place 309 = .ok (.i2l, 1) := by decide +kernel
theorem dX8_place_310 : decode cX8_place 310 = .ok (.aload_n 0, 1) := by decide +kernel
theorem dX8_place_311 : decode cX8_place 311 = .ok (.getfield 7, 3) := by decide +kernel
theorem dX8_place_314 : decode cX8_place 314 = .ok (.invokestatic 145, 3) := by decide +kernel
theorem dX8_place_317 : decode cX8_place 317 = .ok (.iload 4, 2) := by decide +kernel
theorem dX8_place_319 : decode cX8_place 319 = .ok (.invokevirtual 171, 3) := by decide +kernel
theorem dX8_place_322 : decode cX8_place 322 = .ok (.lreturn, 1) := by decide +kernel
theorem dX8_far_0 : decode cX8_far 0 = .ok (.aload_n 0, 1) := by decide +kernel
theorem dX8_far_1 : decode cX8_far 1 = .ok (.iload_n 1, 1) := by decide +kernel
theorem dX8_far_2 : decode cX8_far 2 = .ok (.iload_n 2, 1) := by decide +kernel
theorem dX8_far_3 : decode cX8_far 3 = .ok (.invokevirtual 164, 3) := by decide +kernel
theorem dX8_far_6 : decode cX8_far 6 = .ok (.ifCond .eq 12, 3) := by decide +kernel
theorem dX8_far_9 : decode cX8_far 9 = .ok (.iload_n 3, 1) := by decide +kernel
theorem dX8_far_10 : decode cX8_far 10 = .ok (.ifCond .lt 8, 3) := by decide +kernel
theorem dX8_far_13 : decode cX8_far 13 = .ok (.iload_n 3, 1) := by decide +kernel
theorem dX8_far_14 : decode cX8_far 14 = .ok (.iconst 1, 1) := by decide +kernel
theorem dX8_far_15 : decode cX8_far 15 = .ok (.if_icmp .le 7, 3) := by decide +kernel
theorem dX8_far_18 : decode cX8_far 18 = .ok (.ldc2_w 157, 3) := by decide +kernel
theorem dX8_far_21 : decode cX8_far 21 = .ok (.lreturn, 1) := by decide +kernel
theorem dX8_far_22 : decode cX8_far 22 = .ok (.aload_n 0, 1) := by decide +kernel
theorem dX8_far_23 : decode cX8_far 23 = .ok (.getfield 7, 3) := by decide +kernel
theorem dX8_far_26 : decode cX8_far 26 = .ok (.invokestatic 82, 3) := by decide +kernel
theorem dX8_far_29 : decode cX8_far 29 = .ok (.i2l, 1) := by decide +kernel
theorem dX8_far_30 : decode cX8_far 30 = .ok (.lstore 4, 2) := by decide +kernel
theorem dX8_far_32 : decode cX8_far 32 = .ok (.lconst 0, 1) := by decide +kernel
theorem dX8_far_33 : decode cX8_far 33 = .ok (.lstore 6, 2) := by decide +kernel
theorem dX8_far_35 : decode cX8_far 35 = .ok (.aload_n 0, 1) := by decide +kernel
theorem dX8_far_36 : decode cX8_far 36 = .ok (.getfield 17, 3) := by decide +kernel
theorem dX8_far_39 : decode cX8_far 39 = .ok (.iload_n 1, 1) := by decide +kernel
theorem dX8_far_40 : decode cX8_far 40 = .ok (.iaload, 1) := by decide +kernel
theorem dX8_far_41 : decode cX8_far 41 = .ok (.iconst 4, 1) := by decide +kernel
theorem dX8_far_42 : decode cX8_far 42 = .ok (.if_icmp .ne 75, 3) := by decide +kernel
theorem dX8_far_45 : decode cX8_far 45 = .ok (.aload_n 0, 1) := by decide +kernel
theorem dX8_far_46 : decode cX8_far 46 = .ok (.getfield 7, 3) := by decide +kernel
theorem dX8_far_49 : decode cX8_far 49 = .ok (.i2l, 1) := by decide +kernel
theorem dX8_far_50 : decode cX8_far 50 = .ok (.iload_n 2, 1) := by decide +kernel
theorem dX8_far_51 : decode cX8_far 51 = .ok (.invokestatic 145, 3) := by decide +kernel
theorem dX8_far_54 : decode cX8_far 54 = .ok (.lstore 8, 2) := by decide +kernel
theorem dX8_far_56 : decode cX8_far 56 = .ok (.aload_n 0, 1) := by decide +kernel
theorem dX8_far_57 : decode cX8_far 57 = .ok (.iload_n 2, 1) := by decide +kernel
theorem dX8_far_58 : decode cX8_far 58 = .ok (.invokevirtual 168, 3) := by decide +kernel
theorem dX8_far_61 : decode cX8_far 61 = .ok (.iconst 0, 1) := by decide +kernel
theorem dX8_far_62 : decode cX8_far 62 = .ok (.istore 10, 2) := by decide +kernel
theorem dX8_far_64 : decode cX8_far 64 = .ok (.iload 10, 2) := by decide +kernel
theorem dX8_far_66 : decode cX8_far 66 = .ok (.i2l, 1) := by decide +kernel
theorem dX8_far_67 : decode cX8_far 67 = .ok (.lload 4, 2) := by decide +kernel
theorem dX8_far_69 : decode cX8_far 69 = .ok (.lcmp, 1) := by decide +kernel
theorem dX8_far_70 : decode cX8_far 70 = .ok (.ifCond .ge 30, 3) := by decide +kernel
theorem dX8_far_73 : decode cX8_far 73 = .ok (.lload 6, 2) := by decide +kernel
theorem dX8_far_75 : decode cX8_far 75 = .ok (.aload_n 0, 1) := by decide +kernel
theorem dX8_far_76 : decode cX8_far 76 = .ok (.getfield 39, 3) := by decide +kernel
theorem dX8_far_79 : decode cX8_far 79 = .ok (.iload 10, 2) := by decide +kernel
theorem dX8_far_81 : decode cX8_far 81 = .ok (.laload, 1) := by decide +kernel
theorem dX8_far_82 : decode cX8_far 82 = .ok (.lload 4, 2) := by decide +kernel
theorem dX8_far_84 : decode cX8_far 84 = .ok (.lmul, 1) := by decide +kernel
theorem dX8_far_85 : decode cX8_far 85 = .ok (.lload 8, 2) := by decide +kernel
theorem dX8_far_87 : decode cX8_far 87 = .ok (.lsub, 1) := by decide +kernel
theorem dX8_far_88 : decode cX8_far 88 = .ok (.invokestatic 179, 3) := by decide +kernel
theorem dX8_far_91 : decode cX8_far 91 = .ok (.ladd, 1) := by decide +kernel
theorem dX8_far_92 : decode cX8_far 92 = .ok (.lstore 6, 2) := by decide +kernel
theorem dX8_far_94 : decode cX8_far 94 = .ok (.iinc 10 1, 3) := by decide +kernel
theorem dX8_far_97 : decode cX8_far 97 = .ok (.goto (-33), 3) := by decide +kernel
theorem dX8_far_100 : decode cX8_far 100 = .ok (.aload_n 0, 1) := by decide +kernel
theorem dX8_far_101 : decode cX8_far 101 = .ok (.lload 6, 2) := by decide +kernel
theorem dX8_far_103 : decode cX8_far 103 = .ok (.ldc2_w 183, 3) := by decide +kernel
theorem dX8_far_106 : decode cX8_far 106 = .ok (.lload 8, 2) := by decide +kernel
theorem dX8_far_108 : decode cX8_far 108 = .ok (.lmul, 1) := by decide +kernel
theorem dX8_far_109 : decode cX8_far 109 = .ok (.lload 4, 2) := by decide +kernel
theorem dX8_far_111 : decode cX8_far 111 = .ok (.lmul, 1) := by decide +kernel
theorem dX8_far_112 : decode cX8_far 112 = .ok (.iload_n 3, 1) := by decide +kernel
theorem dX8_far_113 : decode cX8_far 113 = .ok (.invokevirtual 171, 3) := by decide +kernel
theorem dX8_far_116 : decode cX8_far 116 = .ok (.lreturn, 1) := by decide +kernel
theorem dX8_far_117 : decode cX8_far 117 = .ok (.aload_n 0, 1) := by decide +kernel
theorem dX8_far_118 : decode cX8_far 118 = .ok (.getfield 20, 3) := by decide +kernel
theorem dX8_far_121 : decode cX8_far 121 = .ok (.iload_n 1, 1) := by decide +kernel
theorem dX8_far_122 : decode cX8_far 122 = .ok (.iaload, 1) := by decide +kernel
theorem dX8_far_123 : decode cX8_far 123 = .ok (.i2l, 1) := by decide +kernel
theorem dX8_far_124 : decode cX8_far 124 = .ok (.iload_n 2, 1) := by decide +kernel
theorem dX8_far_125 : decode cX8_far 125 = .ok (.invokestatic 145, 3) := by decide +kernel
theorem dX8_far_128 : decode cX8_far 128 = .ok (.l2i, 1) := by decide +kernel
theorem dX8_far_129 : decode cX8_far 129 = .ok (.istore 8, 2) := by decide +kernel
theorem dX8_far_131 : decode cX8_far 131 = .ok (.iload 8, 2) := by decide +kernel
theorem dX8_far_133 : decode cX8_far 133 = .ok (.i2l, 1) := by decide +kernel
theorem dX8_far_134 : decode cX8_far 134 = .ok (.aload_n 0, 1) := by decide +kernel
theorem dX8_far_135 : decode cX8_far 135 = .ok (.getfield 7, 3) := by decide +kernel
theorem dX8_far_138 : decode cX8_far 138 = .ok (.invokestatic 145, 3) := by decide +kernel
theorem dX8_far_141 : decode cX8_far 141 = .ok (.lstore 9, 2) := by decide +kernel
theorem dX8_far_143 : decode cX8_far 143 = .ok (.iconst 1, 1) := by decide +kernel
theorem dX8_far_144 : decode cX8_far 144 = .ok (.istore 11, 2) := by decide +kernel
theorem dX8_far_146 : decode cX8_far 146 = .ok (.iload 11, 2) := by decide +kernel
theorem dX8_far_148 : decode cX8_far 148 = .ok (.aload_n 0, 1) := by decide +kernel
theorem dX8_far_149 : decode cX8_far 149 = .ok (.getfield 7, 3) := by decide +kernel
theorem dX8_far_152 : decode cX8_far 152 = .ok (.if_icmp .gt 40, 3) := by decide +kernel
theorem dX8_far_155 : decode cX8_far 155 = .ok (.lload 6, 2) := by decide +kernel
theorem dX8_far_157 : decode cX8_far 157 = .ok (.aload_n 0, 1) := by decide +kernel
theorem dX8_far_158 : decode cX8_far 158 = .ok (.iload 11, 2) := by decide +kernel
theorem dX8_far_160 : decode cX8_far 160 = .ok (.invokevirtual 185, 3) := by decide +kernel
theorem dX8_far_163 : decode cX8_far 163 = .ok (.aload_n 0, 1) := by decide +kernel
theorem dX8_far_164 : decode cX8_far 164 = .ok (.iload 8, 2) := by decide +kernel
theorem dX8_far_166 : decode cX8_far 166 = .ok (.iload 11, 2) := by decide +kernel
theorem dX8_far_168 : decode cX8_far 168 = .ok (.iconst 1, 1) := by decide +kernel
theorem dX8_far_169 : decode cX8_far 169 = .ok (.isub, 1) := by decide +kernel
theorem dX8_far_170 : decode cX8_far 170 = .ok (.invokevirtual 175, 3) := by decide +kernel
theorem dX8_far_173 : decode cX8_far 173 = .ok (.lload 4, 2) := by decide +kernel
theorem dX8_far_175 : decode cX8_far 175 = .ok (.lmul, 1) := by decide +kernel
theorem dX8_far_176 : decode cX8_far 176 = .ok (.lload 9, 2) := by decide +kernel
theorem dX8_far_178 : decode cX8_far 178 = .ok (.lsub, 1) := by decide +kernel
theorem dX8_far_179 : decode cX8_far 179 = .ok (.invokestatic 179, 3) := by decide +kernel
theorem dX8_far_182 : decode cX8_far 182 = .ok (.lmul, 1) := by decide +kernel
theorem dX8_far_183 : decode cX8_far 183 = .ok (.ladd, 1) := by decide +kernel
theorem dX8_far_184 : decode cX8_far 184 = .ok (.lstore 6, 2) := by decide +kernel
theorem dX8_far_186 : decode cX8_far 186 = .ok (.iinc 11 1, 3) := by decide +kernel
theorem dX8_far_189 : decode cX8_far 189 = .ok (.goto (-43), 3) := by decide +kernel
theorem dX8_far_192 : decode cX8_far 192 = .ok (.aload_n 0, 1) := by decide +kernel
theorem dX8_far_193 : decode cX8_far 193 = .ok (.lload 6, 2) := by decide +kernel
theorem dX8_far_195 : decode cX8_far 195 = .ok (.ldc2_w 183, 3) := by decide +kernel
theorem dX8_far_198 : decode cX8_far 198 = .ok (.lload 9, 2) := by decide +kernel
theorem dX8_far_200 : decode cX8_far 200 = .ok (.lmul, 1) := by decide +kernel
theorem dX8_far_201 : decode cX8_far 201 = .ok (.lload 4, 2) := by decide +kernel
theorem dX8_far_203 : decode cX8_far 203 = .ok (.lmul, 1) := by decide +kernel
theorem dX8_far_204 : decode cX8_far 204 = .ok (.iload_n 3, 1) := by decide +kernel
theorem dX8_far_205 : decode cX8_far 205 = .ok (.invokevirtual 171, 3) := by decide +kernel
theorem dX8_far_208 : decode cX8_far 208 = .ok (.lreturn, 1) := by decide +kernel
theorem dX8_size_0 : decode cX8_size 0 = .ok (.lload_n 0, 1) := by decide +kernel
theorem dX8_size_1 : decode cX8_size 1 = .ok (.lconst 0, 1) := by decide +kernel
theorem dX8_size_2 : decode cX8_size 2 = .ok (.lcmp, 1) := by decide +kernel
theorem dX8_size_3 : decode cX8_size 3 = .ok (.ifCond .ge 8, 3) := by decide +kernel
theorem dX8_size_6 : decode cX8_size 6 = .ok (.lload_n 0, 1) := by decide +kernel
theorem dX8_size_7 : decode cX8_size 7 = .ok (.lneg, 1) := by decide +kernel
theorem dX8_size_8 : decode cX8_size 8 = .ok (.goto 4, 3) := by decide +kernel
theorem dX8_size_11 : decode cX8_size 11 = .ok (.lload_n 0, 1) := by decide +kernel
theorem dX8_size_12 : decode cX8_size 12 = .ok (.lreturn, 1) := by decide +kernel
theorem dX8_unlike_0 : decode cX8_unlike 0 = .ok (.aload_n 0, 1) := by decide +kernel
theorem dX8_unlike_1 : decode cX8_unlike 1 = .ok (.iload_n 1, 1) := by decide +kernel
theorem dX8_unlike_2 : decode cX8_unlike 2 = .ok (.invokevirtual 123, 3) := by decide +kernel
theorem dX8_unlike_5 : decode cX8_unlike 5 = .ok (.ifCond .eq 50, 3) := by decide +kernel
theorem dX8_unlike_8 : decode cX8_unlike 8 = .ok (.aload_n 0, 1) := by decide +kernel
theorem dX8_unlike_9 : decode cX8_unlike 9 = .ok (.getfield 17, 3) := by decide +kernel
theorem dX8_unlike_12 : decode cX8_unlike 12 = .ok (.iload_n 1, 1) := by decide +kernel
theorem dX8_unlike_13 : decode cX8_unlike 13 = .ok (.iaload, 1) := by decide +kernel
theorem dX8_unlike_14 : decode cX8_unlike 14 = .ok (.iconst 3, 1) := by decide +kernel
theorem dX8_unlike_15 : decode cX8_unlike 15 = .ok (.if_icmp .ne 40, 3) := by decide +kernel
theorem dX8_unlike_18 : decode cX8_unlike 18 = .ok (.iload_n 2, 1) := by decide +kernel
theorem dX8_unlike_19 : decode cX8_unlike 19 = .ok (.ifCond .lt 36, 3) := by decide +kernel
theorem dX8_unlike_22 : decode cX8_unlike 22 = .ok (.iload_n 2, 1) := by decide +kernel
theorem dX8_unlike_23 : decode cX8_unlike 23 = .ok (.bipush 6, 2) := by decide +kernel
theorem dX8_unlike_25 : decode cX8_unlike 25 = .ok (.if_icmp .gt 30, 3) := by decide +kernel
theorem dX8_unlike_28 : decode cX8_unlike 28 = .ok (.aload_n 0, 1) := by decide +kernel
theorem dX8_unlike_29 : decode cX8_unlike 29 = .ok (.getfield 20, 3) := by decide +kernel
theorem dX8_unlike_32 : decode cX8_unlike 32 = .ok (.iload_n 1, 1) := by decide +kernel
theorem dX8_unlike_33 : decode cX8_unlike 33 = .ok (.iaload, 1) := by decide +kernel
theorem dX8_unlike_34 : decode cX8_unlike 34 = .ok (.i2l, 1) := by decide +kernel
theorem dX8_unlike_35 : decode cX8_unlike 35 = .ok (.iload_n 2, 1) := by decide +kernel
theorem dX8_unlike_36 : decode cX8_unlike 36 = .ok (.invokestatic 145, 3) := by decide +kernel
theorem dX8_unlike_39 : decode cX8_unlike 39 = .ok (.ldc2_w 162, 3) := by decide +kernel
theorem dX8_unlike_42 : decode cX8_unlike 42 = .ok (.lcmp, 1) := by decide +kernel
theorem dX8_unlike_43 : decode cX8_unlike 43 = .ok (.ifCond .gt 12, 3) := by decide +kernel
theorem dX8_unlike_46 : decode cX8_unlike 46 = .ok (.iload_n 3, 1) := by decide +kernel
theorem dX8_unlike_47 : decode cX8_unlike 47 = .ok (.ifCond .lt 8, 3) := by decide +kernel
theorem dX8_unlike_50 : decode cX8_unlike 50 = .ok (.iload_n 3, 1) := by decide +kernel
theorem dX8_unlike_51 : decode cX8_unlike 51 = .ok (.iconst 1, 1) := by decide +kernel
theorem dX8_unlike_52 : decode cX8_unlike 52 = .ok (.if_icmp .le 7, 3) := by decide +kernel
theorem dX8_unlike_55 : decode cX8_unlike 55 = .ok (.ldc2_w 157, 3) := by decide +kernel
theorem dX8_unlike_58 : decode cX8_unlike 58 = .ok (.lreturn, 1) := by decide +kernel
theorem dX8_unlike_59 : decode cX8_unlike 59 = .ok (.aload_n 0, 1) := by decide +kernel
theorem dX8_unlike_60 : decode cX8_unlike 60 = .ok (.getfield 20, 3) := by decide +kernel
theorem dX8_unlike_63 : decode cX8_unlike 63 = .ok (.iload_n 1, 1) := by decide +kernel
theorem dX8_unlike_64 : decode cX8_unlike 64 = .ok (.iaload, 1) := by decide +kernel
theorem dX8_unlike_65 : decode cX8_unlike 65 = .ok (.i2l, 1) := by decide +kernel
theorem dX8_unlike_66 : decode cX8_unlike 66 = .ok (.iload_n 2, 1) := by decide +kernel
theorem dX8_unlike_67 : decode cX8_unlike 67 = .ok (.invokestatic 145, 3) := by decide +kernel
theorem dX8_unlike_70 : decode cX8_unlike 70 = .ok (.lstore 4, 2) := by decide +kernel
theorem dX8_unlike_72 : decode cX8_unlike 72 = .ok (.lconst 1, 1) := by decide +kernel
theorem dX8_unlike_73 : decode cX8_unlike 73 = .ok (.lstore 6, 2) := by decide +kernel
theorem dX8_unlike_75 : decode cX8_unlike 75 = .ok (.iconst 0, 1) := by decide +kernel
theorem dX8_unlike_76 : decode cX8_unlike 76 = .ok (.istore 8, 2) := by decide +kernel
theorem dX8_unlike_78 : decode cX8_unlike 78 = .ok (.iload 8, 2) := by decide +kernel
theorem dX8_unlike_80 : decode cX8_unlike 80 = .ok (.aload_n 0, 1) := by decide +kernel
theorem dX8_unlike_81 : decode cX8_unlike 81 = .ok (.getfield 7, 3) := by decide +kernel
theorem dX8_unlike_84 : decode cX8_unlike 84 = .ok (.if_icmp .ge 33, 3) := by decide +kernel
theorem dX8_unlike_87 : decode cX8_unlike 87 = .ok (.lload 6, 2) := by decide +kernel
theorem dX8_unlike_89 : decode cX8_unlike 89 = .ok (.lload 4, 2) := by decide +kernel
theorem dX8_unlike_91 : decode cX8_unlike 91 = .ok (.iload 8, 2) := by decide +kernel
theorem dX8_unlike_93 : decode cX8_unlike 93 = .ok (.i2l, 1) := by decide +kernel
theorem dX8_unlike_94 : decode cX8_unlike 94 = .ok (.lcmp, 1) := by decide +kernel
theorem dX8_unlike_95 : decode cX8_unlike 95 = .ok (.ifCond .le 12, 3) := by decide +kernel
theorem dX8_unlike_98 : decode cX8_unlike 98 = .ok (.lload 4, 2) := by decide +kernel
theorem dX8_unlike_100 : decode cX8_unlike 100 = .ok (.iload 8, 2) := by decide +kernel
theorem dX8_unlike_102 : decode cX8_unlike 102 = .ok (.i2l, 1) := by decide +kernel
theorem dX8_unlike_103 : decode cX8_unlike 103 = .ok (.lsub, 1) := by decide +kernel
theorem dX8_unlike_104 : decode cX8_unlike 104 = .ok (.goto 4, 3) := by decide +kernel
theorem dX8_unlike_107 : decode cX8_unlike 107 = .ok (.lconst 0, 1) := by decide +kernel
theorem dX8_unlike_108 : decode cX8_unlike 108 = .ok (.lmul, 1) := by decide +kernel
theorem dX8_unlike_109 : decode cX8_unlike 109 = .ok (.lstore 6, 2) := by decide +kernel
theorem dX8_unlike_111 : decode cX8_unlike 111 = .ok (.iinc 8 1, 3) := by decide +kernel
theorem dX8_unlike_114 : decode cX8_unlike 114 = .ok (.goto (-36), 3) := by decide +kernel
theorem dX8_unlike_117 : decode cX8_unlike 117 = .ok (.aload_n 0, 1) := by decide +kernel
theorem dX8_unlike_118 : decode cX8_unlike 118 = .ok (.lload 6, 2) := by decide +kernel
theorem dX8_unlike_120 : decode cX8_unlike 120 = .ok (.lload 4, 2) := by decide +kernel
theorem dX8_unlike_122 : decode cX8_unlike 122 = .ok (.aload_n 0, 1) := by decide +kernel
theorem dX8_unlike_123 : decode cX8_unlike 123 = .ok (.getfield 7, 3) := by decide +kernel
theorem dX8_unlike_126 : decode cX8_unlike 126 = .ok (.invokestatic 145, 3) := by decide +kernel
theorem dX8_unlike_129 : decode cX8_unlike 129 = .ok (.iload_n 3, 1) := by decide +kernel
theorem dX8_unlike_130 : decode cX8_unlike 130 = .ok (.invokevirtual 171, 3) := by decide +kernel
theorem dX8_unlike_133 : decode cX8_unlike 133 = .ok (.lreturn, 1) := by decide +kernel
theorem dX8_runs_0 : decode cX8_runs 0 = .ok (.iload_n 1, 1) := by decide +kernel
theorem dX8_runs_1 : decode cX8_runs 1 = .ok (.iconst 1, 1) := by decide +kernel
theorem dX8_runs_2 : decode cX8_runs 2 = .ok (.if_icmp .lt 11, 3) := by decide +kernel
theorem dX8_runs_5 : decode cX8_runs 5 = .ok (.iload_n 1, 1) := by decide +kernel
theorem dX8_runs_6 : decode cX8_runs 6 = .ok (.aload_n 0, 1) := by decide +kernel
theorem dX8_runs_7 : decode cX8_runs 7 = .ok (.getfield 7, 3) := by decide +kernel
theorem dX8_runs_10 : decode cX8_runs 10 = .ok (.if_icmp .le 7, 3) := by decide +kernel
theorem dX8_runs_13 : decode cX8_runs 13 = .ok (.ldc2_w 157, 3) := by decide +kernel
theorem dX8_runs_16 : decode cX8_runs 16 = .ok (.lreturn, 1) := by decide +kernel
theorem dX8_runs_17 : decode cX8_runs 17 = .ok (.iconst 1, 1) := by decide +kernel
theorem dX8_runs_18 : decode cX8_runs 18 = .ok (.istore_n 2, 1) := by decide +kernel
theorem dX8_runs_19 : decode cX8_runs 19 = .ok (.iload_n 2, 1) := by decide +kernel
theorem dX8_runs_20 : decode cX8_runs 20 = .ok (.iload_n 1, 1) := by decide +kernel
theorem dX8_runs_21 : decode cX8_runs 21 = .ok (.if_icmp .gt 61, 3) := by decide +kernel
theorem dX8_runs_24 : decode cX8_runs 24 = .ok (.iload_n 2, 1) := by decide +kernel
theorem dX8_runs_25 : decode cX8_runs 25 = .ok (.i2l, 1) := by decide +kernel
theorem dX8_runs_26 : decode cX8_runs 26 = .ok (.aload_n 0, 1) := by decide +kernel
theorem dX8_runs_27 : decode cX8_runs 27 = .ok (.getfield 7, 3) := by decide +kernel
theorem dX8_runs_30 : decode cX8_runs 30 = .ok (.invokestatic 145, 3) := by decide +kernel
theorem dX8_runs_33 : decode cX8_runs 33 = .ok (.lstore_n 3, 1) := by decide +kernel
theorem dX8_runs_34 : decode cX8_runs 34 = .ok (.iconst 1, 1) := by decide +kernel
theorem dX8_runs_35 : decode cX8_runs 35 = .ok (.istore 5, 2) := by decide +kernel
theorem dX8_runs_37 : decode cX8_runs 37 = .ok (.iload 5, 2) := by decide +kernel
theorem dX8_runs_39 : decode cX8_runs 39 = .ok (.iload_n 2, 1) := by decide +kernel
theorem dX8_runs_40 : decode cX8_runs 40 = .ok (.if_icmp .ge 29, 3) := by decide +kernel
theorem dX8_runs_43 : decode cX8_runs 43 = .ok (.lload_n 3, 1) := by decide +kernel
theorem dX8_runs_44 : decode cX8_runs 44 = .ok (.aload_n 0, 1) := by decide +kernel
theorem dX8_runs_45 : decode cX8_runs 45 = .ok (.getfield 54, 3) := by decide +kernel
theorem dX8_runs_48 : decode cX8_runs 48 = .ok (.iload 5, 2) := by decide +kernel
theorem dX8_runs_50 : decode cX8_runs 50 = .ok (.laload, 1) := by decide +kernel
theorem dX8_runs_51 : decode cX8_runs 51 = .ok (.aload_n 0, 1) := by decide +kernel
theorem dX8_runs_52 : decode cX8_runs 52 = .ok (.iload_n 2, 1) := by decide +kernel
theorem dX8_runs_53 : decode cX8_runs 53 = .ok (.iload 5, 2) := by decide +kernel
theorem dX8_runs_55 : decode cX8_runs 55 = .ok (.iconst 1, 1) := by decide +kernel
theorem dX8_runs_56 : decode cX8_runs 56 = .ok (.isub, 1) := by decide +kernel
theorem dX8_runs_57 : decode cX8_runs 57 = .ok (.invokevirtual 175, 3) := by decide +kernel
theorem dX8_runs_60 : decode cX8_runs 60 = .ok (.lmul, 1) := by decide +kernel
theorem dX8_runs_61 : decode cX8_runs 61 = .ok (.lsub, 1) := by decide +kernel
theorem dX8_runs_62 : decode cX8_runs 62 = .ok (.lstore_n 3, 1) := by decide +kernel
theorem dX8_runs_63 : decode cX8_runs 63 = .ok (.iinc 5 1, 3) := by decide +kernel
theorem dX8_runs_66 : decode cX8_runs 66 = .ok (.goto (-29), 3) := by decide +kernel
theorem dX8_runs_69 : decode cX8_runs 69 = .ok (.aload_n 0, 1) := by decide +kernel
theorem dX8_runs_70 : decode cX8_runs 70 = .ok (.getfield 54, 3) := by decide +kernel
theorem dX8_runs_73 : decode cX8_runs 73 = .ok (.iload_n 2, 1) := by decide +kernel
theorem dX8_runs_74 : decode cX8_runs 74 = .ok (.lload_n 3, 1) := by decide +kernel
theorem dX8_runs_75 : decode cX8_runs 75 = .ok (.lastore, 1) := by decide +kernel
theorem dX8_runs_76 : decode cX8_runs 76 = .ok (.iinc 2 1, 3) := by decide +kernel
theorem dX8_runs_79 : decode cX8_runs 79 = .ok (.goto (-60), 3) := by decide +kernel
theorem dX8_runs_82 : decode cX8_runs 82 = .ok (.aload_n 0, 1) := by decide +kernel
theorem dX8_runs_83 : decode cX8_runs 83 = .ok (.getfield 54, 3) := by decide +kernel
theorem dX8_runs_86 : decode cX8_runs 86 = .ok (.iload_n 1, 1) := by decide +kernel
theorem dX8_runs_87 : decode cX8_runs 87 = .ok (.laload, 1) := by decide +kernel
theorem dX8_runs_88 : decode cX8_runs 88 = .ok (.lreturn, 1) := by decide +kernel
theorem dX8_fars_0 : decode cX8_fars 0 = .ok (.iconst 0, 1) := by decide +kernel
theorem dX8_fars_1 : decode cX8_fars 1 = .ok (.istore_n 2, 1) := by decide +kernel
theorem dX8_fars_2 : decode cX8_fars 2 = .ok (.iload_n 2, 1) := by decide +kernel
theorem dX8_fars_3 : decode cX8_fars 3 = .ok (.aload_n 0, 1) := by decide +kernel
theorem dX8_fars_4 : decode cX8_fars 4 = .ok (.getfield 7, 3) := by decide +kernel
theorem dX8_fars_7 : decode cX8_fars 7 = .ok (.if_icmp .ge 25, 3) := by decide +kernel
theorem dX8_fars_10 : decode cX8_fars 10 = .ok (.aload_n 0, 1) := by decide +kernel
theorem dX8_fars_11 : decode cX8_fars 11 = .ok (.getfield 45, 3) := by decide +kernel
theorem dX8_fars_14 : decode cX8_fars 14 = .ok (.iload_n 2, 1) := by decide +kernel
theorem dX8_fars_15 : decode cX8_fars 15 = .ok (.iload_n 2, 1) := by decide +kernel
theorem dX8_fars_16 : decode cX8_fars 16 = .ok (.iload_n 1, 1) := by decide +kernel
theorem dX8_fars_17 : decode cX8_fars 17 = .ok (.if_icmp .ne 7, 3) := by decide +kernel
theorem dX8_fars_20 : decode cX8_fars 20 = .ok (.iconst 0, 1) := by decide +kernel
theorem dX8_fars_21 : decode cX8_fars 21 = .ok (.goto 4, 3) := by decide +kernel
theorem dX8_fars_24 : decode cX8_fars 24 = .ok (.iconst (-1), 1) := by decide +kernel
theorem dX8_fars_25 : decode cX8_fars 25 = .ok (.iastore, 1) := by decide +kernel
theorem dX8_fars_26 : decode cX8_fars 26 = .ok (.iinc 2 1, 3) := by decide +kernel
theorem dX8_fars_29 : decode cX8_fars 29 = .ok (.goto (-27), 3) := by decide +kernel
theorem dX8_fars_32 : decode cX8_fars 32 = .ok (.iconst 1, 1) := by decide +kernel
theorem dX8_fars_33 : decode cX8_fars 33 = .ok (.istore_n 2, 1) := by decide +kernel
theorem dX8_fars_34 : decode cX8_fars 34 = .ok (.iconst 0, 1) := by decide +kernel
theorem dX8_fars_35 : decode cX8_fars 35 = .ok (.istore_n 3, 1) := by decide +kernel
theorem dX8_fars_36 : decode cX8_fars 36 = .ok (.iload_n 2, 1) := by decide +kernel
theorem dX8_fars_37 : decode cX8_fars 37 = .ok (.ifCond .eq 84, 3) := by decide +kernel
theorem dX8_fars_40 : decode cX8_fars 40 = .ok (.iconst 0, 1) := by decide +kernel
theorem dX8_fars_41 : decode cX8_fars 41 = .ok (.istore_n 2, 1) := by decide +kernel
theorem dX8_fars_42 : decode cX8_fars 42 = .ok (.iconst 0, 1) := by decide +kernel
theorem dX8_fars_43 : decode cX8_fars 43 = .ok (.istore 4, 2) := by decide +kernel
theorem dX8_fars_45 : decode cX8_fars 45 = .ok (.iload 4, 2) := by decide +kernel
theorem dX8_fars_47 : decode cX8_fars 47 = .ok (.aload_n 0, 1) := by decide +kernel
theorem dX8_fars_48 : decode cX8_fars 48 = .ok (.getfield 7, 3) := by decide +kernel
theorem dX8_fars_51 : decode cX8_fars 51 = .ok (.if_icmp .ge 64, 3) := by decide +kernel
theorem dX8_fars_54 : decode cX8_fars 54 = .ok (.aload_n 0, 1) := by decide +kernel
theorem dX8_fars_55 : decode cX8_fars 55 = .ok (.getfield 45, 3) := by decide +kernel
theorem dX8_fars_58 : decode cX8_fars 58 = .ok (.iload 4, 2) := by decide +kernel
theorem dX8_fars_60 : decode cX8_fars 60 = .ok (.iaload, 1) := by decide +kernel
theorem dX8_fars_61 : decode cX8_fars 61 = .ok (.iconst (-1), 1) := by decide +kernel
theorem dX8_fars_62 : decode cX8_fars 62 = .ok (.if_icmp .ne 47, 3) := by decide +kernel
theorem dX8_fars_65 : decode cX8_fars 65 = .ok (.aload_n 0, 1) := by decide +kernel
theorem dX8_fars_66 : decode cX8_fars 66 = .ok (.getfield 45, 3) := by decide +kernel
theorem dX8_fars_69 : decode cX8_fars 69 = .ok (.aload_n 0, 1) := by decide +kernel
theorem dX8_fars_70 : decode cX8_fars 70 = .ok (.iconst 0, 1) := by decide +kernel
theorem dX8_fars_71 : decode cX8_fars 71 = .ok (.iload 4, 2) := by decide +kernel
theorem dX8_fars_73 : decode cX8_fars 73 = .ok (.invokevirtual 120, 3) := by decide +kernel
theorem dX8_fars_76 : decode cX8_fars 76 = .ok (.iaload, 1) := by decide +kernel
theorem dX8_fars_77 : decode cX8_fars 77 = .ok (.iload_n 3, 1) := by decide +kernel
theorem dX8_fars_78 : decode cX8_fars 78 = .ok (.if_icmp .eq 19, 3) := by decide +kernel
theorem dX8_fars_81 : decode cX8_fars 81 = .ok (.aload_n 0, 1) := by decide +kernel
theorem dX8_fars_82 : decode cX8_fars 82 = .ok (.getfield 45, 3) := by decide +kernel
theorem dX8_fars_85 : decode cX8_fars 85 = .ok (.aload_n 0, 1) := by decide +kernel
theorem dX8_fars_86 : decode cX8_fars 86 = .ok (.iconst 1, 1) := by decide +kernel
theorem dX8_fars_87 : decode cX8_fars 87 = .ok (.iload 4, 2) := by decide +kernel
theorem dX8_fars_89 : decode cX8_fars 89 = .ok (.invokevirtual 120, 3) := by decide +kernel
theorem dX8_fars_92 : decode cX8_fars 92 = .ok (.iaload, 1) := by decide +kernel
theorem dX8_fars_93 : decode cX8_fars 93 = .ok (.iload_n 3, 1) := by decide +kernel
theorem dX8_fars_94 : decode cX8_fars 94 = .ok (.if_icmp .ne 15, 3) := by decide +kernel
theorem dX8_fars_97 : decode cX8_fars 97 = .ok (.aload_n 0, 1) := by decide +kernel
theorem dX8_fars_98 : decode cX8_fars 98 = .ok (.getfield 45, 3) := by decide +kernel
theorem dX8_fars_101 : decode cX8_fars 101 = .ok (.iload 4, 2) := by decide +kernel
theorem dX8_fars_103 : decode cX8_fars 103 = .ok (.iload_n 3, 1) := by decide +kernel
theorem dX8_fars_104 : decode cX8_fars 104 = .ok (.iconst 1, 1) := by decide +kernel
theorem dX8_fars_105 : decode cX8_fars 105 = .ok (.iadd, 1) := by decide +kernel
theorem dX8_fars_106 : decode cX8_fars 106 = .ok (.iastore, 1) := by decide +kernel
theorem dX8_fars_107 : decode cX8_fars 107 = .ok (.iconst 1, 1) := by decide +kernel
theorem dX8_fars_108 : decode cX8_fars 108 = .ok (.istore_n 2, 1) := by decide +kernel
theorem dX8_fars_109 : decode cX8_fars 109 = .ok (.iinc 4 1, 3) := by decide +kernel
theorem dX8_fars_112 : decode cX8_fars 112 = .ok (.goto (-67), 3) := by decide +kernel
theorem dX8_fars_115 : decode cX8_fars 115 = .ok (.iinc 3 1, 3) := by decide +kernel
theorem dX8_fars_118 : decode cX8_fars 118 = .ok (.goto (-82), 3) := by decide +kernel
theorem dX8_fars_121 : decode cX8_fars 121 = .ok (.return_, 1) := by decide +kernel
theorem dX8_leads_0 : decode cX8_leads 0 = .ok (.aload_n 0, 1) := by decide +kernel
theorem dX8_leads_1 : decode cX8_leads 1 = .ok (.iload_n 1, 1) := by decide +kernel
theorem dX8_leads_2 : decode cX8_leads 2 = .ok (.invokevirtual 98, 3) := by decide +kernel
theorem dX8_leads_5 : decode cX8_leads 5 = .ok (.ifCond .eq 11, 3) := by decide +kernel
theorem dX8_leads_8 : decode cX8_leads 8 = .ok (.aload_n 0, 1) := by decide +kernel
theorem dX8_leads_9 : decode cX8_leads 9 = .ok (.iload_n 2, 1) := by decide +kernel
theorem dX8_leads_10 : decode cX8_leads 10 = .ok (.invokevirtual 98, 3) := by decide +kernel
theorem dX8_leads_13 : decode cX8_leads 13 = .ok (.ifCond .ne 6, 3) := by decide +kernel
theorem dX8_leads_16 : decode cX8_leads 16 = .ok (.bipush (-2), 2) := by decide +kernel
theorem dX8_leads_18 : decode cX8_leads 18 = .ok (.ireturn, 1) := by decide +kernel
theorem dX8_leads_19 : decode cX8_leads 19 = .ok (.aload_n 0, 1) := by decide +kernel
theorem dX8_leads_20 : decode cX8_leads 20 = .ok (.getfield 7, 3) := by decide +kernel
theorem dX8_leads_23 : decode cX8_leads 23 = .ok (.iconst 2, 1) := by decide +kernel
theorem dX8_leads_24 : decode cX8_leads 24 = .ok (.irem, 1) := by decide +kernel
theorem dX8_leads_25 : decode cX8_leads 25 = .ok (.iconst 1, 1) := by decide +kernel
theorem dX8_leads_26 : decode cX8_leads 26 = .ok (.if_icmp .ne 6, 3) := by decide +kernel
theorem dX8_leads_29 : decode cX8_leads 29 = .ok (.bipush (-3), 2) := by decide +kernel
theorem dX8_leads_31 : decode cX8_leads 31 = .ok (.ireturn, 1) := by decide +kernel
theorem dX8_leads_32 : decode cX8_leads 32 = .ok (.aload_n 0, 1) := by decide +kernel
theorem dX8_leads_33 : decode cX8_leads 33 = .ok (.iload_n 2, 1) := by decide +kernel
theorem dX8_leads_34 : decode cX8_leads 34 = .ok (.invokevirtual 189, 3) := by decide +kernel
theorem dX8_leads_37 : decode cX8_leads 37 = .ok (.aload_n 0, 1) := by decide +kernel
theorem dX8_leads_38 : decode cX8_leads 38 = .ok (.getfield 45, 3) := by decide +kernel
theorem dX8_leads_41 : decode cX8_leads 41 = .ok (.iload_n 1, 1) := by decide +kernel
theorem dX8_leads_42 : decode cX8_leads 42 = .ok (.iaload, 1) := by decide +kernel
theorem dX8_leads_43 : decode cX8_leads 43 = .ok (.ireturn, 1) := by decide +kernel
theorem dX8_lead_0 : decode cX8_lead 0 = .ok (.aload_n 0, 1) := by decide +kernel
theorem dX8_lead_1 : decode cX8_lead 1 = .ok (.iload_n 1, 1) := by decide +kernel
theorem dX8_lead_2 : decode cX8_lead 2 = .ok (.invokevirtual 98, 3) := by decide +kernel
theorem dX8_lead_5 : decode cX8_lead 5 = .ok (.ifCond .eq 11, 3) := by decide +kernel
theorem dX8_lead_8 : decode cX8_lead 8 = .ok (.aload_n 0, 1) := by decide +kernel
theorem dX8_lead_9 : decode cX8_lead 9 = .ok (.iload_n 2, 1) := by decide +kernel
theorem dX8_lead_10 : decode cX8_lead 10 = .ok (.invokevirtual 98, 3) := by decide +kernel
theorem dX8_lead_13 : decode cX8_lead 13 = .ok (.ifCond .ne 6, 3) := by decide +kernel
theorem dX8_lead_16 : decode cX8_lead 16 = .ok (.bipush (-2), 2) := by decide +kernel
theorem dX8_lead_18 : decode cX8_lead 18 = .ok (.ireturn, 1) := by decide +kernel
theorem dX8_lead_19 : decode cX8_lead 19 = .ok (.aload_n 0, 1) := by decide +kernel
theorem dX8_lead_20 : decode cX8_lead 20 = .ok (.getfield 7, 3) := by decide +kernel
theorem dX8_lead_23 : decode cX8_lead 23 = .ok (.iconst 2, 1) := by decide +kernel
theorem dX8_lead_24 : decode cX8_lead 24 = .ok (.irem, 1) := by decide +kernel
theorem dX8_lead_25 : decode cX8_lead 25 = .ok (.iconst 1, 1) := by decide +kernel
theorem dX8_lead_26 : decode cX8_lead 26 = .ok (.if_icmp .ne 6, 3) := by decide +kernel
theorem dX8_lead_29 : decode cX8_lead 29 = .ok (.bipush (-3), 2) := by decide +kernel
theorem dX8_lead_31 : decode cX8_lead 31 = .ok (.ireturn, 1) := by decide +kernel
theorem dX8_lead_32 : decode cX8_lead 32 = .ok (.aload_n 0, 1) := by decide +kernel
theorem dX8_lead_33 : decode cX8_lead 33 = .ok (.iload_n 2, 1) := by decide +kernel
theorem dX8_lead_34 : decode cX8_lead 34 = .ok (.invokevirtual 189, 3) := by decide +kernel
theorem dX8_lead_37 : decode cX8_lead 37 = .ok (.iload_n 1, 1) := by decide +kernel
theorem dX8_lead_38 : decode cX8_lead 38 = .ok (.istore 4, 2) := by decide +kernel
theorem dX8_lead_40 : decode cX8_lead 40 = .ok (.iconst 0, 1) := by decide +kernel
theorem dX8_lead_41 : decode cX8_lead 41 = .ok (.istore 5, 2) := by decide +kernel
theorem dX8_lead_43 : decode cX8_lead 43 = .ok (.aload_n 0, 1) := by decide +kernel
theorem dX8_lead_44 : decode cX8_lead 44 = .ok (.getfield 45, 3) := by decide +kernel
theorem dX8_lead_47 : decode cX8_lead 47 = .ok (.iload 4, 2) := by decide +kernel
theorem dX8_lead_49 : decode cX8_lead 49 = .ok (.iaload, 1) := by decide +kernel
theorem dX8_lead_50 : decode cX8_lead 50 = .ok (.ifCond .le 59, 3) := by decide +kernel
theorem dX8_lead_53 : decode cX8_lead 53 = .ok (.aload_n 0, 1) := by decide +kernel
theorem dX8_lead_54 : decode cX8_lead 54 = .ok (.getfield 45, 3) := by decide +kernel
theorem dX8_lead_57 : decode cX8_lead 57 = .ok (.aload_n 0, 1) := by decide +kernel
theorem dX8_lead_58 : decode cX8_lead 58 = .ok (.iconst 0, 1) := by decide +kernel
theorem dX8_lead_59 : decode cX8_lead 59 = .ok (.iload 4, 2) := by decide +kernel
theorem dX8_lead_61 : decode cX8_lead 61 = .ok (.invokevirtual 120, 3) := by decide +kernel
theorem dX8_lead_64 : decode cX8_lead 64 = .ok (.iaload, 1) := by decide +kernel
theorem dX8_lead_65 : decode cX8_lead 65 = .ok (.aload_n 0, 1) := by decide +kernel
theorem dX8_lead_66 : decode cX8_lead 66 = .ok (.getfield 45, 3) := by decide +kernel
theorem dX8_lead_69 : decode cX8_lead 69 = .ok (.iload 4, 2) := by decide +kernel
theorem dX8_lead_71 : decode cX8_lead 71 = .ok (.iaload, 1) := by decide +kernel
theorem dX8_lead_72 : decode cX8_lead 72 = .ok (.iconst 1, 1) := by decide +kernel
theorem dX8_lead_73 : decode cX8_lead 73 = .ok (.isub, 1) := by decide +kernel
theorem dX8_lead_74 : decode cX8_lead 74 = .ok (.if_icmp .ne 7, 3) := by decide +kernel
theorem dX8_lead_77 : decode cX8_lead 77 = .ok (.iconst 0, 1) := by decide +kernel
theorem dX8_lead_78 : decode cX8_lead 78 = .ok (.goto 4, 3) := by decide +kernel
theorem dX8_lead_81 : decode cX8_lead 81 = .ok (.iconst 1, 1) := by decide +kernel
theorem dX8_lead_82 : decode cX8_lead 82 = .ok (.istore 6, 2) := by decide +kernel
theorem dX8_lead_84 : decode cX8_lead 84 = .ok (.iload 5, 2) := by decide +kernel
theorem dX8_lead_86 : decode cX8_lead 86 = .ok (.iload_n 3, 1) := by decide +kernel
theorem dX8_lead_87 : decode cX8_lead 87 = .ok (.if_icmp .ne 6, 3) := by decide +kernel
theorem dX8_lead_90 : decode cX8_lead 90 = .ok (.iload 6, 2) := by decide +kernel
theorem dX8_lead_92 : decode cX8_lead 92 = .ok (.ireturn, 1) := by decide +kernel
theorem dX8_lead_93 : decode cX8_lead 93 = .ok (.aload_n 0, 1) := by decide +kernel
theorem dX8_lead_94 : decode cX8_lead 94 = .ok (.iload 6, 2) := by decide +kernel
theorem dX8_lead_96 : decode cX8_lead 96 = .ok (.iload 4, 2) := by decide +kernel
theorem dX8_lead_98 : decode cX8_lead 98 = .ok (.invokevirtual 120, 3) := by decide +kernel
theorem dX8_lead_101 : decode cX8_lead 101 = .ok (.istore 4, 2) := by decide +kernel
theorem dX8_lead_103 : decode cX8_lead 103 = .ok (.iinc 5 1, 3) := by decide +kernel
theorem dX8_lead_106 : decode cX8_lead 106 = .ok (.goto (-63), 3) := by decide +kernel
theorem dX8_lead_109 : decode cX8_lead 109 = .ok (.iconst (-1), 1) := by decide +kernel
theorem dX8_lead_110 : decode cX8_lead 110 = .ok (.ireturn, 1) := by decide +kernel
theorem dX8_packed_0 : decode cX8_packed 0 = .ok (.lconst 0, 1) := by decide +kernel
theorem dX8_packed_1 : decode cX8_packed 1 = .ok (.lstore_n 1, 1) := by decide +kernel
theorem dX8_packed_2 : decode cX8_packed 2 = .ok (.iconst 0, 1) := by decide +kernel
theorem dX8_packed_3 : decode cX8_packed 3 = .ok (.istore_n 3, 1) := by decide +kernel
theorem dX8_packed_4 : decode cX8_packed 4 = .ok (.iload_n 3, 1) := by decide +kernel
theorem dX8_packed_5 : decode cX8_packed 5 = .ok (.aload_n 0, 1) := by decide +kernel
theorem dX8_packed_6 : decode cX8_packed 6 = .ok (.getfield 7, 3) := by decide +kernel
theorem dX8_packed_9 : decode cX8_packed 9 = .ok (.if_icmp .ge 21, 3) := by decide +kernel
theorem dX8_packed_12 : decode cX8_packed 12 = .ok (.lload_n 1, 1) := by decide +kernel
theorem dX8_packed_13 : decode cX8_packed 13 = .ok (.iconst 4, 1) := by decide +kernel
theorem dX8_packed_14 : decode cX8_packed 14 = .ok (.lshl, 1) := by decide +kernel
theorem dX8_packed_15 : decode cX8_packed 15 = .ok (.aload_n 0, 1) := by decide +kernel
theorem dX8_packed_16 : decode cX8_packed 16 = .ok (.getfield 26, 3) := by decide +kernel
theorem dX8_packed_19 : decode cX8_packed 19 = .ok (.iload_n 3, 1) := by decide +kernel
theorem dX8_packed_20 : decode cX8_packed 20 = .ok (.iaload, 1) := by decide +kernel
theorem dX8_packed_21 : decode cX8_packed 21 = .ok (.i2l, 1) := by decide +kernel
theorem dX8_packed_22 : decode cX8_packed 22 = .ok (.lor, 1) := by decide +kernel
theorem dX8_packed_23 : decode cX8_packed 23 = .ok (.lstore_n 1, 1) := by decide +kernel
theorem dX8_packed_24 : decode cX8_packed 24 = .ok (.iinc 3 1, 3) := by decide +kernel
theorem dX8_packed_27 : decode cX8_packed 27 = .ok (.goto (-23), 3) := by decide +kernel
theorem dX8_packed_30 : decode cX8_packed 30 = .ok (.lload_n 1, 1) := by decide +kernel
theorem dX8_packed_31 : decode cX8_packed 31 = .ok (.lreturn, 1) := by decide +kernel
theorem dX8_group_0 : decode cX8_group 0 = .ok (.aload_n 0, 1) := by decide +kernel
theorem dX8_group_1 : decode cX8_group 1 = .ok (.getfield 7, 3) := by decide +kernel
theorem dX8_group_4 : decode cX8_group 4 = .ok (.iconst 2, 1) := by decide +kernel
theorem dX8_group_5 : decode cX8_group 5 = .ok (.irem, 1) := by decide +kernel
theorem dX8_group_6 : decode cX8_group 6 = .ok (.iconst 1, 1) := by decide +kernel
theorem dX8_group_7 : decode cX8_group 7 = .ok (.if_icmp .ne 6, 3) := by decide +kernel
theorem dX8_group_10 : decode cX8_group 10 = .ok (.bipush (-3), 2) := by decide +kernel
theorem dX8_group_12 : decode cX8_group 12 = .ok (.ireturn, 1) := by decide +kernel
theorem dX8_group_13 : decode cX8_group 13 = .ok (.aload_n 0, 1) := by decide +kernel
theorem dX8_group_14 : decode cX8_group 14 = .ok (.getfield 48, 3) := by decide +kernel
theorem dX8_group_17 : decode cX8_group 17 = .ok (.aload_n 0, 1) := by decide +kernel
theorem dX8_group_18 : decode cX8_group 18 = .ok (.getfield 7, 3) := by decide +kernel
theorem dX8_group_21 : decode cX8_group 21 = .ok (.iaload, 1) := by decide +kernel
theorem dX8_group_22 : decode cX8_group 22 = .ok (.ifCond .ne 16, 3) := by decide +kernel
theorem dX8_group_25 : decode cX8_group 25 = .ok (.aload_n 0, 1) := by decide +kernel
theorem dX8_group_26 : decode cX8_group 26 = .ok (.getfield 48, 3) := by decide +kernel
theorem dX8_group_29 : decode cX8_group 29 = .ok (.aload_n 0, 1) := by decide +kernel
theorem dX8_group_30 : decode cX8_group 30 = .ok (.getfield 7, 3) := by decide +kernel
theorem dX8_group_33 : decode cX8_group 33 = .ok (.aload_n 0, 1) := by decide +kernel
theorem dX8_group_34 : decode cX8_group 34 = .ok (.invokevirtual 192, 3) := by decide +kernel
theorem dX8_group_37 : decode cX8_group 37 = .ok (.iastore, 1) := by decide +kernel
theorem dX8_group_38 : decode cX8_group 38 = .ok (.aload_n 0, 1) := by decide +kernel
theorem dX8_group_39 : decode cX8_group 39 = .ok (.getfield 48, 3) := by decide +kernel
theorem dX8_group_42 : decode cX8_group 42 = .ok (.aload_n 0, 1) := by decide +kernel
theorem dX8_group_43 : decode cX8_group 43 = .ok (.getfield 7, 3) := by decide +kernel
theorem dX8_group_46 : decode cX8_group 46 = .ok (.iaload, 1) := by decide +kernel
theorem dX8_group_47 : decode cX8_group 47 = .ok (.ireturn, 1) := by decide +kernel
theorem dX8_orbit_0 : decode cX8_orbit 0 = .ok (.iconst 0, 1) := by decide +kernel
theorem dX8_orbit_1 : decode cX8_orbit 1 = .ok (.istore_n 1, 1) := by decide +kernel
theorem dX8_orbit_2 : decode cX8_orbit 2 = .ok (.iload_n 1, 1) := by decide +kernel
theorem dX8_orbit_3 : decode cX8_orbit 3 = .ok (.aload_n 0, 1) := by decide +kernel
theorem dX8_orbit_4 : decode cX8_orbit 4 = .ok (.getfield 7, 3) := by decide +kernel
theorem dX8_orbit_7 : decode cX8_orbit 7 = .ok (.if_icmp .ge 16, 3) := by decide +kernel
theorem dX8_orbit_10 : decode cX8_orbit 10 = .ok (.aload_n 0, 1) := by decide +kernel
theorem dX8_orbit_11 : decode cX8_orbit 11 = .ok (.getfield 26, 3) := by decide +kernel
theorem dX8_orbit_14 : decode cX8_orbit 14 = .ok (.iload_n 1, 1) := by decide +kernel
theorem dX8_orbit_15 : decode cX8_orbit 15 = .ok (.iload_n 1, 1) := by decide +kernel
theorem dX8_orbit_16 : decode cX8_orbit 16 = .ok (.iastore, 1) := by decide +kernel
theorem dX8_orbit_17 : decode cX8_orbit 17 = .ok (.iinc 1 1, 3) := by decide +kernel
theorem dX8_orbit_20 : decode cX8_orbit 20 = .ok (.goto (-18), 3) := by decide +kernel
theorem dX8_orbit_23 : decode cX8_orbit 23 = .ok (.iconst 1, 1) := by decide +kernel
theorem dX8_orbit_24 : decode cX8_orbit 24 = .ok (.istore_n 1, 1) := by decide +kernel
theorem dX8_orbit_25 : decode cX8_orbit 25 = .ok (.aload_n 0, 1) := by decide +kernel
theorem dX8_orbit_26 : decode cX8_orbit 26 = .ok (.getfield 51, 3) := by decide +kernel
theorem dX8_orbit_29 : decode cX8_orbit 29 = .ok (.iconst 0, 1) := by decide +kernel
theorem dX8_orbit_30 : decode cX8_orbit 30 = .ok (.aload_n 0, 1) := by decide +kernel
theorem dX8_orbit_31 : decode cX8_orbit 31 = .ok (.invokevirtual 195, 3) := by decide +kernel
theorem dX8_orbit_34 : decode cX8_orbit 34 = .ok (.lastore, 1) := by decide +kernel
theorem dX8_orbit_35 : decode cX8_orbit 35 = .ok (.iconst 1, 1) := by decide +kernel
theorem dX8_orbit_36 : decode cX8_orbit 36 = .ok (.istore_n 2, 1) := by decide +kernel
theorem dX8_orbit_37 : decode cX8_orbit 37 = .ok (.iload_n 2, 1) := by decide +kernel
theorem dX8_orbit_38 : decode cX8_orbit 38 = .ok (.ifCond .eq 144, 3) := by decide +kernel
theorem dX8_orbit_41 : decode cX8_orbit 41 = .ok (.iconst 0, 1) := by decide +kernel
theorem dX8_orbit_42 : decode cX8_orbit 42 = .ok (.istore_n 2, 1) := by decide +kernel
theorem dX8_orbit_43 : decode cX8_orbit 43 = .ok (.iload_n 1, 1) := by decide +kernel
theorem dX8_orbit_44 : decode cX8_orbit 44 = .ok (.istore_n 3, 1) := by decide +kernel
theorem dX8_orbit_45 : decode cX8_orbit 45 = .ok (.iconst 0, 1) := by decide +kernel
theorem dX8_orbit_46 : decode cX8_orbit 46 = .ok (.istore 4, 2) := by decide +kernel
theorem dX8_orbit_48 : decode cX8_orbit 48 = .ok (.iload 4, 2) := by decide +kernel
theorem dX8_orbit_50 : decode cX8_orbit 50 = .ok (.iload_n 3, 1) := by decide +kernel
theorem dX8_orbit_51 : decode cX8_orbit 51 = .ok (.if_icmp .ge 123, 3) := by decide +kernel
theorem dX8_orbit_54 : decode cX8_orbit 54 = .ok (.aload_n 0, 1) := by decide +kernel
theorem dX8_orbit_55 : decode cX8_orbit 55 = .ok (.getfield 51, 3) := by decide +kernel
theorem dX8_orbit_58 : decode cX8_orbit 58 = .ok (.iload 4, 2) := by decide +kernel
theorem dX8_orbit_60 : decode cX8_orbit 60 = .ok (.laload, 1) := by decide +kernel
theorem dX8_orbit_61 : decode cX8_orbit 61 = .ok (.lstore 5, 2) := by decide +kernel
theorem dX8_orbit_63 : decode cX8_orbit 63 = .ok (.iconst 0, 1) := by decide +kernel
theorem dX8_orbit_64 : decode cX8_orbit 64 = .ok (.istore 7, 2) := by decide +kernel
theorem dX8_orbit_66 : decode cX8_orbit 66 = .ok (.iload 7, 2) := by decide +kernel
theorem dX8_orbit_68 : decode cX8_orbit 68 = .ok (.iconst 2, 1) := by decide +kernel
theorem dX8_orbit_69 : decode cX8_orbit 69 = .ok (.if_icmp .ge 99, 3) := by decide +kernel
theorem dX8_orbit_72 : decode cX8_orbit 72 = .ok (.iconst 0, 1) := by decide +kernel
theorem dX8_orbit_73 : decode cX8_orbit 73 = .ok (.istore 8, 2) := by decide +kernel
theorem dX8_orbit_75 : decode cX8_orbit 75 = .ok (.iload 8, 2) := by decide +kernel
theorem dX8_orbit_77 : decode cX8_orbit 77 = .ok (.aload_n 0, 1) := by decide +kernel
theorem dX8_orbit_78 : decode cX8_orbit 78 = .ok (.getfield 7, 3) := by decide +kernel
theorem dX8_orbit_81 : decode cX8_orbit 81 = .ok (.if_icmp .ge 41, 3) := by decide +kernel
theorem dX8_orbit_84 : decode cX8_orbit 84 = .ok (.aload_n 0, 1) := by decide +kernel
theorem dX8_orbit_85 : decode cX8_orbit 85 = .ok (.getfield 26, 3) := by decide +kernel
theorem dX8_orbit_88 : decode cX8_orbit 88 = .ok (.aload_n 0, 1) := by decide +kernel
theorem dX8_orbit_89 : decode cX8_orbit 89 = .ok (.iload 7, 2) := by decide +kernel
theorem dX8_orbit_91 : decode cX8_orbit 91 = .ok (.iload 8, 2) := by decide +kernel
theorem dX8_orbit_93 : decode cX8_orbit 93 = .ok (.invokevirtual 120, 3) := by decide +kernel
theorem dX8_orbit_96 : decode cX8_orbit 96 = .ok (.lload 5, 2) := by decide +kernel
theorem dX8_orbit_98 : decode cX8_orbit 98 = .ok (.iconst 4, 1) := by decide +kernel
theorem dX8_orbit_99 : decode cX8_orbit 99 = .ok (.aload_n 0, 1) := by decide +kernel
theorem dX8_orbit_100 : decode cX8_orbit 100 = .ok (.getfield 7, 3) := by decide +kernel
theorem dX8_orbit_103 : decode cX8_orbit 103 = .ok (.iconst 1, 1) := by decide +kernel
theorem dX8_orbit_104 : decode cX8_orbit 104 = .ok (.isub, 1) := by decide +kernel
theorem dX8_orbit_105 : decode cX8_orbit 105 = .ok (.iload 8, 2) := by decide +kernel
theorem dX8_orbit_107 : decode cX8_orbit 107 = .ok (.isub, 1) := by decide +kernel
theorem dX8_orbit_108 : decode cX8_orbit 108 = .ok (.imul, 1) := by decide +kernel
theorem dX8_orbit_109 : decode cX8_orbit 109 = .ok (.lshr, 1) := by decide +kernel
theorem dX8_orbit_110 : decode cX8_orbit 110 = .ok (.ldc2_w 199, 3) := by decide +kernel
theorem dX8_orbit_113 : decode cX8_orbit 113 = .ok (.land, 1) := by decide +kernel
theorem dX8_orbit_114 : decode cX8_orbit 114 = .ok (.l2i, 1) := by decide +kernel
theorem dX8_orbit_115 : decode cX8_orbit 115 = .ok (.iastore, 1) := by decide +kernel
theorem dX8_orbit_116 : decode cX8_orbit 116 = .ok (.iinc 8 1, 3) := by decide +kernel
theorem dX8_orbit_119 : decode cX8_orbit 119 = .ok (.goto (-44), 3) := by decide +kernel
theorem dX8_orbit_122 : decode cX8_orbit 122 = .ok (.aload_n 0, 1) := by decide +kernel
theorem dX8_orbit_123 : decode cX8_orbit 123 = .ok (.invokevirtual 195, 3) := by decide +kernel
theorem dX8_orbit_126 : decode cX8_orbit 126 = .ok (.lstore 8, 2) := by decide +kernel
theorem dX8_orbit_128 : decode cX8_orbit 128 = .ok (.aload_n 0, 1) := by decide +kernel
theorem dX8_orbit_129 : decode cX8_orbit 129 = .ok (.lload 8, 2) := by decide +kernel
theorem dX8_orbit_131 : decode cX8_orbit 131 = .ok (.iload_n 3, 1) := by decide +kernel
theorem dX8_orbit_132 : decode cX8_orbit 132 = .ok (.invokevirtual 201, 3) := by decide +kernel
theorem dX8_orbit_135 : decode cX8_orbit 135 = .ok (.ifCond .ne 27, 3) := by decide +kernel
theorem dX8_orbit_138 : decode cX8_orbit 138 = .ok (.aload_n 0, 1) := by decide +kernel
theorem dX8_orbit_139 : decode cX8_orbit 139 = .ok (.lload 8, 2) := by decide +kernel
theorem dX8_orbit_141 : decode cX8_orbit 141 = .ok (.iload_n 3, 1) := by decide +kernel
theorem dX8_orbit_142 : decode cX8_orbit 142 = .ok (.iload_n 1, 1) := by decide +kernel
theorem dX8_orbit_143 : decode cX8_orbit 143 = .ok (.invokevirtual 205, 3) := by decide +kernel
theorem dX8_orbit_146 : decode cX8_orbit 146 = .ok (.ifCond .ne 16, 3) := by decide +kernel
theorem dX8_orbit_149 : decode cX8_orbit 149 = .ok (.aload_n 0, 1) := by decide +kernel
theorem dX8_orbit_150 : decode cX8_orbit 150 = .ok (.getfield 51, 3) := by decide +kernel
theorem dX8_orbit_153 : decode cX8_orbit 153 = .ok (.iload_n 1, 1) := by decide +kernel
theorem dX8_orbit_154 : decode cX8_orbit 154 = .ok (.iinc 1 1, 3) := by decide +kernel
theorem dX8_orbit_157 : decode cX8_orbit 157 = .ok (.lload 8, 2) := by decide +kernel
theorem dX8_orbit_159 : decode cX8_orbit 159 = .ok (.lastore, 1) := by decide +kernel
theorem dX8_orbit_160 : decode cX8_orbit 160 = .ok (.iconst 1, 1) := by decide +kernel
theorem dX8_orbit_161 : decode cX8_orbit 161 = .ok (.istore_n 2, 1) := by decide +kernel
theorem dX8_orbit_162 : decode cX8_orbit 162 = .ok (.iinc 7 1, 3) := by decide +kernel
theorem dX8_orbit_165 : decode cX8_orbit 165 = .ok (.goto (-99), 3) := by decide +kernel
theorem dX8_orbit_168 : decode cX8_orbit 168 = .ok (.iinc 4 1, 3) := by decide +kernel
theorem dX8_orbit_171 : decode cX8_orbit 171 = .ok (.goto (-123), 3) := by decide +kernel
theorem dX8_orbit_174 : decode cX8_orbit 174 = .ok (.aload_n 0, 1) := by decide +kernel
theorem dX8_orbit_175 : decode cX8_orbit 175 = .ok (.iload_n 1, 1) := by decide +kernel
theorem dX8_orbit_176 : decode cX8_orbit 176 = .ok (.invokevirtual 209, 3) := by decide +kernel
theorem dX8_orbit_179 : decode cX8_orbit 179 = .ok (.goto (-142), 3) := by decide +kernel
theorem dX8_orbit_182 : decode cX8_orbit 182 = .ok (.iload_n 1, 1) := by decide +kernel
theorem dX8_orbit_183 : decode cX8_orbit 183 = .ok (.ireturn, 1) := by decide +kernel
theorem dX8_isFound_0 : decode cX8_isFound 0 = .ok (.iconst 0, 1) := by decide +kernel
theorem dX8_isFound_1 : decode cX8_isFound 1 = .ok (.istore 4, 2) := by decide +kernel
theorem dX8_isFound_3 : decode cX8_isFound 3 = .ok (.iload_n 3, 1) := by decide +kernel
theorem dX8_isFound_4 : decode cX8_isFound 4 = .ok (.iconst 1, 1) := by decide +kernel
theorem dX8_isFound_5 : decode cX8_isFound 5 = .ok (.isub, 1) := by decide +kernel
theorem dX8_isFound_6 : decode cX8_isFound 6 = .ok (.istore 5, 2) := by decide +kernel
theorem dX8_isFound_8 : decode cX8_isFound 8 = .ok (.iload 4, 2) := by decide +kernel
theorem dX8_isFound_10 : decode cX8_isFound 10 = .ok (.iload 5, 2) := by decide +kernel
theorem dX8_isFound_12 : decode cX8_isFound 12 = .ok (.if_icmp .gt 56, 3) := by decide +kernel
theorem dX8_isFound_15 : decode cX8_isFound 15 = .ok (.iload 4, 2) := by decide +kernel
theorem dX8_isFound_17 : decode cX8_isFound 17 = .ok (.iload 5, 2) := by decide +kernel
theorem dX8_isFound_19 : decode cX8_isFound 19 = .ok (.iadd, 1) := by decide +kernel
theorem dX8_isFound_20 : decode cX8_isFound 20 = .ok (.iconst 2, 1) := by decide +kernel
theorem dX8_isFound_21 : decode cX8_isFound 21 = .ok (.idiv, 1) := by decide +kernel
theorem dX8_isFound_22 : decode cX8_isFound 22 = .ok (.istore 6, 2) := by decide +kernel
theorem dX8_isFound_24 : decode cX8_isFound 24 = .ok (.aload_n 0, 1) := by decide +kernel
theorem dX8_isFound_25 : decode cX8_isFound 25 = .ok (.getfield 51, 3) := by decide +kernel
theorem dX8_isFound_28 : decode cX8_isFound 28 = .ok (.iload 6, 2) := by decide +kernel
theorem dX8_isFound_30 : decode cX8_isFound 30 = .ok (.laload, 1) := by decide +kernel
theorem dX8_isFound_31 : decode cX8_isFound 31 = .ok (.lload_n 1, 1) := by decide +kernel
theorem dX8_isFound_32 : decode cX8_isFound 32 = .ok (.lcmp, 1) := by decide +kernel
theorem dX8_isFound_33 : decode cX8_isFound 33 = .ok (.ifCond .ne 5, 3) := by decide +kernel
theorem dX8_isFound_36 : decode cX8_isFound 36 = .ok (.iconst 1, 1) := by decide +kernel
theorem dX8_isFound_37 : decode cX8_isFound 37 = .ok (.ireturn, 1) := by decide +kernel
theorem dX8_isFound_38 : decode cX8_isFound 38 = .ok (.aload_n 0, 1) := by decide +kernel
theorem dX8_isFound_39 : decode cX8_isFound 39 = .ok (.getfield 51, 3) := by decide +kernel
theorem dX8_isFound_42 : decode cX8_isFound 42 = .ok (.iload 6, 2) := by decide +kernel
theorem dX8_isFound_44 : decode cX8_isFound 44 = .ok (.laload, 1) := by decide +kernel
theorem dX8_isFound_45 : decode cX8_isFound 45 = .ok (.lload_n 1, 1) := by decide +kernel
theorem dX8_isFound_46 : decode cX8_isFound 46 = .ok (.lcmp, 1) := by decide +kernel
theorem dX8_isFound_47 : decode cX8_isFound 47 = .ok (.ifCond .ge 12, 3) := by decide +kernel
theorem dX8_isFound_50 : decode cX8_isFound 50 = .ok (.iload 6, 2) := by decide +kernel
theorem dX8_isFound_52 : decode cX8_isFound 52 = .ok (.iconst 1, 1) := by decide +kernel
theorem dX8_isFound_53 : decode cX8_isFound 53 = .ok (.iadd, 1) := by decide +kernel
theorem dX8_isFound_54 : decode cX8_isFound 54 = .ok (.istore 4, 2) := by decide +kernel
theorem dX8_isFound_56 : decode cX8_isFound 56 = .ok (.goto 9, 3) := by decide +kernel
theorem dX8_isFound_59 : decode cX8_isFound 59 = .ok (.iload 6, 2) := by decide +kernel
theorem dX8_isFound_61 : decode cX8_isFound 61 = .ok (.iconst 1, 1) := by decide +kernel
theorem dX8_isFound_62 : decode cX8_isFound 62 = .ok (.isub, 1) := by decide +kernel
theorem dX8_isFound_63 : decode cX8_isFound 63 = .ok (.istore 5, 2) := by decide +kernel
theorem dX8_isFound_65 : decode cX8_isFound 65 = .ok (.goto (-57), 3) := by decide +kernel
theorem dX8_isFound_68 : decode cX8_isFound 68 = .ok (.iconst 0, 1) := by decide +kernel
theorem dX8_isFound_69 : decode cX8_isFound 69 = .ok (.ireturn, 1) := by decide +kernel
theorem dX8_isListed_0 : decode cX8_isListed 0 = .ok (.iload_n 3, 1) := by decide +kernel
theorem dX8_isListed_1 : decode cX8_isListed 1 = .ok (.istore 5, 2) := by decide +kernel
theorem dX8_isListed_3 : decode cX8_isListed 3 = .ok (.iload 5, 2) := by decide +kernel
theorem dX8_isListed_5 : decode cX8_isListed 5 = .ok (.iload 4, 2) := by decide +kernel
theorem dX8_isListed_7 : decode cX8_isListed 7 = .ok (.if_icmp .ge 23, 3) := by decide +kernel
theorem dX8_isListed_10 : decode cX8_isListed 10 = .ok (.aload_n 0, 1) := by decide +kernel
theorem dX8_isListed_11 : decode cX8_isListed 11 = .ok (.getfield 51, 3) := by decide +kernel
theorem dX8_isListed_14 : decode cX8_isListed 14 = .ok (.iload 5, 2) := by decide +kernel
theorem dX8_isListed_16 : decode cX8_isListed 16 = .ok (.laload, 1) := by decide +kernel
theorem dX8_isListed_17 : decode cX8_isListed 17 = .ok (.lload_n 1, 1) := by decide +kernel
theorem dX8_isListed_18 : decode cX8_isListed 18 = .ok (.lcmp, 1) := by decide +kernel
theorem dX8_isListed_19 : decode cX8_isListed 19 = .ok (.ifCond .ne 5, 3) := by decide +kernel
theorem dX8_isListed_22 : decode cX8_isListed 22 = .ok (.iconst 1, 1) := by decide +kernel
theorem dX8_isListed_23 : decode cX8_isListed 23 = .ok (.ireturn, 1) := by decide +kernel
theorem dX8_isListed_24 : decode cX8_isListed 24 = .ok (.iinc 5 1, 3) := by decide +kernel
theorem dX8_isListed_27 : decode cX8_isListed 27 = .ok (.goto (-24), 3) := by decide +kernel
theorem dX8_isListed_30 : decode cX8_isListed 30 = .ok (.iconst 0, 1) := by decide +kernel
theorem dX8_isListed_31 : decode cX8_isListed 31 = .ok (.ireturn, 1) := by decide +kernel
theorem dX8_sorts_0 : decode cX8_sorts 0 = .ok (.iconst 1, 1) := by decide +kernel
theorem dX8_sorts_1 : decode cX8_sorts 1 = .ok (.istore_n 2, 1) := by decide +kernel
theorem dX8_sorts_2 : decode cX8_sorts 2 = .ok (.iload_n 2, 1) := by decide +kernel
theorem dX8_sorts_3 : decode cX8_sorts 3 = .ok (.iload_n 1, 1) := by decide +kernel
theorem dX8_sorts_4 : decode cX8_sorts 4 = .ok (.if_icmp .ge 68, 3) := by decide +kernel
theorem dX8_sorts_7 : decode cX8_sorts 7 = .ok (.aload_n 0, 1) := by decide +kernel
theorem dX8_sorts_8 : decode cX8_sorts 8 = .ok (.getfield 51, 3) := by decide +kernel
theorem dX8_sorts_11 : decode cX8_sorts 11 = .ok (.iload_n 2, 1) := by decide +kernel
theorem dX8_sorts_12 : decode cX8_sorts 12 = .ok (.laload, 1) := by decide +kernel
theorem dX8_sorts_13 : decode cX8_sorts 13 = .ok (.lstore_n 3, 1) := by decide +kernel
theorem dX8_sorts_14 : decode cX8_sorts 14 = .ok (.iload_n 2, 1) := by decide +kernel
theorem dX8_sorts_15 : decode cX8_sorts 15 = .ok (.istore 5, 2) := by decide +kernel
theorem dX8_sorts_17 : decode cX8_sorts 17 = .ok (.iload 5, 2) := by decide +kernel
theorem dX8_sorts_19 : decode cX8_sorts 19 = .ok (.ifCond .le 39, 3) := by decide +kernel
theorem dX8_sorts_22 : decode cX8_sorts 22 = .ok (.aload_n 0, 1) := by decide +kernel
theorem dX8_sorts_23 : decode cX8_sorts 23 = .ok (.getfield 51, 3) := by decide +kernel
theorem dX8_sorts_26 : decode cX8_sorts 26 = .ok (.iload 5, 2) := by decide +kernel
theorem dX8_sorts_28 : decode cX8_sorts 28 = .ok (.iconst 1, 1) := by decide +kernel
theorem dX8_sorts_29 : decode cX8_sorts 29 = .ok (.isub, 1) := by decide +kernel
theorem dX8_sorts_30 : decode cX8_sorts 30 = .ok (.laload, 1) := by decide +kernel
theorem dX8_sorts_31 : decode cX8_sorts 31 = .ok (.lload_n 3, 1) := by decide +kernel
theorem dX8_sorts_32 : decode cX8_sorts 32 = .ok (.lcmp, 1) := by decide +kernel
theorem dX8_sorts_33 : decode cX8_sorts 33 = .ok (.ifCond .le 25, 3) := by decide +kernel
theorem dX8_sorts_36 : decode cX8_sorts 36 = .ok (.aload_n 0, 1) := by decide +kernel
theorem dX8_sorts_37 : decode cX8_sorts 37 = .ok (.getfield 51, 3) := by decide +kernel
theorem dX8_sorts_40 : decode cX8_sorts 40 = .ok (.iload 5, 2) := by decide +kernel
theorem dX8_sorts_42 : decode cX8_sorts 42 = .ok (.aload_n 0, 1) := by decide +kernel
theorem dX8_sorts_43 : decode cX8_sorts 43 = .ok (.getfield 51, 3) := by decide +kernel
theorem dX8_sorts_46 : decode cX8_sorts 46 = .ok (.iload 5, 2) := by decide +kernel
theorem dX8_sorts_48 : decode cX8_sorts 48 = .ok (.iconst 1, 1) := by decide +kernel
theorem dX8_sorts_49 : decode cX8_sorts 49 = .ok (.isub, 1) := by decide +kernel
theorem dX8_sorts_50 : decode cX8_sorts 50 = .ok (.laload, 1) := by decide +kernel
theorem dX8_sorts_51 : decode cX8_sorts 51 = .ok (.lastore, 1) := by decide +kernel
theorem dX8_sorts_52 : decode cX8_sorts 52 = .ok (.iinc 5 (-1), 3) := by decide +kernel
theorem dX8_sorts_55 : decode cX8_sorts 55 = .ok (.goto (-38), 3) := by decide +kernel
theorem dX8_sorts_58 : decode cX8_sorts 58 = .ok (.aload_n 0, 1) := by decide +kernel
theorem dX8_sorts_59 : decode cX8_sorts 59 = .ok (.getfield 51, 3) := by decide +kernel
theorem dX8_sorts_62 : decode cX8_sorts 62 = .ok (.iload 5, 2) := by decide +kernel
theorem dX8_sorts_64 : decode cX8_sorts 64 = .ok (.lload_n 3, 1) := by decide +kernel
theorem dX8_sorts_65 : decode cX8_sorts 65 = .ok (.lastore, 1) := by decide +kernel
theorem dX8_sorts_66 : decode cX8_sorts 66 = .ok (.iinc 2 1, 3) := by decide +kernel
theorem dX8_sorts_69 : decode cX8_sorts 69 = .ok (.goto (-67), 3) := by decide +kernel
theorem dX8_sorts_72 : decode cX8_sorts 72 = .ok (.return_, 1) := by decide +kernel
theorem dX8_ran_0 : decode cX8_ran 0 = .ok (.aload_n 0, 1) := by decide +kernel
theorem dX8_ran_1 : decode cX8_ran 1 = .ok (.getfield 212, 3) := by decide +kernel
theorem dX8_ran_4 : decode cX8_ran 4 = .ok (.bipush 40, 2) := by decide +kernel
theorem dX8_ran_6 : decode cX8_ran 6 = .ok (.if_icmp .ge 13, 3) := by decide +kernel
theorem dX8_ran_9 : decode cX8_ran 9 = .ok (.aload_n 0, 1) := by decide +kernel
theorem dX8_ran_10 : decode cX8_ran 10 = .ok (.getfield 69, 3) := by decide +kernel
theorem dX8_ran_13 : decode cX8_ran 13 = .ok (.aload_n 0, 1) := by decide +kernel
theorem dX8_ran_14 : decode cX8_ran 14 = .ok (.getfield 212, 3) := by decide +kernel
theorem dX8_ran_17 : decode cX8_ran 17 = .ok (.iload_n 1, 1) := by decide +kernel
theorem dX8_ran_18 : decode cX8_ran 18 = .ok (.iastore, 1) := by decide +kernel
theorem dX8_ran_19 : decode cX8_ran 19 = .ok (.aload_n 0, 1) := by decide +kernel
theorem dX8_ran_20 : decode cX8_ran 20 = .ok (.dup, 1) := by decide +kernel
theorem dX8_ran_21 : decode cX8_ran 21 = .ok (.getfield 212, 3) := by decide +kernel
theorem dX8_ran_24 : decode cX8_ran 24 = .ok (.iconst 1, 1) := by decide +kernel
theorem dX8_ran_25 : decode cX8_ran 25 = .ok (.iadd, 1) := by decide +kernel
theorem dX8_ran_26 : decode cX8_ran 26 = .ok (.putfield 212, 3) := by decide +kernel
theorem dX8_ran_29 : decode cX8_ran 29 = .ok (.return_, 1) := by decide +kernel
theorem dX8_laysMove_0 : decode cX8_laysMove 0 = .ok (.aload_n 0, 1) := by decide +kernel
theorem dX8_laysMove_1 : decode cX8_laysMove 1 = .ok (.bipush 10, 2) := by decide +kernel
theorem dX8_laysMove_3 : decode cX8_laysMove 3 = .ok (.invokevirtual 215, 3) := by decide +kernel
theorem dX8_laysMove_6 : decode cX8_laysMove 6 = .ok (.iload_n 2, 1) := by decide +kernel
theorem dX8_laysMove_7 : decode cX8_laysMove 7 = .ok (.iload_n 1, 1) := by decide +kernel
theorem dX8_laysMove_8 : decode cX8_laysMove 8 = .ok (.iadd, 1) := by decide +kernel
theorem dX8_laysMove_9 : decode cX8_laysMove 9 = .ok (.ireturn, 1) := by decide +kernel
theorem dX8_laysDeal_0 : decode cX8_laysDeal 0 = .ok (.aload_n 0, 1) := by decide +kernel
theorem dX8_laysDeal_1 : decode cX8_laysDeal 1 = .ok (.bipush 30, 2) := by decide +kernel
theorem dX8_laysDeal_3 : decode cX8_laysDeal 3 = .ok (.invokevirtual 215, 3) := by decide +kernel
theorem dX8_laysDeal_6 : decode cX8_laysDeal 6 = .ok (.aload_n 0, 1) := by decide +kernel
theorem dX8_laysDeal_7 : decode cX8_laysDeal 7 = .ok (.iload_n 1, 1) := by decide +kernel
theorem dX8_laysDeal_8 : decode cX8_laysDeal 8 = .ok (.iload_n 2, 1) := by decide +kernel
theorem dX8_laysDeal_9 : decode cX8_laysDeal 9 = .ok (.invokevirtual 218, 3) := by decide +kernel
theorem dX8_laysDeal_12 : decode cX8_laysDeal 12 = .ok (.aload_n 0, 1) := by decide +kernel
theorem dX8_laysDeal_13 : decode cX8_laysDeal 13 = .ok (.getfield 20, 3) := by decide +kernel
theorem dX8_laysDeal_16 : decode cX8_laysDeal 16 = .ok (.iload_n 1, 1) := by decide +kernel
theorem dX8_laysDeal_17 : decode cX8_laysDeal 17 = .ok (.iaload, 1) := by decide +kernel
theorem dX8_laysDeal_18 : decode cX8_laysDeal 18 = .ok (.isub, 1) := by decide +kernel
theorem dX8_laysDeal_19 : decode cX8_laysDeal 19 = .ok (.ireturn, 1) := by decide +kernel
theorem dX8_laysNow_0 : decode cX8_laysNow 0 = .ok (.aload_n 0, 1) := by decide +kernel
theorem dX8_laysNow_1 : decode cX8_laysNow 1 = .ok (.getfield 17, 3) := by decide +kernel
theorem dX8_laysNow_4 : decode cX8_laysNow 4 = .ok (.iload_n 1, 1) := by decide +kernel
theorem dX8_laysNow_5 : decode cX8_laysNow 5 = .ok (.iaload, 1) := by decide +kernel
theorem dX8_laysNow_6 : decode cX8_laysNow 6 = .ok (.iconst 2, 1) := by decide +kernel
theorem dX8_laysNow_7 : decode cX8_laysNow 7 = .ok (.if_icmp .ge 10, 3) := by decide +kernel
theorem dX8_laysNow_10 : decode cX8_laysNow 10 = .ok (.aload_n 0, 1) := by decide +kernel
theorem dX8_laysNow_11 : decode cX8_laysNow 11 = .ok (.iload_n 1, 1) := by decide +kernel
theorem dX8_laysNow_12 : decode cX8_laysNow 12 = .ok (.iload_n 2, 1) := by decide +kernel
theorem dX8_laysNow_13 : decode cX8_laysNow 13 = .ok (.invokevirtual 218, 3) := by decide +kernel
theorem dX8_laysNow_16 : decode cX8_laysNow 16 = .ok (.ireturn, 1) := by decide +kernel
theorem dX8_laysNow_17 : decode cX8_laysNow 17 = .ok (.aload_n 0, 1) := by decide +kernel
theorem dX8_laysNow_18 : decode cX8_laysNow 18 = .ok (.getfield 17, 3) := by decide +kernel
theorem dX8_laysNow_21 : decode cX8_laysNow 21 = .ok (.iload_n 1, 1) := by decide +kernel
theorem dX8_laysNow_22 : decode cX8_laysNow 22 = .ok (.iaload, 1) := by decide +kernel
theorem dX8_laysNow_23 : decode cX8_laysNow 23 = .ok (.iconst 4, 1) := by decide +kernel
theorem dX8_laysNow_24 : decode cX8_laysNow 24 = .ok (.if_icmp .ge 10, 3) := by decide +kernel
theorem dX8_laysNow_27 : decode cX8_laysNow 27 = .ok (.aload_n 0, 1) := by decide +kernel
theorem dX8_laysNow_28 : decode cX8_laysNow 28 = .ok (.iload_n 1, 1) := by decide +kernel
theorem dX8_laysNow_29 : decode cX8_laysNow 29 = .ok (.iload_n 2, 1) := by decide +kernel
theorem dX8_laysNow_30 : decode cX8_laysNow 30 = .ok (.invokevirtual 221, 3) := by decide +kernel
theorem dX8_laysNow_33 : decode cX8_laysNow 33 = .ok (.ireturn, 1) := by decide +kernel
theorem dX8_laysNow_34 : decode cX8_laysNow 34 = .ok (.aload_n 0, 1) := by decide +kernel
theorem dX8_laysNow_35 : decode cX8_laysNow 35 = .ok (.bipush 50, 2) := by decide +kernel
theorem dX8_laysNow_37 : decode cX8_laysNow 37 = .ok (.invokevirtual 215, 3) := by decide +kernel
theorem dX8_laysNow_40 : decode cX8_laysNow 40 = .ok (.aload_n 0, 1) := by decide +kernel
theorem dX8_laysNow_41 : decode cX8_laysNow 41 = .ok (.iload_n 1, 1) := by decide +kernel
theorem dX8_laysNow_42 : decode cX8_laysNow 42 = .ok (.iload_n 2, 1) := by decide +kernel
theorem dX8_laysNow_43 : decode cX8_laysNow 43 = .ok (.iconst 3, 1) := by decide +kernel
theorem dX8_laysNow_44 : decode cX8_laysNow 44 = .ok (.imul, 1) := by decide +kernel
theorem dX8_laysNow_45 : decode cX8_laysNow 45 = .ok (.invokevirtual 221, 3) := by decide +kernel
theorem dX8_laysNow_48 : decode cX8_laysNow 48 = .ok (.ireturn, 1) := by decide +kernel
theorem dX8_cutsMove_0 : decode cX8_cutsMove 0 = .ok (.aload_n 0, 1) := by decide +kernel
theorem dX8_cutsMove_1 : decode cX8_cutsMove 1 = .ok (.bipush 11, 2) := by decide +kernel
theorem dX8_cutsMove_3 : decode cX8_cutsMove 3 = .ok (.invokevirtual 215, 3) := by decide +kernel
theorem dX8_cutsMove_6 : decode cX8_cutsMove 6 = .ok (.aload_n 0, 1) := by decide +kernel
theorem dX8_cutsMove_7 : decode cX8_cutsMove 7 = .ok (.iload_n 1, 1) := by decide +kernel
theorem dX8_cutsMove_8 : decode cX8_cutsMove 8 = .ok (.iload_n 2, 1) := by decide +kernel
theorem dX8_cutsMove_9 : decode cX8_cutsMove 9 = .ok (.invokevirtual 224, 3) := by decide +kernel
theorem dX8_cutsMove_12 : decode cX8_cutsMove 12 = .ok (.aload_n 0, 1) := by decide +kernel
theorem dX8_cutsMove_13 : decode cX8_cutsMove 13 = .ok (.getfield 20, 3) := by decide +kernel
theorem dX8_cutsMove_16 : decode cX8_cutsMove 16 = .ok (.iload_n 1, 1) := by decide +kernel
theorem dX8_cutsMove_17 : decode cX8_cutsMove 17 = .ok (.iaload, 1) := by decide +kernel
theorem dX8_cutsMove_18 : decode cX8_cutsMove 18 = .ok (.imul, 1) := by decide +kernel
theorem dX8_cutsMove_19 : decode cX8_cutsMove 19 = .ok (.ireturn, 1) := by decide +kernel
theorem dX8_cutsNow_0 : decode cX8_cutsNow 0 = .ok (.aload_n 0, 1) := by decide +kernel
theorem dX8_cutsNow_1 : decode cX8_cutsNow 1 = .ok (.getfield 17, 3) := by decide +kernel
theorem dX8_cutsNow_4 : decode cX8_cutsNow 4 = .ok (.iload_n 1, 1) := by decide +kernel
theorem dX8_cutsNow_5 : decode cX8_cutsNow 5 = .ok (.iaload, 1) := by decide +kernel
theorem dX8_cutsNow_6 : decode cX8_cutsNow 6 = .ok (.iconst 1, 1) := by decide +kernel
theorem dX8_cutsNow_7 : decode cX8_cutsNow 7 = .ok (.if_icmp .ne 18, 3) := by decide +kernel
theorem dX8_cutsNow_10 : decode cX8_cutsNow 10 = .ok (.aload_n 0, 1) := by decide +kernel
theorem dX8_cutsNow_11 : decode cX8_cutsNow 11 = .ok (.bipush 20, 2) := by decide +kernel
theorem dX8_cutsNow_13 : decode cX8_cutsNow 13 = .ok (.invokevirtual 215, 3) := by decide +kernel
theorem dX8_cutsNow_16 : decode cX8_cutsNow 16 = .ok (.aload_n 0, 1) := by decide +kernel
theorem dX8_cutsNow_17 : decode cX8_cutsNow 17 = .ok (.iload_n 1, 1) := by decide +kernel
theorem dX8_cutsNow_18 : decode cX8_cutsNow 18 = .ok (.iload_n 2, 1) := by decide +kernel
theorem dX8_cutsNow_19 : decode cX8_cutsNow 19 = .ok (.invokevirtual 227, 3) := by decide +kernel
theorem dX8_cutsNow_22 : decode cX8_cutsNow 22 = .ok (.iconst 1, 1) := by decide +kernel
theorem dX8_cutsNow_23 : decode cX8_cutsNow 23 = .ok (.iadd, 1) := by decide +kernel
theorem dX8_cutsNow_24 : decode cX8_cutsNow 24 = .ok (.ireturn, 1) := by decide +kernel
theorem dX8_cutsNow_25 : decode cX8_cutsNow 25 = .ok (.aload_n 0, 1) := by decide +kernel
theorem dX8_cutsNow_26 : decode cX8_cutsNow 26 = .ok (.getfield 17, 3) := by decide +kernel
theorem dX8_cutsNow_29 : decode cX8_cutsNow 29 = .ok (.iload_n 1, 1) := by decide +kernel
theorem dX8_cutsNow_30 : decode cX8_cutsNow 30 = .ok (.iaload, 1) := by decide +kernel
theorem dX8_cutsNow_31 : decode cX8_cutsNow 31 = .ok (.iconst 3, 1) := by decide +kernel
theorem dX8_cutsNow_32 : decode cX8_cutsNow 32 = .ok (.if_icmp .ge 10, 3) := by decide +kernel
theorem dX8_cutsNow_35 : decode cX8_cutsNow 35 = .ok (.aload_n 0, 1) := by decide +kernel
theorem dX8_cutsNow_36 : decode cX8_cutsNow 36 = .ok (.iload_n 1, 1) := by decide +kernel
theorem dX8_cutsNow_37 : decode cX8_cutsNow 37 = .ok (.iload_n 2, 1) := by decide +kernel
theorem dX8_cutsNow_38 : decode cX8_cutsNow 38 = .ok (.invokevirtual 227, 3) := by decide +kernel
theorem dX8_cutsNow_41 : decode cX8_cutsNow 41 = .ok (.ireturn, 1) := by decide +kernel
theorem dX8_cutsNow_42 : decode cX8_cutsNow 42 = .ok (.aload_n 0, 1) := by decide +kernel
theorem dX8_cutsNow_43 : decode cX8_cutsNow 43 = .ok (.bipush 40, 2) := by decide +kernel
theorem dX8_cutsNow_45 : decode cX8_cutsNow 45 = .ok (.invokevirtual 215, 3) := by decide +kernel
theorem dX8_cutsNow_48 : decode cX8_cutsNow 48 = .ok (.aload_n 0, 1) := by decide +kernel
theorem dX8_cutsNow_49 : decode cX8_cutsNow 49 = .ok (.iload_n 1, 1) := by decide +kernel
theorem dX8_cutsNow_50 : decode cX8_cutsNow 50 = .ok (.iload_n 2, 1) := by decide +kernel
theorem dX8_cutsNow_51 : decode cX8_cutsNow 51 = .ok (.invokevirtual 227, 3) := by decide +kernel
theorem dX8_cutsNow_54 : decode cX8_cutsNow 54 = .ok (.istore_n 3, 1) := by decide +kernel
theorem dX8_cutsNow_55 : decode cX8_cutsNow 55 = .ok (.iload_n 3, 1) := by decide +kernel
theorem dX8_cutsNow_56 : decode cX8_cutsNow 56 = .ok (.aload_n 0, 1) := by decide +kernel
theorem dX8_cutsNow_57 : decode cX8_cutsNow 57 = .ok (.iload_n 1, 1) := by decide +kernel
theorem dX8_cutsNow_58 : decode cX8_cutsNow 58 = .ok (.iload_n 2, 1) := by decide +kernel
theorem dX8_cutsNow_59 : decode cX8_cutsNow 59 = .ok (.invokevirtual 221, 3) := by decide +kernel
theorem dX8_cutsNow_62 : decode cX8_cutsNow 62 = .ok (.iadd, 1) := by decide +kernel
theorem dX8_cutsNow_63 : decode cX8_cutsNow 63 = .ok (.ireturn, 1) := by decide +kernel
theorem dX8_turnsMove_0 : decode cX8_turnsMove 0 = .ok (.aload_n 0, 1) := by decide +kernel
theorem dX8_turnsMove_1 : decode cX8_turnsMove 1 = .ok (.bipush 12, 2) := by decide +kernel
theorem dX8_turnsMove_3 : decode cX8_turnsMove 3 = .ok (.invokevirtual 215, 3) := by decide +kernel
theorem dX8_turnsMove_6 : decode cX8_turnsMove 6 = .ok (.aload_n 0, 1) := by decide +kernel
theorem dX8_turnsMove_7 : decode cX8_turnsMove 7 = .ok (.iload_n 1, 1) := by decide +kernel
theorem dX8_turnsMove_8 : decode cX8_turnsMove 8 = .ok (.iload_n 2, 1) := by decide +kernel
theorem dX8_turnsMove_9 : decode cX8_turnsMove 9 = .ok (.invokevirtual 230, 3) := by decide +kernel
theorem dX8_turnsMove_12 : decode cX8_turnsMove 12 = .ok (.istore_n 3, 1) := by decide +kernel
theorem dX8_turnsMove_13 : decode cX8_turnsMove 13 = .ok (.iload_n 3, 1) := by decide +kernel
theorem dX8_turnsMove_14 : decode cX8_turnsMove 14 = .ok (.aload_n 0, 1) := by decide +kernel
theorem dX8_turnsMove_15 : decode cX8_turnsMove 15 = .ok (.iload_n 1, 1) := by decide +kernel
theorem dX8_turnsMove_16 : decode cX8_turnsMove 16 = .ok (.iload_n 2, 1) := by decide +kernel
theorem dX8_turnsMove_17 : decode cX8_turnsMove 17 = .ok (.iconst 1, 1) := by decide +kernel
theorem dX8_turnsMove_18 : decode cX8_turnsMove 18 = .ok (.iadd, 1) := by decide +kernel
theorem dX8_turnsMove_19 : decode cX8_turnsMove 19 = .ok (.invokevirtual 224, 3) := by decide +kernel
theorem dX8_turnsMove_22 : decode cX8_turnsMove 22 = .ok (.ixor, 1) := by decide +kernel
theorem dX8_turnsMove_23 : decode cX8_turnsMove 23 = .ok (.ireturn, 1) := by decide +kernel
theorem dX8_turnsDeal_0 : decode cX8_turnsDeal 0 = .ok (.aload_n 0, 1) := by decide +kernel
theorem dX8_turnsDeal_1 : decode cX8_turnsDeal 1 = .ok (.bipush 31, 2) := by decide +kernel
theorem dX8_turnsDeal_3 : decode cX8_turnsDeal 3 = .ok (.invokevirtual 215, 3) := by decide +kernel
theorem dX8_turnsDeal_6 : decode cX8_turnsDeal 6 = .ok (.aload_n 0, 1) := by decide +kernel
theorem dX8_turnsDeal_7 : decode cX8_turnsDeal 7 = .ok (.iload_n 1, 1) := by decide +kernel
theorem dX8_turnsDeal_8 : decode cX8_turnsDeal 8 = .ok (.iload_n 2, 1) := by decide +kernel
theorem dX8_turnsDeal_9 : decode cX8_turnsDeal 9 = .ok (.invokevirtual 233, 3) := by decide +kernel
theorem dX8_turnsDeal_12 : decode cX8_turnsDeal 12 = .ok (.iconst 2, 1) := by decide +kernel
theorem dX8_turnsDeal_13 : decode cX8_turnsDeal 13 = .ok (.imul, 1) := by decide +kernel
theorem dX8_turnsDeal_14 : decode cX8_turnsDeal 14 = .ok (.ireturn, 1) := by decide +kernel
theorem dX8_turnsNow_0 : decode cX8_turnsNow 0 = .ok (.aload_n 0, 1) := by decide +kernel
theorem dX8_turnsNow_1 : decode cX8_turnsNow 1 = .ok (.getfield 17, 3) := by decide +kernel
theorem dX8_turnsNow_4 : decode cX8_turnsNow 4 = .ok (.iload_n 1, 1) := by decide +kernel
theorem dX8_turnsNow_5 : decode cX8_turnsNow 5 = .ok (.iaload, 1) := by decide +kernel
theorem dX8_turnsNow_6 : decode cX8_turnsNow 6 = .ok (.iconst 2, 1) := by decide +kernel
theorem dX8_turnsNow_7 : decode cX8_turnsNow 7 = .ok (.if_icmp .ge 10, 3) := by decide +kernel
theorem dX8_turnsNow_10 : decode cX8_turnsNow 10 = .ok (.aload_n 0, 1) := by decide +kernel
theorem dX8_turnsNow_11 : decode cX8_turnsNow 11 = .ok (.iload_n 1, 1) := by decide +kernel
theorem dX8_turnsNow_12 : decode cX8_turnsNow 12 = .ok (.iload_n 2, 1) := by decide +kernel
theorem dX8_turnsNow_13 : decode cX8_turnsNow 13 = .ok (.invokevirtual 233, 3) := by decide +kernel
theorem dX8_turnsNow_16 : decode cX8_turnsNow 16 = .ok (.ireturn, 1) := by decide +kernel
theorem dX8_turnsNow_17 : decode cX8_turnsNow 17 = .ok (.aload_n 0, 1) := by decide +kernel
theorem dX8_turnsNow_18 : decode cX8_turnsNow 18 = .ok (.getfield 17, 3) := by decide +kernel
theorem dX8_turnsNow_21 : decode cX8_turnsNow 21 = .ok (.iload_n 1, 1) := by decide +kernel
theorem dX8_turnsNow_22 : decode cX8_turnsNow 22 = .ok (.iaload, 1) := by decide +kernel
theorem dX8_turnsNow_23 : decode cX8_turnsNow 23 = .ok (.iconst 4, 1) := by decide +kernel
theorem dX8_turnsNow_24 : decode cX8_turnsNow 24 = .ok (.if_icmp .ge 10, 3) := by decide +kernel
theorem dX8_turnsNow_27 : decode cX8_turnsNow 27 = .ok (.aload_n 0, 1) := by decide +kernel
theorem dX8_turnsNow_28 : decode cX8_turnsNow 28 = .ok (.iload_n 1, 1) := by decide +kernel
theorem dX8_turnsNow_29 : decode cX8_turnsNow 29 = .ok (.iload_n 2, 1) := by decide +kernel
theorem dX8_turnsNow_30 : decode cX8_turnsNow 30 = .ok (.invokevirtual 236, 3) := by decide +kernel
theorem dX8_turnsNow_33 : decode cX8_turnsNow 33 = .ok (.ireturn, 1) := by decide +kernel
theorem dX8_turnsNow_34 : decode cX8_turnsNow 34 = .ok (.aload_n 0, 1) := by decide +kernel
theorem dX8_turnsNow_35 : decode cX8_turnsNow 35 = .ok (.bipush 51, 2) := by decide +kernel
theorem dX8_turnsNow_37 : decode cX8_turnsNow 37 = .ok (.invokevirtual 215, 3) := by decide +kernel
theorem dX8_turnsNow_40 : decode cX8_turnsNow 40 = .ok (.aload_n 0, 1) := by decide +kernel
theorem dX8_turnsNow_41 : decode cX8_turnsNow 41 = .ok (.iload_n 1, 1) := by decide +kernel
theorem dX8_turnsNow_42 : decode cX8_turnsNow 42 = .ok (.iload_n 2, 1) := by decide +kernel
theorem dX8_turnsNow_43 : decode cX8_turnsNow 43 = .ok (.invokevirtual 230, 3) := by decide +kernel
theorem dX8_turnsNow_46 : decode cX8_turnsNow 46 = .ok (.istore_n 3, 1) := by decide +kernel
theorem dX8_turnsNow_47 : decode cX8_turnsNow 47 = .ok (.iload_n 3, 1) := by decide +kernel
theorem dX8_turnsNow_48 : decode cX8_turnsNow 48 = .ok (.aload_n 0, 1) := by decide +kernel
theorem dX8_turnsNow_49 : decode cX8_turnsNow 49 = .ok (.iload_n 1, 1) := by decide +kernel
theorem dX8_turnsNow_50 : decode cX8_turnsNow 50 = .ok (.iload_n 2, 1) := by decide +kernel
theorem dX8_turnsNow_51 : decode cX8_turnsNow 51 = .ok (.invokevirtual 236, 3) := by decide +kernel
theorem dX8_turnsNow_54 : decode cX8_turnsNow 54 = .ok (.isub, 1) := by decide +kernel
theorem dX8_turnsNow_55 : decode cX8_turnsNow 55 = .ok (.ireturn, 1) := by decide +kernel
theorem dX8_act_0 : decode cX8_act 0 = .ok (.aload_n 0, 1) := by decide +kernel
theorem dX8_act_1 : decode cX8_act 1 = .ok (.iconst 0, 1) := by decide +kernel
theorem dX8_act_2 : decode cX8_act 2 = .ok (.putfield 212, 3) := by decide +kernel
theorem dX8_act_5 : decode cX8_act 5 = .ok (.aload_n 0, 1) := by decide +kernel
theorem dX8_act_6 : decode cX8_act 6 = .ok (.iload_n 1, 1) := by decide +kernel
theorem dX8_act_7 : decode cX8_act 7 = .ok (.invokevirtual 123, 3) := by decide +kernel
theorem dX8_act_10 : decode cX8_act 10 = .ok (.ifCond .eq 12, 3) := by decide +kernel
theorem dX8_act_13 : decode cX8_act 13 = .ok (.iload_n 2, 1) := by decide +kernel
theorem dX8_act_14 : decode cX8_act 14 = .ok (.ifCond .lt 8, 3) := by decide +kernel
theorem dX8_act_17 : decode cX8_act 17 = .ok (.iload_n 2, 1) := by decide +kernel
theorem dX8_act_18 : decode cX8_act 18 = .ok (.iconst 2, 1) := by decide +kernel
theorem dX8_act_19 : decode cX8_act 19 = .ok (.if_icmp .le 5, 3) := by decide +kernel
theorem dX8_act_22 : decode cX8_act 22 = .ok (.iconst 0, 1) := by decide +kernel
theorem dX8_act_23 : decode cX8_act 23 = .ok (.ireturn, 1) := by decide +kernel
theorem dX8_act_24 : decode cX8_act 24 = .ok (.iload_n 2, 1) := by decide +kernel
theorem dX8_act_25 : decode cX8_act 25 = .ok (.ifCond .ne 12, 3) := by decide +kernel
theorem dX8_act_28 : decode cX8_act 28 = .ok (.aload_n 0, 1) := by decide +kernel
theorem dX8_act_29 : decode cX8_act 29 = .ok (.iload_n 1, 1) := by decide +kernel
theorem dX8_act_30 : decode cX8_act 30 = .ok (.iload_n 3, 1) := by decide +kernel
theorem dX8_act_31 : decode cX8_act 31 = .ok (.invokevirtual 224, 3) := by decide +kernel
theorem dX8_act_34 : decode cX8_act 34 = .ok (.goto 23, 3) := by decide +kernel
theorem dX8_act_37 : decode cX8_act 37 = .ok (.iload_n 2, 1) := by decide +kernel
theorem dX8_act_38 : decode cX8_act 38 = .ok (.iconst 1, 1) := by decide +kernel
theorem dX8_act_39 : decode cX8_act 39 = .ok (.if_icmp .ne 12, 3) := by decide +kernel
theorem dX8_act_42 : decode cX8_act 42 = .ok (.aload_n 0, 1) := by decide +kernel
theorem dX8_act_43 : decode cX8_act 43 = .ok (.iload_n 1, 1) := by decide +kernel
theorem dX8_act_44 : decode cX8_act 44 = .ok (.iload_n 3, 1) := by decide +kernel
theorem dX8_act_45 : decode cX8_act 45 = .ok (.invokevirtual 230, 3) := by decide +kernel
theorem dX8_act_48 : decode cX8_act 48 = .ok (.goto 9, 3) := by decide +kernel
theorem dX8_act_51 : decode cX8_act 51 = .ok (.aload_n 0, 1) := by decide +kernel
theorem dX8_act_52 : decode cX8_act 52 = .ok (.iload_n 1, 1) := by decide +kernel
theorem dX8_act_53 : decode cX8_act 53 = .ok (.iload_n 3, 1) := by decide +kernel
theorem dX8_act_54 : decode cX8_act 54 = .ok (.invokevirtual 239, 3) := by decide +kernel
theorem dX8_act_57 : decode cX8_act 57 = .ok (.ireturn, 1) := by decide +kernel
theorem dX8_trace_0 : decode cX8_trace 0 = .ok (.iload_n 1, 1) := by decide +kernel
theorem dX8_trace_1 : decode cX8_trace 1 = .ok (.ifCond .lt 26, 3) := by decide +kernel
theorem dX8_trace_4 : decode cX8_trace 4 = .ok (.iload_n 1, 1) := by decide +kernel
theorem dX8_trace_5 : decode cX8_trace 5 = .ok (.aload_n 0, 1) := by decide +kernel
theorem dX8_trace_6 : decode cX8_trace 6 = .ok (.getfield 212, 3) := by decide +kernel
theorem dX8_trace_9 : decode cX8_trace 9 = .ok (.if_icmp .ge 18, 3) := by decide +kernel
theorem dX8_trace_12 : decode cX8_trace 12 = .ok (.iload_n 1, 1) := by decide +kernel
theorem dX8_trace_13 : decode cX8_trace 13 = .ok (.bipush 40, 2) := by decide +kernel
theorem dX8_trace_15 : decode cX8_trace 15 = .ok (.if_icmp .ge 12, 3) := by decide +kernel
theorem dX8_trace_18 : decode cX8_trace 18 = .ok (.aload_n 0, 1) := by decide +kernel
theorem dX8_trace_19 : decode cX8_trace 19 = .ok (.getfield 69, 3) := by decide +kernel
theorem dX8_trace_22 : decode cX8_trace 22 = .ok (.iload_n 1, 1) := by decide +kernel
theorem dX8_trace_23 : decode cX8_trace 23 = .ok (.iaload, 1) := by decide +kernel
theorem dX8_trace_24 : decode cX8_trace 24 = .ok (.goto 4, 3) := by decide +kernel
theorem dX8_trace_27 : decode cX8_trace 27 = .ok (.iconst (-1), 1) := by decide +kernel
theorem dX8_trace_28 : decode cX8_trace 28 = .ok (.ireturn, 1) := by decide +kernel
theorem dX8_count_0 : decode cX8_count 0 = .ok (.iload_n 1, 1) := by decide +kernel
theorem dX8_count_1 : decode cX8_count 1 = .ok (.ifCond .ne 10, 3) := by decide +kernel
theorem dX8_count_4 : decode cX8_count 4 = .ok (.aload_n 0, 1) := by decide +kernel
theorem dX8_count_5 : decode cX8_count 5 = .ok (.getfield 7, 3) := by decide +kernel
theorem dX8_count_8 : decode cX8_count 8 = .ok (.goto 41, 3) := by decide +kernel
theorem dX8_count_11 : decode cX8_count 11 = .ok (.iload_n 1, 1) := by decide +kernel
theorem dX8_count_12 : decode cX8_count 12 = .ok (.iconst 1, 1) := by decide +kernel
theorem dX8_count_13 : decode cX8_count 13 = .ok (.if_icmp .ne 10, 3) := by decide +kernel
theorem dX8_count_16 : decode cX8_count 16 = .ok (.aload_n 0, 1) := by decide +kernel
theorem dX8_count_17 : decode cX8_count 17 = .ok (.getfield 72, 3) := by decide +kernel
theorem dX8_count_20 : decode cX8_count 20 = .ok (.goto 29, 3) := by decide +kernel
theorem dX8_count_23 : decode cX8_count 23 = .ok (.iload_n 1, 1) := by decide +kernel
theorem dX8_count_24 : decode cX8_count 24 = .ok (.iconst 2, 1) := by decide +kernel
theorem dX8_count_25 : decode cX8_count 25 = .ok (.if_icmp .ne 10, 3) := by decide +kernel
theorem dX8_count_28 : decode cX8_count 28 = .ok (.aload_n 0, 1) := by decide +kernel
theorem dX8_count_29 : decode cX8_count 29 = .ok (.getfield 75, 3) := by decide +kernel
theorem dX8_count_32 : decode cX8_count 32 = .ok (.goto 17, 3) := by decide +kernel
theorem dX8_count_35 : decode cX8_count 35 = .ok (.iload_n 1, 1) := by decide +kernel
theorem dX8_count_36 : decode cX8_count 36 = .ok (.iconst 3, 1) := by decide +kernel
theorem dX8_count_37 : decode cX8_count 37 = .ok (.if_icmp .ne 10, 3) := by decide +kernel
theorem dX8_count_40 : decode cX8_count 40 = .ok (.aload_n 0, 1) := by decide +kernel
theorem dX8_count_41 : decode cX8_count 41 = .ok (.getfield 212, 3) := by decide +kernel
theorem dX8_count_44 : decode cX8_count 44 = .ok (.goto 5, 3) := by decide +kernel
theorem dX8_count_47 : decode cX8_count 47 = .ok (.bipush (-2), 2) := by decide +kernel
theorem dX8_count_49 : decode cX8_count 49 = .ok (.ireturn, 1) := by decide +kernel
theorem dX8_isTray_0 : decode cX8_isTray 0 = .ok (.iload_n 0, 1) := by decide +kernel
theorem dX8_isTray_1 : decode cX8_isTray 1 = .ok (.ifCond .lt 12, 3) := by decide +kernel
theorem dX8_isTray_4 : decode cX8_isTray 4 = .ok (.iload_n 0, 1) := by decide +kernel
theorem dX8_isTray_5 : decode cX8_isTray 5 = .ok (.iconst 4, 1) := by decide +kernel
theorem dX8_isTray_6 : decode cX8_isTray 6 = .ok (.if_icmp .ge 7, 3) := by decide +kernel
theorem dX8_isTray_9 : decode cX8_isTray 9 = .ok (.iconst 1, 1) := by decide +kernel
theorem dX8_isTray_10 : decode cX8_isTray 10 = .ok (.goto 4, 3) := by decide +kernel
theorem dX8_isTray_13 : decode cX8_isTray 13 = .ok (.iconst 0, 1) := by decide +kernel
theorem dX8_isTray_14 : decode cX8_isTray 14 = .ok (.ireturn, 1) := by decide +kernel
theorem dX8_tray_0 : decode cX8_tray 0 = .ok (.iload_n 1, 1) := by decide +kernel
theorem dX8_tray_1 : decode cX8_tray 1 = .ok (.invokestatic 94, 3) := by decide +kernel
theorem dX8_tray_4 : decode cX8_tray 4 = .ok (.ifCond .eq 23, 3) := by decide +kernel
theorem dX8_tray_7 : decode cX8_tray 7 = .ok (.iload_n 2, 1) := by decide +kernel
theorem dX8_tray_8 : decode cX8_tray 8 = .ok (.iconst (-1), 1) := by decide +kernel
theorem dX8_tray_9 : decode cX8_tray 9 = .ok (.if_icmp .lt 18, 3) := by decide +kernel
theorem dX8_tray_12 : decode cX8_tray 12 = .ok (.iload_n 2, 1) := by decide +kernel
theorem dX8_tray_13 : decode cX8_tray 13 = .ok (.iconst 2, 1) := by decide +kernel
theorem dX8_tray_14 : decode cX8_tray 14 = .ok (.if_icmp .gt 13, 3) := by decide +kernel
theorem dX8_tray_17 : decode cX8_tray 17 = .ok (.iload_n 2, 1) := by decide +kernel
theorem dX8_tray_18 : decode cX8_tray 18 = .ok (.ifCond .lt 12, 3) := by decide +kernel
theorem dX8_tray_21 : decode cX8_tray 21 = .ok (.iload_n 3, 1) := by decide +kernel
theorem dX8_tray_22 : decode cX8_tray 22 = .ok (.bipush 40, 2) := by decide +kernel
theorem dX8_tray_24 : decode cX8_tray 24 = .ok (.if_icmp .le 6, 3) := by decide +kernel
theorem dX8_tray_27 : decode cX8_tray 27 = .ok (.bipush (-2), 2) := by decide +kernel
theorem dX8_tray_29 : decode cX8_tray 29 = .ok (.ireturn, 1) := by decide +kernel
theorem dX8_tray_30 : decode cX8_tray 30 = .ok (.iload_n 2, 1) := by decide +kernel
theorem dX8_tray_31 : decode cX8_tray 31 = .ok (.ifCond .lt 10, 3) := by decide +kernel
theorem dX8_tray_34 : decode cX8_tray 34 = .ok (.iload_n 3, 1) := by decide +kernel
theorem dX8_tray_35 : decode cX8_tray 35 = .ok (.ifCond .ge 6, 3) := by decide +kernel
theorem dX8_tray_38 : decode cX8_tray 38 = .ok (.bipush (-14), 2) := by decide +kernel
theorem dX8_tray_40 : decode cX8_tray 40 = .ok (.ireturn, 1) := by decide +kernel
theorem dX8_tray_41 : decode cX8_tray 41 = .ok (.aload_n 0, 1) := by decide +kernel
theorem dX8_tray_42 : decode cX8_tray 42 = .ok (.getfield 57, 3) := by decide +kernel
theorem dX8_tray_45 : decode cX8_tray 45 = .ok (.iload_n 1, 1) := by decide +kernel
theorem dX8_tray_46 : decode cX8_tray 46 = .ok (.iload_n 2, 1) := by decide +kernel
theorem dX8_tray_47 : decode cX8_tray 47 = .ok (.iastore, 1) := by decide +kernel
theorem dX8_tray_48 : decode cX8_tray 48 = .ok (.aload_n 0, 1) := by decide +kernel
theorem dX8_tray_49 : decode cX8_tray 49 = .ok (.getfield 60, 3) := by decide +kernel
theorem dX8_tray_52 : decode cX8_tray 52 = .ok (.iload_n 1, 1) := by decide +kernel
theorem dX8_tray_53 : decode cX8_tray 53 = .ok (.iload_n 2, 1) := by decide +kernel
theorem dX8_tray_54 : decode cX8_tray 54 = .ok (.ifCond .ge 7, 3) := by decide +kernel
theorem dX8_tray_57 : decode cX8_tray 57 = .ok (.iconst 0, 1) := by decide +kernel
theorem dX8_tray_58 : decode cX8_tray 58 = .ok (.goto 4, 3) := by decide +kernel
theorem dX8_tray_61 : decode cX8_tray 61 = .ok (.iload_n 3, 1) := by decide +kernel
theorem dX8_tray_62 : decode cX8_tray 62 = .ok (.iastore, 1) := by decide +kernel
theorem dX8_tray_63 : decode cX8_tray 63 = .ok (.iconst 0, 1) := by decide +kernel
theorem dX8_tray_64 : decode cX8_tray 64 = .ok (.istore 4, 2) := by decide +kernel
theorem dX8_tray_66 : decode cX8_tray 66 = .ok (.iload 4, 2) := by decide +kernel
theorem dX8_tray_68 : decode cX8_tray 68 = .ok (.bipush 40, 2) := by decide +kernel
theorem dX8_tray_70 : decode cX8_tray 70 = .ok (.if_icmp .ge 22, 3) := by decide +kernel
theorem dX8_tray_73 : decode cX8_tray 73 = .ok (.aload_n 0, 1) := by decide +kernel
theorem dX8_tray_74 : decode cX8_tray 74 = .ok (.getfield 63, 3) := by decide +kernel
theorem dX8_tray_77 : decode cX8_tray 77 = .ok (.bipush 40, 2) := by decide +kernel
theorem dX8_tray_79 : decode cX8_tray 79 = .ok (.iload_n 1, 1) := by decide +kernel
theorem dX8_tray_80 : decode cX8_tray 80 = .ok (.imul, 1) := by decide +kernel
theorem dX8_tray_81 : decode cX8_tray 81 = .ok (.iload 4, 2) := by decide +kernel
theorem dX8_tray_83 : decode cX8_tray 83 = .ok (.iadd, 1) := by decide +kernel
theorem dX8_tray_84 : decode cX8_tray 84 = .ok (.iconst 0, 1) := by decide +kernel
theorem dX8_tray_85 : decode cX8_tray 85 = .ok (.iastore, 1) := by decide +kernel
theorem dX8_tray_86 : decode cX8_tray 86 = .ok (.iinc 4 1, 3) := by decide +kernel
theorem dX8_tray_89 : decode cX8_tray 89 = .ok (.goto (-23), 3) := by decide +kernel
theorem dX8_tray_92 : decode cX8_tray 92 = .ok (.iconst 1, 1) := by decide +kernel
theorem dX8_tray_93 : decode cX8_tray 93 = .ok (.ireturn, 1) := by decide +kernel
theorem dX8_cell_0 : decode cX8_cell 0 = .ok (.iload_n 1, 1) := by decide +kernel
theorem dX8_cell_1 : decode cX8_cell 1 = .ok (.invokestatic 94, 3) := by decide +kernel
theorem dX8_cell_4 : decode cX8_cell 4 = .ok (.ifCond .ne 6, 3) := by decide +kernel
theorem dX8_cell_7 : decode cX8_cell 7 = .ok (.bipush (-2), 2) := by decide +kernel
theorem dX8_cell_9 : decode cX8_cell 9 = .ok (.ireturn, 1) := by decide +kernel
theorem dX8_cell_10 : decode cX8_cell 10 = .ok (.aload_n 0, 1) := by decide +kernel
theorem dX8_cell_11 : decode cX8_cell 11 = .ok (.getfield 57, 3) := by decide +kernel
theorem dX8_cell_14 : decode cX8_cell 14 = .ok (.iload_n 1, 1) := by decide +kernel
theorem dX8_cell_15 : decode cX8_cell 15 = .ok (.iaload, 1) := by decide +kernel
theorem dX8_cell_16 : decode cX8_cell 16 = .ok (.ifCond .ge 6, 3) := by decide +kernel
theorem dX8_cell_19 : decode cX8_cell 19 = .ok (.bipush (-11), 2) := by decide +kernel
theorem dX8_cell_21 : decode cX8_cell 21 = .ok (.ireturn, 1) := by decide +kernel
theorem dX8_cell_22 : decode cX8_cell 22 = .ok (.iload_n 2, 1) := by decide +kernel
theorem dX8_cell_23 : decode cX8_cell 23 = .ok (.ifCond .lt 13, 3) := by decide +kernel
theorem dX8_cell_26 : decode cX8_cell 26 = .ok (.iload_n 2, 1) := by decide +kernel
theorem dX8_cell_27 : decode cX8_cell 27 = .ok (.aload_n 0, 1) := by decide +kernel
theorem dX8_cell_28 : decode cX8_cell 28 = .ok (.getfield 60, 3) := by decide +kernel
theorem dX8_cell_31 : decode cX8_cell 31 = .ok (.iload_n 1, 1) := by decide +kernel
theorem dX8_cell_32 : decode cX8_cell 32 = .ok (.iaload, 1) := by decide +kernel
theorem dX8_cell_33 : decode cX8_cell 33 = .ok (.if_icmp .lt 6, 3) := by decide +kernel
theorem dX8_cell_36 : decode cX8_cell 36 = .ok (.bipush (-12), 2) := by decide +kernel
theorem dX8_cell_38 : decode cX8_cell 38 = .ok (.ireturn, 1) := by decide +kernel
theorem dX8_cell_39 : decode cX8_cell 39 = .ok (.aload_n 0, 1) := by decide +kernel
theorem dX8_cell_40 : decode cX8_cell 40 = .ok (.getfield 63, 3) := by decide +kernel
theorem dX8_cell_43 : decode cX8_cell 43 = .ok (.bipush 40, 2) := by decide +kernel
theorem dX8_cell_45 : decode cX8_cell 45 = .ok (.iload_n 1, 1) := by decide +kernel
theorem dX8_cell_46 : decode cX8_cell 46 = .ok (.imul, 1) := by decide +kernel
theorem dX8_cell_47 : decode cX8_cell 47 = .ok (.iload_n 2, 1) := by decide +kernel
theorem dX8_cell_48 : decode cX8_cell 48 = .ok (.iadd, 1) := by decide +kernel
theorem dX8_cell_49 : decode cX8_cell 49 = .ok (.aload_n 0, 1) := by decide +kernel
theorem dX8_cell_50 : decode cX8_cell 50 = .ok (.getfield 57, 3) := by decide +kernel
theorem dX8_cell_53 : decode cX8_cell 53 = .ok (.iload_n 1, 1) := by decide +kernel
theorem dX8_cell_54 : decode cX8_cell 54 = .ok (.iaload, 1) := by decide +kernel
theorem dX8_cell_55 : decode cX8_cell 55 = .ok (.ifCond .ne 8, 3) := by decide +kernel
theorem dX8_cell_58 : decode cX8_cell 58 = .ok (.iload_n 3, 1) := by decide +kernel
theorem dX8_cell_59 : decode cX8_cell 59 = .ok (.i2b, 1) := by decide +kernel
theorem dX8_cell_60 : decode cX8_cell 60 = .ok (.goto 19, 3) := by decide +kernel
theorem dX8_cell_63 : decode cX8_cell 63 = .ok (.aload_n 0, 1) := by decide +kernel
theorem dX8_cell_64 : decode cX8_cell 64 = .ok (.getfield 57, 3) := by decide +kernel
theorem dX8_cell_67 : decode cX8_cell 67 = .ok (.iload_n 1, 1) := by decide +kernel
theorem dX8_cell_68 : decode cX8_cell 68 = .ok (.iaload, 1) := by decide +kernel
theorem dX8_cell_69 : decode cX8_cell 69 = .ok (.iconst 1, 1) := by decide +kernel
theorem dX8_cell_70 : decode cX8_cell 70 = .ok (.if_icmp .ne 8, 3) := by decide +kernel
theorem dX8_cell_73 : decode cX8_cell 73 = .ok (.iload_n 3, 1) := by decide +kernel
theorem dX8_cell_74 : decode cX8_cell 74 = .ok (.i2s, 1) := by decide +kernel
theorem dX8_cell_75 : decode cX8_cell 75 = .ok (.goto 4, 3) := by decide +kernel
theorem dX8_cell_78 : decode cX8_cell 78 = .ok (.iload_n 3, 1) := by decide +kernel
theorem dX8_cell_79 : decode cX8_cell 79 = .ok (.iastore, 1) := by decide +kernel
theorem dX8_cell_80 : decode cX8_cell 80 = .ok (.iconst 1, 1) := by decide +kernel
theorem dX8_cell_81 : decode cX8_cell 81 = .ok (.ireturn, 1) := by decide +kernel
theorem dX8_copy_0 : decode cX8_copy 0 = .ok (.iload_n 1, 1) := by decide +kernel
theorem dX8_copy_1 : decode cX8_copy 1 = .ok (.invokestatic 94, 3) := by decide +kernel
theorem dX8_copy_4 : decode cX8_copy 4 = .ok (.ifCond .eq 10, 3) := by decide +kernel
theorem dX8_copy_7 : decode cX8_copy 7 = .ok (.iload_n 3, 1) := by decide +kernel
theorem dX8_copy_8 : decode cX8_copy 8 = .ok (.invokestatic 94, 3) := by decide +kernel
theorem dX8_copy_11 : decode cX8_copy 11 = .ok (.ifCond .ne 6, 3) := by decide +kernel
theorem dX8_copy_14 : decode cX8_copy 14 = .ok (.bipush (-2), 2) := by decide +kernel
theorem dX8_copy_16 : decode cX8_copy 16 = .ok (.ireturn, 1) := by decide +kernel
theorem dX8_copy_17 : decode cX8_copy 17 = .ok (.aload_n 0, 1) := by decide +kernel
theorem dX8_copy_18 : decode cX8_copy 18 = .ok (.getfield 57, 3) := by decide +kernel
theorem dX8_copy_21 : decode cX8_copy 21 = .ok (.iload_n 1, 1) := by decide +kernel
theorem dX8_copy_22 : decode cX8_copy 22 = .ok (.iaload, 1) := by decide +kernel
theorem dX8_copy_23 : decode cX8_copy 23 = .ok (.ifCond .lt 12, 3) := by decide +kernel
theorem dX8_copy_26 : decode cX8_copy 26 = .ok (.aload_n 0, 1) := by decide +kernel
theorem dX8_copy_27 : decode cX8_copy 27 = .ok (.getfield 57, 3) := by decide +kernel
theorem dX8_copy_30 : decode cX8_copy 30 = .ok (.iload_n 3, 1) := by decide +kernel
theorem dX8_copy_31 : decode cX8_copy 31 = .ok (.iaload, 1) := by decide +kernel
theorem dX8_copy_32 : decode cX8_copy 32 = .ok (.ifCond .ge 6, 3) := by decide +kernel
theorem dX8_copy_35 : decode cX8_copy 35 = .ok (.bipush (-11), 2) := by decide +kernel
theorem dX8_copy_37 : decode cX8_copy 37 = .ok (.ireturn, 1) := by decide +kernel
theorem dX8_copy_38 : decode cX8_copy 38 = .ok (.aload_n 0, 1) := by decide +kernel
theorem dX8_copy_39 : decode cX8_copy 39 = .ok (.getfield 57, 3) := by decide +kernel
theorem dX8_copy_42 : decode cX8_copy 42 = .ok (.iload_n 1, 1) := by decide +kernel
theorem dX8_copy_43 : decode cX8_copy 43 = .ok (.iaload, 1) := by decide +kernel
theorem dX8_copy_44 : decode cX8_copy 44 = .ok (.aload_n 0, 1) := by decide +kernel
theorem dX8_copy_45 : decode cX8_copy 45 = .ok (.getfield 57, 3) := by decide +kernel
theorem dX8_copy_48 : decode cX8_copy 48 = .ok (.iload_n 3, 1) := by decide +kernel
theorem dX8_copy_49 : decode cX8_copy 49 = .ok (.iaload, 1) := by decide +kernel
theorem dX8_copy_50 : decode cX8_copy 50 = .ok (.if_icmp .eq 6, 3) := by decide +kernel
theorem dX8_copy_53 : decode cX8_copy 53 = .ok (.bipush (-13), 2) := by decide +kernel
theorem dX8_copy_55 : decode cX8_copy 55 = .ok (.ireturn, 1) := by decide +kernel
theorem dX8_copy_56 : decode cX8_copy 56 = .ok (.iload 5, 2) := by decide +kernel
theorem dX8_copy_58 : decode cX8_copy 58 = .ok (.ifCond .lt 39, 3) := by decide +kernel
theorem dX8_copy_61 : decode cX8_copy 61 = .ok (.iload_n 2, 1) := by decide +kernel
theorem dX8_copy_62 : decode cX8_copy 62 = .ok (.ifCond .lt 35, 3) := by decide +kernel
theorem dX8_copy_65 : decode cX8_copy 65 = .ok (.iload 4, 2) := by decide +kernel
theorem dX8_copy_67 : decode cX8_copy 67 = .ok (.ifCond .lt 30, 3) := by decide +kernel
theorem dX8_copy_70 : decode cX8_copy 70 = .ok (.iload_n 2, 1) := by decide +kernel
theorem dX8_copy_71 : decode cX8_copy 71 = .ok (.aload_n 0, 1) := by decide +kernel
theorem dX8_copy_72 : decode cX8_copy 72 = .ok (.getfield 60, 3) := by decide +kernel
theorem dX8_copy_75 : decode cX8_copy 75 = .ok (.iload_n 1, 1) := by decide +kernel
theorem dX8_copy_76 : decode cX8_copy 76 = .ok (.iaload, 1) := by decide +kernel
theorem dX8_copy_77 : decode cX8_copy 77 = .ok (.iload 5, 2) := by decide +kernel
theorem dX8_copy_79 : decode cX8_copy 79 = .ok (.isub, 1) := by decide +kernel
theorem dX8_copy_80 : decode cX8_copy 80 = .ok (.if_icmp .gt 17, 3) := by decide +kernel
theorem dX8_copy_83 : decode cX8_copy 83 = .ok (.iload 4, 2) := by decide +kernel
theorem dX8_copy_85 : decode cX8_copy 85 = .ok (.aload_n 0, 1) := by decide +kernel
theorem dX8_copy_86 : decode cX8_copy 86 = .ok (.getfield 60, 3) := by decide +kernel
theorem dX8_copy_89 : decode cX8_copy 89 = .ok (.iload_n 3, 1) := by decide +kernel
theorem dX8_copy_90 : decode cX8_copy 90 = .ok (.iaload, 1) := by decide +kernel
theorem dX8_copy_91 : decode cX8_copy 91 = .ok (.iload 5, 2) := by decide +kernel
theorem dX8_copy_93 : decode cX8_copy 93 = .ok (.isub, 1) := by decide +kernel
theorem dX8_copy_94 : decode cX8_copy 94 = .ok (.if_icmp .le 6, 3) := by decide +kernel
theorem dX8_copy_97 : decode cX8_copy 97 = .ok (.bipush (-12), 2) := by decide +kernel
theorem dX8_copy_99 : decode cX8_copy 99 = .ok (.ireturn, 1) := by decide +kernel
theorem dX8_copy_100 : decode cX8_copy 100 = .ok (.iconst 0, 1) := by decide +kernel
theorem dX8_copy_101 : decode cX8_copy 101 = .ok (.istore 6, 2) := by decide +kernel
theorem dX8_copy_103 : decode cX8_copy 103 = .ok (.iload 6, 2) := by decide +kernel
theorem dX8_copy_105 : decode cX8_copy 105 = .ok (.iload 5, 2) := by decide +kernel
theorem dX8_copy_107 : decode cX8_copy 107 = .ok (.if_icmp .ge 30, 3) := by decide +kernel
theorem dX8_copy_110 : decode cX8_copy 110 = .ok (.aload_n 0, 1) := by decide +kernel
theorem dX8_copy_111 : decode cX8_copy 111 = .ok (.getfield 66, 3) := by decide +kernel
theorem dX8_copy_114 : decode cX8_copy 114 = .ok (.iload 6, 2) := by decide +kernel
theorem dX8_copy_116 : decode cX8_copy 116 = .ok (.aload_n 0, 1) := by decide +kernel
theorem dX8_copy_117 : decode cX8_copy 117 = .ok (.getfield 63, 3) := by decide +kernel
theorem dX8_copy_120 : decode cX8_copy 120 = .ok (.bipush 40, 2) := by decide +kernel
theorem dX8_copy_122 : decode cX8_copy 122 = .ok (.iload_n 1, 1) := by decide +kernel
theorem dX8_copy_123 : decode cX8_copy 123 = .ok (.imul, 1) := by decide +kernel
theorem dX8_copy_124 : decode cX8_copy 124 = .ok (.iload_n 2, 1) := by decide +kernel
theorem dX8_copy_125 : decode cX8_copy 125 = .ok (.iadd, 1) := by decide +kernel
theorem dX8_copy_126 : decode cX8_copy 126 = .ok (.iload 6, 2) := by decide +kernel
theorem dX8_copy_128 : decode cX8_copy 128 = .ok (.iadd, 1) := by decide +kernel
theorem dX8_copy_129 : decode cX8_copy 129 = .ok (.iaload, 1) := by decide +kernel
theorem dX8_copy_130 : decode cX8_copy 130 = .ok (.iastore, 1) := by decide +kernel
theorem dX8_copy_131 : decode cX8_copy 131 = .ok (.iinc 6 1, 3) := by decide +kernel
theorem dX8_copy_134 : decode cX8_copy 134 = .ok (.goto (-31), 3) := by decide +kernel
theorem dX8_copy_137 : decode cX8_copy 137 = .ok (.iconst 0, 1) := by decide +kernel
theorem dX8_copy_138 : decode cX8_copy 138 = .ok (.istore 6, 2) := by decide +kernel
theorem dX8_copy_140 : decode cX8_copy 140 = .ok (.iload 6, 2) := by decide +kernel
theorem dX8_copy_142 : decode cX8_copy 142 = .ok (.iload 5, 2) := by decide +kernel
theorem dX8_copy_144 : decode cX8_copy 144 = .ok (.if_icmp .ge 31, 3) := by decide +kernel
theorem dX8_copy_147 : decode cX8_copy 147 = .ok (.aload_n 0, 1) := by decide +kernel
theorem dX8_copy_148 : decode cX8_copy 148 = .ok (.getfield 63, 3) := by decide +kernel
theorem dX8_copy_151 : decode cX8_copy 151 = .ok (.bipush 40, 2) := by decide +kernel
theorem dX8_copy_153 : decode cX8_copy 153 = .ok (.iload_n 3, 1) := by decide +kernel
theorem dX8_copy_154 : decode cX8_copy 154 = .ok (.imul, 1) := by decide +kernel
theorem dX8_copy_155 : decode cX8_copy 155 = .ok (.iload 4, 2) := by decide +kernel
theorem dX8_copy_157 : decode cX8_copy 157 = .ok (.iadd, 1) := by decide +kernel
theorem dX8_copy_158 : decode cX8_copy 158 = .ok (.iload 6, 2) := by decide +kernel
theorem dX8_copy_160 : decode cX8_copy 160 = .ok (.iadd, 1) := by decide +kernel
theorem dX8_copy_161 : decode cX8_copy 161 = .ok (.aload_n 0, 1) := by decide +kernel
theorem dX8_copy_162 : decode cX8_copy 162 = .ok (.getfield 66, 3) := by decide +kernel
theorem dX8_copy_165 : decode cX8_copy 165 = .ok (.iload 6, 2) := by decide +kernel
theorem dX8_copy_167 : decode cX8_copy 167 = .ok (.iaload, 1) := by decide +kernel
theorem dX8_copy_168 : decode cX8_copy 168 = .ok (.iastore, 1) := by decide +kernel
theorem dX8_copy_169 : decode cX8_copy 169 = .ok (.iinc 6 1, 3) := by decide +kernel
theorem dX8_copy_172 : decode cX8_copy 172 = .ok (.goto (-32), 3) := by decide +kernel
theorem dX8_copy_175 : decode cX8_copy 175 = .ok (.iload 5, 2) := by decide +kernel
theorem dX8_copy_177 : decode cX8_copy 177 = .ok (.ireturn, 1) := by decide +kernel
theorem dX8_taken_0 : decode cX8_taken 0 = .ok (.iload_n 2, 1) := by decide +kernel
theorem dX8_taken_1 : decode cX8_taken 1 = .ok (.ifCond .lt 8, 3) := by decide +kernel
theorem dX8_taken_4 : decode cX8_taken 4 = .ok (.iload_n 2, 1) := by decide +kernel
theorem dX8_taken_5 : decode cX8_taken 5 = .ok (.iconst 4, 1) := by decide +kernel
theorem dX8_taken_6 : decode cX8_taken 6 = .ok (.if_icmp .le 6, 3) := by decide +kernel
theorem dX8_taken_9 : decode cX8_taken 9 = .ok (.bipush (-2), 2) := by decide +kernel
theorem dX8_taken_11 : decode cX8_taken 11 = .ok (.ireturn, 1) := by decide +kernel
theorem dX8_taken_12 : decode cX8_taken 12 = .ok (.aload_n 0, 1) := by decide +kernel
theorem dX8_taken_13 : decode cX8_taken 13 = .ok (.iload_n 1, 1) := by decide +kernel
theorem dX8_taken_14 : decode cX8_taken 14 = .ok (.invokevirtual 123, 3) := by decide +kernel
theorem dX8_taken_17 : decode cX8_taken 17 = .ok (.ifCond .ne 6, 3) := by decide +kernel
theorem dX8_taken_20 : decode cX8_taken 20 = .ok (.bipush (-11), 2) := by decide +kernel
theorem dX8_taken_22 : decode cX8_taken 22 = .ok (.ireturn, 1) := by decide +kernel
theorem dX8_taken_23 : decode cX8_taken 23 = .ok (.iload_n 2, 1) := by decide +kernel
theorem dX8_taken_24 : decode cX8_taken 24 = .ok (.ifCond .eq 28, 3) := by decide +kernel
theorem dX8_taken_27 : decode cX8_taken 27 = .ok (.aload_n 0, 1) := by decide +kernel
theorem dX8_taken_28 : decode cX8_taken 28 = .ok (.getfield 17, 3) := by decide +kernel
theorem dX8_taken_31 : decode cX8_taken 31 = .ok (.iload_n 1, 1) := by decide +kernel
theorem dX8_taken_32 : decode cX8_taken 32 = .ok (.iaload, 1) := by decide +kernel
theorem dX8_taken_33 : decode cX8_taken 33 = .ok (.iload_n 2, 1) := by decide +kernel
theorem dX8_taken_34 : decode cX8_taken 34 = .ok (.if_icmp .eq 18, 3) := by decide +kernel
theorem dX8_taken_37 : decode cX8_taken 37 = .ok (.iload_n 2, 1) := by decide +kernel
theorem dX8_taken_38 : decode cX8_taken 38 = .ok (.iconst 1, 1) := by decide +kernel
theorem dX8_taken_39 : decode cX8_taken 39 = .ok (.if_icmp .le 17, 3) := by decide +kernel
theorem dX8_taken_42 : decode cX8_taken 42 = .ok (.aload_n 0, 1) := by decide +kernel
theorem dX8_taken_43 : decode cX8_taken 43 = .ok (.getfield 17, 3) := by decide +kernel
theorem dX8_taken_46 : decode cX8_taken 46 = .ok (.iload_n 1, 1) := by decide +kernel
theorem dX8_taken_47 : decode cX8_taken 47 = .ok (.iaload, 1) := by decide +kernel
theorem dX8_taken_48 : decode cX8_taken 48 = .ok (.iload_n 2, 1) := by decide +kernel
theorem dX8_taken_49 : decode cX8_taken 49 = .ok (.if_icmp .le 7, 3) := by decide +kernel
theorem dX8_taken_52 : decode cX8_taken 52 = .ok (.iconst 1, 1) := by decide +kernel
theorem dX8_taken_53 : decode cX8_taken 53 = .ok (.goto 4, 3) := by decide +kernel
theorem dX8_taken_56 : decode cX8_taken 56 = .ok (.iconst 0, 1) := by decide +kernel
theorem dX8_taken_57 : decode cX8_taken 57 = .ok (.istore_n 3, 1) := by decide +kernel
theorem dX8_taken_58 : decode cX8_taken 58 = .ok (.iload_n 3, 1) := by decide +kernel
theorem dX8_taken_59 : decode cX8_taken 59 = .ok (.ifCond .eq 12, 3) := by decide +kernel
theorem dX8_taken_62 : decode cX8_taken 62 = .ok (.aload_n 0, 1) := by decide +kernel
theorem dX8_taken_63 : decode cX8_taken 63 = .ok (.getfield 20, 3) := by decide +kernel
theorem dX8_taken_66 : decode cX8_taken 66 = .ok (.iload_n 1, 1) := by decide +kernel
theorem dX8_taken_67 : decode cX8_taken 67 = .ok (.iaload, 1) := by decide +kernel
theorem dX8_taken_68 : decode cX8_taken 68 = .ok (.goto 5, 3) := by decide +kernel
theorem dX8_taken_71 : decode cX8_taken 71 = .ok (.bipush (-13), 2) := by decide +kernel
theorem dX8_taken_73 : decode cX8_taken 73 = .ok (.ireturn, 1) := by decide +kernel
