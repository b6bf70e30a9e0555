theorem dX12_switchSpan_66 : decode cX12_switchSpan 66 = .ok (.ldc2_w 262, 3) := by decide +kernel
theorem dX12_switchSpan_69 : decode cX12_switchSpan 69 = .ok (.lcmp, 1) := by decide +kernel
theorem dX12_switchSpan_70 : decode cX12_switchSpan 70 = .ok (.ifCond .le 7, 3) := by decide +kernel
theorem dX12_switchSpan_73 : decode cX12_switchSpan 73 = .ok (.iconst 0, 1) := by decide +kernel
theorem dX12_switchSpan_74 : decode cX12_switchSpan 74 = .ok (.goto 17, 3) := by decide +kernel
theorem dX12_switchSpan_77 : decode cX12_switchSpan 77 = .ok (.iload_n 3, 1) := by decide +kernel
theorem dX12_switchSpan_78 : decode cX12_switchSpan 78 = .ok (.bipush 12, 2) := by decide +kernel
theorem dX12_switchSpan_80 : decode cX12_switchSpan 80 = .ok (.iadd, 1) := by decide +kernel
theorem dX12_switchSpan_81 : decode cX12_switchSpan 81 = .ok (.iconst 4, 1) := by decide +kernel
theorem dX12_switchSpan_82 : decode cX12_switchSpan 82 = .ok (.lload 4, 2) := by decide +kernel
theorem dX12_switchSpan_84 : decode cX12_switchSpan 84 = .ok (.l2i, 1) := by decide +kernel
theorem dX12_switchSpan_85 : decode cX12_switchSpan 85 = .ok (.iconst 1, 1) := by decide +kernel
theorem dX12_switchSpan_86 : decode cX12_switchSpan 86 = .ok (.iadd, 1) := by decide +kernel
theorem dX12_switchSpan_87 : decode cX12_switchSpan 87 = .ok (.imul, 1) := by decide +kernel
theorem dX12_switchSpan_88 : decode cX12_switchSpan 88 = .ok (.iadd, 1) := by decide +kernel
theorem dX12_switchSpan_89 : decode cX12_switchSpan 89 = .ok (.iload_n 1, 1) := by decide +kernel
theorem dX12_switchSpan_90 : decode cX12_switchSpan 90 = .ok (.isub, 1) := by decide +kernel
theorem dX12_switchSpan_91 : decode cX12_switchSpan 91 = .ok (.ireturn, 1) := by decide +kernel
theorem dX12_switchSpan_92 : decode cX12_switchSpan 92 = .ok (.aload_n 0, 1) := by decide +kernel
theorem dX12_switchSpan_93 : decode cX12_switchSpan 93 = .ok (.iload_n 3, 1) := by decide +kernel
theorem dX12_switchSpan_94 : decode cX12_switchSpan 94 = .ok (.iconst 4, 1) := by decide +kernel
theorem dX12_switchSpan_95 : decode cX12_switchSpan 95 = .ok (.iadd, 1) := by decide +kernel
theorem dX12_switchSpan_96 : decode cX12_switchSpan 96 = .ok (.invokevirtual 259, 3) := by decide +kernel
theorem dX12_switchSpan_99 : decode cX12_switchSpan 99 = .ok (.istore 4, 2) := by decide +kernel
theorem dX12_switchSpan_101 : decode cX12_switchSpan 101 = .ok (.iload 4, 2) := by decide +kernel
theorem dX12_switchSpan_103 : decode cX12_switchSpan 103 = .ok (.ifCond .lt 28, 3) := by decide +kernel
theorem dX12_switchSpan_106 : decode cX12_switchSpan 106 = .ok (.iload 4, 2) := by decide +kernel
theorem dX12_switchSpan_108 : decode cX12_switchSpan 108 = .ok (.sipush 200, 3) := by decide +kernel
theorem dX12_switchSpan_111 : decode cX12_switchSpan 111 = .ok (.if_icmp .gt 20, 3) := by decide +kernel
theorem dX12_switchSpan_114 : decode cX12_switchSpan 114 = .ok (.iload_n 3, 1) := by decide +kernel
theorem dX12_switchSpan_115 : decode cX12_switchSpan 115 = .ok (.bipush 8, 2) := by decide +kernel
theorem dX12_switchSpan_117 : decode cX12_switchSpan 117 = .ok (.iadd, 1) := by decide +kernel
theorem dX12_switchSpan_118 : decode cX12_switchSpan 118 = .ok (.bipush 8, 2) := by decide +kernel
theorem dX12_switchSpan_120 : decode cX12_switchSpan 120 = .ok (.iload 4, 2) := by decide +kernel
theorem dX12_switchSpan_122 : decode cX12_switchSpan 122 = .ok (.imul, 1) := by decide +kernel
theorem dX12_switchSpan_123 : decode cX12_switchSpan 123 = .ok (.iadd, 1) := by decide +kernel
theorem dX12_switchSpan_124 : decode cX12_switchSpan 124 = .ok (.aload_n 0, 1) := by decide +kernel
theorem dX12_switchSpan_125 : decode cX12_switchSpan 125 = .ok (.getfield 250, 3) := by decide +kernel
theorem dX12_switchSpan_128 : decode cX12_switchSpan 128 = .ok (.if_icmp .le 5, 3) := by decide +kernel
theorem dX12_switchSpan_131 : decode cX12_switchSpan 131 = .ok (.iconst 0, 1) := by decide +kernel
theorem dX12_switchSpan_132 : decode cX12_switchSpan 132 = .ok (.ireturn, 1) := by decide +kernel
theorem dX12_switchSpan_133 : decode cX12_switchSpan 133 = .ok (.iconst 1, 1) := by decide +kernel
theorem dX12_switchSpan_134 : decode cX12_switchSpan 134 = .ok (.istore 5, 2) := by decide +kernel
theorem dX12_switchSpan_136 : decode cX12_switchSpan 136 = .ok (.iload 5, 2) := by decide +kernel
theorem dX12_switchSpan_138 : decode cX12_switchSpan 138 = .ok (.iload 4, 2) := by decide +kernel
theorem dX12_switchSpan_140 : decode cX12_switchSpan 140 = .ok (.if_icmp .ge 39, 3) := by decide +kernel
theorem dX12_switchSpan_143 : decode cX12_switchSpan 143 = .ok (.aload_n 0, 1) := by decide +kernel
theorem dX12_switchSpan_144 : decode cX12_switchSpan 144 = .ok (.iload_n 3, 1) := by decide +kernel
theorem dX12_switchSpan_145 : decode cX12_switchSpan 145 = .ok (.bipush 8, 2) := by decide +kernel
theorem dX12_switchSpan_147 : decode cX12_switchSpan 147 = .ok (.iadd, 1) := by decide +kernel
theorem dX12_switchSpan_148 : decode cX12_switchSpan 148 = .ok (.bipush 8, 2) := by decide +kernel
theorem dX12_switchSpan_150 : decode cX12_switchSpan 150 = .ok (.iload 5, 2) := by decide +kernel
theorem dX12_switchSpan_152 : decode cX12_switchSpan 152 = .ok (.imul, 1) := by decide +kernel
theorem dX12_switchSpan_153 : decode cX12_switchSpan 153 = .ok (.iadd, 1) := by decide +kernel
theorem dX12_switchSpan_154 : decode cX12_switchSpan 154 = .ok (.invokevirtual 259, 3) := by decide +kernel
theorem dX12_switchSpan_157 : decode cX12_switchSpan 157 = .ok (.aload_n 0, 1) := by decide +kernel
theorem dX12_switchSpan_158 : decode cX12_switchSpan 158 = .ok (.iload_n 3, 1) := by decide +kernel
theorem dX12_switchSpan_159 : decode cX12_switchSpan 159 = .ok (.bipush 8, 2) := by decide +kernel
theorem dX12_switchSpan_161 : decode cX12_switchSpan 161 = .ok (.iload 5, 2) := by decide +kernel
theorem dX12_switchSpan_163 : decode cX12_switchSpan 163 = .ok (.imul, 1) := by decide +kernel
theorem dX12_switchSpan_164 : decode cX12_switchSpan 164 = .ok (.iadd, 1) := by decide +kernel
theorem dX12_switchSpan_165 : decode cX12_switchSpan 165 = .ok (.invokevirtual 259, 3) := by decide +kernel
theorem dX12_switchSpan_168 : decode cX12_switchSpan 168 = .ok (.if_icmp .gt 5, 3) := by decide +kernel
theorem dX12_switchSpan_171 : decode cX12_switchSpan 171 = .ok (.iconst 0, 1) := by decide +kernel
theorem dX12_switchSpan_172 : decode cX12_switchSpan 172 = .ok (.ireturn, 1) := by decide +kernel
theorem dX12_switchSpan_173 : decode cX12_switchSpan 173 = .ok (.iinc 5 1, 3) := by decide +kernel
theorem dX12_switchSpan_176 : decode cX12_switchSpan 176 = .ok (.goto (-40), 3) := by decide +kernel
theorem dX12_switchSpan_179 : decode cX12_switchSpan 179 = .ok (.iload_n 3, 1) := by decide +kernel
theorem dX12_switchSpan_180 : decode cX12_switchSpan 180 = .ok (.bipush 8, 2) := by decide +kernel
theorem dX12_switchSpan_182 : decode cX12_switchSpan 182 = .ok (.iadd, 1) := by decide +kernel
theorem dX12_switchSpan_183 : decode cX12_switchSpan 183 = .ok (.bipush 8, 2) := by decide +kernel
theorem dX12_switchSpan_185 : decode cX12_switchSpan 185 = .ok (.iload 4, 2) := by decide +kernel
theorem dX12_switchSpan_187 : decode cX12_switchSpan 187 = .ok (.imul, 1) := by decide +kernel
theorem dX12_switchSpan_188 : decode cX12_switchSpan 188 = .ok (.iadd, 1) := by decide +kernel
theorem dX12_switchSpan_189 : decode cX12_switchSpan 189 = .ok (.iload_n 1, 1) := by decide +kernel
theorem dX12_switchSpan_190 : decode cX12_switchSpan 190 = .ok (.isub, 1) := by decide +kernel
theorem dX12_switchSpan_191 : decode cX12_switchSpan 191 = .ok (.ireturn, 1) := by decide +kernel
theorem dX12_take_0 : decode cX12_take 0 = .ok (.aload_n 0, 1) := by decide +kernel
theorem dX12_take_1 : decode cX12_take 1 = .ok (.aload_n 0, 1) := by decide +kernel
theorem dX12_take_2 : decode cX12_take 2 = .ok (.getfield 56, 3) := by decide +kernel
theorem dX12_take_5 : decode cX12_take 5 = .ok (.iload_n 1, 1) := by decide +kernel
theorem dX12_take_6 : decode cX12_take 6 = .ok (.iaload, 1) := by decide +kernel
theorem dX12_take_7 : decode cX12_take 7 = .ok (.putfield 241, 3) := by decide +kernel
theorem dX12_take_10 : decode cX12_take 10 = .ok (.aload_n 0, 1) := by decide +kernel
theorem dX12_take_11 : decode cX12_take 11 = .ok (.aload_n 0, 1) := by decide +kernel
theorem dX12_take_12 : decode cX12_take 12 = .ok (.getfield 59, 3) := by decide +kernel
theorem dX12_take_15 : decode cX12_take 15 = .ok (.iload_n 1, 1) := by decide +kernel
theorem dX12_take_16 : decode cX12_take 16 = .ok (.iaload, 1) := by decide +kernel
theorem dX12_take_17 : decode cX12_take 17 = .ok (.putfield 250, 3) := by decide +kernel
theorem dX12_take_20 : decode cX12_take 20 = .ok (.return_, 1) := by decide +kernel
theorem dX12_wholes_0 : decode cX12_wholes 0 = .ok (.aload_n 0, 1) := by decide +kernel
theorem dX12_wholes_1 : decode cX12_wholes 1 = .ok (.iload_n 1, 1) := by decide +kernel
theorem dX12_wholes_2 : decode cX12_wholes 2 = .ok (.invokevirtual 264, 3) := by decide +kernel
theorem dX12_wholes_5 : decode cX12_wholes 5 = .ok (.iconst 0, 1) := by decide +kernel
theorem dX12_wholes_6 : decode cX12_wholes 6 = .ok (.istore_n 2, 1) := by decide +kernel
theorem dX12_wholes_7 : decode cX12_wholes 7 = .ok (.iload_n 2, 1) := by decide +kernel
theorem dX12_wholes_8 : decode cX12_wholes 8 = .ok (.aload_n 0, 1) := by decide +kernel
theorem dX12_wholes_9 : decode cX12_wholes 9 = .ok (.getfield 250, 3) := by decide +kernel
theorem dX12_wholes_12 : decode cX12_wholes 12 = .ok (.if_icmp .gt 16, 3) := by decide +kernel
theorem dX12_wholes_15 : decode cX12_wholes 15 = .ok (.aload_n 0, 1) := by decide +kernel
theorem dX12_wholes_16 : decode cX12_wholes 16 = .ok (.getfield 68, 3) := by decide +kernel
theorem dX12_wholes_19 : decode cX12_wholes 19 = .ok (.iload_n 2, 1) := by decide +kernel
theorem dX12_wholes_20 : decode cX12_wholes 20 = .ok (.iconst (-1), 1) := by decide +kernel
theorem dX12_wholes_21 : decode cX12_wholes 21 = .ok (.iastore, 1) := by decide +kernel
theorem dX12_wholes_22 : decode cX12_wholes 22 = .ok (.iinc 2 1, 3) := by decide +kernel
theorem dX12_wholes_25 : decode cX12_wholes 25 = .ok (.goto (-18), 3) := by decide +kernel
theorem dX12_wholes_28 : decode cX12_wholes 28 = .ok (.aload_n 0, 1) := by decide +kernel
theorem dX12_wholes_29 : decode cX12_wholes 29 = .ok (.iconst 0, 1) := by decide +kernel
theorem dX12_wholes_30 : decode cX12_wholes 30 = .ok (.putfield 267, 3) := by decide +kernel
theorem dX12_wholes_33 : decode cX12_wholes 33 = .ok (.iconst 0, 1) := by decide +kernel
theorem dX12_wholes_34 : decode cX12_wholes 34 = .ok (.istore_n 2, 1) := by decide +kernel
theorem dX12_wholes_35 : decode cX12_wholes 35 = .ok (.iload_n 2, 1) := by decide +kernel
theorem dX12_wholes_36 : decode cX12_wholes 36 = .ok (.aload_n 0, 1) := by decide +kernel
theorem dX12_wholes_37 : decode cX12_wholes 37 = .ok (.getfield 250, 3) := by decide +kernel
theorem dX12_wholes_40 : decode cX12_wholes 40 = .ok (.if_icmp .ge 57, 3) := by decide +kernel
theorem dX12_wholes_43 : decode cX12_wholes 43 = .ok (.aload_n 0, 1) := by decide +kernel
theorem dX12_wholes_44 : decode cX12_wholes 44 = .ok (.iload_n 2, 1) := by decide +kernel
theorem dX12_wholes_45 : decode cX12_wholes 45 = .ok (.invokevirtual 270, 3) := by decide +kernel
theorem dX12_wholes_48 : decode cX12_wholes 48 = .ok (.istore_n 3, 1) := by decide +kernel
theorem dX12_wholes_49 : decode cX12_wholes 49 = .ok (.aload_n 0, 1) := by decide +kernel
theorem dX12_wholes_50 : decode cX12_wholes 50 = .ok (.iload_n 3, 1) := by decide +kernel
theorem dX12_wholes_51 : decode cX12_wholes 51 = .ok (.ifCond .le 7, 3) := by decide +kernel
theorem dX12_wholes_54 : decode cX12_wholes 54 = .ok (.iconst 1, 1) := by decide +kernel
theorem dX12_wholes_55 : decode cX12_wholes 55 = .ok (.goto 4, 3) := by decide +kernel
theorem dX12_wholes_58 : decode cX12_wholes 58 = .ok (.iconst 0, 1) := by decide +kernel
theorem dX12_wholes_59 : decode cX12_wholes 59 = .ok (.bipush 15, 2) := by decide +kernel
theorem dX12_wholes_61 : decode cX12_wholes 61 = .ok (.aload_n 0, 1) := by decide +kernel
theorem dX12_wholes_62 : decode cX12_wholes 62 = .ok (.getfield 241, 3) := by decide +kernel
theorem dX12_wholes_65 : decode cX12_wholes 65 = .ok (.iload_n 2, 1) := by decide +kernel
theorem dX12_wholes_66 : decode cX12_wholes 66 = .ok (.iadd, 1) := by decide +kernel
theorem dX12_wholes_67 : decode cX12_wholes 67 = .ok (.invokevirtual 137, 3) := by decide +kernel
theorem dX12_wholes_70 : decode cX12_wholes 70 = .ok (.aload_n 0, 1) := by decide +kernel
theorem dX12_wholes_71 : decode cX12_wholes 71 = .ok (.getfield 68, 3) := by decide +kernel
theorem dX12_wholes_74 : decode cX12_wholes 74 = .ok (.iload_n 2, 1) := by decide +kernel
theorem dX12_wholes_75 : decode cX12_wholes 75 = .ok (.aload_n 0, 1) := by decide +kernel
theorem dX12_wholes_76 : decode cX12_wholes 76 = .ok (.getfield 267, 3) := by decide +kernel
theorem dX12_wholes_79 : decode cX12_wholes 79 = .ok (.iastore, 1) := by decide +kernel
theorem dX12_wholes_80 : decode cX12_wholes 80 = .ok (.aload_n 0, 1) := by decide +kernel
theorem dX12_wholes_81 : decode cX12_wholes 81 = .ok (.dup, 1) := by decide +kernel
theorem dX12_wholes_82 : decode cX12_wholes 82 = .ok (.getfield 267, 3) := by decide +kernel
theorem dX12_wholes_85 : decode cX12_wholes 85 = .ok (.iconst 1, 1) := by decide +kernel
theorem dX12_wholes_86 : decode cX12_wholes 86 = .ok (.iadd, 1) := by decide +kernel
theorem dX12_wholes_87 : decode cX12_wholes 87 = .ok (.putfield 267, 3) := by decide +kernel
theorem dX12_wholes_90 : decode cX12_wholes 90 = .ok (.iload_n 2, 1) := by decide +kernel
theorem dX12_wholes_91 : decode cX12_wholes 91 = .ok (.iload_n 3, 1) := by decide +kernel
theorem dX12_wholes_92 : decode cX12_wholes 92 = .ok (.iadd, 1) := by decide +kernel
theorem dX12_wholes_93 : decode cX12_wholes 93 = .ok (.istore_n 2, 1) := by decide +kernel
theorem dX12_wholes_94 : decode cX12_wholes 94 = .ok (.goto (-59), 3) := by decide +kernel
theorem dX12_wholes_97 : decode cX12_wholes 97 = .ok (.aload_n 0, 1) := by decide +kernel
theorem dX12_wholes_98 : decode cX12_wholes 98 = .ok (.getfield 68, 3) := by decide +kernel
theorem dX12_wholes_101 : decode cX12_wholes 101 = .ok (.aload_n 0, 1) := by decide +kernel
theorem dX12_wholes_102 : decode cX12_wholes 102 = .ok (.getfield 250, 3) := by decide +kernel
theorem dX12_wholes_105 : decode cX12_wholes 105 = .ok (.aload_n 0, 1) := by decide +kernel
theorem dX12_wholes_106 : decode cX12_wholes 106 = .ok (.getfield 267, 3) := by decide +kernel
theorem dX12_wholes_109 : decode cX12_wholes 109 = .ok (.iastore, 1) := by decide +kernel
theorem dX12_wholes_110 : decode cX12_wholes 110 = .ok (.return_, 1) := by decide +kernel
theorem dX12_row_0 : decode cX12_row 0 = .ok (.aload_n 0, 1) := by decide +kernel
theorem dX12_row_1 : decode cX12_row 1 = .ok (.getfield 72, 3) := by decide +kernel
theorem dX12_row_4 : decode cX12_row 4 = .ok (.iconst 3, 1) := by decide +kernel
theorem dX12_row_5 : decode cX12_row 5 = .ok (.aload_n 0, 1) := by decide +kernel
theorem dX12_row_6 : decode cX12_row 6 = .ok (.getfield 273, 3) := by decide +kernel
theorem dX12_row_9 : decode cX12_row 9 = .ok (.imul, 1) := by decide +kernel
theorem dX12_row_10 : decode cX12_row 10 = .ok (.iload_n 1, 1) := by decide +kernel
theorem dX12_row_11 : decode cX12_row 11 = .ok (.iastore, 1) := by decide +kernel
theorem dX12_row_12 : decode cX12_row 12 = .ok (.aload_n 0, 1) := by decide +kernel
theorem dX12_row_13 : decode cX12_row 13 = .ok (.getfield 72, 3) := by decide +kernel
theorem dX12_row_16 : decode cX12_row 16 = .ok (.iconst 3, 1) := by decide +kernel
theorem dX12_row_17 : decode cX12_row 17 = .ok (.aload_n 0, 1) := by decide +kernel
theorem dX12_row_18 : decode cX12_row 18 = .ok (.getfield 273, 3) := by decide +kernel
theorem dX12_row_21 : decode cX12_row 21 = .ok (.imul, 1) := by decide +kernel
theorem dX12_row_22 : decode cX12_row 22 = .ok (.iconst 1, 1) := by decide +kernel
theorem dX12_row_23 : decode cX12_row 23 = .ok (.iadd, 1) := by decide +kernel
theorem dX12_row_24 : decode cX12_row 24 = .ok (.iload_n 2, 1) := by decide +kernel
theorem dX12_row_25 : decode cX12_row 25 = .ok (.iastore, 1) := by decide +kernel
theorem dX12_row_26 : decode cX12_row 26 = .ok (.aload_n 0, 1) := by decide +kernel
theorem dX12_row_27 : decode cX12_row 27 = .ok (.getfield 72, 3) := by decide +kernel
theorem dX12_row_30 : decode cX12_row 30 = .ok (.iconst 3, 1) := by decide +kernel
theorem dX12_row_31 : decode cX12_row 31 = .ok (.aload_n 0, 1) := by decide +kernel
theorem dX12_row_32 : decode cX12_row 32 = .ok (.getfield 273, 3) := by decide +kernel
theorem dX12_row_35 : decode cX12_row 35 = .ok (.imul, 1) := by decide +kernel
theorem dX12_row_36 : decode cX12_row 36 = .ok (.iconst 2, 1) := by decide +kernel
theorem dX12_row_37 : decode cX12_row 37 = .ok (.iadd, 1) := by decide +kernel
theorem dX12_row_38 : decode cX12_row 38 = .ok (.iload_n 3, 1) := by decide +kernel
theorem dX12_row_39 : decode cX12_row 39 = .ok (.iastore, 1) := by decide +kernel
theorem dX12_row_40 : decode cX12_row 40 = .ok (.aload_n 0, 1) := by decide +kernel
theorem dX12_row_41 : decode cX12_row 41 = .ok (.dup, 1) := by decide +kernel
theorem dX12_row_42 : decode cX12_row 42 = .ok (.getfield 273, 3) := by decide +kernel
theorem dX12_row_45 : decode cX12_row 45 = .ok (.iconst 1, 1) := by decide +kernel
theorem dX12_row_46 : decode cX12_row 46 = .ok (.iadd, 1) := by decide +kernel
theorem dX12_row_47 : decode cX12_row 47 = .ok (.putfield 273, 3) := by decide +kernel
theorem dX12_row_50 : decode cX12_row 50 = .ok (.return_, 1) := by decide +kernel
theorem dX12_isStart_0 : decode cX12_isStart 0 = .ok (.iload_n 1, 1) := by decide +kernel
theorem dX12_isStart_1 : decode cX12_isStart 1 = .ok (.ifCond .lt 24, 3) := by decide +kernel
theorem dX12_isStart_4 : decode cX12_isStart 4 = .ok (.iload_n 1, 1) := by decide +kernel
theorem dX12_isStart_5 : decode cX12_isStart 5 = .ok (.aload_n 0, 1) := by decide +kernel
theorem dX12_isStart_6 : decode cX12_isStart 6 = .ok (.getfield 250, 3) := by decide +kernel
theorem dX12_isStart_9 : decode cX12_isStart 9 = .ok (.if_icmp .ge 16, 3) := by decide +kernel
theorem dX12_isStart_12 : decode cX12_isStart 12 = .ok (.aload_n 0, 1) := by decide +kernel
theorem dX12_isStart_13 : decode cX12_isStart 13 = .ok (.getfield 68, 3) := by decide +kernel
theorem dX12_isStart_16 : decode cX12_isStart 16 = .ok (.iload_n 1, 1) := by decide +kernel
theorem dX12_isStart_17 : decode cX12_isStart 17 = .ok (.iaload, 1) := by decide +kernel
theorem dX12_isStart_18 : decode cX12_isStart 18 = .ok (.ifCond .lt 7, 3) := by decide +kernel
theorem dX12_isStart_21 : decode cX12_isStart 21 = .ok (.iconst 1, 1) := by decide +kernel
theorem dX12_isStart_22 : decode cX12_isStart 22 = .ok (.goto 4, 3) := by decide +kernel
theorem dX12_isStart_25 : decode cX12_isStart 25 = .ok (.iconst 0, 1) := by decide +kernel
theorem dX12_isStart_26 : decode cX12_isStart 26 = .ok (.ireturn, 1) := by decide +kernel
theorem dX12_point_0 : decode cX12_point 0 = .ok (.aload_n 0, 1) := by decide +kernel
theorem dX12_point_1 : decode cX12_point 1 = .ok (.iload_n 1, 1) := by decide +kernel
theorem dX12_point_2 : decode cX12_point 2 = .ok (.bipush 16, 2) := by decide +kernel
theorem dX12_point_4 : decode cX12_point 4 = .ok (.aload_n 0, 1) := by decide +kernel
theorem dX12_point_5 : decode cX12_point 5 = .ok (.getfield 241, 3) := by decide +kernel
theorem dX12_point_8 : decode cX12_point 8 = .ok (.iload_n 2, 1) := by decide +kernel
theorem dX12_point_9 : decode cX12_point 9 = .ok (.iadd, 1) := by decide +kernel
theorem dX12_point_10 : decode cX12_point 10 = .ok (.invokevirtual 137, 3) := by decide +kernel
theorem dX12_point_13 : decode cX12_point 13 = .ok (.return_, 1) := by decide +kernel
theorem dX12_pointedAt_0 : decode cX12_pointedAt 0 = .ok (.aload_n 0, 1) := by decide +kernel
theorem dX12_pointedAt_1 : decode cX12_pointedAt 1 = .ok (.aload_n 0, 1) := by decide +kernel
theorem dX12_pointedAt_2 : decode cX12_pointedAt 2 = .ok (.iload_n 1, 1) := by decide +kernel
theorem dX12_pointedAt_3 : decode cX12_pointedAt 3 = .ok (.iload_n 2, 1) := by decide +kernel
theorem dX12_pointedAt_4 : decode cX12_pointedAt 4 = .ok (.iadd, 1) := by decide +kernel
theorem dX12_pointedAt_5 : decode cX12_pointedAt 5 = .ok (.invokevirtual 276, 3) := by decide +kernel
theorem dX12_pointedAt_8 : decode cX12_pointedAt 8 = .ok (.iload_n 1, 1) := by decide +kernel
theorem dX12_pointedAt_9 : decode cX12_pointedAt 9 = .ok (.invokevirtual 279, 3) := by decide +kernel
theorem dX12_pointedAt_12 : decode cX12_pointedAt 12 = .ok (.aload_n 0, 1) := by decide +kernel
theorem dX12_pointedAt_13 : decode cX12_pointedAt 13 = .ok (.getfield 68, 3) := by decide +kernel
theorem dX12_pointedAt_16 : decode cX12_pointedAt 16 = .ok (.iload_n 1, 1) := by decide +kernel
theorem dX12_pointedAt_17 : decode cX12_pointedAt 17 = .ok (.iload_n 2, 1) := by decide +kernel
theorem dX12_pointedAt_18 : decode cX12_pointedAt 18 = .ok (.iadd, 1) := by decide +kernel
theorem dX12_pointedAt_19 : decode cX12_pointedAt 19 = .ok (.iaload, 1) := by decide +kernel
theorem dX12_pointedAt_20 : decode cX12_pointedAt 20 = .ok (.ireturn, 1) := by decide +kernel
theorem dX12_localRow_0 : decode cX12_localRow 0 = .ok (.iload_n 2, 1) := by decide +kernel
theorem dX12_localRow_1 : decode cX12_localRow 1 = .ok (.bipush 22, 2) := by decide +kernel
theorem dX12_localRow_3 : decode cX12_localRow 3 = .ok (.if_icmp .eq 9, 3) := by decide +kernel
theorem dX12_localRow_6 : decode cX12_localRow 6 = .ok (.iload_n 2, 1) := by decide +kernel
theorem dX12_localRow_7 : decode cX12_localRow 7 = .ok (.bipush 55, 2) := by decide +kernel
theorem dX12_localRow_9 : decode cX12_localRow 9 = .ok (.if_icmp .ne 7, 3) := by decide +kernel
theorem dX12_localRow_12 : decode cX12_localRow 12 = .ok (.iconst 2, 1) := by decide +kernel
theorem dX12_localRow_13 : decode cX12_localRow 13 = .ok (.goto 4, 3) := by decide +kernel
theorem dX12_localRow_16 : decode cX12_localRow 16 = .ok (.iconst 1, 1) := by decide +kernel
theorem dX12_localRow_17 : decode cX12_localRow 17 = .ok (.istore 4, 2) := by decide +kernel
theorem dX12_localRow_19 : decode cX12_localRow 19 = .ok (.aload_n 0, 1) := by decide +kernel
theorem dX12_localRow_20 : decode cX12_localRow 20 = .ok (.iload_n 3, 1) := by decide +kernel
theorem dX12_localRow_21 : decode cX12_localRow 21 = .ok (.iload 4, 2) := by decide +kernel
theorem dX12_localRow_23 : decode cX12_localRow 23 = .ok (.iadd, 1) := by decide +kernel
theorem dX12_localRow_24 : decode cX12_localRow 24 = .ok (.aload_n 0, 1) := by decide +kernel
theorem dX12_localRow_25 : decode cX12_localRow 25 = .ok (.getfield 283, 3) := by decide +kernel
theorem dX12_localRow_28 : decode cX12_localRow 28 = .ok (.if_icmp .gt 7, 3) := by decide +kernel
theorem dX12_localRow_31 : decode cX12_localRow 31 = .ok (.iconst 1, 1) := by decide +kernel
theorem dX12_localRow_32 : decode cX12_localRow 32 = .ok (.goto 4, 3) := by decide +kernel
theorem dX12_localRow_35 : decode cX12_localRow 35 = .ok (.iconst 0, 1) := by decide +kernel
theorem dX12_localRow_36 : decode cX12_localRow 36 = .ok (.iload_n 1, 1) := by decide +kernel
theorem dX12_localRow_37 : decode cX12_localRow 37 = .ok (.invokevirtual 279, 3) := by decide +kernel
theorem dX12_localRow_40 : decode cX12_localRow 40 = .ok (.aload_n 0, 1) := by decide +kernel
theorem dX12_localRow_41 : decode cX12_localRow 41 = .ok (.iload_n 2, 1) := by decide +kernel
theorem dX12_localRow_42 : decode cX12_localRow 42 = .ok (.iload_n 3, 1) := by decide +kernel
theorem dX12_localRow_43 : decode cX12_localRow 43 = .ok (.iconst 0, 1) := by decide +kernel
theorem dX12_localRow_44 : decode cX12_localRow 44 = .ok (.invokevirtual 286, 3) := by decide +kernel
theorem dX12_localRow_47 : decode cX12_localRow 47 = .ok (.return_, 1) := by decide +kernel
theorem dX12_instruction_0 : decode cX12_instruction 0 = .ok (.aload_n 0, 1) := by decide +kernel
theorem dX12_instruction_1 : decode cX12_instruction 1 = .ok (.iload_n 1, 1) := by decide +kernel
theorem dX12_instruction_2 : decode cX12_instruction 2 = .ok (.invokevirtual 244, 3) := by decide +kernel
theorem dX12_instruction_5 : decode cX12_instruction 5 = .ok (.istore_n 2, 1) := by decide +kernel
theorem dX12_instruction_6 : decode cX12_instruction 6 = .ok (.iload_n 2, 1) := by decide +kernel
theorem dX12_instruction_7 : decode cX12_instruction 7 = .ok (.iconst 2, 1) := by decide +kernel
theorem dX12_instruction_8 : decode cX12_instruction 8 = .ok (.if_icmp .lt 23, 3) := by decide +kernel
theorem dX12_instruction_11 : decode cX12_instruction 11 = .ok (.iload_n 2, 1) := by decide +kernel
theorem dX12_instruction_12 : decode cX12_instruction 12 = .ok (.bipush 8, 2) := by decide +kernel
theorem dX12_instruction_14 : decode cX12_instruction 14 = .ok (.if_icmp .gt 17, 3) := by decide +kernel
theorem dX12_instruction_17 : decode cX12_instruction 17 = .ok (.aload_n 0, 1) := by decide +kernel
theorem dX12_instruction_18 : decode cX12_instruction 18 = .ok (.sipush 300, 3) := by decide +kernel
theorem dX12_instruction_21 : decode cX12_instruction 21 = .ok (.iload_n 2, 1) := by decide +kernel
theorem dX12_instruction_22 : decode cX12_instruction 22 = .ok (.iconst 3, 1) := by decide +kernel
theorem dX12_instruction_23 : decode cX12_instruction 23 = .ok (.isub, 1) := by decide +kernel
theorem dX12_instruction_24 : decode cX12_instruction 24 = .ok (.iconst 0, 1) := by decide +kernel
theorem dX12_instruction_25 : decode cX12_instruction 25 = .ok (.invokevirtual 286, 3) := by decide +kernel
theorem dX12_instruction_28 : decode cX12_instruction 28 = .ok (.goto 559, 3) := by decide +kernel
theorem dX12_instruction_31 : decode cX12_instruction 31 = .ok (.iload_n 2, 1) := by decide +kernel
theorem dX12_instruction_32 : decode cX12_instruction 32 = .ok (.bipush 9, 2) := by decide +kernel
theorem dX12_instruction_34 : decode cX12_instruction 34 = .ok (.if_icmp .eq 9, 3) := by decide +kernel
theorem dX12_instruction_37 : decode cX12_instruction 37 = .ok (.iload_n 2, 1) := by decide +kernel
theorem dX12_instruction_38 : decode cX12_instruction 38 = .ok (.bipush 10, 2) := by decide +kernel
theorem dX12_instruction_40 : decode cX12_instruction 40 = .ok (.if_icmp .ne 18, 3) := by decide +kernel
theorem dX12_instruction_43 : decode cX12_instruction 43 = .ok (.aload_n 0, 1) := by decide +kernel
theorem dX12_instruction_44 : decode cX12_instruction 44 = .ok (.sipush 301, 3) := by decide +kernel
theorem dX12_instruction_47 : decode cX12_instruction 47 = .ok (.iconst 0, 1) := by decide +kernel
theorem dX12_instruction_48 : decode cX12_instruction 48 = .ok (.iload_n 2, 1) := by decide +kernel
theorem dX12_instruction_49 : decode cX12_instruction 49 = .ok (.bipush 9, 2) := by decide +kernel
theorem dX12_instruction_51 : decode cX12_instruction 51 = .ok (.isub, 1) := by decide +kernel
theorem dX12_instruction_52 : decode cX12_instruction 52 = .ok (.invokevirtual 286, 3) := by decide +kernel
theorem dX12_instruction_55 : decode cX12_instruction 55 = .ok (.goto 532, 3) := by decide +kernel
theorem dX12_instruction_58 : decode cX12_instruction 58 = .ok (.iload_n 2, 1) := by decide +kernel
theorem dX12_instruction_59 : decode cX12_instruction 59 = .ok (.bipush 16, 2) := by decide +kernel
theorem dX12_instruction_61 : decode cX12_instruction 61 = .ok (.if_icmp .ne 27, 3) := by decide +kernel
theorem dX12_instruction_64 : decode cX12_instruction 64 = .ok (.aload_n 0, 1) := by decide +kernel
theorem dX12_instruction_65 : decode cX12_instruction 65 = .ok (.sipush 300, 3) := by decide +kernel
theorem dX12_instruction_68 : decode cX12_instruction 68 = .ok (.aload_n 0, 1) := by decide +kernel
theorem dX12_instruction_69 : decode cX12_instruction 69 = .ok (.getfield 121, 3) := by decide +kernel
theorem dX12_instruction_72 : decode cX12_instruction 72 = .ok (.aload_n 0, 1) := by decide +kernel
theorem dX12_instruction_73 : decode cX12_instruction 73 = .ok (.getfield 241, 3) := by decide +kernel
theorem dX12_instruction_76 : decode cX12_instruction 76 = .ok (.iload_n 1, 1) := by decide +kernel
theorem dX12_instruction_77 : decode cX12_instruction 77 = .ok (.iadd, 1) := by decide +kernel
theorem dX12_instruction_78 : decode cX12_instruction 78 = .ok (.iconst 1, 1) := by decide +kernel
theorem dX12_instruction_79 : decode cX12_instruction 79 = .ok (.iadd, 1) := by decide +kernel
theorem dX12_instruction_80 : decode cX12_instruction 80 = .ok (.baload, 1) := by decide +kernel
theorem dX12_instruction_81 : decode cX12_instruction 81 = .ok (.iconst 0, 1) := by decide +kernel
theorem dX12_instruction_82 : decode cX12_instruction 82 = .ok (.invokevirtual 286, 3) := by decide +kernel
theorem dX12_instruction_85 : decode cX12_instruction 85 = .ok (.goto 502, 3) := by decide +kernel
theorem dX12_instruction_88 : decode cX12_instruction 88 = .ok (.iload_n 2, 1) := by decide +kernel
theorem dX12_instruction_89 : decode cX12_instruction 89 = .ok (.bipush 17, 2) := by decide +kernel
theorem dX12_instruction_91 : decode cX12_instruction 91 = .ok (.if_icmp .ne 21, 3) := by decide +kernel
theorem dX12_instruction_94 : decode cX12_instruction 94 = .ok (.aload_n 0, 1) := by decide +kernel
theorem dX12_instruction_95 : decode cX12_instruction 95 = .ok (.sipush 300, 3) := by decide +kernel
theorem dX12_instruction_98 : decode cX12_instruction 98 = .ok (.aload_n 0, 1) := by decide +kernel
theorem dX12_instruction_99 : decode cX12_instruction 99 = .ok (.iload_n 1, 1) := by decide +kernel
theorem dX12_instruction_100 : decode cX12_instruction 100 = .ok (.iconst 1, 1) := by decide +kernel
theorem dX12_instruction_101 : decode cX12_instruction 101 = .ok (.iadd, 1) := by decide +kernel
theorem dX12_instruction_102 : decode cX12_instruction 102 = .ok (.invokevirtual 290, 3) := by decide +kernel
theorem dX12_instruction_105 : decode cX12_instruction 105 = .ok (.iconst 0, 1) := by decide +kernel
theorem dX12_instruction_106 : decode cX12_instruction 106 = .ok (.invokevirtual 286, 3) := by decide +kernel
theorem dX12_instruction_109 : decode cX12_instruction 109 = .ok (.goto 478, 3) := by decide +kernel
theorem dX12_instruction_112 : decode cX12_instruction 112 = .ok (.iload_n 2, 1) := by decide +kernel
theorem dX12_instruction_113 : decode cX12_instruction 113 = .ok (.bipush 18, 2) := by decide +kernel
theorem dX12_instruction_115 : decode cX12_instruction 115 = .ok (.if_icmp .eq 9, 3) := by decide +kernel
theorem dX12_instruction_118 : decode cX12_instruction 118 = .ok (.iload_n 2, 1) := by decide +kernel
theorem dX12_instruction_119 : decode cX12_instruction 119 = .ok (.bipush 19, 2) := by decide +kernel
theorem dX12_instruction_121 : decode cX12_instruction 121 = .ok (.if_icmp .ne 39, 3) := by decide +kernel
theorem dX12_instruction_124 : decode cX12_instruction 124 = .ok (.aload_n 0, 1) := by decide +kernel
theorem dX12_instruction_125 : decode cX12_instruction 125 = .ok (.iload_n 1, 1) := by decide +kernel
theorem dX12_instruction_126 : decode cX12_instruction 126 = .ok (.iload_n 2, 1) := by decide +kernel
theorem dX12_instruction_127 : decode cX12_instruction 127 = .ok (.bipush 18, 2) := by decide +kernel
theorem dX12_instruction_129 : decode cX12_instruction 129 = .ok (.if_icmp .ne 13, 3) := by decide +kernel
theorem dX12_instruction_132 : decode cX12_instruction 132 = .ok (.aload_n 0, 1) := by decide +kernel
theorem dX12_instruction_133 : decode cX12_instruction 133 = .ok (.iload_n 1, 1) := by decide +kernel
theorem dX12_instruction_134 : decode cX12_instruction 134 = .ok (.iconst 1, 1) := by decide +kernel
theorem dX12_instruction_135 : decode cX12_instruction 135 = .ok (.iadd, 1) := by decide +kernel
theorem dX12_instruction_136 : decode cX12_instruction 136 = .ok (.invokevirtual 244, 3) := by decide +kernel
theorem dX12_instruction_139 : decode cX12_instruction 139 = .ok (.goto 14, 3) := by decide +kernel
theorem dX12_instruction_142 : decode cX12_instruction 142 = .ok (.aload_n 0, 1) := by decide +kernel
theorem dX12_instruction_143 : decode cX12_instruction 143 = .ok (.iload_n 1, 1) := by decide +kernel
theorem dX12_instruction_144 : decode cX12_instruction 144 = .ok (.iconst 1, 1) := by decide +kernel
theorem dX12_instruction_145 : decode cX12_instruction 145 = .ok (.iadd, 1) := by decide +kernel
theorem dX12_instruction_146 : decode cX12_instruction 146 = .ok (.invokevirtual 290, 3) := by decide +kernel
theorem dX12_instruction_149 : decode cX12_instruction 149 = .ok (.ldc_w 293, 3) := by decide +kernel
theorem dX12_instruction_152 : decode cX12_instruction 152 = .ok (.iand, 1) := by decide +kernel
theorem dX12_instruction_153 : decode cX12_instruction 153 = .ok (.iconst 3, 1) := by decide +kernel
theorem dX12_instruction_154 : decode cX12_instruction 154 = .ok (.invokevirtual 294, 3) := by decide +kernel
theorem dX12_instruction_157 : decode cX12_instruction 157 = .ok (.goto 430, 3) := by decide +kernel
theorem dX12_instruction_160 : decode cX12_instruction 160 = .ok (.iload_n 2, 1) := by decide +kernel
theorem dX12_instruction_161 : decode cX12_instruction 161 = .ok (.bipush 20, 2) := by decide +kernel
theorem dX12_instruction_163 : decode cX12_instruction 163 = .ok (.if_icmp .ne 23, 3) := by decide +kernel
theorem dX12_instruction_166 : decode cX12_instruction 166 = .ok (.aload_n 0, 1) := by decide +kernel
theorem dX12_instruction_167 : decode cX12_instruction 167 = .ok (.iload_n 1, 1) := by decide +kernel
theorem dX12_instruction_168 : decode cX12_instruction 168 = .ok (.aload_n 0, 1) := by decide +kernel
theorem dX12_instruction_169 : decode cX12_instruction 169 = .ok (.iload_n 1, 1) := by decide +kernel
theorem dX12_instruction_170 : decode cX12_instruction 170 = .ok (.iconst 1, 1) := by decide +kernel
theorem dX12_instruction_171 : decode cX12_instruction 171 = .ok (.iadd, 1) := by decide +kernel
theorem dX12_instruction_172 : decode cX12_instruction 172 = .ok (.invokevirtual 290, 3) := by decide +kernel
theorem dX12_instruction_175 : decode cX12_instruction 175 = .ok (.ldc_w 293, 3) := by decide +kernel
theorem dX12_instruction_178 : decode cX12_instruction 178 = .ok (.iand, 1) := by decide +kernel
theorem dX12_instruction_179 : decode cX12_instruction 179 = .ok (.iconst 5, 1) := by decide +kernel
theorem dX12_instruction_180 : decode cX12_instruction 180 = .ok (.invokevirtual 294, 3) := by decide +kernel
theorem dX12_instruction_183 : decode cX12_instruction 183 = .ok (.goto 404, 3) := by decide +kernel
theorem dX12_instruction_186 : decode cX12_instruction 186 = .ok (.iload_n 2, 1) := by decide +kernel
theorem dX12_instruction_187 : decode cX12_instruction 187 = .ok (.bipush 26, 2) := by decide +kernel
theorem dX12_instruction_189 : decode cX12_instruction 189 = .ok (.if_icmp .lt 36, 3) := by decide +kernel
theorem dX12_instruction_192 : decode cX12_instruction 192 = .ok (.iload_n 2, 1) := by decide +kernel
theorem dX12_instruction_193 : decode cX12_instruction 193 = .ok (.bipush 33, 2) := by decide +kernel
theorem dX12_instruction_195 : decode cX12_instruction 195 = .ok (.if_icmp .gt 30, 3) := by decide +kernel
theorem dX12_instruction_198 : decode cX12_instruction 198 = .ok (.aload_n 0, 1) := by decide +kernel
theorem dX12_instruction_199 : decode cX12_instruction 199 = .ok (.iload_n 1, 1) := by decide +kernel
theorem dX12_instruction_200 : decode cX12_instruction 200 = .ok (.iload_n 2, 1) := by decide +kernel
theorem dX12_instruction_201 : decode cX12_instruction 201 = .ok (.bipush 30, 2) := by decide +kernel
theorem dX12_instruction_203 : decode cX12_instruction 203 = .ok (.if_icmp .ge 8, 3) := by decide +kernel
theorem dX12_instruction_206 : decode cX12_instruction 206 = .ok (.bipush 21, 2) := by decide +kernel
theorem dX12_instruction_208 : decode cX12_instruction 208 = .ok (.goto 5, 3) := by decide +kernel
theorem dX12_instruction_211 : decode cX12_instruction 211 = .ok (.bipush 22, 2) := by decide +kernel
theorem dX12_instruction_213 : decode cX12_instruction 213 = .ok (.iload_n 2, 1) := by decide +kernel
theorem dX12_instruction_214 : decode cX12_instruction 214 = .ok (.bipush 26, 2) := by decide +kernel
theorem dX12_instruction_216 : decode cX12_instruction 216 = .ok (.isub, 1) := by decide +kernel
theorem dX12_instruction_217 : decode cX12_instruction 217 = .ok (.iconst 4, 1) := by decide +kernel
theorem dX12_instruction_218 : decode cX12_instruction 218 = .ok (.irem, 1) := by decide +kernel
theorem dX12_instruction_219 : decode cX12_instruction 219 = .ok (.invokevirtual 297, 3) := by decide +kernel
theorem dX12_instruction_222 : decode cX12_instruction 222 = .ok (.goto 365, 3) := by decide +kernel
theorem dX12_instruction_225 : decode cX12_instruction 225 = .ok (.iload_n 2, 1) := by decide +kernel
theorem dX12_instruction_226 : decode cX12_instruction 226 = .ok (.bipush 42, 2) := by decide +kernel
theorem dX12_instruction_228 : decode cX12_instruction 228 = .ok (.if_icmp .lt 23, 3) := by decide +kernel
theorem dX12_instruction_231 : decode cX12_instruction 231 = .ok (.iload_n 2, 1) := by decide +kernel
theorem dX12_instruction_232 : decode cX12_instruction 232 = .ok (.bipush 45, 2) := by decide +kernel
theorem dX12_instruction_234 : decode cX12_instruction 234 = .ok (.if_icmp .gt 17, 3) := by decide +kernel
theorem dX12_instruction_237 : decode cX12_instruction 237 = .ok (.aload_n 0, 1) := by decide +kernel
theorem dX12_instruction_238 : decode cX12_instruction 238 = .ok (.iload_n 1, 1) := by decide +kernel
theorem dX12_instruction_239 : decode cX12_instruction 239 = .ok (.bipush 25, 2) := by decide +kernel
theorem dX12_instruction_241 : decode cX12_instruction 241 = .ok (.iload_n 2, 1) := by decide +kernel
theorem dX12_instruction_242 : decode cX12_instruction 242 = .ok (.bipush 42, 2) := by decide +kernel
theorem dX12_instruction_244 : decode cX12_instruction 244 = .ok (.isub, 1) := by decide +kernel
theorem dX12_instruction_245 : decode cX12_instruction 245 = .ok (.invokevirtual 297, 3) := by decide +kernel
theorem dX12_instruction_248 : decode cX12_instruction 248 = .ok (.goto 339, 3) := by decide +kernel
theorem dX12_instruction_251 : decode cX12_instruction 251 = .ok (.iload_n 2, 1) := by decide +kernel
theorem dX12_instruction_252 : decode cX12_instruction 252 = .ok (.bipush 59, 2) := by decide +kernel
theorem dX12_instruction_254 : decode cX12_instruction 254 = .ok (.if_icmp .lt 36, 3) := by decide +kernel
theorem dX12_instruction_257 : decode cX12_instruction 257 = .ok (.iload_n 2, 1) := by decide +kernel
theorem dX12_instruction_258 : decode cX12_instruction 258 = .ok (.bipush 66, 2) := by decide +kernel
theorem dX12_instruction_260 : decode cX12_instruction 260 = .ok (.if_icmp .gt 30, 3) := by decide +kernel
theorem dX12_instruction_263 : decode cX12_instruction 263 = .ok (.aload_n 0, 1) := by decide +kernel
theorem dX12_instruction_264 : decode cX12_instruction 264 = .ok (.iload_n 1, 1) := by decide +kernel
theorem dX12_instruction_265 : decode cX12_instruction 265 = .ok (.iload_n 2, 1) := by decide +kernel
theorem dX12_instruction_266 : decode cX12_instruction 266 = .ok (.bipush 63, 2) := by decide +kernel
theorem dX12_instruction_268 : decode cX12_instruction 268 = .ok (.if_icmp .ge 8, 3) := by decide +kernel
theorem dX12_instruction_271 : decode cX12_instruction 271 = .ok (.bipush 54, 2) := by decide +kernel
theorem dX12_instruction_273 : decode cX12_instruction 273 = .ok (.goto 5, 3) := by decide +kernel
theorem dX12_instruction_276 : decode cX12_instruction 276 = .ok (.bipush 55, 2) := by decide +kernel
theorem dX12_instruction_278 : decode cX12_instruction 278 = .ok (.iload_n 2, 1) := by decide +kernel
theorem dX12_instruction_279 : decode cX12_instruction 279 = .ok (.bipush 59, 2) := by decide +kernel
theorem dX12_instruction_281 : decode cX12_instruction 281 = .ok (.isub, 1) := by decide +kernel
theorem dX12_instruction_282 : decode cX12_instruction 282 = .ok (.iconst 4, 1) := by decide +kernel
theorem dX12_instruction_283 : decode cX12_instruction 283 = .ok (.irem, 1) := by decide +kernel
theorem dX12_instruction_284 : decode cX12_instruction 284 = .ok (.invokevirtual 297, 3) := by decide +kernel
theorem dX12_instruction_287 : decode cX12_instruction 287 = .ok (.goto 300, 3) := by decide +kernel
theorem dX12_instruction_290 : decode cX12_instruction 290 = .ok (.iload_n 2, 1) := by decide +kernel
theorem dX12_instruction_291 : decode cX12_instruction 291 = .ok (.bipush 75, 2) := by decide +kernel
theorem dX12_instruction_293 : decode cX12_instruction 293 = .ok (.if_icmp .lt 23, 3) := by decide +kernel
theorem dX12_instruction_296 : decode cX12_instruction 296 = .ok (.iload_n 2, 1) := by decide +kernel
theorem dX12_instruction_297 : decode cX12_instruction 297 = .ok (.bipush 78, 2) := by decide +kernel
theorem dX12_instruction_299 : decode cX12_instruction 299 = .ok (.if_icmp .gt 17, 3) := by decide +kernel
theorem dX12_instruction_302 : decode cX12_instruction 302 = .ok (.aload_n 0, 1) := by decide +kernel
theorem dX12_instruction_303 : decode cX12_instruction 303 = .ok (.iload_n 1, 1) := by decide +kernel
theorem dX12_instruction_304 : decode cX12_instruction 304 = .ok (.bipush 58, 2) := by decide +kernel
theorem dX12_instruction_306 : decode cX12_instruction 306 = .ok (.iload_n 2, 1) := by decide +kernel
theorem dX12_instruction_307 : decode cX12_instruction 307 = .ok (.bipush 75, 2) := by decide +kernel
theorem dX12_instruction_309 : decode cX12_instruction 309 = .ok (.isub, 1) := by decide +kernel
theorem dX12_instruction_310 : decode cX12_instruction 310 = .ok (.invokevirtual 297, 3) := by decide +kernel
theorem dX12_instruction_313 : decode cX12_instruction 313 = .ok (.goto 274, 3) := by decide +kernel
theorem dX12_instruction_316 : decode cX12_instruction 316 = .ok (.iload_n 2, 1) := by decide +kernel
theorem dX12_instruction_317 : decode cX12_instruction 317 = .ok (.bipush 21, 2) := by decide +kernel
theorem dX12_instruction_319 : decode cX12_instruction 319 = .ok (.if_icmp .eq 33, 3) := by decide +kernel
theorem dX12_instruction_322 : decode cX12_instruction 322 = .ok (.iload_n 2, 1) := by decide +kernel
theorem dX12_instruction_323 : decode cX12_instruction 323 = .ok (.bipush 22, 2) := by decide +kernel
theorem dX12_instruction_325 : decode cX12_instruction 325 = .ok (.if_icmp .eq 27, 3) := by decide +kernel
theorem dX12_instruction_328 : decode cX12_instruction 328 = .ok (.iload_n 2, 1) := by decide +kernel
theorem dX12_instruction_329 : decode cX12_instruction 329 = .ok (.bipush 25, 2) := by decide +kernel
theorem dX12_instruction_331 : decode cX12_instruction 331 = .ok (.if_icmp .eq 21, 3) := by decide +kernel
theorem dX12_instruction_334 : decode cX12_instruction 334 = .ok (.iload_n 2, 1) := by decide +kernel
theorem dX12_instruction_335 : decode cX12_instruction 335 = .ok (.bipush 54, 2) := by decide +kernel
theorem dX12_instruction_337 : decode cX12_instruction 337 = .ok (.if_icmp .eq 15, 3) := by decide +kernel
theorem dX12_instruction_340 : decode cX12_instruction 340 = .ok (.iload_n 2, 1) := by decide +kernel
theorem dX12_instruction_341 : decode cX12_instruction 341 = .ok (.bipush 55, 2) := by decide +kernel
theorem dX12_instruction_343 : decode cX12_instruction 343 = .ok (.if_icmp .eq 9, 3) := by decide +kernel
theorem dX12_instruction_346 : decode cX12_instruction 346 = .ok (.iload_n 2, 1) := by decide +kernel
theorem dX12_instruction_347 : decode cX12_instruction 347 = .ok (.bipush 58, 2) := by decide +kernel
theorem dX12_instruction_349 : decode cX12_instruction 349 = .ok (.if_icmp .ne 19, 3) := by decide +kernel
theorem dX12_instruction_352 : decode cX12_instruction 352 = .ok (.aload_n 0, 1) := by decide +kernel
theorem dX12_instruction_353 : decode cX12_instruction 353 = .ok (.iload_n 1, 1) := by decide +kernel
theorem dX12_instruction_354 : decode cX12_instruction 354 = .ok (.iload_n 2, 1) := by decide +kernel
theorem dX12_instruction_355 : decode cX12_instruction 355 = .ok (.aload_n 0, 1) := by decide +kernel
theorem dX12_instruction_356 : decode cX12_instruction 356 = .ok (.iload_n 1, 1) := by decide +kernel
theorem dX12_instruction_357 : decode cX12_instruction 357 = .ok (.iconst 1, 1) := by decide +kernel
theorem dX12_instruction_358 : decode cX12_instruction 358 = .ok (.iadd, 1) := by decide +kernel
theorem dX12_instruction_359 : decode cX12_instruction 359 = .ok (.invokevirtual 244, 3) := by decide +kernel
theorem dX12_instruction_362 : decode cX12_instruction 362 = .ok (.invokevirtual 297, 3) := by decide +kernel
theorem dX12_instruction_365 : decode cX12_instruction 365 = .ok (.goto 222, 3) := by decide +kernel
theorem dX12_instruction_368 : decode cX12_instruction 368 = .ok (.iload_n 2, 1) := by decide +kernel
theorem dX12_instruction_369 : decode cX12_instruction 369 = .ok (.sipush 132, 3) := by decide +kernel
theorem dX12_instruction_372 : decode cX12_instruction 372 = .ok (.if_icmp .ne 31, 3) := by decide +kernel
theorem dX12_instruction_375 : decode cX12_instruction 375 = .ok (.aload_n 0, 1) := by decide +kernel
theorem dX12_instruction_376 : decode cX12_instruction 376 = .ok (.iload_n 1, 1) := by decide +kernel
theorem dX12_instruction_377 : decode cX12_instruction 377 = .ok (.aload_n 0, 1) := by decide +kernel
theorem dX12_instruction_378 : decode cX12_instruction 378 = .ok (.iload_n 1, 1) := by decide +kernel
theorem dX12_instruction_379 : decode cX12_instruction 379 = .ok (.iconst 1, 1) := by decide +kernel
theorem dX12_instruction_380 : decode cX12_instruction 380 = .ok (.iadd, 1) := by decide +kernel
theorem dX12_instruction_381 : decode cX12_instruction 381 = .ok (.invokevirtual 244, 3) := by decide +kernel
theorem dX12_instruction_384 : decode cX12_instruction 384 = .ok (.aload_n 0, 1) := by decide +kernel
theorem dX12_instruction_385 : decode cX12_instruction 385 = .ok (.getfield 121, 3) := by decide +kernel
theorem dX12_instruction_388 : decode cX12_instruction 388 = .ok (.aload_n 0, 1) := by decide +kernel
theorem dX12_instruction_389 : decode cX12_instruction 389 = .ok (.getfield 241, 3) := by decide +kernel
theorem dX12_instruction_392 : decode cX12_instruction 392 = .ok (.iload_n 1, 1) := by decide +kernel
theorem dX12_instruction_393 : decode cX12_instruction 393 = .ok (.iadd, 1) := by decide +kernel
theorem dX12_instruction_394 : decode cX12_instruction 394 = .ok (.iconst 2, 1) := by decide +kernel
theorem dX12_instruction_395 : decode cX12_instruction 395 = .ok (.iadd, 1) := by decide +kernel
theorem dX12_instruction_396 : decode cX12_instruction 396 = .ok (.baload, 1) := by decide +kernel
theorem dX12_instruction_397 : decode cX12_instruction 397 = .ok (.invokevirtual 300, 3) := by decide +kernel
theorem dX12_instruction_400 : decode cX12_instruction 400 = .ok (.goto 187, 3) := by decide +kernel
theorem dX12_instruction_403 : decode cX12_instruction 403 = .ok (.iload_n 2, 1) := by decide +kernel
theorem dX12_instruction_404 : decode cX12_instruction 404 = .ok (.sipush 196, 3) := by decide +kernel
theorem dX12_instruction_407 : decode cX12_instruction 407 = .ok (.if_icmp .ne 18, 3) := by decide +kernel
theorem dX12_instruction_410 : decode cX12_instruction 410 = .ok (.aload_n 0, 1) := by decide +kernel
theorem dX12_instruction_411 : decode cX12_instruction 411 = .ok (.iload_n 1, 1) := by decide +kernel
theorem dX12_instruction_412 : decode cX12_instruction 412 = .ok (.aload_n 0, 1) := by decide +kernel
theorem dX12_instruction_413 : decode cX12_instruction 413 = .ok (.iload_n 1, 1) := by decide +kernel
theorem dX12_instruction_414 : decode cX12_instruction 414 = .ok (.iconst 1, 1) := by decide +kernel
theorem dX12_instruction_415 : decode cX12_instruction 415 = .ok (.iadd, 1) := by decide +kernel
theorem dX12_instruction_416 : decode cX12_instruction 416 = .ok (.invokevirtual 244, 3) := by decide +kernel
theorem dX12_instruction_419 : decode cX12_instruction 419 = .ok (.invokevirtual 303, 3) := by decide +kernel
theorem dX12_instruction_422 : decode cX12_instruction 422 = .ok (.goto 165, 3) := by decide +kernel
theorem dX12_instruction_425 : decode cX12_instruction 425 = .ok (.iload_n 2, 1) := by decide +kernel
theorem dX12_instruction_426 : decode cX12_instruction 426 = .ok (.sipush 153, 3) := by decide +kernel
theorem dX12_instruction_429 : decode cX12_instruction 429 = .ok (.if_icmp .lt 10, 3) := by decide +kernel
theorem dX12_instruction_432 : decode cX12_instruction 432 = .ok (.iload_n 2, 1) := by decide +kernel
theorem dX12_instruction_433 : decode cX12_instruction 433 = .ok (.sipush 167, 3) := by decide +kernel
theorem dX12_instruction_436 : decode cX12_instruction 436 = .ok (.if_icmp .le 17, 3) := by decide +kernel
theorem dX12_instruction_439 : decode cX12_instruction 439 = .ok (.iload_n 2, 1) := by decide +kernel
theorem dX12_instruction_440 : decode cX12_instruction 440 = .ok (.sipush 198, 3) := by decide +kernel
theorem dX12_instruction_443 : decode cX12_instruction 443 = .ok (.if_icmp .eq 10, 3) := by decide +kernel
theorem dX12_instruction_446 : decode cX12_instruction 446 = .ok (.iload_n 2, 1) := by decide +kernel
theorem dX12_instruction_447 : decode cX12_instruction 447 = .ok (.sipush 199, 3) := by decide +kernel
theorem dX12_instruction_450 : decode cX12_instruction 450 = .ok (.if_icmp .ne 24, 3) := by decide +kernel
theorem dX12_instruction_453 : decode cX12_instruction 453 = .ok (.aload_n 0, 1) := by decide +kernel
theorem dX12_instruction_454 : decode cX12_instruction 454 = .ok (.iload_n 2, 1) := by decide +kernel
theorem dX12_instruction_455 : decode cX12_instruction 455 = .ok (.aload_n 0, 1) := by decide +kernel
theorem dX12_instruction_456 : decode cX12_instruction 456 = .ok (.iload_n 1, 1) := by decide +kernel
theorem dX12_instruction_457 : decode cX12_instruction 457 = .ok (.aload_n 0, 1) := by decide +kernel
theorem dX12_instruction_458 : decode cX12_instruction 458 = .ok (.iload_n 1, 1) := by decide +kernel
theorem dX12_instruction_459 : decode cX12_instruction 459 = .ok (.iconst 1, 1) := by decide +kernel
theorem dX12_instruction_460 : decode cX12_instruction 460 = .ok (.iadd, 1) := by decide +kernel
theorem dX12_instruction_461 : decode cX12_instruction 461 = .ok (.invokevirtual 290, 3) := by decide +kernel
theorem dX12_instruction_464 : decode cX12_instruction 464 = .ok (.invokevirtual 306, 3) := by decide +kernel
theorem dX12_instruction_467 : decode cX12_instruction 467 = .ok (.iconst 0, 1) := by decide +kernel
theorem dX12_instruction_468 : decode cX12_instruction 468 = .ok (.invokevirtual 286, 3) := by decide +kernel
theorem dX12_instruction_471 : decode cX12_instruction 471 = .ok (.goto 116, 3) := by decide +kernel
theorem dX12_instruction_474 : decode cX12_instruction 474 = .ok (.iload_n 2, 1) := by decide +kernel
theorem dX12_instruction_475 : decode cX12_instruction 475 = .ok (.sipush 200, 3) := by decide +kernel
theorem dX12_instruction_478 : decode cX12_instruction 478 = .ok (.if_icmp .ne 26, 3) := by decide +kernel
theorem dX12_instruction_481 : decode cX12_instruction 481 = .ok (.aload_n 0, 1) := by decide +kernel
theorem dX12_instruction_482 : decode cX12_instruction 482 = .ok (.sipush 167, 3) := by decide +kernel
theorem dX12_instruction_485 : decode cX12_instruction 485 = .ok (.aload_n 0, 1) := by decide +kernel
theorem dX12_instruction_486 : decode cX12_instruction 486 = .ok (.iload_n 1, 1) := by decide +kernel
theorem dX12_instruction_487 : decode cX12_instruction 487 = .ok (.aload_n 0, 1) := by decide +kernel
theorem dX12_instruction_488 : decode cX12_instruction 488 = .ok (.iload_n 1, 1) := by decide +kernel
theorem dX12_instruction_489 : decode cX12_instruction 489 = .ok (.iconst 1, 1) := by decide +kernel
theorem dX12_instruction_490 : decode cX12_instruction 490 = .ok (.iadd, 1) := by decide +kernel
theorem dX12_instruction_491 : decode cX12_instruction 491 = .ok (.invokevirtual 259, 3) := by decide +kernel
theorem dX12_instruction_494 : decode cX12_instruction 494 = .ok (.invokevirtual 306, 3) := by decide +kernel
theorem dX12_instruction_497 : decode cX12_instruction 497 = .ok (.iconst 0, 1) := by decide +kernel
theorem dX12_instruction_498 : decode cX12_instruction 498 = .ok (.invokevirtual 286, 3) := by decide +kernel
theorem dX12_instruction_501 : decode cX12_instruction 501 = .ok (.goto 86, 3) := by decide +kernel
theorem dX12_instruction_504 : decode cX12_instruction 504 = .ok (.iload_n 2, 1) := by decide +kernel
theorem dX12_instruction_505 : decode cX12_instruction 505 = .ok (.sipush 170, 3) := by decide +kernel
theorem dX12_instruction_508 : decode cX12_instruction 508 = .ok (.if_icmp .eq 10, 3) := by decide +kernel
theorem dX12_instruction_511 : decode cX12_instruction 511 = .ok (.iload_n 2, 1) := by decide +kernel
theorem dX12_instruction_512 : decode cX12_instruction 512 = .ok (.sipush 171, 3) := by decide +kernel
theorem dX12_instruction_515 : decode cX12_instruction 515 = .ok (.if_icmp .ne 12, 3) := by decide +kernel
theorem dX12_instruction_518 : decode cX12_instruction 518 = .ok (.aload_n 0, 1) := by decide +kernel
theorem dX12_instruction_519 : decode cX12_instruction 519 = .ok (.iload_n 1, 1) := by decide +kernel
theorem dX12_instruction_520 : decode cX12_instruction 520 = .ok (.iload_n 2, 1) := by decide +kernel
theorem dX12_instruction_521 : decode cX12_instruction 521 = .ok (.invokevirtual 309, 3) := by decide +kernel
theorem dX12_instruction_524 : decode cX12_instruction 524 = .ok (.goto 63, 3) := by decide +kernel
theorem dX12_instruction_527 : decode cX12_instruction 527 = .ok (.iload_n 2, 1) := by decide +kernel
theorem dX12_instruction_528 : decode cX12_instruction 528 = .ok (.sipush 178, 3) := by decide +kernel
theorem dX12_instruction_531 : decode cX12_instruction 531 = .ok (.if_icmp .eq 10, 3) := by decide +kernel
theorem dX12_instruction_534 : decode cX12_instruction 534 = .ok (.iload_n 2, 1) := by decide +kernel
theorem dX12_instruction_535 : decode cX12_instruction 535 = .ok (.sipush 179, 3) := by decide +kernel
theorem dX12_instruction_538 : decode cX12_instruction 538 = .ok (.if_icmp .ne 19, 3) := by decide +kernel
theorem dX12_instruction_541 : decode cX12_instruction 541 = .ok (.aload_n 0, 1) := by decide +kernel
theorem dX12_instruction_542 : decode cX12_instruction 542 = .ok (.iload_n 2, 1) := by decide +kernel
theorem dX12_instruction_543 : decode cX12_instruction 543 = .ok (.aload_n 0, 1) := by decide +kernel
theorem dX12_instruction_544 : decode cX12_instruction 544 = .ok (.iload_n 1, 1) := by decide +kernel
theorem dX12_instruction_545 : decode cX12_instruction 545 = .ok (.bipush 9, 2) := by decide +kernel
theorem dX12_instruction_547 : decode cX12_instruction 547 = .ok (.invokevirtual 312, 3) := by decide +kernel
theorem dX12_instruction_550 : decode cX12_instruction 550 = .ok (.iconst 0, 1) := by decide +kernel
theorem dX12_instruction_551 : decode cX12_instruction 551 = .ok (.invokevirtual 286, 3) := by decide +kernel
theorem dX12_instruction_554 : decode cX12_instruction 554 = .ok (.goto 33, 3) := by decide +kernel
theorem dX12_instruction_557 : decode cX12_instruction 557 = .ok (.iload_n 2, 1) := by decide +kernel
theorem dX12_instruction_558 : decode cX12_instruction 558 = .ok (.sipush 184, 3) := by decide +kernel
theorem dX12_instruction_561 : decode cX12_instruction 561 = .ok (.if_icmp .ne 19, 3) := by decide +kernel
theorem dX12_instruction_564 : decode cX12_instruction 564 = .ok (.aload_n 0, 1) := by decide +kernel
theorem dX12_instruction_565 : decode cX12_instruction 565 = .ok (.iload_n 2, 1) := by decide +kernel
theorem dX12_instruction_566 : decode cX12_instruction 566 = .ok (.aload_n 0, 1) := by decide +kernel
theorem dX12_instruction_567 : decode cX12_instruction 567 = .ok (.iload_n 1, 1) := by decide +kernel
theorem dX12_instruction_568 : decode cX12_instruction 568 = .ok (.bipush 10, 2) := by decide +kernel
theorem dX12_instruction_570 : decode cX12_instruction 570 = .ok (.invokevirtual 312, 3) := by decide +kernel
theorem dX12_instruction_573 : decode cX12_instruction 573 = .ok (.iconst 0, 1) := by decide +kernel
theorem dX12_instruction_574 : decode cX12_instruction 574 = .ok (.invokevirtual 286, 3) := by decide +kernel
theorem dX12_instruction_577 : decode cX12_instruction 577 = .ok (.goto 10, 3) := by decide +kernel
theorem dX12_instruction_580 : decode cX12_instruction 580 = .ok (.aload_n 0, 1) := by decide +kernel
theorem dX12_instruction_581 : decode cX12_instruction 581 = .ok (.iload_n 2, 1) := by decide +kernel
theorem dX12_instruction_582 : decode cX12_instruction 582 = .ok (.iconst 0, 1) := by decide +kernel
theorem dX12_instruction_583 : decode cX12_instruction 583 = .ok (.iconst 0, 1) := by decide +kernel
theorem dX12_instruction_584 : decode cX12_instruction 584 = .ok (.invokevirtual 286, 3) := by decide +kernel
theorem dX12_instruction_587 : decode cX12_instruction 587 = .ok (.return_, 1) := by decide +kernel
theorem dX12_pushed_0 : decode cX12_pushed 0 = .ok (.aload_n 0, 1) := by decide +kernel
theorem dX12_pushed_1 : decode cX12_pushed 1 = .ok (.aload_n 0, 1) := by decide +kernel
theorem dX12_pushed_2 : decode cX12_pushed 2 = .ok (.iload_n 2, 1) := by decide +kernel
theorem dX12_pushed_3 : decode cX12_pushed 3 = .ok (.iload_n 3, 1) := by decide +kernel
theorem dX12_pushed_4 : decode cX12_pushed 4 = .ok (.invokevirtual 192, 3) := by decide +kernel
theorem dX12_pushed_7 : decode cX12_pushed 7 = .ok (.iload_n 1, 1) := by decide +kernel
theorem dX12_pushed_8 : decode cX12_pushed 8 = .ok (.invokevirtual 279, 3) := by decide +kernel
theorem dX12_pushed_11 : decode cX12_pushed 11 = .ok (.iload_n 3, 1) := by decide +kernel
theorem dX12_pushed_12 : decode cX12_pushed 12 = .ok (.iconst 3, 1) := by decide +kernel
theorem dX12_pushed_13 : decode cX12_pushed 13 = .ok (.if_icmp .ne 21, 3) := by decide +kernel
theorem dX12_pushed_16 : decode cX12_pushed 16 = .ok (.aload_n 0, 1) := by decide +kernel
theorem dX12_pushed_17 : decode cX12_pushed 17 = .ok (.sipush 300, 3) := by decide +kernel
theorem dX12_pushed_20 : decode cX12_pushed 20 = .ok (.aload_n 0, 1) := by decide +kernel
theorem dX12_pushed_21 : decode cX12_pushed 21 = .ok (.getfield 37, 3) := by decide +kernel
theorem dX12_pushed_24 : decode cX12_pushed 24 = .ok (.iload_n 2, 1) := by decide +kernel
theorem dX12_pushed_25 : decode cX12_pushed 25 = .ok (.laload, 1) := by decide +kernel
theorem dX12_pushed_26 : decode cX12_pushed 26 = .ok (.l2i, 1) := by decide +kernel
theorem dX12_pushed_27 : decode cX12_pushed 27 = .ok (.iconst 0, 1) := by decide +kernel
theorem dX12_pushed_28 : decode cX12_pushed 28 = .ok (.invokevirtual 286, 3) := by decide +kernel
theorem dX12_pushed_31 : decode cX12_pushed 31 = .ok (.goto 27, 3) := by decide +kernel
theorem dX12_pushed_34 : decode cX12_pushed 34 = .ok (.aload_n 0, 1) := by decide +kernel
theorem dX12_pushed_35 : decode cX12_pushed 35 = .ok (.sipush 301, 3) := by decide +kernel
theorem dX12_pushed_38 : decode cX12_pushed 38 = .ok (.aload_n 0, 1) := by decide +kernel
theorem dX12_pushed_39 : decode cX12_pushed 39 = .ok (.getfield 37, 3) := by decide +kernel
theorem dX12_pushed_42 : decode cX12_pushed 42 = .ok (.iload_n 2, 1) := by decide +kernel
theorem dX12_pushed_43 : decode cX12_pushed 43 = .ok (.laload, 1) := by decide +kernel
theorem dX12_pushed_44 : decode cX12_pushed 44 = .ok (.bipush 32, 2) := by decide +kernel
theorem dX12_pushed_46 : decode cX12_pushed 46 = .ok (.lshr, 1) := by decide +kernel
theorem dX12_pushed_47 : decode cX12_pushed 47 = .ok (.l2i, 1) := by decide +kernel
theorem dX12_pushed_48 : decode cX12_pushed 48 = .ok (.aload_n 0, 1) := by decide +kernel
theorem dX12_pushed_49 : decode cX12_pushed 49 = .ok (.getfield 37, 3) := by decide +kernel
theorem dX12_pushed_52 : decode cX12_pushed 52 = .ok (.iload_n 2, 1) := by decide +kernel
theorem dX12_pushed_53 : decode cX12_pushed 53 = .ok (.laload, 1) := by decide +kernel
theorem dX12_pushed_54 : decode cX12_pushed 54 = .ok (.l2i, 1) := by decide +kernel
theorem dX12_pushed_55 : decode cX12_pushed 55 = .ok (.invokevirtual 286, 3) := by decide +kernel
theorem dX12_pushed_58 : decode cX12_pushed 58 = .ok (.return_, 1) := by decide +kernel
theorem dX12_grown_0 : decode cX12_grown 0 = .ok (.aload_n 0, 1) := by decide +kernel
theorem dX12_grown_1 : decode cX12_grown 1 = .ok (.iload_n 2, 1) := by decide +kernel
theorem dX12_grown_2 : decode cX12_grown 2 = .ok (.aload_n 0, 1) := by decide +kernel
theorem dX12_grown_3 : decode cX12_grown 3 = .ok (.getfield 283, 3) := by decide +kernel
theorem dX12_grown_6 : decode cX12_grown 6 = .ok (.if_icmp .ge 7, 3) := by decide +kernel
theorem dX12_grown_9 : decode cX12_grown 9 = .ok (.iconst 1, 1) := by decide +kernel
theorem dX12_grown_10 : decode cX12_grown 10 = .ok (.goto 4, 3) := by decide +kernel
theorem dX12_grown_13 : decode cX12_grown 13 = .ok (.iconst 0, 1) := by decide +kernel
theorem dX12_grown_14 : decode cX12_grown 14 = .ok (.iload_n 1, 1) := by decide +kernel
theorem dX12_grown_15 : decode cX12_grown 15 = .ok (.invokevirtual 279, 3) := by decide +kernel
theorem dX12_grown_18 : decode cX12_grown 18 = .ok (.aload_n 0, 1) := by decide +kernel
theorem dX12_grown_19 : decode cX12_grown 19 = .ok (.sipush 132, 3) := by decide +kernel
theorem dX12_grown_22 : decode cX12_grown 22 = .ok (.iload_n 2, 1) := by decide +kernel
theorem dX12_grown_23 : decode cX12_grown 23 = .ok (.iload_n 3, 1) := by decide +kernel
theorem dX12_grown_24 : decode cX12_grown 24 = .ok (.invokevirtual 286, 3) := by decide +kernel
theorem dX12_grown_27 : decode cX12_grown 27 = .ok (.return_, 1) := by decide +kernel
theorem dX12_wide_0 : decode cX12_wide 0 = .ok (.aload_n 0, 1) := by decide +kernel
theorem dX12_wide_1 : decode cX12_wide 1 = .ok (.iload_n 1, 1) := by decide +kernel
theorem dX12_wide_2 : decode cX12_wide 2 = .ok (.iconst 2, 1) := by decide +kernel
theorem dX12_wide_3 : decode cX12_wide 3 = .ok (.iadd, 1) := by decide +kernel
theorem dX12_wide_4 : decode cX12_wide 4 = .ok (.invokevirtual 290, 3) := by decide +kernel
theorem dX12_wide_7 : decode cX12_wide 7 = .ok (.ldc_w 293, 3) := by decide +kernel
theorem dX12_wide_10 : decode cX12_wide 10 = .ok (.iand, 1) := by decide +kernel
theorem dX12_wide_11 : decode cX12_wide 11 = .ok (.istore_n 3, 1) := by decide +kernel
theorem dX12_wide_12 : decode cX12_wide 12 = .ok (.iload_n 2, 1) := by decide +kernel
theorem dX12_wide_13 : decode cX12_wide 13 = .ok (.sipush 132, 3) := by decide +kernel
theorem dX12_wide_16 : decode cX12_wide 16 = .ok (.if_icmp .ne 19, 3) := by decide +kernel
theorem dX12_wide_19 : decode cX12_wide 19 = .ok (.aload_n 0, 1) := by decide +kernel
theorem dX12_wide_20 : decode cX12_wide 20 = .ok (.iload_n 1, 1) := by decide +kernel
theorem dX12_wide_21 : decode cX12_wide 21 = .ok (.iload_n 3, 1) := by decide +kernel
theorem dX12_wide_22 : decode cX12_wide 22 = .ok (.aload_n 0, 1) := by decide +kernel
theorem dX12_wide_23 : decode cX12_wide 23 = .ok (.iload_n 1, 1) := by decide +kernel
theorem dX12_wide_24 : decode cX12_wide 24 = .ok (.iconst 4, 1) := by decide +kernel
theorem dX12_wide_25 : decode cX12_wide 25 = .ok (.iadd, 1) := by decide +kernel
theorem dX12_wide_26 : decode cX12_wide 26 = .ok (.invokevirtual 290, 3) := by decide +kernel
theorem dX12_wide_29 : decode cX12_wide 29 = .ok (.invokevirtual 300, 3) := by decide +kernel
theorem dX12_wide_32 : decode cX12_wide 32 = .ok (.goto 10, 3) := by decide +kernel
theorem dX12_wide_35 : decode cX12_wide 35 = .ok (.aload_n 0, 1) := by decide +kernel
theorem dX12_wide_36 : decode cX12_wide 36 = .ok (.iload_n 1, 1) := by decide +kernel
theorem dX12_wide_37 : decode cX12_wide 37 = .ok (.iload_n 2, 1) := by decide +kernel
theorem dX12_wide_38 : decode cX12_wide 38 = .ok (.iload_n 3, 1) := by decide +kernel
theorem dX12_wide_39 : decode cX12_wide 39 = .ok (.invokevirtual 297, 3) := by decide +kernel
theorem dX12_wide_42 : decode cX12_wide 42 = .ok (.return_, 1) := by decide +kernel
theorem dX12_switched_0 : decode cX12_switched 0 = .ok (.iload_n 1, 1) := by decide +kernel
theorem dX12_switched_1 : decode cX12_switched 1 = .ok (.invokestatic 256, 3) := by decide +kernel
theorem dX12_switched_4 : decode cX12_switched 4 = .ok (.istore_n 3, 1) := by decide +kernel
theorem dX12_switched_5 : decode cX12_switched 5 = .ok (.aload_n 0, 1) := by decide +kernel
theorem dX12_switched_6 : decode cX12_switched 6 = .ok (.getfield 315, 3) := by decide +kernel
theorem dX12_switched_9 : decode cX12_switched 9 = .ok (.istore 4, 2) := by decide +kernel
theorem dX12_switched_11 : decode cX12_switched 11 = .ok (.aload_n 0, 1) := by decide +kernel
theorem dX12_switched_12 : decode cX12_switched 12 = .ok (.getfield 76, 3) := by decide +kernel
theorem dX12_switched_15 : decode cX12_switched 15 = .ok (.aload_n 0, 1) := by decide +kernel
theorem dX12_switched_16 : decode cX12_switched 16 = .ok (.getfield 315, 3) := by decide +kernel
theorem dX12_switched_19 : decode cX12_switched 19 = .ok (.aload_n 0, 1) := by decide +kernel
theorem dX12_switched_20 : decode cX12_switched 20 = .ok (.iload_n 1, 1) := by decide +kernel
theorem dX12_switched_21 : decode cX12_switched 21 = .ok (.aload_n 0, 1) := by decide +kernel
theorem dX12_switched_22 : decode cX12_switched 22 = .ok (.iload_n 3, 1) := by decide +kernel
theorem dX12_switched_23 : decode cX12_switched 23 = .ok (.invokevirtual 259, 3) := by decide +kernel
theorem dX12_switched_26 : decode cX12_switched 26 = .ok (.invokevirtual 306, 3) := by decide +kernel
theorem dX12_switched_29 : decode cX12_switched 29 = .ok (.iastore, 1) := by decide +kernel
theorem dX12_switched_30 : decode cX12_switched 30 = .ok (.aload_n 0, 1) := by decide +kernel
theorem dX12_switched_31 : decode cX12_switched 31 = .ok (.dup, 1) := by decide +kernel
theorem dX12_switched_32 : decode cX12_switched 32 = .ok (.getfield 315, 3) := by decide +kernel
theorem dX12_switched_35 : decode cX12_switched 35 = .ok (.iconst 1, 1) := by decide +kernel
theorem dX12_switched_36 : decode cX12_switched 36 = .ok (.iadd, 1) := by decide +kernel
theorem dX12_switched_37 : decode cX12_switched 37 = .ok (.putfield 315, 3) := by decide +kernel
theorem dX12_switched_40 : decode cX12_switched 40 = .ok (.aload_n 0, 1) := by decide +kernel
theorem dX12_switched_41 : decode cX12_switched 41 = .ok (.iload_n 3, 1) := by decide +kernel
theorem dX12_switched_42 : decode cX12_switched 42 = .ok (.iconst 4, 1) := by decide +kernel
theorem dX12_switched_43 : decode cX12_switched 43 = .ok (.iadd, 1) := by decide +kernel
theorem dX12_switched_44 : decode cX12_switched 44 = .ok (.invokevirtual 259, 3) := by decide +kernel
theorem dX12_switched_47 : decode cX12_switched 47 = .ok (.istore 5, 2) := by decide +kernel
theorem dX12_switched_49 : decode cX12_switched 49 = .ok (.iload_n 2, 1) := by decide +kernel
theorem dX12_switched_50 : decode cX12_switched 50 = .ok (.sipush 170, 3) := by decide +kernel
theorem dX12_switched_53 : decode cX12_switched 53 = .ok (.if_icmp .ne 19, 3) := by decide +kernel
theorem dX12_switched_56 : decode cX12_switched 56 = .ok (.aload_n 0, 1) := by decide +kernel
theorem dX12_switched_57 : decode cX12_switched 57 = .ok (.iload_n 3, 1) := by decide +kernel
theorem dX12_switched_58 : decode cX12_switched 58 = .ok (.bipush 8, 2) := by decide +kernel
theorem dX12_switched_60 : decode cX12_switched 60 = .ok (.iadd, 1) := by decide +kernel
theorem dX12_switched_61 : decode cX12_switched 61 = .ok (.invokevirtual 259, 3) := by decide +kernel
theorem dX12_switched_64 : decode cX12_switched 64 = .ok (.iload 5, 2) := by decide +kernel
theorem dX12_switched_66 : decode cX12_switched 66 = .ok (.isub, 1) := by decide +kernel
theorem dX12_switched_67 : decode cX12_switched 67 = .ok (.iconst 1, 1) := by decide +kernel
theorem dX12_switched_68 : decode cX12_switched 68 = .ok (.iadd, 1) := by decide +kernel
theorem dX12_switched_69 : decode cX12_switched 69 = .ok (.goto 5, 3) := by decide +kernel
theorem dX12_switched_72 : decode cX12_switched 72 = .ok (.iload 5, 2) := by decide +kernel
theorem dX12_switched_74 : decode cX12_switched 74 = .ok (.istore 6, 2) := by decide +kernel
theorem dX12_switched_76 : decode cX12_switched 76 = .ok (.iconst 0, 1) := by decide +kernel
theorem dX12_switched_77 : decode cX12_switched 77 = .ok (.istore 7, 2) := by decide +kernel
theorem dX12_switched_79 : decode cX12_switched 79 = .ok (.iload 7, 2) := by decide +kernel
theorem dX12_switched_81 : decode cX12_switched 81 = .ok (.iload 6, 2) := by decide +kernel
theorem dX12_switched_83 : decode cX12_switched 83 = .ok (.if_icmp .ge 106, 3) := by decide +kernel
theorem dX12_switched_86 : decode cX12_switched 86 = .ok (.aload_n 0, 1) := by decide +kernel
theorem dX12_switched_87 : decode cX12_switched 87 = .ok (.getfield 76, 3) := by decide +kernel
theorem dX12_switched_90 : decode cX12_switched 90 = .ok (.aload_n 0, 1) := by decide +kernel
theorem dX12_switched_91 : decode cX12_switched 91 = .ok (.getfield 315, 3) := by decide +kernel
theorem dX12_switched_94 : decode cX12_switched 94 = .ok (.iload_n 2, 1) := by decide +kernel
theorem dX12_switched_95 : decode cX12_switched 95 = .ok (.sipush 170, 3) := by decide +kernel
theorem dX12_switched_98 : decode cX12_switched 98 = .ok (.if_icmp .ne 11, 3) := by decide +kernel
theorem dX12_switched_101 : decode cX12_switched 101 = .ok (.iload 5, 2) := by decide +kernel
theorem dX12_switched_103 : decode cX12_switched 103 = .ok (.iload 7, 2) := by decide +kernel
theorem dX12_switched_105 : decode cX12_switched 105 = .ok (.iadd, 1) := by decide +kernel
theorem dX12_switched_106 : decode cX12_switched 106 = .ok (.goto 17, 3) := by decide +kernel
theorem dX12_switched_109 : decode cX12_switched 109 = .ok (.aload_n 0, 1) := by decide +kernel
theorem dX12_switched_110 : decode cX12_switched 110 = .ok (.iload_n 3, 1) := by decide +kernel
theorem dX12_switched_111 : decode cX12_switched 111 = .ok (.bipush 8, 2) := by decide +kernel
theorem dX12_switched_113 : decode cX12_switched 113 = .ok (.iadd, 1) := by decide +kernel
theorem dX12_switched_114 : decode cX12_switched 114 = .ok (.bipush 8, 2) := by decide +kernel
theorem dX12_switched_116 : decode cX12_switched 116 = .ok (.iload 7, 2) := by decide +kernel
theorem dX12_switched_118 : decode cX12_switched 118 = .ok (.imul, 1) := by decide +kernel
theorem dX12_switched_119 : decode cX12_switched 119 = .ok (.iadd, 1) := by decide +kernel
theorem dX12_switched_120 : decode cX12_switched 120 = .ok (.invokevirtual 259, 3) := by decide +kernel
theorem dX12_switched_123 : decode cX12_switched 123 = .ok (.iastore, 1) := by decide +kernel
theorem dX12_switched_124 : decode cX12_switched 124 = .ok (.aload_n 0, 1) := by decide +kernel
theorem dX12_switched_125 : decode cX12_switched 125 = .ok (.getfield 76, 3) := by decide +kernel
theorem dX12_switched_128 : decode cX12_switched 128 = .ok (.aload_n 0, 1) := by decide +kernel
theorem dX12_switched_129 : decode cX12_switched 129 = .ok (.getfield 315, 3) := by decide +kernel
theorem dX12_switched_132 : decode cX12_switched 132 = .ok (.iconst 1, 1) := by decide +kernel
theorem dX12_switched_133 : decode cX12_switched 133 = .ok (.iadd, 1) := by decide +kernel
theorem dX12_switched_134 : decode cX12_switched 134 = .ok (.aload_n 0, 1) := by decide +kernel
theorem dX12_switched_135 : decode cX12_switched 135 = .ok (.iload_n 1, 1) := by decide +kernel
theorem dX12_switched_136 : decode cX12_switched 136 = .ok (.aload_n 0, 1) := by decide +kernel
theorem dX12_switched_137 : decode cX12_switched 137 = .ok (.iload_n 2, 1) := by decide +kernel
theorem dX12_switched_138 : decode cX12_switched 138 = .ok (.sipush 170, 3) := by decide +kernel
theorem dX12_switched_141 : decode cX12_switched 141 = .ok (.if_icmp .ne 15, 3) := by decide +kernel
theorem dX12_switched_144 : decode cX12_switched 144 = .ok (.iload_n 3, 1) := by decide +kernel
theorem dX12_switched_145 : decode cX12_switched 145 = .ok (.bipush 12, 2) := by decide +kernel
theorem dX12_switched_147 : decode cX12_switched 147 = .ok (.iadd, 1) := by decide +kernel
theorem dX12_switched_148 : decode cX12_switched 148 = .ok (.iconst 4, 1) := by decide +kernel
theorem dX12_switched_149 : decode cX12_switched 149 = .ok (.iload 7, 2) := by decide +kernel
theorem dX12_switched_151 : decode cX12_switched 151 = .ok (.imul, 1) := by decide +kernel
theorem dX12_switched_152 : decode cX12_switched 152 = .ok (.iadd, 1) := by decide +kernel
theorem dX12_switched_153 : decode cX12_switched 153 = .ok (.goto 13, 3) := by decide +kernel
theorem dX12_switched_156 : decode cX12_switched 156 = .ok (.iload_n 3, 1) := by decide +kernel
theorem dX12_switched_157 : decode cX12_switched 157 = .ok (.bipush 12, 2) := by decide +kernel
theorem dX12_switched_159 : decode cX12_switched 159 = .ok (.iadd, 1) := by decide +kernel
theorem dX12_switched_160 : decode cX12_switched 160 = .ok (.bipush 8, 2) := by decide +kernel
theorem dX12_switched_162 : decode cX12_switched 162 = .ok (.iload 7, 2) := by decide +kernel
theorem dX12_switched_164 : decode cX12_switched 164 = .ok (.imul, 1) := by decide +kernel
theorem dX12_switched_165 : decode cX12_switched 165 = .ok (.iadd, 1) := by decide +kernel
theorem dX12_switched_166 : decode cX12_switched 166 = .ok (.invokevirtual 259, 3) := by decide +kernel
theorem dX12_switched_169 : decode cX12_switched 169 = .ok (.invokevirtual 306, 3) := by decide +kernel
theorem dX12_switched_172 : decode cX12_switched 172 = .ok (.iastore, 1) := by decide +kernel
theorem dX12_switched_173 : decode cX12_switched 173 = .ok (.aload_n 0, 1) := by decide +kernel
theorem dX12_switched_174 : decode cX12_switched 174 = .ok (.dup, 1) := by decide +kernel
theorem dX12_switched_175 : decode cX12_switched 175 = .ok (.getfield 315, 3) := by decide +kernel
theorem dX12_switched_178 : decode cX12_switched 178 = .ok (.iconst 2, 1) := by decide +kernel
theorem dX12_switched_179 : decode cX12_switched 179 = .ok (.iadd, 1) := by decide +kernel
theorem dX12_switched_180 : decode cX12_switched 180 = .ok (.putfield 315, 3) := by decide +kernel
theorem dX12_switched_183 : decode cX12_switched 183 = .ok (.iinc 7 1, 3) := by decide +kernel
theorem dX12_switched_186 : decode cX12_switched 186 = .ok (.goto (-107), 3) := by decide +kernel
theorem dX12_switched_189 : decode cX12_switched 189 = .ok (.aload_n 0, 1) := by decide +kernel
theorem dX12_switched_190 : decode cX12_switched 190 = .ok (.iload_n 2, 1) := by decide +kernel
theorem dX12_switched_191 : decode cX12_switched 191 = .ok (.iload 4, 2) := by decide +kernel
theorem dX12_switched_193 : decode cX12_switched 193 = .ok (.iload 6, 2) := by decide +kernel
theorem dX12_switched_195 : decode cX12_switched 195 = .ok (.invokevirtual 286, 3) := by decide +kernel
theorem dX12_switched_198 : decode cX12_switched 198 = .ok (.return_, 1) := by decide +kernel
theorem dX12_member_0 : decode cX12_member 0 = .ok (.aload_n 0, 1) := by decide +kernel
theorem dX12_member_1 : decode cX12_member 1 = .ok (.iload_n 1, 1) := by decide +kernel
theorem dX12_member_2 : decode cX12_member 2 = .ok (.iconst 1, 1) := by decide +kernel
theorem dX12_member_3 : decode cX12_member 3 = .ok (.iadd, 1) := by decide +kernel
theorem dX12_member_4 : decode cX12_member 4 = .ok (.invokevirtual 290, 3) := by decide +kernel
theorem dX12_member_7 : decode cX12_member 7 = .ok (.ldc_w 293, 3) := by decide +kernel
theorem dX12_member_10 : decode cX12_member 10 = .ok (.iand, 1) := by decide +kernel
theorem dX12_member_11 : decode cX12_member 11 = .ok (.istore_n 3, 1) := by decide +kernel
theorem dX12_member_12 : decode cX12_member 12 = .ok (.aload_n 0, 1) := by decide +kernel
theorem dX12_member_13 : decode cX12_member 13 = .ok (.aload_n 0, 1) := by decide +kernel
theorem dX12_member_14 : decode cX12_member 14 = .ok (.iload_n 3, 1) := by decide +kernel
theorem dX12_member_15 : decode cX12_member 15 = .ok (.iload_n 2, 1) := by decide +kernel
theorem dX12_member_16 : decode cX12_member 16 = .ok (.invokevirtual 192, 3) := by decide +kernel
theorem dX12_member_19 : decode cX12_member 19 = .ok (.iload_n 1, 1) := by decide +kernel
theorem dX12_member_20 : decode cX12_member 20 = .ok (.invokevirtual 279, 3) := by decide +kernel
theorem dX12_member_23 : decode cX12_member 23 = .ok (.aload_n 0, 1) := by decide +kernel
theorem dX12_member_24 : decode cX12_member 24 = .ok (.getfield 34, 3) := by decide +kernel
theorem dX12_member_27 : decode cX12_member 27 = .ok (.iload_n 3, 1) := by decide +kernel
theorem dX12_member_28 : decode cX12_member 28 = .ok (.iaload, 1) := by decide +kernel
theorem dX12_member_29 : decode cX12_member 29 = .ok (.istore 4, 2) := by decide +kernel
theorem dX12_member_31 : decode cX12_member 31 = .ok (.aload_n 0, 1) := by decide +kernel
theorem dX12_member_32 : decode cX12_member 32 = .ok (.aload_n 0, 1) := by decide +kernel
theorem dX12_member_33 : decode cX12_member 33 = .ok (.aload_n 0, 1) := by decide +kernel
theorem dX12_member_34 : decode cX12_member 34 = .ok (.getfield 31, 3) := by decide +kernel
theorem dX12_member_37 : decode cX12_member 37 = .ok (.aload_n 0, 1) := by decide +kernel
theorem dX12_member_38 : decode cX12_member 38 = .ok (.getfield 31, 3) := by decide +kernel
theorem dX12_member_41 : decode cX12_member 41 = .ok (.iload_n 3, 1) := by decide +kernel
theorem dX12_member_42 : decode cX12_member 42 = .ok (.iaload, 1) := by decide +kernel
theorem dX12_member_43 : decode cX12_member 43 = .ok (.iaload, 1) := by decide +kernel
theorem dX12_member_44 : decode cX12_member 44 = .ok (.aload_n 0, 1) := by decide +kernel
theorem dX12_member_45 : decode cX12_member 45 = .ok (.getfield 31, 3) := by decide +kernel
theorem dX12_member_48 : decode cX12_member 48 = .ok (.aload_n 0, 1) := by decide +kernel
theorem dX12_member_49 : decode cX12_member 49 = .ok (.aload_n 0, 1) := by decide +kernel
theorem dX12_member_50 : decode cX12_member 50 = .ok (.getfield 156, 3) := by decide +kernel
theorem dX12_member_53 : decode cX12_member 53 = .ok (.iconst 2, 1) := by decide +kernel
theorem dX12_member_54 : decode cX12_member 54 = .ok (.iadd, 1) := by decide +kernel
theorem dX12_member_55 : decode cX12_member 55 = .ok (.invokevirtual 128, 3) := by decide +kernel
theorem dX12_member_58 : decode cX12_member 58 = .ok (.iaload, 1) := by decide +kernel
theorem dX12_member_59 : decode cX12_member 59 = .ok (.invokevirtual 213, 3) := by decide +kernel
theorem dX12_member_62 : decode cX12_member 62 = .ok (.iload_n 1, 1) := by decide +kernel
theorem dX12_member_63 : decode cX12_member 63 = .ok (.invokevirtual 279, 3) := by decide +kernel
theorem dX12_member_66 : decode cX12_member 66 = .ok (.iload_n 2, 1) := by decide +kernel
theorem dX12_member_67 : decode cX12_member 67 = .ok (.bipush 9, 2) := by decide +kernel
theorem dX12_member_69 : decode cX12_member 69 = .ok (.if_icmp .ne 7, 3) := by decide +kernel
theorem dX12_member_72 : decode cX12_member 72 = .ok (.iconst 0, 1) := by decide +kernel
theorem dX12_member_73 : decode cX12_member 73 = .ok (.goto 7, 3) := by decide +kernel
theorem dX12_member_76 : decode cX12_member 76 = .ok (.aload_n 0, 1) := by decide +kernel
theorem dX12_member_77 : decode cX12_member 77 = .ok (.getfield 170, 3) := by decide +kernel
theorem dX12_member_80 : decode cX12_member 80 = .ok (.istore 5, 2) := by decide +kernel
theorem dX12_member_82 : decode cX12_member 82 = .ok (.iload_n 2, 1) := by decide +kernel
theorem dX12_member_83 : decode cX12_member 83 = .ok (.bipush 9, 2) := by decide +kernel
theorem dX12_member_85 : decode cX12_member 85 = .ok (.if_icmp .ne 10, 3) := by decide +kernel
theorem dX12_member_88 : decode cX12_member 88 = .ok (.aload_n 0, 1) := by decide +kernel
theorem dX12_member_89 : decode cX12_member 89 = .ok (.getfield 170, 3) := by decide +kernel
theorem dX12_member_92 : decode cX12_member 92 = .ok (.goto 7, 3) := by decide +kernel
theorem dX12_member_95 : decode cX12_member 95 = .ok (.aload_n 0, 1) := by decide +kernel
theorem dX12_member_96 : decode cX12_member 96 = .ok (.getfield 161, 3) := by decide +kernel
theorem dX12_member_99 : decode cX12_member 99 = .ok (.istore 6, 2) := by decide +kernel
theorem dX12_member_101 : decode cX12_member 101 = .ok (.iconst (-1), 1) := by decide +kernel
theorem dX12_member_102 : decode cX12_member 102 = .ok (.istore 7, 2) := by decide +kernel
theorem dX12_member_104 : decode cX12_member 104 = .ok (.iload 5, 2) := by decide +kernel
theorem dX12_member_106 : decode cX12_member 106 = .ok (.istore 8, 2) := by decide +kernel
theorem dX12_member_108 : decode cX12_member 108 = .ok (.iload 8, 2) := by decide +kernel
theorem dX12_member_110 : decode cX12_member 110 = .ok (.iload 6, 2) := by decide +kernel
theorem dX12_member_112 : decode cX12_member 112 = .ok (.if_icmp .ge 70, 3) := by decide +kernel
theorem dX12_member_115 : decode cX12_member 115 = .ok (.aload_n 0, 1) := by decide +kernel
theorem dX12_member_116 : decode cX12_member 116 = .ok (.aload_n 0, 1) := by decide +kernel
theorem dX12_member_117 : decode cX12_member 117 = .ok (.aload_n 0, 1) := by decide +kernel
theorem dX12_member_118 : decode cX12_member 118 = .ok (.getfield 41, 3) := by decide +kernel
theorem dX12_member_121 : decode cX12_member 121 = .ok (.iload 8, 2) := by decide +kernel
theorem dX12_member_123 : decode cX12_member 123 = .ok (.iaload, 1) := by decide +kernel
theorem dX12_member_124 : decode cX12_member 124 = .ok (.iconst 2, 1) := by decide +kernel
theorem dX12_member_125 : decode cX12_member 125 = .ok (.iadd, 1) := by decide +kernel
theorem dX12_member_126 : decode cX12_member 126 = .ok (.invokevirtual 128, 3) := by decide +kernel
theorem dX12_member_129 : decode cX12_member 129 = .ok (.aload_n 0, 1) := by decide +kernel
theorem dX12_member_130 : decode cX12_member 130 = .ok (.getfield 31, 3) := by decide +kernel
theorem dX12_member_133 : decode cX12_member 133 = .ok (.iload 4, 2) := by decide +kernel
theorem dX12_member_135 : decode cX12_member 135 = .ok (.iaload, 1) := by decide +kernel
theorem dX12_member_136 : decode cX12_member 136 = .ok (.invokevirtual 213, 3) := by decide +kernel
theorem dX12_member_139 : decode cX12_member 139 = .ok (.ifCond .eq 37, 3) := by decide +kernel
theorem dX12_member_142 : decode cX12_member 142 = .ok (.aload_n 0, 1) := by decide +kernel
theorem dX12_member_143 : decode cX12_member 143 = .ok (.aload_n 0, 1) := by decide +kernel
theorem dX12_member_144 : decode cX12_member 144 = .ok (.aload_n 0, 1) := by decide +kernel
theorem dX12_member_145 : decode cX12_member 145 = .ok (.getfield 41, 3) := by decide +kernel
theorem dX12_member_148 : decode cX12_member 148 = .ok (.iload 8, 2) := by decide +kernel
theorem dX12_member_150 : decode cX12_member 150 = .ok (.iaload, 1) := by decide +kernel
theorem dX12_member_151 : decode cX12_member 151 = .ok (.iconst 4, 1) := by decide +kernel
theorem dX12_member_152 : decode cX12_member 152 = .ok (.iadd, 1) := by decide +kernel
theorem dX12_member_153 : decode cX12_member 153 = .ok (.invokevirtual 128, 3) := by decide +kernel
theorem dX12_member_156 : decode cX12_member 156 = .ok (.aload_n 0, 1) := by decide +kernel
theorem dX12_member_157 : decode cX12_member 157 = .ok (.getfield 34, 3) := by decide +kernel
theorem dX12_member_160 : decode cX12_member 160 = .ok (.iload 4, 2) := by decide +kernel
theorem dX12_member_162 : decode cX12_member 162 = .ok (.iaload, 1) := by decide +kernel
theorem dX12_member_163 : decode cX12_member 163 = .ok (.invokevirtual 213, 3) := by decide +kernel
theorem dX12_member_166 : decode cX12_member 166 = .ok (.ifCond .eq 10, 3) := by decide +kernel
theorem dX12_member_169 : decode cX12_member 169 = .ok (.iload 8, 2) := by decide +kernel
theorem dX12_member_171 : decode cX12_member 171 = .ok (.iload 5, 2) := by decide +kernel
theorem dX12_member_173 : decode cX12_member 173 = .ok (.isub, 1) := by decide +kernel
theorem dX12_member_174 : decode cX12_member 174 = .ok (.istore 7, 2) := by decide +kernel
theorem dX12_member_176 : decode cX12_member 176 = .ok (.iinc 8 1, 3) := by decide +kernel
theorem dX12_member_179 : decode cX12_member 179 = .ok (.goto (-71), 3) := by decide +kernel
theorem dX12_member_182 : decode cX12_member 182 = .ok (.aload_n 0, 1) := by decide +kernel
theorem dX12_member_183 : decode cX12_member 183 = .ok (.iload 7, 2) := by decide +kernel
theorem dX12_member_185 : decode cX12_member 185 = .ok (.ifCond .lt 7, 3) := by decide +kernel
theorem dX12_member_188 : decode cX12_member 188 = .ok (.iconst 1, 1) := by decide +kernel
theorem dX12_member_189 : decode cX12_member 189 = .ok (.goto 4, 3) := by decide +kernel
theorem dX12_member_192 : decode cX12_member 192 = .ok (.iconst 0, 1) := by decide +kernel
theorem dX12_member_193 : decode cX12_member 193 = .ok (.iload_n 1, 1) := by decide +kernel
theorem dX12_member_194 : decode cX12_member 194 = .ok (.invokevirtual 279, 3) := by decide +kernel
theorem dX12_member_197 : decode cX12_member 197 = .ok (.iload 7, 2) := by decide +kernel
theorem dX12_member_199 : decode cX12_member 199 = .ok (.ireturn, 1) := by decide +kernel
theorem dX12_pointing_0 : decode cX12_pointing 0 = .ok (.aload_n 0, 1) := by decide +kernel
theorem dX12_pointing_1 : decode cX12_pointing 1 = .ok (.iload_n 1, 1) := by decide +kernel
theorem dX12_pointing_2 : decode cX12_pointing 2 = .ok (.invokevirtual 318, 3) := by decide +kernel
theorem dX12_pointing_5 : decode cX12_pointing 5 = .ok (.aload_n 0, 1) := by decide +kernel
theorem dX12_pointing_6 : decode cX12_pointing 6 = .ok (.aload_n 0, 1) := by decide +kernel
theorem dX12_pointing_7 : decode cX12_pointing 7 = .ok (.getfield 53, 3) := by decide +kernel
theorem dX12_pointing_10 : decode cX12_pointing 10 = .ok (.iload_n 1, 1) := by decide +kernel
theorem dX12_pointing_11 : decode cX12_pointing 11 = .ok (.iaload, 1) := by decide +kernel
theorem dX12_pointing_12 : decode cX12_pointing 12 = .ok (.putfield 283, 3) := by decide +kernel
theorem dX12_pointing_15 : decode cX12_pointing 15 = .ok (.aload_n 0, 1) := by decide +kernel
theorem dX12_pointing_16 : decode cX12_pointing 16 = .ok (.getfield 79, 3) := by decide +kernel
theorem dX12_pointing_19 : decode cX12_pointing 19 = .ok (.iload_n 1, 1) := by decide +kernel
theorem dX12_pointing_20 : decode cX12_pointing 20 = .ok (.aload_n 0, 1) := by decide +kernel
theorem dX12_pointing_21 : decode cX12_pointing 21 = .ok (.getfield 273, 3) := by decide +kernel
theorem dX12_pointing_24 : decode cX12_pointing 24 = .ok (.iastore, 1) := by decide +kernel
theorem dX12_pointing_25 : decode cX12_pointing 25 = .ok (.aload_n 0, 1) := by decide +kernel
theorem dX12_pointing_26 : decode cX12_pointing 26 = .ok (.getfield 82, 3) := by decide +kernel
theorem dX12_pointing_29 : decode cX12_pointing 29 = .ok (.iload_n 1, 1) := by decide +kernel
theorem dX12_pointing_30 : decode cX12_pointing 30 = .ok (.aload_n 0, 1) := by decide +kernel
theorem dX12_pointing_31 : decode cX12_pointing 31 = .ok (.getfield 267, 3) := by decide +kernel
theorem dX12_pointing_34 : decode cX12_pointing 34 = .ok (.iastore, 1) := by decide +kernel
theorem dX12_pointing_35 : decode cX12_pointing 35 = .ok (.iconst 0, 1) := by decide +kernel
theorem dX12_pointing_36 : decode cX12_pointing 36 = .ok (.istore_n 2, 1) := by decide +kernel
theorem dX12_pointing_37 : decode cX12_pointing 37 = .ok (.iload_n 2, 1) := by decide +kernel
theorem dX12_pointing_38 : decode cX12_pointing 38 = .ok (.aload_n 0, 1) := by decide +kernel
theorem dX12_pointing_39 : decode cX12_pointing 39 = .ok (.getfield 250, 3) := by decide +kernel
theorem dX12_pointing_42 : decode cX12_pointing 42 = .ok (.if_icmp .ge 23, 3) := by decide +kernel
theorem dX12_pointing_45 : decode cX12_pointing 45 = .ok (.aload_n 0, 1) := by decide +kernel
theorem dX12_pointing_46 : decode cX12_pointing 46 = .ok (.getfield 68, 3) := by decide +kernel
theorem dX12_pointing_49 : decode cX12_pointing 49 = .ok (.iload_n 2, 1) := by decide +kernel
theorem dX12_pointing_50 : decode cX12_pointing 50 = .ok (.iaload, 1) := by decide +kernel
theorem dX12_pointing_51 : decode cX12_pointing 51 = .ok (.ifCond .lt 8, 3) := by decide +kernel
theorem dX12_pointing_54 : decode cX12_pointing 54 = .ok (.aload_n 0, 1) := by decide +kernel
theorem dX12_pointing_55 : decode cX12_pointing 55 = .ok (.iload_n 2, 1) := by decide +kernel
theorem dX12_pointing_56 : decode cX12_pointing 56 = .ok (.invokevirtual 321, 3) := by decide +kernel
theorem dX12_pointing_59 : decode cX12_pointing 59 = .ok (.iinc 2 1, 3) := by decide +kernel
theorem dX12_pointing_62 : decode cX12_pointing 62 = .ok (.goto (-25), 3) := by decide +kernel
theorem dX12_pointing_65 : decode cX12_pointing 65 = .ok (.iconst 0, 1) := by decide +kernel
theorem dX12_pointing_66 : decode cX12_pointing 66 = .ok (.istore_n 2, 1) := by decide +kernel
theorem dX12_pointing_67 : decode cX12_pointing 67 = .ok (.iload_n 2, 1) := by decide +kernel
theorem dX12_pointing_68 : decode cX12_pointing 68 = .ok (.aload_n 0, 1) := by decide +kernel
theorem dX12_pointing_69 : decode cX12_pointing 69 = .ok (.getfield 65, 3) := by decide +kernel
theorem dX12_pointing_72 : decode cX12_pointing 72 = .ok (.iload_n 1, 1) := by decide +kernel
theorem dX12_pointing_73 : decode cX12_pointing 73 = .ok (.iaload, 1) := by decide +kernel
theorem dX12_pointing_74 : decode cX12_pointing 74 = .ok (.if_icmp .ge 24, 3) := by decide +kernel
theorem dX12_pointing_77 : decode cX12_pointing 77 = .ok (.aload_n 0, 1) := by decide +kernel
theorem dX12_pointing_78 : decode cX12_pointing 78 = .ok (.aload_n 0, 1) := by decide +kernel
theorem dX12_pointing_79 : decode cX12_pointing 79 = .ok (.getfield 62, 3) := by decide +kernel
theorem dX12_pointing_82 : decode cX12_pointing 82 = .ok (.iload_n 1, 1) := by decide +kernel
theorem dX12_pointing_83 : decode cX12_pointing 83 = .ok (.iaload, 1) := by decide +kernel
theorem dX12_pointing_84 : decode cX12_pointing 84 = .ok (.bipush 8, 2) := by decide +kernel
theorem dX12_pointing_86 : decode cX12_pointing 86 = .ok (.iload_n 2, 1) := by decide +kernel
theorem dX12_pointing_87 : decode cX12_pointing 87 = .ok (.imul, 1) := by decide +kernel
theorem dX12_pointing_88 : decode cX12_pointing 88 = .ok (.iadd, 1) := by decide +kernel
theorem dX12_pointing_89 : decode cX12_pointing 89 = .ok (.invokevirtual 324, 3) := by decide +kernel
theorem dX12_pointing_92 : decode cX12_pointing 92 = .ok (.iinc 2 1, 3) := by decide +kernel
theorem dX12_pointing_95 : decode cX12_pointing 95 = .ok (.goto (-28), 3) := by decide +kernel
theorem dX12_pointing_98 : decode cX12_pointing 98 = .ok (.return_, 1) := by decide +kernel
theorem dX12_caught_0 : decode cX12_caught 0 = .ok (.aload_n 0, 1) := by decide +kernel
theorem dX12_caught_1 : decode cX12_caught 1 = .ok (.iload_n 1, 1) := by decide +kernel
theorem dX12_caught_2 : decode cX12_caught 2 = .ok (.invokevirtual 128, 3) := by decide +kernel
theorem dX12_caught_5 : decode cX12_caught 5 = .ok (.istore_n 2, 1) := by decide +kernel
theorem dX12_caught_6 : decode cX12_caught 6 = .ok (.aload_n 0, 1) := by decide +kernel
theorem dX12_caught_7 : decode cX12_caught 7 = .ok (.iload_n 1, 1) := by decide +kernel
theorem dX12_caught_8 : decode cX12_caught 8 = .ok (.iconst 2, 1) := by decide +kernel
theorem dX12_caught_9 : decode cX12_caught 9 = .ok (.iadd, 1) := by decide +kernel
theorem dX12_caught_10 : decode cX12_caught 10 = .ok (.invokevirtual 128, 3) := by decide +kernel
theorem dX12_caught_13 : decode cX12_caught 13 = .ok (.istore_n 3, 1) := by decide +kernel
theorem dX12_caught_14 : decode cX12_caught 14 = .ok (.aload_n 0, 1) := by decide +kernel
theorem dX12_caught_15 : decode cX12_caught 15 = .ok (.iload_n 1, 1) := by decide +kernel
theorem dX12_caught_16 : decode cX12_caught 16 = .ok (.iconst 4, 1) := by decide +kernel
theorem dX12_caught_17 : decode cX12_caught 17 = .ok (.iadd, 1) := by decide +kernel
theorem dX12_caught_18 : decode cX12_caught 18 = .ok (.invokevirtual 128, 3) := by decide +kernel
theorem dX12_caught_21 : decode cX12_caught 21 = .ok (.istore 4, 2) := by decide +kernel
theorem dX12_caught_23 : decode cX12_caught 23 = .ok (.aload_n 0, 1) := by decide +kernel
theorem dX12_caught_24 : decode cX12_caught 24 = .ok (.iload_n 1, 1) := by decide +kernel
theorem dX12_caught_25 : decode cX12_caught 25 = .ok (.bipush 6, 2) := by decide +kernel
theorem dX12_caught_27 : decode cX12_caught 27 = .ok (.iadd, 1) := by decide +kernel
theorem dX12_caught_28 : decode cX12_caught 28 = .ok (.invokevirtual 128, 3) := by decide +kernel
theorem dX12_caught_31 : decode cX12_caught 31 = .ok (.istore 5, 2) := by decide +kernel
theorem dX12_caught_33 : decode cX12_caught 33 = .ok (.aload_n 0, 1) := by decide +kernel
theorem dX12_caught_34 : decode cX12_caught 34 = .ok (.aload_n 0, 1) := by decide +kernel
theorem dX12_caught_35 : decode cX12_caught 35 = .ok (.iload_n 2, 1) := by decide +kernel
theorem dX12_caught_36 : decode cX12_caught 36 = .ok (.invokevirtual 276, 3) := by decide +kernel
theorem dX12_caught_39 : decode cX12_caught 39 = .ok (.ifCond .eq 37, 3) := by decide +kernel
theorem dX12_caught_42 : decode cX12_caught 42 = .ok (.iload_n 3, 1) := by decide +kernel
theorem dX12_caught_43 : decode cX12_caught 43 = .ok (.aload_n 0, 1) := by decide +kernel
theorem dX12_caught_44 : decode cX12_caught 44 = .ok (.getfield 250, 3) := by decide +kernel
theorem dX12_caught_47 : decode cX12_caught 47 = .ok (.if_icmp .eq 11, 3) := by decide +kernel
theorem dX12_caught_50 : decode cX12_caught 50 = .ok (.aload_n 0, 1) := by decide +kernel
theorem dX12_caught_51 : decode cX12_caught 51 = .ok (.iload_n 3, 1) := by decide +kernel
theorem dX12_caught_52 : decode cX12_caught 52 = .ok (.invokevirtual 276, 3) := by decide +kernel
theorem dX12_caught_55 : decode cX12_caught 55 = .ok (.ifCond .eq 21, 3) := by decide +kernel
theorem dX12_caught_58 : decode cX12_caught 58 = .ok (.aload_n 0, 1) := by decide +kernel
theorem dX12_caught_59 : decode cX12_caught 59 = .ok (.iload 4, 2) := by decide +kernel
theorem dX12_caught_61 : decode cX12_caught 61 = .ok (.invokevirtual 276, 3) := by decide +kernel
theorem dX12_caught_64 : decode cX12_caught 64 = .ok (.ifCond .eq 12, 3) := by decide +kernel
theorem dX12_caught_67 : decode cX12_caught 67 = .ok (.iload_n 2, 1) := by decide +kernel
theorem dX12_caught_68 : decode cX12_caught 68 = .ok (.iload_n 3, 1) := by decide +kernel
theorem dX12_caught_69 : decode cX12_caught 69 = .ok (.if_icmp .ge 7, 3) := by decide +kernel
theorem dX12_caught_72 : decode cX12_caught 72 = .ok (.iconst 1, 1) := by decide +kernel
theorem dX12_caught_73 : decode cX12_caught 73 = .ok (.goto 4, 3) := by decide +kernel
theorem dX12_caught_76 : decode cX12_caught 76 = .ok (.iconst 0, 1) := by decide +kernel
theorem dX12_caught_77 : decode cX12_caught 77 = .ok (.bipush 16, 2) := by decide +kernel
theorem dX12_caught_79 : decode cX12_caught 79 = .ok (.iload_n 1, 1) := by decide +kernel
theorem dX12_caught_80 : decode cX12_caught 80 = .ok (.invokevirtual 137, 3) := by decide +kernel
theorem dX12_caught_83 : decode cX12_caught 83 = .ok (.iconst (-1), 1) := by decide +kernel
theorem dX12_caught_84 : decode cX12_caught 84 = .ok (.istore 6, 2) := by decide +kernel
theorem dX12_caught_86 : decode cX12_caught 86 = .ok (.iload 5, 2) := by decide +kernel
theorem dX12_caught_88 : decode cX12_caught 88 = .ok (.ifCond .le 73, 3) := by decide +kernel
theorem dX12_caught_91 : decode cX12_caught 91 = .ok (.aload_n 0, 1) := by decide +kernel
theorem dX12_caught_92 : decode cX12_caught 92 = .ok (.aload_n 0, 1) := by decide +kernel
theorem dX12_caught_93 : decode cX12_caught 93 = .ok (.iload 5, 2) := by decide +kernel
theorem dX12_caught_95 : decode cX12_caught 95 = .ok (.bipush 7, 2) := by decide +kernel
theorem dX12_caught_97 : decode cX12_caught 97 = .ok (.invokevirtual 192, 3) := by decide +kernel
theorem dX12_caught_100 : decode cX12_caught 100 = .ok (.bipush 16, 2) := by decide +kernel
theorem dX12_caught_102 : decode cX12_caught 102 = .ok (.iload_n 1, 1) := by decide +kernel
theorem dX12_caught_103 : decode cX12_caught 103 = .ok (.invokevirtual 137, 3) := by decide +kernel
theorem dX12_caught_106 : decode cX12_caught 106 = .ok (.iconst 0, 1) := by decide +kernel
theorem dX12_caught_107 : decode cX12_caught 107 = .ok (.istore 7, 2) := by decide +kernel
theorem dX12_caught_109 : decode cX12_caught 109 = .ok (.iload 7, 2) := by decide +kernel
theorem dX12_caught_111 : decode cX12_caught 111 = .ok (.iconst 4, 1) := by decide +kernel
theorem dX12_caught_112 : decode cX12_caught 112 = .ok (.if_icmp .ge 32, 3) := by decide +kernel
theorem dX12_caught_115 : decode cX12_caught 115 = .ok (.aload_n 0, 1) := by decide +kernel
theorem dX12_caught_116 : decode cX12_caught 116 = .ok (.aload_n 0, 1) := by decide +kernel
theorem dX12_caught_117 : decode cX12_caught 117 = .ok (.getfield 31, 3) := by decide +kernel
theorem dX12_caught_120 : decode cX12_caught 120 = .ok (.iload 5, 2) := by decide +kernel
theorem dX12_caught_122 : decode cX12_caught 122 = .ok (.iaload, 1) := by decide +kernel
theorem dX12_caught_123 : decode cX12_caught 123 = .ok (.iload 7, 2) := by decide +kernel
theorem dX12_caught_125 : decode cX12_caught 125 = .ok (.invokestatic 327, 3) := by decide +kernel
theorem dX12_caught_128 : decode cX12_caught 128 = .ok (.invokevirtual 228, 3) := by decide +kernel
theorem dX12_caught_131 : decode cX12_caught 131 = .ok (.ifCond .eq 7, 3) := by decide +kernel
theorem dX12_caught_134 : decode cX12_caught 134 = .ok (.iload 7, 2) := by decide +kernel
theorem dX12_caught_136 : decode cX12_caught 136 = .ok (.istore 6, 2) := by decide +kernel
theorem dX12_caught_138 : decode cX12_caught 138 = .ok (.iinc 7 1, 3) := by decide +kernel
theorem dX12_caught_141 : decode cX12_caught 141 = .ok (.goto (-32), 3) := by decide +kernel
theorem dX12_caught_144 : decode cX12_caught 144 = .ok (.aload_n 0, 1) := by decide +kernel
theorem dX12_caught_145 : decode cX12_caught 145 = .ok (.iload 6, 2) := by decide +kernel
theorem dX12_caught_147 : decode cX12_caught 147 = .ok (.ifCond .lt 7, 3) := by decide +kernel
theorem dX12_caught_150 : decode cX12_caught 150 = .ok (.iconst 1, 1) := by decide +kernel
theorem dX12_caught_151 : decode cX12_caught 151 = .ok (.goto 4, 3) := by decide +kernel
theorem dX12_caught_154 : decode cX12_caught 154 = .ok (.iconst 0, 1) := by decide +kernel
theorem dX12_caught_155 : decode cX12_caught 155 = .ok (.bipush 16, 2) := by decide +kernel
theorem dX12_caught_157 : decode cX12_caught 157 = .ok (.iload_n 1, 1) := by decide +kernel
theorem dX12_caught_158 : decode cX12_caught 158 = .ok (.invokevirtual 137, 3) := by decide +kernel
theorem dX12_caught_161 : decode cX12_caught 161 = .ok (.return_, 1) := by decide +kernel
theorem dX12_errorName_0 : decode cX12_errorName 0 = .ok (.iload_n 0, 1) := by decide +kernel
theorem dX12_errorName_1 : decode cX12_errorName 1 = .ok (.ifCond .ne 9, 3) := by decide +kernel
theorem dX12_errorName_4 : decode cX12_errorName 4 = .ok (.ldc_w 331, 3) := by decide +kernel
theorem dX12_errorName_7 : decode cX12_errorName 7 = .ok (.goto 28, 3) := by decide +kernel
theorem dX12_errorName_10 : decode cX12_errorName 10 = .ok (.iload_n 0, 1) := by decide +kernel
theorem dX12_errorName_11 : decode cX12_errorName 11 = .ok (.iconst 1, 1) := by decide +kernel
theorem dX12_errorName_12 : decode cX12_errorName 12 = .ok (.if_icmp .ne 9, 3) := by decide +kernel
theorem dX12_errorName_15 : decode cX12_errorName 15 = .ok (.ldc_w 333, 3) := by decide +kernel
theorem dX12_errorName_18 : decode cX12_errorName 18 = .ok (.goto 17, 3) := by decide +kernel
theorem dX12_errorName_21 : decode cX12_errorName 21 = .ok (.iload_n 0, 1) := by decide +kernel
theorem dX12_errorName_22 : decode cX12_errorName 22 = .ok (.iconst 2, 1) := by decide +kernel
theorem dX12_errorName_23 : decode cX12_errorName 23 = .ok (.if_icmp .ne 9, 3) := by decide +kernel
theorem dX12_errorName_26 : decode cX12_errorName 26 = .ok (.ldc_w 335, 3) := by decide +kernel
theorem dX12_errorName_29 : decode cX12_errorName 29 = .ok (.goto 6, 3) := by decide +kernel
theorem dX12_errorName_32 : decode cX12_errorName 32 = .ok (.ldc_w 337, 3) := by decide +kernel
theorem dX12_errorName_35 : decode cX12_errorName 35 = .ok (.areturn, 1) := by decide +kernel
theorem dX12_kindOf_0 : decode cX12_kindOf 0 = .ok (.iload_n 0, 1) := by decide +kernel
theorem dX12_kindOf_1 : decode cX12_kindOf 1 = .ok (.bipush 73, 2) := by decide +kernel
theorem dX12_kindOf_3 : decode cX12_kindOf 3 = .ok (.if_icmp .ne 7, 3) := by decide +kernel
theorem dX12_kindOf_6 : decode cX12_kindOf 6 = .ok (.iconst 1, 1) := by decide +kernel
theorem dX12_kindOf_7 : decode cX12_kindOf 7 = .ok (.goto 25, 3) := by decide +kernel
theorem dX12_kindOf_10 : decode cX12_kindOf 10 = .ok (.iload_n 0, 1) := by decide +kernel
theorem dX12_kindOf_11 : decode cX12_kindOf 11 = .ok (.bipush 74, 2) := by decide +kernel
theorem dX12_kindOf_13 : decode cX12_kindOf 13 = .ok (.if_icmp .ne 7, 3) := by decide +kernel
theorem dX12_kindOf_16 : decode cX12_kindOf 16 = .ok (.iconst 2, 1) := by decide +kernel
theorem dX12_kindOf_17 : decode cX12_kindOf 17 = .ok (.goto 15, 3) := by decide +kernel
theorem dX12_kindOf_20 : decode cX12_kindOf 20 = .ok (.iload_n 0, 1) := by decide +kernel
theorem dX12_kindOf_21 : decode cX12_kindOf 21 = .ok (.bipush 91, 2) := by decide +kernel
theorem dX12_kindOf_23 : decode cX12_kindOf 23 = .ok (.if_icmp .ne 7, 3) := by decide +kernel
theorem dX12_kindOf_26 : decode cX12_kindOf 26 = .ok (.iconst 4, 1) := by decide +kernel
theorem dX12_kindOf_27 : decode cX12_kindOf 27 = .ok (.goto 5, 3) := by decide +kernel
theorem dX12_kindOf_30 : decode cX12_kindOf 30 = .ok (.bipush 7, 2) := by decide +kernel
theorem dX12_kindOf_32 : decode cX12_kindOf 32 = .ok (.ireturn, 1) := by decide +kernel
theorem dX12_read_0 : decode cX12_read 0 = .ok (.aload_n 0, 1) := by decide +kernel
theorem dX12_read_1 : decode cX12_read 1 = .ok (.aload_n 0, 1) := by decide +kernel
theorem dX12_read_2 : decode cX12_read 2 = .ok (.getfield 9, 3) := by decide +kernel
theorem dX12_read_5 : decode cX12_read 5 = .ok (.putfield 121, 3) := by decide +kernel
theorem dX12_read_8 : decode cX12_read 8 = .ok (.aload_n 0, 1) := by decide +kernel
theorem dX12_read_9 : decode cX12_read 9 = .ok (.aload_n 0, 1) := by decide +kernel
theorem dX12_read_10 : decode cX12_read 10 = .ok (.getfield 100, 3) := by decide +kernel
theorem dX12_read_13 : decode cX12_read 13 = .ok (.putfield 134, 3) := by decide +kernel
theorem dX12_read_16 : decode cX12_read 16 = .ok (.aload_n 0, 1) := by decide +kernel
theorem dX12_read_17 : decode cX12_read 17 = .ok (.iconst 0, 1) := by decide +kernel
theorem dX12_read_18 : decode cX12_read 18 = .ok (.putfield 100, 3) := by decide +kernel
theorem dX12_read_21 : decode cX12_read 21 = .ok (.aload_n 0, 1) := by decide +kernel
theorem dX12_read_22 : decode cX12_read 22 = .ok (.iconst (-1), 1) := by decide +kernel
theorem dX12_read_23 : decode cX12_read 23 = .ok (.putfield 20, 3) := by decide +kernel
theorem dX12_read_26 : decode cX12_read 26 = .ok (.aload_n 0, 1) := by decide +kernel
theorem dX12_read_27 : decode cX12_read 27 = .ok (.invokevirtual 339, 3) := by decide +kernel
theorem dX12_read_30 : decode cX12_read 30 = .ok (.goto 17, 3) := by decide +kernel
theorem dX12_read_33 : decode cX12_read 33 = .ok (.astore_n 1, 1) := by decide +kernel
theorem dX12_read_34 : decode cX12_read 34 = .ok (.aload_n 0, 1) := by decide +kernel
theorem dX12_read_35 : decode cX12_read 35 = .ok (.aload_n 0, 1) := by decide +kernel
theorem dX12_read_36 : decode cX12_read 36 = .ok (.getfield 114, 3) := by decide +kernel
theorem dX12_read_39 : decode cX12_read 39 = .ok (.putfield 20, 3) := by decide +kernel
theorem dX12_read_42 : decode cX12_read 42 = .ok (.aload_n 0, 1) := by decide +kernel
theorem dX12_read_43 : decode cX12_read 43 = .ok (.getfield 111, 3) := by decide +kernel
theorem dX12_read_46 : decode cX12_read 46 = .ok (.ireturn, 1) := by decide +kernel
theorem dX12_read_47 : decode cX12_read 47 = .ok (.aload_n 0, 1) := by decide +kernel
theorem dX12_read_48 : decode cX12_read 48 = .ok (.invokevirtual 342, 3) := by decide +kernel
theorem dX12_read_51 : decode cX12_read 51 = .ok (.iconst 0, 1) := by decide +kernel
theorem dX12_read_52 : decode cX12_read 52 = .ok (.ireturn, 1) := by decide +kernel
theorem dX12_rules_0 : decode cX12_rules 0 = .ok (.aload_n 0, 1) := by decide +kernel
theorem dX12_rules_1 : decode cX12_rules 1 = .ok (.invokevirtual 345, 3) := by decide +kernel
theorem dX12_rules_4 : decode cX12_rules 4 = .ok (.aload_n 0, 1) := by decide +kernel
theorem dX12_rules_5 : decode cX12_rules 5 = .ok (.invokevirtual 348, 3) := by decide +kernel
theorem dX12_rules_8 : decode cX12_rules 8 = .ok (.aload_n 0, 1) := by decide +kernel
theorem dX12_rules_9 : decode cX12_rules 9 = .ok (.invokevirtual 351, 3) := by decide +kernel
theorem dX12_rules_12 : decode cX12_rules 12 = .ok (.aload_n 0, 1) := by decide +kernel
theorem dX12_rules_13 : decode cX12_rules 13 = .ok (.invokevirtual 354, 3) := by decide +kernel
theorem dX12_rules_16 : decode cX12_rules 16 = .ok (.aload_n 0, 1) := by decide +kernel
theorem dX12_rules_17 : decode cX12_rules 17 = .ok (.invokevirtual 357, 3) := by decide +kernel
theorem dX12_rules_20 : decode cX12_rules 20 = .ok (.aload_n 0, 1) := by decide +kernel
theorem dX12_rules_21 : decode cX12_rules 21 = .ok (.invokevirtual 360, 3) := by decide +kernel
theorem dX12_rules_24 : decode cX12_rules 24 = .ok (.aload_n 0, 1) := by decide +kernel
theorem dX12_rules_25 : decode cX12_rules 25 = .ok (.invokevirtual 363, 3) := by decide +kernel
theorem dX12_rules_28 : decode cX12_rules 28 = .ok (.aload_n 0, 1) := by decide +kernel
theorem dX12_rules_29 : decode cX12_rules 29 = .ok (.invokevirtual 366, 3) := by decide +kernel
theorem dX12_rules_32 : decode cX12_rules 32 = .ok (.aload_n 0, 1) := by decide +kernel
theorem dX12_rules_33 : decode cX12_rules 33 = .ok (.aload_n 0, 1) := by decide +kernel
theorem dX12_rules_34 : decode cX12_rules 34 = .ok (.getfield 176, 3) := by decide +kernel
theorem dX12_rules_37 : decode cX12_rules 37 = .ok (.aload_n 0, 1) := by decide +kernel
theorem dX12_rules_38 : decode cX12_rules 38 = .ok (.getfield 134, 3) := by decide +kernel
theorem dX12_rules_41 : decode cX12_rules 41 = .ok (.if_icmp .ne 7, 3) := by decide +kernel
theorem dX12_rules_44 : decode cX12_rules 44 = .ok (.iconst 1, 1) := by decide +kernel
theorem dX12_rules_45 : decode cX12_rules 45 = .ok (.goto 4, 3) := by decide +kernel
theorem dX12_rules_48 : decode cX12_rules 48 = .ok (.iconst 0, 1) := by decide +kernel
theorem dX12_rules_49 : decode cX12_rules 49 = .ok (.bipush 17, 2) := by decide +kernel
theorem dX12_rules_51 : decode cX12_rules 51 = .ok (.aload_n 0, 1) := by decide +kernel
theorem dX12_rules_52 : decode cX12_rules 52 = .ok (.getfield 176, 3) := by decide +kernel
theorem dX12_rules_55 : decode cX12_rules 55 = .ok (.invokevirtual 137, 3) := by decide +kernel
theorem dX12_rules_58 : decode cX12_rules 58 = .ok (.aload_n 0, 1) := by decide +kernel
theorem dX12_rules_59 : decode cX12_rules 59 = .ok (.getfield 161, 3) := by decide +kernel
theorem dX12_rules_62 : decode cX12_rules 62 = .ok (.aload_n 0, 1) := by decide +kernel
theorem dX12_rules_63 : decode cX12_rules 63 = .ok (.getfield 170, 3) := by decide +kernel
theorem dX12_rules_66 : decode cX12_rules 66 = .ok (.isub, 1) := by decide +kernel
theorem dX12_rules_67 : decode cX12_rules 67 = .ok (.istore_n 1, 1) := by decide +kernel
theorem dX12_rules_68 : decode cX12_rules 68 = .ok (.iconst 0, 1) := by decide +kernel
theorem dX12_rules_69 : decode cX12_rules 69 = .ok (.istore_n 2, 1) := by decide +kernel
theorem dX12_rules_70 : decode cX12_rules 70 = .ok (.iload_n 2, 1) := by decide +kernel
theorem dX12_rules_71 : decode cX12_rules 71 = .ok (.iload_n 1, 1) := by decide +kernel
theorem dX12_rules_72 : decode cX12_rules 72 = .ok (.if_icmp .ge 14, 3) := by decide +kernel
theorem dX12_rules_75 : decode cX12_rules 75 = .ok (.aload_n 0, 1) := by decide +kernel
theorem dX12_rules_76 : decode cX12_rules 76 = .ok (.iload_n 2, 1) := by decide +kernel
theorem dX12_rules_77 : decode cX12_rules 77 = .ok (.invokevirtual 369, 3) := by decide +kernel
theorem dX12_rules_80 : decode cX12_rules 80 = .ok (.iinc 2 1, 3) := by decide +kernel
theorem dX12_rules_83 : decode cX12_rules 83 = .ok (.goto (-13), 3) := by decide +kernel
theorem dX12_rules_86 : decode cX12_rules 86 = .ok (.iconst 0, 1) := by decide +kernel
theorem dX12_rules_87 : decode cX12_rules 87 = .ok (.istore_n 2, 1) := by decide +kernel
theorem dX12_rules_88 : decode cX12_rules 88 = .ok (.iload_n 2, 1) := by decide +kernel
theorem dX12_rules_89 : decode cX12_rules 89 = .ok (.iload_n 1, 1) := by decide +kernel
theorem dX12_rules_90 : decode cX12_rules 90 = .ok (.if_icmp .ge 14, 3) := by decide +kernel
theorem dX12_rules_93 : decode cX12_rules 93 = .ok (.aload_n 0, 1) := by decide +kernel
theorem dX12_rules_94 : decode cX12_rules 94 = .ok (.iload_n 2, 1) := by decide +kernel
theorem dX12_rules_95 : decode cX12_rules 95 = .ok (.invokevirtual 318, 3) := by decide +kernel
theorem dX12_rules_98 : decode cX12_rules 98 = .ok (.iinc 2 1, 3) := by decide +kernel
theorem dX12_rules_101 : decode cX12_rules 101 = .ok (.goto (-13), 3) := by decide +kernel
theorem dX12_rules_104 : decode cX12_rules 104 = .ok (.aload_n 0, 1) := by decide +kernel
theorem dX12_rules_105 : decode cX12_rules 105 = .ok (.iconst 0, 1) := by decide +kernel
theorem dX12_rules_106 : decode cX12_rules 106 = .ok (.putfield 273, 3) := by decide +kernel
theorem dX12_rules_109 : decode cX12_rules 109 = .ok (.aload_n 0, 1) := by decide +kernel
theorem dX12_rules_110 : decode cX12_rules 110 = .ok (.iconst 0, 1) := by decide +kernel
theorem dX12_rules_111 : decode cX12_rules 111 = .ok (.putfield 315, 3) := by decide +kernel
theorem dX12_rules_114 : decode cX12_rules 114 = .ok (.iconst 0, 1) := by decide +kernel
theorem dX12_rules_115 : decode cX12_rules 115 = .ok (.istore_n 2, 1) := by decide +kernel
theorem dX12_rules_116 : decode cX12_rules 116 = .ok (.iload_n 2, 1) := by decide +kernel
theorem dX12_rules_117 : decode cX12_rules 117 = .ok (.iload_n 1, 1) := by decide +kernel
theorem dX12_rules_118 : decode cX12_rules 118 = .ok (.if_icmp .ge 14, 3) := by decide +kernel
theorem dX12_rules_121 : decode cX12_rules 121 = .ok (.aload_n 0, 1) := by decide +kernel
theorem dX12_rules_122 : decode cX12_rules 122 = .ok (.iload_n 2, 1) := by decide +kernel
theorem dX12_rules_123 : decode cX12_rules 123 = .ok (.invokevirtual 372, 3) := by decide +kernel
theorem dX12_rules_126 : decode cX12_rules 126 = .ok (.iinc 2 1, 3) := by decide +kernel
theorem dX12_rules_129 : decode cX12_rules 129 = .ok (.goto (-13), 3) := by decide +kernel
theorem dX12_rules_132 : decode cX12_rules 132 = .ok (.return_, 1) := by decide +kernel
theorem dX12_keep_0 : decode cX12_keep 0 = .ok (.aload_n 0, 1) := by decide +kernel
theorem dX12_keep_1 : decode cX12_keep 1 = .ok (.iconst 1, 1) := by decide +kernel
theorem dX12_keep_2 : decode cX12_keep 2 = .ok (.putfield 375, 3) := by decide +kernel
theorem dX12_keep_5 : decode cX12_keep 5 = .ok (.aload_n 0, 1) := by decide +kernel
theorem dX12_keep_6 : decode cX12_keep 6 = .ok (.aload_n 0, 1) := by decide +kernel
theorem dX12_keep_7 : decode cX12_keep 7 = .ok (.getfield 170, 3) := by decide +kernel
theorem dX12_keep_10 : decode cX12_keep 10 = .ok (.putfield 379, 3) := by decide +kernel
theorem dX12_keep_13 : decode cX12_keep 13 = .ok (.aload_n 0, 1) := by decide +kernel
theorem dX12_keep_14 : decode cX12_keep 14 = .ok (.aload_n 0, 1) := by decide +kernel
theorem dX12_keep_15 : decode cX12_keep 15 = .ok (.getfield 161, 3) := by decide +kernel
theorem dX12_keep_18 : decode cX12_keep 18 = .ok (.aload_n 0, 1) := by decide +kernel
theorem dX12_keep_19 : decode cX12_keep 19 = .ok (.getfield 170, 3) := by decide +kernel
theorem dX12_keep_22 : decode cX12_keep 22 = .ok (.isub, 1) := by decide +kernel
theorem dX12_keep_23 : decode cX12_keep 23 = .ok (.putfield 382, 3) := by decide +kernel
theorem dX12_keep_26 : decode cX12_keep 26 = .ok (.aload_n 0, 1) := by decide +kernel
theorem dX12_keep_27 : decode cX12_keep 27 = .ok (.aload_n 0, 1) := by decide +kernel
theorem dX12_keep_28 : decode cX12_keep 28 = .ok (.getfield 150, 3) := by decide +kernel
theorem dX12_keep_31 : decode cX12_keep 31 = .ok (.putfield 385, 3) := by decide +kernel
theorem dX12_keep_34 : decode cX12_keep 34 = .ok (.iconst 0, 1) := by decide +kernel
theorem dX12_keep_35 : decode cX12_keep 35 = .ok (.istore_n 1, 1) := by decide +kernel
theorem dX12_keep_36 : decode cX12_keep 36 = .ok (.iload_n 1, 1) := by decide +kernel
theorem dX12_keep_37 : decode cX12_keep 37 = .ok (.iconst 3, 1) := by decide +kernel
theorem dX12_keep_38 : decode cX12_keep 38 = .ok (.aload_n 0, 1) := by decide +kernel
theorem dX12_keep_39 : decode cX12_keep 39 = .ok (.getfield 273, 3) := by decide +kernel
theorem dX12_keep_42 : decode cX12_keep 42 = .ok (.imul, 1) := by decide +kernel
theorem dX12_keep_43 : decode cX12_keep 43 = .ok (.if_icmp .ge 21, 3) := by decide +kernel
theorem dX12_keep_46 : decode cX12_keep 46 = .ok (.aload_n 0, 1) := by decide +kernel
theorem dX12_keep_47 : decode cX12_keep 47 = .ok (.getfield 94, 3) := by decide +kernel
theorem dX12_keep_50 : decode cX12_keep 50 = .ok (.iload_n 1, 1) := by decide +kernel
theorem dX12_keep_51 : decode cX12_keep 51 = .ok (.aload_n 0, 1) := by decide +kernel
theorem dX12_keep_52 : decode cX12_keep 52 = .ok (.getfield 72, 3) := by decide +kernel
theorem dX12_keep_55 : decode cX12_keep 55 = .ok (.iload_n 1, 1) := by decide +kernel
theorem dX12_keep_56 : decode cX12_keep 56 = .ok (.iaload, 1) := by decide +kernel
theorem dX12_keep_57 : decode cX12_keep 57 = .ok (.iastore, 1) := by decide +kernel
theorem dX12_keep_58 : decode cX12_keep 58 = .ok (.iinc 1 1, 3) := by decide +kernel
theorem dX12_keep_61 : decode cX12_keep 61 = .ok (.goto (-25), 3) := by decide +kernel
theorem dX12_keep_64 : decode cX12_keep 64 = .ok (.iconst 0, 1) := by decide +kernel
theorem dX12_keep_65 : decode cX12_keep 65 = .ok (.istore_n 1, 1) := by decide +kernel
theorem dX12_keep_66 : decode cX12_keep 66 = .ok (.iload_n 1, 1) := by decide +kernel
theorem dX12_keep_67 : decode cX12_keep 67 = .ok (.aload_n 0, 1) := by decide +kernel
theorem dX12_keep_68 : decode cX12_keep 68 = .ok (.getfield 315, 3) := by decide +kernel
theorem dX12_keep_71 : decode cX12_keep 71 = .ok (.if_icmp .ge 21, 3) := by decide +kernel
theorem dX12_keep_74 : decode cX12_keep 74 = .ok (.aload_n 0, 1) := by decide +kernel
theorem dX12_keep_75 : decode cX12_keep 75 = .ok (.getfield 97, 3) := by decide +kernel
theorem dX12_keep_78 : decode cX12_keep 78 = .ok (.iload_n 1, 1) := by decide +kernel
theorem dX12_keep_79 : decode cX12_keep 79 = .ok (.aload_n 0, 1) := by decide +kernel
theorem dX12_keep_80 : decode cX12_keep 80 = .ok (.getfield 76, 3) := by decide +kernel
theorem dX12_keep_83 : decode cX12_keep 83 = .ok (.iload_n 1, 1) := by decide +kernel
theorem dX12_keep_84 : decode cX12_keep 84 = .ok (.iaload, 1) := by decide +kernel
theorem dX12_keep_85 : decode cX12_keep 85 = .ok (.iastore, 1) := by decide +kernel
theorem dX12_keep_86 : decode cX12_keep 86 = .ok (.iinc 1 1, 3) := by decide +kernel
theorem dX12_keep_89 : decode cX12_keep 89 = .ok (.goto (-23), 3) := by decide +kernel
theorem dX12_keep_92 : decode cX12_keep 92 = .ok (.iconst 0, 1) := by decide +kernel
theorem dX12_keep_93 : decode cX12_keep 93 = .ok (.istore_n 1, 1) := by decide +kernel
theorem dX12_keep_94 : decode cX12_keep 94 = .ok (.iload_n 1, 1) := by decide +kernel
theorem dX12_keep_95 : decode cX12_keep 95 = .ok (.aload_n 0, 1) := by decide +kernel
theorem dX12_keep_96 : decode cX12_keep 96 = .ok (.getfield 379, 3) := by decide +kernel
theorem dX12_keep_99 : decode cX12_keep 99 = .ok (.if_icmp .ge 35, 3) := by decide +kernel
theorem dX12_keep_102 : decode cX12_keep 102 = .ok (.aload_n 0, 1) := by decide +kernel
theorem dX12_keep_103 : decode cX12_keep 103 = .ok (.getfield 85, 3) := by decide +kernel
theorem dX12_keep_106 : decode cX12_keep 106 = .ok (.iload_n 1, 1) := by decide +kernel
theorem dX12_keep_107 : decode cX12_keep 107 = .ok (.aload_n 0, 1) := by decide +kernel
theorem dX12_keep_108 : decode cX12_keep 108 = .ok (.aload_n 0, 1) := by decide +kernel
theorem dX12_keep_109 : decode cX12_keep 109 = .ok (.aload_n 0, 1) := by decide +kernel
theorem dX12_keep_110 : decode cX12_keep 110 = .ok (.getfield 41, 3) := by decide +kernel
theorem dX12_keep_113 : decode cX12_keep 113 = .ok (.iload_n 1, 1) := by decide +kernel
theorem dX12_keep_114 : decode cX12_keep 114 = .ok (.iaload, 1) := by decide +kernel
theorem dX12_keep_115 : decode cX12_keep 115 = .ok (.iconst 4, 1) := by decide +kernel
theorem dX12_keep_116 : decode cX12_keep 116 = .ok (.iadd, 1) := by decide +kernel
theorem dX12_keep_117 : decode cX12_keep 117 = .ok (.invokevirtual 128, 3) := by decide +kernel
theorem dX12_keep_120 : decode cX12_keep 120 = .ok (.iconst 0, 1) := by decide +kernel
theorem dX12_keep_121 : decode cX12_keep 121 = .ok (.invokevirtual 199, 3) := by decide +kernel
theorem dX12_keep_124 : decode cX12_keep 124 = .ok (.invokestatic 388, 3) := by decide +kernel
theorem dX12_keep_127 : decode cX12_keep 127 = .ok (.iastore, 1) := by decide +kernel
theorem dX12_keep_128 : decode cX12_keep 128 = .ok (.iinc 1 1, 3) := by decide +kernel
theorem dX12_keep_131 : decode cX12_keep 131 = .ok (.goto (-37), 3) := by decide +kernel
theorem dX12_keep_134 : decode cX12_keep 134 = .ok (.iconst 0, 1) := by decide +kernel
theorem dX12_keep_135 : decode cX12_keep 135 = .ok (.istore_n 1, 1) := by decide +kernel
theorem dX12_keep_136 : decode cX12_keep 136 = .ok (.iload_n 1, 1) := by decide +kernel
theorem dX12_keep_137 : decode cX12_keep 137 = .ok (.aload_n 0, 1) := by decide +kernel
theorem dX12_keep_138 : decode cX12_keep 138 = .ok (.getfield 382, 3) := by decide +kernel
theorem dX12_keep_141 : decode cX12_keep 141 = .ok (.if_icmp .ge 162, 3) := by decide +kernel
theorem dX12_keep_144 : decode cX12_keep 144 = .ok (.aload_n 0, 1) := by decide +kernel
theorem dX12_keep_145 : decode cX12_keep 145 = .ok (.aload_n 0, 1) := by decide +kernel
theorem dX12_keep_146 : decode cX12_keep 146 = .ok (.getfield 41, 3) := by decide +kernel
theorem dX12_keep_149 : decode cX12_keep 149 = .ok (.aload_n 0, 1) := by decide +kernel
theorem dX12_keep_150 : decode cX12_keep 150 = .ok (.getfield 170, 3) := by decide +kernel
theorem dX12_keep_153 : decode cX12_keep 153 = .ok (.iload_n 1, 1) := by decide +kernel
theorem dX12_keep_154 : decode cX12_keep 154 = .ok (.iadd, 1) := by decide +kernel
theorem dX12_keep_155 : decode cX12_keep 155 = .ok (.iaload, 1) := by decide +kernel
theorem dX12_keep_156 : decode cX12_keep 156 = .ok (.iconst 4, 1) := by decide +kernel
theorem dX12_keep_157 : decode cX12_keep 157 = .ok (.iadd, 1) := by decide +kernel
theorem dX12_keep_158 : decode cX12_keep 158 = .ok (.invokevirtual 128, 3) := by decide +kernel
theorem dX12_keep_161 : decode cX12_keep 161 = .ok (.istore_n 2, 1) := by decide +kernel
theorem dX12_keep_162 : decode cX12_keep 162 = .ok (.iconst 0, 1) := by decide +kernel
theorem dX12_keep_163 : decode cX12_keep 163 = .ok (.istore_n 3, 1) := by decide +kernel
theorem dX12_keep_164 : decode cX12_keep 164 = .ok (.aload_n 0, 1) := by decide +kernel
theorem dX12_keep_165 : decode cX12_keep 165 = .ok (.iload_n 2, 1) := by decide +kernel
theorem dX12_keep_166 : decode cX12_keep 166 = .ok (.iload_n 3, 1) := by decide +kernel
theorem dX12_keep_167 : decode cX12_keep 167 = .ok (.invokevirtual 199, 3) := by decide +kernel
theorem dX12_keep_170 : decode cX12_keep 170 = .ok (.bipush 41, 2) := by decide +kernel
theorem dX12_keep_172 : decode cX12_keep 172 = .ok (.if_icmp .eq 9, 3) := by decide +kernel
theorem dX12_keep_175 : decode cX12_keep 175 = .ok (.iinc 3 1, 3) := by decide +kernel
theorem dX12_keep_178 : decode cX12_keep 178 = .ok (.goto (-14), 3) := by decide +kernel
theorem dX12_keep_181 : decode cX12_keep 181 = .ok (.aload_n 0, 1) := by decide +kernel
theorem dX12_keep_182 : decode cX12_keep 182 = .ok (.getfield 91, 3) := by decide +kernel
theorem dX12_keep_185 : decode cX12_keep 185 = .ok (.iload_n 1, 1) := by decide +kernel
theorem dX12_keep_186 : decode cX12_keep 186 = .ok (.aload_n 0, 1) := by decide +kernel
theorem dX12_keep_187 : decode cX12_keep 187 = .ok (.getfield 79, 3) := by decide +kernel
theorem dX12_keep_190 : decode cX12_keep 190 = .ok (.iload_n 1, 1) := by decide +kernel
theorem dX12_keep_191 : decode cX12_keep 191 = .ok (.iaload, 1) := by decide +kernel
theorem dX12_keep_192 : decode cX12_keep 192 = .ok (.iastore, 1) := by decide +kernel
theorem dX12_keep_193 : decode cX12_keep 193 = .ok (.aload_n 0, 1) := by decide +kernel
theorem dX12_keep_194 : decode cX12_keep 194 = .ok (.getfield 88, 3) := by decide +kernel
theorem dX12_keep_197 : decode cX12_keep 197 = .ok (.bipush 6, 2) := by decide +kernel
theorem dX12_keep_199 : decode cX12_keep 199 = .ok (.iload_n 1, 1) := by decide +kernel
theorem dX12_keep_200 : decode cX12_keep 200 = .ok (.imul, 1) := by decide +kernel
theorem dX12_keep_201 : decode cX12_keep 201 = .ok (.aload_n 0, 1) := by decide +kernel
theorem dX12_keep_202 : decode cX12_keep 202 = .ok (.getfield 82, 3) := by decide +kernel
theorem dX12_keep_205 : decode cX12_keep 205 = .ok (.iload_n 1, 1) := by decide +kernel
theorem dX12_keep_206 : decode cX12_keep 206 = .ok (.iaload, 1) := by decide +kernel
theorem dX12_keep_207 : decode cX12_keep 207 = .ok (.iastore, 1) := by decide +kernel
theorem dX12_keep_208 : decode cX12_keep 208 = .ok (.aload_n 0, 1) := by decide +kernel
theorem dX12_keep_209 : decode cX12_keep 209 = .ok (.getfield 88, 3) := by decide +kernel
theorem dX12_keep_212 : decode cX12_keep 212 = .ok (.bipush 6, 2) := by decide +kernel
theorem dX12_keep_214 : decode cX12_keep 214 = .ok (.iload_n 1, 1) := by decide +kernel
theorem dX12_keep_215 : decode cX12_keep 215 = .ok (.imul, 1) := by decide +kernel
theorem dX12_keep_216 : decode cX12_keep 216 = .ok (.iconst 1, 1) := by decide +kernel
theorem dX12_keep_217 : decode cX12_keep 217 = .ok (.iadd, 1) := by decide +kernel
theorem dX12_keep_218 : decode cX12_keep 218 = .ok (.aload_n 0, 1) := by decide +kernel
theorem dX12_keep_219 : decode cX12_keep 219 = .ok (.getfield 50, 3) := by decide +kernel
theorem dX12_keep_222 : decode cX12_keep 222 = .ok (.iload_n 1, 1) := by decide +kernel
theorem dX12_keep_223 : decode cX12_keep 223 = .ok (.iaload, 1) := by decide +kernel
theorem dX12_keep_224 : decode cX12_keep 224 = .ok (.iastore, 1) := by decide +kernel
theorem dX12_keep_225 : decode cX12_keep 225 = .ok (.aload_n 0, 1) := by decide +kernel
theorem dX12_keep_226 : decode cX12_keep 226 = .ok (.getfield 88, 3) := by decide +kernel
theorem dX12_keep_229 : decode cX12_keep 229 = .ok (.bipush 6, 2) := by decide +kernel
theorem dX12_keep_231 : decode cX12_keep 231 = .ok (.iload_n 1, 1) := by decide +kernel
theorem dX12_keep_232 : decode cX12_keep 232 = .ok (.imul, 1) := by decide +kernel
theorem dX12_keep_233 : decode cX12_keep 233 = .ok (.iconst 2, 1) := by decide +kernel
theorem dX12_keep_234 : decode cX12_keep 234 = .ok (.iadd, 1) := by decide +kernel
theorem dX12_keep_235 : decode cX12_keep 235 = .ok (.aload_n 0, 1) := by decide +kernel
theorem dX12_keep_236 : decode cX12_keep 236 = .ok (.getfield 53, 3) := by decide +kernel
theorem dX12_keep_239 : decode cX12_keep 239 = .ok (.iload_n 1, 1) := by decide +kernel
theorem dX12_keep_240 : decode cX12_keep 240 = .ok (.iaload, 1) := by decide +kernel
theorem dX12_keep_241 : decode cX12_keep 241 = .ok (.iastore, 1) := by decide +kernel
theorem dX12_keep_242 : decode cX12_keep 242 = .ok (.aload_n 0, 1) := by decide +kernel
theorem dX12_keep_243 : decode cX12_keep 243 = .ok (.getfield 88, 3) := by decide +kernel
theorem dX12_keep_246 : decode cX12_keep 246 = .ok (.bipush 6, 2) := by decide +kernel
theorem dX12_keep_248 : decode cX12_keep 248 = .ok (.iload_n 1, 1) := by decide +kernel
theorem dX12_keep_249 : decode cX12_keep 249 = .ok (.imul, 1) := by decide +kernel
theorem dX12_keep_250 : decode cX12_keep 250 = .ok (.iconst 3, 1) := by decide +kernel
theorem dX12_keep_251 : decode cX12_keep 251 = .ok (.iadd, 1) := by decide +kernel
theorem dX12_keep_252 : decode cX12_keep 252 = .ok (.aload_n 0, 1) := by decide +kernel
theorem dX12_keep_253 : decode cX12_keep 253 = .ok (.iload_n 2, 1) := by decide +kernel
theorem dX12_keep_254 : decode cX12_keep 254 = .ok (.invokevirtual 210, 3) := by decide +kernel
theorem dX12_keep_257 : decode cX12_keep 257 = .ok (.iastore, 1) := by decide +kernel
theorem dX12_keep_258 : decode cX12_keep 258 = .ok (.aload_n 0, 1) := by decide +kernel
theorem dX12_keep_259 : decode cX12_keep 259 = .ok (.getfield 88, 3) := by decide +kernel
theorem dX12_keep_262 : decode cX12_keep 262 = .ok (.bipush 6, 2) := by decide +kernel
theorem dX12_keep_264 : decode cX12_keep 264 = .ok (.iload_n 1, 1) := by decide +kernel
theorem dX12_keep_265 : decode cX12_keep 265 = .ok (.imul, 1) := by decide +kernel
theorem dX12_keep_266 : decode cX12_keep 266 = .ok (.iconst 4, 1) := by decide +kernel
theorem dX12_keep_267 : decode cX12_keep 267 = .ok (.iadd, 1) := by decide +kernel
theorem dX12_keep_268 : decode cX12_keep 268 = .ok (.aload_n 0, 1) := by decide +kernel
theorem dX12_keep_269 : decode cX12_keep 269 = .ok (.getfield 65, 3) := by decide +kernel
theorem dX12_keep_272 : decode cX12_keep 272 = .ok (.iload_n 1, 1) := by decide +kernel
theorem dX12_keep_273 : decode cX12_keep 273 = .ok (.iaload, 1) := by decide +kernel
theorem dX12_keep_274 : decode cX12_keep 274 = .ok (.iastore, 1) := by decide +kernel
theorem dX12_keep_275 : decode cX12_keep 275 = .ok (.aload_n 0, 1) := by decide +kernel
theorem dX12_keep_276 : decode cX12_keep 276 = .ok (.getfield 88, 3) := by decide +kernel
theorem dX12_keep_279 : decode cX12_keep 279 = .ok (.bipush 6, 2) := by decide +kernel
theorem dX12_keep_281 : decode cX12_keep 281 = .ok (.iload_n 1, 1) := by decide +kernel
theorem dX12_keep_282 : decode cX12_keep 282 = .ok (.imul, 1) := by decide +kernel
theorem dX12_keep_283 : decode cX12_keep 283 = .ok (.iconst 5, 1) := by decide +kernel
theorem dX12_keep_284 : decode cX12_keep 284 = .ok (.iadd, 1) := by decide +kernel
theorem dX12_keep_285 : decode cX12_keep 285 = .ok (.aload_n 0, 1) := by decide +kernel
theorem dX12_keep_286 : decode cX12_keep 286 = .ok (.iload_n 2, 1) := by decide +kernel
theorem dX12_keep_287 : decode cX12_keep 287 = .ok (.iload_n 3, 1) := by decide +kernel
theorem dX12_keep_288 : decode cX12_keep 288 = .ok (.iconst 1, 1) := by decide +kernel
theorem dX12_keep_289 : decode cX12_keep 289 = .ok (.iadd, 1) := by decide +kernel
theorem dX12_keep_290 : decode cX12_keep 290 = .ok (.invokevirtual 199, 3) := by decide +kernel
theorem dX12_keep_293 : decode cX12_keep 293 = .ok (.invokestatic 388, 3) := by decide +kernel
theorem dX12_keep_296 : decode cX12_keep 296 = .ok (.iastore, 1) := by decide +kernel
theorem dX12_keep_297 : decode cX12_keep 297 = .ok (.iinc 1 1, 3) := by decide +kernel
theorem dX12_keep_300 : decode cX12_keep 300 = .ok (.goto (-164), 3) := by decide +kernel
theorem dX12_keep_303 : decode cX12_keep 303 = .ok (.return_, 1) := by decide +kernel
theorem dX12_size_0 : decode cX12_size 0 = .ok (.aload_n 0, 1) := by decide +kernel
theorem dX12_size_1 : decode cX12_size 1 = .ok (.getfield 375, 3) := by decide +kernel
theorem dX12_size_4 : decode cX12_size 4 = .ok (.ifCond .ne 7, 3) := by decide +kernel
theorem dX12_size_7 : decode cX12_size 7 = .ok (.iconst (-1), 1) := by decide +kernel
theorem dX12_size_8 : decode cX12_size 8 = .ok (.goto 39, 3) := by decide +kernel
theorem dX12_size_11 : decode cX12_size 11 = .ok (.iload_n 1, 1) := by decide +kernel
theorem dX12_size_12 : decode cX12_size 12 = .ok (.ifCond .ne 10, 3) := by decide +kernel
theorem dX12_size_15 : decode cX12_size 15 = .ok (.aload_n 0, 1) := by decide +kernel
theorem dX12_size_16 : decode cX12_size 16 = .ok (.getfield 379, 3) := by decide +kernel
theorem dX12_size_19 : decode cX12_size 19 = .ok (.goto 28, 3) := by decide +kernel
theorem dX12_size_22 : decode cX12_size 22 = .ok (.iload_n 1, 1) := by decide +kernel
theorem dX12_size_23 : decode cX12_size 23 = .ok (.iconst 1, 1) := by decide +kernel
theorem dX12_size_24 : decode cX12_size 24 = .ok (.if_icmp .ne 10, 3) := by decide +kernel
theorem dX12_size_27 : decode cX12_size 27 = .ok (.aload_n 0, 1) := by decide +kernel
theorem dX12_size_28 : decode cX12_size 28 = .ok (.getfield 382, 3) := by decide +kernel
theorem dX12_size_31 : decode cX12_size 31 = .ok (.goto 16, 3) := by decide +kernel
theorem dX12_size_34 : decode cX12_size 34 = .ok (.iload_n 1, 1) := by decide +kernel
theorem dX12_size_35 : decode cX12_size 35 = .ok (.iconst 2, 1) := by decide +kernel
theorem dX12_size_36 : decode cX12_size 36 = .ok (.if_icmp .ne 10, 3) := by decide +kernel
theorem dX12_size_39 : decode cX12_size 39 = .ok (.aload_n 0, 1) := by decide +kernel
theorem dX12_size_40 : decode cX12_size 40 = .ok (.getfield 385, 3) := by decide +kernel
theorem dX12_size_43 : decode cX12_size 43 = .ok (.goto 4, 3) := by decide +kernel
theorem dX12_size_46 : decode cX12_size 46 = .ok (.iconst (-1), 1) := by decide +kernel
theorem dX12_size_47 : decode cX12_size 47 = .ok (.ireturn, 1) := by decide +kernel
theorem dX12_field_0 : decode cX12_field 0 = .ok (.aload_n 0, 1) := by decide +kernel
theorem dX12_field_1 : decode cX12_field 1 = .ok (.getfield 375, 3) := by decide +kernel
theorem dX12_field_4 : decode cX12_field 4 = .ok (.ifCond .eq 24, 3) := by decide +kernel
theorem dX12_field_7 : decode cX12_field 7 = .ok (.iload_n 1, 1) := by decide +kernel
theorem dX12_field_8 : decode cX12_field 8 = .ok (.ifCond .lt 20, 3) := by decide +kernel
theorem dX12_field_11 : decode cX12_field 11 = .ok (.iload_n 1, 1) := by decide +kernel
theorem dX12_field_12 : decode cX12_field 12 = .ok (.aload_n 0, 1) := by decide +kernel
theorem dX12_field_13 : decode cX12_field 13 = .ok (.getfield 379, 3) := by decide +kernel
theorem dX12_field_16 : decode cX12_field 16 = .ok (.if_icmp .ge 12, 3) := by decide +kernel
theorem dX12_field_19 : decode cX12_field 19 = .ok (.aload_n 0, 1) := by decide +kernel
theorem dX12_field_20 : decode cX12_field 20 = .ok (.getfield 85, 3) := by decide +kernel
theorem dX12_field_23 : decode cX12_field 23 = .ok (.iload_n 1, 1) := by decide +kernel
theorem dX12_field_24 : decode cX12_field 24 = .ok (.iaload, 1) := by decide +kernel
theorem dX12_field_25 : decode cX12_field 25 = .ok (.goto 4, 3) := by decide +kernel
theorem dX12_field_28 : decode cX12_field 28 = .ok (.iconst (-1), 1) := by decide +kernel
theorem dX12_field_29 : decode cX12_field 29 = .ok (.ireturn, 1) := by decide +kernel
theorem dX12_isMethod_0 : decode cX12_isMethod 0 = .ok (.aload_n 0, 1) := by decide +kernel
theorem dX12_isMethod_1 : decode cX12_isMethod 1 = .ok (.getfield 375, 3) := by decide +kernel
theorem dX12_isMethod_4 : decode cX12_isMethod 4 = .ok (.ifCond .eq 19, 3) := by decide +kernel
theorem dX12_isMethod_7 : decode cX12_isMethod 7 = .ok (.iload_n 1, 1) := by decide +kernel
theorem dX12_isMethod_8 : decode cX12_isMethod 8 = .ok (.ifCond .lt 15, 3) := by decide +kernel
theorem dX12_isMethod_11 : decode cX12_isMethod 11 = .ok (.iload_n 1, 1) := by decide +kernel
theorem dX12_isMethod_12 : decode cX12_isMethod 12 = .ok (.aload_n 0, 1) := by decide +kernel
theorem dX12_isMethod_13 : decode cX12_isMethod 13 = .ok (.getfield 382, 3) := by decide +kernel
theorem dX12_isMethod_16 : decode cX12_isMethod 16 = .ok (.if_icmp .ge 7, 3) := by decide +kernel
theorem dX12_isMethod_19 : decode cX12_isMethod 19 = .ok (.iconst 1, 1) := by decide +kernel
theorem dX12_isMethod_20 : decode cX12_isMethod 20 = .ok (.goto 4, 3) := by decide +kernel
theorem dX12_isMethod_23 : decode cX12_isMethod 23 = .ok (.iconst 0, 1) := by decide +kernel
theorem dX12_isMethod_24 : decode cX12_isMethod 24 = .ok (.ireturn, 1) := by decide +kernel
theorem dX12_method_0 : decode cX12_method 0 = .ok (.aload_n 0, 1) := by decide +kernel
theorem dX12_method_1 : decode cX12_method 1 = .ok (.iload_n 1, 1) := by decide +kernel
theorem dX12_method_2 : decode cX12_method 2 = .ok (.invokevirtual 391, 3) := by decide +kernel
theorem dX12_method_5 : decode cX12_method 5 = .ok (.ifCond .eq 27, 3) := by decide +kernel
theorem dX12_method_8 : decode cX12_method 8 = .ok (.iload_n 2, 1) := by decide +kernel
theorem dX12_method_9 : decode cX12_method 9 = .ok (.ifCond .lt 23, 3) := by decide +kernel
theorem dX12_method_12 : decode cX12_method 12 = .ok (.iload_n 2, 1) := by decide +kernel
theorem dX12_method_13 : decode cX12_method 13 = .ok (.bipush 6, 2) := by decide +kernel
theorem dX12_method_15 : decode cX12_method 15 = .ok (.if_icmp .ge 17, 3) := by decide +kernel
theorem dX12_method_18 : decode cX12_method 18 = .ok (.aload_n 0, 1) := by decide +kernel
theorem dX12_method_19 : decode cX12_method 19 = .ok (.getfield 88, 3) := by decide +kernel
theorem dX12_method_22 : decode cX12_method 22 = .ok (.bipush 6, 2) := by decide +kernel
theorem dX12_method_24 : decode cX12_method 24 = .ok (.iload_n 1, 1) := by decide +kernel
theorem dX12_method_25 : decode cX12_method 25 = .ok (.imul, 1) := by decide +kernel
theorem dX12_method_26 : decode cX12_method 26 = .ok (.iload_n 2, 1) := by decide +kernel
theorem dX12_method_27 : decode cX12_method 27 = .ok (.iadd, 1) := by decide +kernel
theorem dX12_method_28 : decode cX12_method 28 = .ok (.iaload, 1) := by decide +kernel
theorem dX12_method_29 : decode cX12_method 29 = .ok (.goto 4, 3) := by decide +kernel
theorem dX12_method_32 : decode cX12_method 32 = .ok (.iconst (-1), 1) := by decide +kernel
theorem dX12_method_33 : decode cX12_method 33 = .ok (.ireturn, 1) := by decide +kernel
theorem dX12_rowAt_0 : decode cX12_rowAt 0 = .ok (.aload_n 0, 1) := by decide +kernel
theorem dX12_rowAt_1 : decode cX12_rowAt 1 = .ok (.iload_n 1, 1) := by decide +kernel
theorem dX12_rowAt_2 : decode cX12_rowAt 2 = .ok (.invokevirtual 391, 3) := by decide +kernel
theorem dX12_rowAt_5 : decode cX12_rowAt 5 = .ok (.ifCond .eq 33, 3) := by decide +kernel
theorem dX12_rowAt_8 : decode cX12_rowAt 8 = .ok (.iload_n 2, 1) := by decide +kernel
theorem dX12_rowAt_9 : decode cX12_rowAt 9 = .ok (.ifCond .lt 29, 3) := by decide +kernel
theorem dX12_rowAt_12 : decode cX12_rowAt 12 = .ok (.iload_n 2, 1) := by decide +kernel
theorem dX12_rowAt_13 : decode cX12_rowAt 13 = .ok (.aload_n 0, 1) := by decide +kernel
theorem dX12_rowAt_14 : decode cX12_rowAt 14 = .ok (.getfield 88, 3) := by decide +kernel
theorem dX12_rowAt_17 : decode cX12_rowAt 17 = .ok (.bipush 6, 2) := by decide +kernel
theorem dX12_rowAt_19 : decode cX12_rowAt 19 = .ok (.iload_n 1, 1) := by decide +kernel
theorem dX12_rowAt_20 : decode cX12_rowAt 20 = .ok (.imul, 1) := by decide +kernel
theorem dX12_rowAt_21 : decode cX12_rowAt 21 = .ok (.iaload, 1) := by decide +kernel
theorem dX12_rowAt_22 : decode cX12_rowAt 22 = .ok (.if_icmp .ge 16, 3) := by decide +kernel
theorem dX12_rowAt_25 : decode cX12_rowAt 25 = .ok (.iconst 3, 1) := by decide +kernel
theorem dX12_rowAt_26 : decode cX12_rowAt 26 = .ok (.aload_n 0, 1) := by decide +kernel
theorem dX12_rowAt_27 : decode cX12_rowAt 27 = .ok (.getfield 91, 3) := by decide +kernel
theorem dX12_rowAt_30 : decode cX12_rowAt 30 = .ok (.iload_n 1, 1) := by decide +kernel
theorem dX12_rowAt_31 : decode cX12_rowAt 31 = .ok (.iaload, 1) := by decide +kernel
theorem dX12_rowAt_32 : decode cX12_rowAt 32 = .ok (.iload_n 2, 1) := by decide +kernel
theorem dX12_rowAt_33 : decode cX12_rowAt 33 = .ok (.iadd, 1) := by decide +kernel
theorem dX12_rowAt_34 : decode cX12_rowAt 34 = .ok (.imul, 1) := by decide +kernel
theorem dX12_rowAt_35 : decode cX12_rowAt 35 = .ok (.goto 4, 3) := by decide +kernel
theorem dX12_rowAt_38 : decode cX12_rowAt 38 = .ok (.iconst (-1), 1) := by decide +kernel
theorem dX12_rowAt_39 : decode cX12_rowAt 39 = .ok (.ireturn, 1) := by decide +kernel
theorem dX12_code_0 : decode cX12_code 0 = .ok (.aload_n 0, 1) := by decide +kernel
theorem dX12_code_1 : decode cX12_code 1 = .ok (.iload_n 1, 1) := by decide +kernel
theorem dX12_code_2 : decode cX12_code 2 = .ok (.iload_n 2, 1) := by decide +kernel
theorem dX12_code_3 : decode cX12_code 3 = .ok (.invokevirtual 394, 3) := by decide +kernel
theorem dX12_code_6 : decode cX12_code 6 = .ok (.istore_n 3, 1) := by decide +kernel
theorem dX12_code_7 : decode cX12_code 7 = .ok (.iload_n 3, 1) := by decide +kernel
theorem dX12_code_8 : decode cX12_code 8 = .ok (.ifCond .ge 7, 3) := by decide +kernel
theorem dX12_code_11 : decode cX12_code 11 = .ok (.iconst (-1), 1) := by decide +kernel
theorem dX12_code_12 : decode cX12_code 12 = .ok (.goto 9, 3) := by decide +kernel
theorem dX12_code_15 : decode cX12_code 15 = .ok (.aload_n 0, 1) := by decide +kernel
theorem dX12_code_16 : decode cX12_code 16 = .ok (.getfield 94, 3) := by decide +kernel
theorem dX12_code_19 : decode cX12_code 19 = .ok (.iload_n 3, 1) := by decide +kernel
theorem dX12_code_20 : decode cX12_code 20 = .ok (.iaload, 1) := by decide +kernel
theorem dX12_code_21 : decode cX12_code 21 = .ok (.ireturn, 1) := by decide +kernel
theorem dX12_first_0 : decode cX12_first 0 = .ok (.aload_n 0, 1) := by decide +kernel
theorem dX12_first_1 : decode cX12_first 1 = .ok (.iload_n 1, 1) := by decide +kernel
theorem dX12_first_2 : decode cX12_first 2 = .ok (.iload_n 2, 1) := by decide +kernel
theorem dX12_first_3 : decode cX12_first 3 = .ok (.invokevirtual 394, 3) := by decide +kernel
theorem dX12_first_6 : decode cX12_first 6 = .ok (.istore_n 3, 1) := by decide +kernel
theorem dX12_first_7 : decode cX12_first 7 = .ok (.iload_n 3, 1) := by decide +kernel
theorem dX12_first_8 : decode cX12_first 8 = .ok (.ifCond .ge 5, 3) := by decide +kernel
theorem dX12_first_11 : decode cX12_first 11 = .ok (.iconst 0, 1) := by decide +kernel
theorem dX12_first_12 : decode cX12_first 12 = .ok (.ireturn, 1) := by decide +kernel
theorem dX12_first_13 : decode cX12_first 13 = .ok (.aload_n 0, 1) := by decide +kernel
theorem dX12_first_14 : decode cX12_first 14 = .ok (.getfield 94, 3) := by decide +kernel
theorem dX12_first_17 : decode cX12_first 17 = .ok (.iload_n 3, 1) := by decide +kernel
theorem dX12_first_18 : decode cX12_first 18 = .ok (.iaload, 1) := by decide +kernel
theorem dX12_first_19 : decode cX12_first 19 = .ok (.istore 4, 2) := by decide +kernel
theorem dX12_first_21 : decode cX12_first 21 = .ok (.iload 4, 2) := by decide +kernel
theorem dX12_first_23 : decode cX12_first 23 = .ok (.sipush 170, 3) := by decide +kernel
theorem dX12_first_26 : decode cX12_first 26 = .ok (.if_icmp .eq 11, 3) := by decide +kernel
theorem dX12_first_29 : decode cX12_first 29 = .ok (.iload 4, 2) := by decide +kernel
theorem dX12_first_31 : decode cX12_first 31 = .ok (.sipush 171, 3) := by decide +kernel
theorem dX12_first_34 : decode cX12_first 34 = .ok (.if_icmp .ne 17, 3) := by decide +kernel
theorem dX12_first_37 : decode cX12_first 37 = .ok (.aload_n 0, 1) := by decide +kernel
theorem dX12_first_38 : decode cX12_first 38 = .ok (.getfield 97, 3) := by decide +kernel
theorem dX12_first_41 : decode cX12_first 41 = .ok (.aload_n 0, 1) := by decide +kernel
theorem dX12_first_42 : decode cX12_first 42 = .ok (.getfield 94, 3) := by decide +kernel
theorem dX12_first_45 : decode cX12_first 45 = .ok (.iload_n 3, 1) := by decide +kernel
theorem dX12_first_46 : decode cX12_first 46 = .ok (.iconst 1, 1) := by decide +kernel
theorem dX12_first_47 : decode cX12_first 47 = .ok (.iadd, 1) := by decide +kernel
theorem dX12_first_48 : decode cX12_first 48 = .ok (.iaload, 1) := by decide +kernel
theorem dX12_first_49 : decode cX12_first 49 = .ok (.iaload, 1) := by decide +kernel
theorem dX12_first_50 : decode cX12_first 50 = .ok (.ireturn, 1) := by decide +kernel
theorem dX12_first_51 : decode cX12_first 51 = .ok (.iload 4, 2) := by decide +kernel
theorem dX12_first_53 : decode cX12_first 53 = .ok (.sipush 301, 3) := by decide +kernel
theorem dX12_first_56 : decode cX12_first 56 = .ok (.if_icmp .ne 14, 3) := by decide +kernel
theorem dX12_first_59 : decode cX12_first 59 = .ok (.aload_n 0, 1) := by decide +kernel
theorem dX12_first_60 : decode cX12_first 60 = .ok (.getfield 94, 3) := by decide +kernel
theorem dX12_first_63 : decode cX12_first 63 = .ok (.iload_n 3, 1) := by decide +kernel
theorem dX12_first_64 : decode cX12_first 64 = .ok (.iconst 2, 1) := by decide +kernel
theorem dX12_first_65 : decode cX12_first 65 = .ok (.iadd, 1) := by decide +kernel
theorem dX12_first_66 : decode cX12_first 66 = .ok (.iaload, 1) := by decide +kernel
theorem dX12_first_67 : decode cX12_first 67 = .ok (.goto 11, 3) := by decide +kernel
theorem dX12_first_70 : decode cX12_first 70 = .ok (.aload_n 0, 1) := by decide +kernel
theorem dX12_first_71 : decode cX12_first 71 = .ok (.getfield 94, 3) := by decide +kernel
theorem dX12_first_74 : decode cX12_first 74 = .ok (.iload_n 3, 1) := by decide +kernel
theorem dX12_first_75 : decode cX12_first 75 = .ok (.iconst 1, 1) := by decide +kernel
theorem dX12_first_76 : decode cX12_first 76 = .ok (.iadd, 1) := by decide +kernel
theorem dX12_first_77 : decode cX12_first 77 = .ok (.iaload, 1) := by decide +kernel
theorem dX12_first_78 : decode cX12_first 78 = .ok (.ireturn, 1) := by decide +kernel
theorem dX12_target_0 : decode cX12_target 0 = .ok (.aload_n 0, 1) := by decide +kernel
theorem dX12_target_1 : decode cX12_target 1 = .ok (.iload_n 1, 1) := by decide +kernel
theorem dX12_target_2 : decode cX12_target 2 = .ok (.iload_n 2, 1) := by decide +kernel
theorem dX12_target_3 : decode cX12_target 3 = .ok (.invokevirtual 394, 3) := by decide +kernel
theorem dX12_target_6 : decode cX12_target 6 = .ok (.istore 4, 2) := by decide +kernel
theorem dX12_target_8 : decode cX12_target 8 = .ok (.iload 4, 2) := by decide +kernel
theorem dX12_target_10 : decode cX12_target 10 = .ok (.ifCond .lt 46, 3) := by decide +kernel
theorem dX12_target_13 : decode cX12_target 13 = .ok (.aload_n 0, 1) := by decide +kernel
theorem dX12_target_14 : decode cX12_target 14 = .ok (.getfield 94, 3) := by decide +kernel
theorem dX12_target_17 : decode cX12_target 17 = .ok (.iload 4, 2) := by decide +kernel
theorem dX12_target_19 : decode cX12_target 19 = .ok (.iaload, 1) := by decide +kernel
theorem dX12_target_20 : decode cX12_target 20 = .ok (.sipush 170, 3) := by decide +kernel
theorem dX12_target_23 : decode cX12_target 23 = .ok (.if_icmp .eq 16, 3) := by decide +kernel
theorem dX12_target_26 : decode cX12_target 26 = .ok (.aload_n 0, 1) := by decide +kernel
theorem dX12_target_27 : decode cX12_target 27 = .ok (.getfield 94, 3) := by decide +kernel
theorem dX12_target_30 : decode cX12_target 30 = .ok (.iload 4, 2) := by decide +kernel
theorem dX12_target_32 : decode cX12_target 32 = .ok (.iaload, 1) := by decide +kernel
theorem dX12_target_33 : decode cX12_target 33 = .ok (.sipush 171, 3) := by decide +kernel
theorem dX12_target_36 : decode cX12_target 36 = .ok (.if_icmp .ne 20, 3) := by decide +kernel
theorem dX12_target_39 : decode cX12_target 39 = .ok (.iload_n 3, 1) := by decide +kernel
theorem dX12_target_40 : decode cX12_target 40 = .ok (.ifCond .lt 16, 3) := by decide +kernel
theorem dX12_target_43 : decode cX12_target 43 = .ok (.iload_n 3, 1) := by decide +kernel
theorem dX12_target_44 : decode cX12_target 44 = .ok (.aload_n 0, 1) := by decide +kernel
theorem dX12_target_45 : decode cX12_target 45 = .ok (.getfield 94, 3) := by decide +kernel
theorem dX12_target_48 : decode cX12_target 48 = .ok (.iload 4, 2) := by decide +kernel
theorem dX12_target_50 : decode cX12_target 50 = .ok (.iconst 2, 1) := by decide +kernel
theorem dX12_target_51 : decode cX12_target 51 = .ok (.iadd, 1) := by decide +kernel
theorem dX12_target_52 : decode cX12_target 52 = .ok (.iaload, 1) := by decide +kernel
theorem dX12_target_53 : decode cX12_target 53 = .ok (.if_icmp .le 5, 3) := by decide +kernel
theorem dX12_target_56 : decode cX12_target 56 = .ok (.iconst (-1), 1) := by decide +kernel
theorem dX12_target_57 : decode cX12_target 57 = .ok (.ireturn, 1) := by decide +kernel
theorem dX12_target_58 : decode cX12_target 58 = .ok (.aload_n 0, 1) := by decide +kernel
theorem dX12_target_59 : decode cX12_target 59 = .ok (.getfield 97, 3) := by decide +kernel
theorem dX12_target_62 : decode cX12_target 62 = .ok (.aload_n 0, 1) := by decide +kernel
theorem dX12_target_63 : decode cX12_target 63 = .ok (.getfield 94, 3) := by decide +kernel
theorem dX12_target_66 : decode cX12_target 66 = .ok (.iload 4, 2) := by decide +kernel
theorem dX12_target_68 : decode cX12_target 68 = .ok (.iconst 1, 1) := by decide +kernel
theorem dX12_target_69 : decode cX12_target 69 = .ok (.iadd, 1) := by decide +kernel
theorem dX12_target_70 : decode cX12_target 70 = .ok (.iaload, 1) := by decide +kernel
theorem dX12_target_71 : decode cX12_target 71 = .ok (.iconst 2, 1) := by decide +kernel
theorem dX12_target_72 : decode cX12_target 72 = .ok (.iload_n 3, 1) := by decide +kernel
theorem dX12_target_73 : decode cX12_target 73 = .ok (.imul, 1) := by decide +kernel
theorem dX12_target_74 : decode cX12_target 74 = .ok (.iadd, 1) := by decide +kernel
theorem dX12_target_75 : decode cX12_target 75 = .ok (.iaload, 1) := by decide +kernel
theorem dX12_target_76 : decode cX12_target 76 = .ok (.ireturn, 1) := by decide +kernel
theorem dL_law_0 : decode cL_law 0 = .ok (.new 7, 3) := by decide +kernel
theorem dL_law_3 : decode cL_law 3 = .ok (.dup, 1) := by decide +kernel
theorem dL_law_4 : decode cL_law 4 = .ok (.invokespecial 9, 3) := by decide +kernel
theorem dL_law_7 : decode cL_law 7 = .ok (.astore_n 1, 1) := by decide +kernel
theorem dL_law_8 : decode cL_law 8 = .ok (.new 10, 3) := by decide +kernel
theorem dL_law_11 : decode cL_law 11 = .ok (.dup, 1) := by decide +kernel
theorem dL_law_12 : decode cL_law 12 = .ok (.invokespecial 12, 3) := by decide +kernel
theorem dL_law_15 : decode cL_law 15 = .ok (.astore_n 2, 1) := by decide +kernel
theorem dL_law_16 : decode cL_law 16 = .ok (.iconst 0, 1) := by decide +kernel
theorem dL_law_17 : decode cL_law 17 = .ok (.istore_n 3, 1) := by decide +kernel
theorem dL_law_18 : decode cL_law 18 = .ok (.iload_n 3, 1) := by decide +kernel
theorem dL_law_19 : decode cL_law 19 = .ok (.aload_n 0, 1) := by decide +kernel
theorem dL_law_20 : decode cL_law 20 = .ok (.arraylength, 1) := by decide +kernel
theorem dL_law_21 : decode cL_law 21 = .ok (.bipush 6, 2) := by decide +kernel
theorem dL_law_23 : decode cL_law 23 = .ok (.isub, 1) := by decide +kernel
theorem dL_law_24 : decode cL_law 24 = .ok (.if_icmp .gt 370, 3) := by decide +kernel
theorem dL_law_27 : decode cL_law 27 = .ok (.aload_n 0, 1) := by decide +kernel
theorem dL_law_28 : decode cL_law 28 = .ok (.iload_n 3, 1) := by decide +kernel
theorem dL_law_29 : decode cL_law 29 = .ok (.iaload, 1) := by decide +kernel
theorem dL_law_30 : decode cL_law 30 = .ok (.bipush 15, 2) := by decide +kernel
theorem dL_law_32 : decode cL_law 32 = .ok (.iand, 1) := by decide +kernel
theorem dL_law_33 : decode cL_law 33 = .ok (.tableswitch 355 0 9 #[55, 118, 141, 154, 167, 190, 213, 246, 279, 312], 55) := by decide +kernel
theorem dL_law_88 : decode cL_law 88 = .ok (.aload_n 1, 1) := by decide +kernel
theorem dL_law_89 : decode cL_law 89 = .ok (.aload_n 0, 1) := by decide +kernel
theorem dL_law_90 : decode cL_law 90 = .ok (.iload_n 3, 1) := by decide +kernel
theorem dL_law_91 : decode cL_law 91 = .ok (.iconst 1, 1) := by decide +kernel
theorem dL_law_92 : decode cL_law 92 = .ok (.iadd, 1) := by decide +kernel
theorem dL_law_93 : decode cL_law 93 = .ok (.iaload, 1) := by decide +kernel
theorem dL_law_94 : decode cL_law 94 = .ok (.aload_n 0, 1) := by decide +kernel
theorem dL_law_95 : decode cL_law 95 = .ok (.iload_n 3, 1) := by decide +kernel
theorem dL_law_96 : decode cL_law 96 = .ok (.iconst 2, 1) := by decide +kernel
theorem dL_law_97 : decode cL_law 97 = .ok (.iadd, 1) := by decide +kernel
theorem dL_law_98 : decode cL_law 98 = .ok (.iaload, 1) := by decide +kernel
theorem dL_law_99 : decode cL_law 99 = .ok (.aload_n 0, 1) := by decide +kernel
theorem dL_law_100 : decode cL_law 100 = .ok (.iload_n 3, 1) := by decide +kernel
theorem dL_law_101 : decode cL_law 101 = .ok (.iconst 3, 1) := by decide +kernel
theorem dL_law_102 : decode cL_law 102 = .ok (.iadd, 1) := by decide +kernel
theorem dL_law_103 : decode cL_law 103 = .ok (.iaload, 1) := by decide +kernel
theorem dL_law_104 : decode cL_law 104 = .ok (.aload_n 0, 1) := by decide +kernel
theorem dL_law_105 : decode cL_law 105 = .ok (.iload_n 3, 1) := by decide +kernel
theorem dL_law_106 : decode cL_law 106 = .ok (.iconst 4, 1) := by decide +kernel
theorem dL_law_107 : decode cL_law 107 = .ok (.iadd, 1) := by decide +kernel
theorem dL_law_108 : decode cL_law 108 = .ok (.iaload, 1) := by decide +kernel
theorem dL_law_109 : decode cL_law 109 = .ok (.aload_n 0, 1) := by decide +kernel
theorem dL_law_110 : decode cL_law 110 = .ok (.iload_n 3, 1) := by decide +kernel
theorem dL_law_111 : decode cL_law 111 = .ok (.iconst 5, 1) := by decide +kernel
theorem dL_law_112 : decode cL_law 112 = .ok (.iadd, 1) := by decide +kernel
theorem dL_law_113 : decode cL_law 113 = .ok (.iaload, 1) := by decide +kernel
theorem dL_law_114 : decode cL_law 114 = .ok (.invokevirtual 13, 3) := by decide +kernel
theorem dL_law_117 : decode cL_law 117 = .ok (.aload_n 2, 1) := by decide +kernel
theorem dL_law_118 : decode cL_law 118 = .ok (.aload_n 0, 1) := by decide +kernel
theorem dL_law_119 : decode cL_law 119 = .ok (.iload_n 3, 1) := by decide +kernel
theorem dL_law_120 : decode cL_law 120 = .ok (.iconst 1, 1) := by decide +kernel
theorem dL_law_121 : decode cL_law 121 = .ok (.iadd, 1) := by decide +kernel
theorem dL_law_122 : decode cL_law 122 = .ok (.iaload, 1) := by decide +kernel
theorem dL_law_123 : decode cL_law 123 = .ok (.aload_n 0, 1) := by decide +kernel
theorem dL_law_124 : decode cL_law 124 = .ok (.iload_n 3, 1) := by decide +kernel
theorem dL_law_125 : decode cL_law 125 = .ok (.iconst 2, 1) := by decide +kernel
theorem dL_law_126 : decode cL_law 126 = .ok (.iadd, 1) := by decide +kernel
theorem dL_law_127 : decode cL_law 127 = .ok (.iaload, 1) := by decide +kernel
theorem dL_law_128 : decode cL_law 128 = .ok (.aload_n 0, 1) := by decide +kernel
theorem dL_law_129 : decode cL_law 129 = .ok (.iload_n 3, 1) := by decide +kernel
theorem dL_law_130 : decode cL_law 130 = .ok (.iconst 3, 1) := by decide +kernel
theorem dL_law_131 : decode cL_law 131 = .ok (.iadd, 1) := by decide +kernel
theorem dL_law_132 : decode cL_law 132 = .ok (.iaload, 1) := by decide +kernel
theorem dL_law_133 : decode cL_law 133 = .ok (.aload_n 0, 1) := by decide +kernel
theorem dL_law_134 : decode cL_law 134 = .ok (.iload_n 3, 1) := by decide +kernel
theorem dL_law_135 : decode cL_law 135 = .ok (.iconst 4, 1) := by decide +kernel
theorem dL_law_136 : decode cL_law 136 = .ok (.iadd, 1) := by decide +kernel
theorem dL_law_137 : decode cL_law 137 = .ok (.iaload, 1) := by decide +kernel
theorem dL_law_138 : decode cL_law 138 = .ok (.aload_n 0, 1) := by decide +kernel
theorem dL_law_139 : decode cL_law 139 = .ok (.iload_n 3, 1) := by decide +kernel
theorem dL_law_140 : decode cL_law 140 = .ok (.iconst 5, 1) := by decide +kernel
theorem dL_law_141 : decode cL_law 141 = .ok (.iadd, 1) := by decide +kernel
theorem dL_law_142 : decode cL_law 142 = .ok (.iaload, 1) := by decide +kernel
theorem dL_law_143 : decode cL_law 143 = .ok (.invokevirtual 17, 3) := by decide +kernel
theorem dL_law_146 : decode cL_law 146 = .ok (.if_icmp .eq 242, 3) := by decide +kernel
theorem dL_law_149 : decode cL_law 149 = .ok (.iconst 0, 1) := by decide +kernel
theorem dL_law_150 : decode cL_law 150 = .ok (.ireturn, 1) := by decide +kernel
theorem dL_law_151 : decode cL_law 151 = .ok (.aload_n 1, 1) := by decide +kernel
theorem dL_law_152 : decode cL_law 152 = .ok (.aload_n 0, 1) := by decide +kernel
theorem dL_law_153 : decode cL_law 153 = .ok (.iload_n 3, 1) := by decide +kernel
theorem dL_law_154 : decode cL_law 154 = .ok (.iconst 1, 1) := by decide +kernel
theorem dL_law_155 : decode cL_law 155 = .ok (.iadd, 1) := by decide +kernel
theorem dL_law_156 : decode cL_law 156 = .ok (.iaload, 1) := by decide +kernel
theorem dL_law_157 : decode cL_law 157 = .ok (.invokevirtual 18, 3) := by decide +kernel
theorem dL_law_160 : decode cL_law 160 = .ok (.aload_n 2, 1) := by decide +kernel
theorem dL_law_161 : decode cL_law 161 = .ok (.aload_n 0, 1) := by decide +kernel
theorem dL_law_162 : decode cL_law 162 = .ok (.iload_n 3, 1) := by decide +kernel
theorem dL_law_163 : decode cL_law 163 = .ok (.iconst 1, 1) := by decide +kernel
theorem dL_law_164 : decode cL_law 164 = .ok (.iadd, 1) := by decide +kernel
theorem dL_law_165 : decode cL_law 165 = .ok (.iaload, 1) := by decide +kernel
theorem dL_law_166 : decode cL_law 166 = .ok (.invokevirtual 22, 3) := by decide +kernel
theorem dL_law_169 : decode cL_law 169 = .ok (.if_icmp .eq 219, 3) := by decide +kernel
theorem dL_law_172 : decode cL_law 172 = .ok (.iconst 0, 1) := by decide +kernel
theorem dL_law_173 : decode cL_law 173 = .ok (.ireturn, 1) := by decide +kernel
theorem dL_law_174 : decode cL_law 174 = .ok (.aload_n 1, 1) := by decide +kernel
theorem dL_law_175 : decode cL_law 175 = .ok (.invokevirtual 23, 3) := by decide +kernel
theorem dL_law_178 : decode cL_law 178 = .ok (.aload_n 2, 1) := by decide +kernel
theorem dL_law_179 : decode cL_law 179 = .ok (.invokevirtual 27, 3) := by decide +kernel
theorem dL_law_182 : decode cL_law 182 = .ok (.if_icmp .eq 206, 3) := by decide +kernel
theorem dL_law_185 : decode cL_law 185 = .ok (.iconst 0, 1) := by decide +kernel
theorem dL_law_186 : decode cL_law 186 = .ok (.ireturn, 1) := by decide +kernel
theorem dL_law_187 : decode cL_law 187 = .ok (.aload_n 1, 1) := by decide +kernel
theorem dL_law_188 : decode cL_law 188 = .ok (.invokevirtual 28, 3) := by decide +kernel
theorem dL_law_191 : decode cL_law 191 = .ok (.aload_n 2, 1) := by decide +kernel
theorem dL_law_192 : decode cL_law 192 = .ok (.invokevirtual 31, 3) := by decide +kernel
theorem dL_law_195 : decode cL_law 195 = .ok (.if_icmp .eq 193, 3) := by decide +kernel
theorem dL_law_198 : decode cL_law 198 = .ok (.iconst 0, 1) := by decide +kernel
theorem dL_law_199 : decode cL_law 199 = .ok (.ireturn, 1) := by decide +kernel
theorem dL_law_200 : decode cL_law 200 = .ok (.aload_n 1, 1) := by decide +kernel
theorem dL_law_201 : decode cL_law 201 = .ok (.aload_n 0, 1) := by decide +kernel
theorem dL_law_202 : decode cL_law 202 = .ok (.iload_n 3, 1) := by decide +kernel
theorem dL_law_203 : decode cL_law 203 = .ok (.iconst 1, 1) := by decide +kernel
theorem dL_law_204 : decode cL_law 204 = .ok (.iadd, 1) := by decide +kernel
theorem dL_law_205 : decode cL_law 205 = .ok (.iaload, 1) := by decide +kernel
theorem dL_law_206 : decode cL_law 206 = .ok (.invokevirtual 32, 3) := by decide +kernel
theorem dL_law_209 : decode cL_law 209 = .ok (.aload_n 2, 1) := by decide +kernel
theorem dL_law_210 : decode cL_law 210 = .ok (.aload_n 0, 1) := by decide +kernel
theorem dL_law_211 : decode cL_law 211 = .ok (.iload_n 3, 1) := by decide +kernel
theorem dL_law_212 : decode cL_law 212 = .ok (.iconst 1, 1) := by decide +kernel
theorem dL_law_213 : decode cL_law 213 = .ok (.iadd, 1) := by decide +kernel
theorem dL_law_214 : decode cL_law 214 = .ok (.iaload, 1) := by decide +kernel
theorem dL_law_215 : decode cL_law 215 = .ok (.invokevirtual 36, 3) := by decide +kernel
theorem dL_law_218 : decode cL_law 218 = .ok (.if_icmp .eq 170, 3) := by decide +kernel
theorem dL_law_221 : decode cL_law 221 = .ok (.iconst 0, 1) := by decide +kernel
theorem dL_law_222 : decode cL_law 222 = .ok (.ireturn, 1) := by decide +kernel
theorem dL_law_223 : decode cL_law 223 = .ok (.aload_n 1, 1) := by decide +kernel
theorem dL_law_224 : decode cL_law 224 = .ok (.aload_n 0, 1) := by decide +kernel
theorem dL_law_225 : decode cL_law 225 = .ok (.iload_n 3, 1) := by decide +kernel
theorem dL_law_226 : decode cL_law 226 = .ok (.iconst 1, 1) := by decide +kernel
theorem dL_law_227 : decode cL_law 227 = .ok (.iadd, 1) := by decide +kernel
theorem dL_law_228 : decode cL_law 228 = .ok (.iaload, 1) := by decide +kernel
theorem dL_law_229 : decode cL_law 229 = .ok (.invokevirtual 37, 3) := by decide +kernel
theorem dL_law_232 : decode cL_law 232 = .ok (.aload_n 2, 1) := by decide +kernel
theorem dL_law_233 : decode cL_law 233 = .ok (.aload_n 0, 1) := by decide +kernel
theorem dL_law_234 : decode cL_law 234 = .ok (.iload_n 3, 1) := by decide +kernel
theorem dL_law_235 : decode cL_law 235 = .ok (.iconst 1, 1) := by decide +kernel
theorem dL_law_236 : decode cL_law 236 = .ok (.iadd, 1) := by decide +kernel
theorem dL_law_237 : decode cL_law 237 = .ok (.iaload, 1) := by decide +kernel
theorem dL_law_238 : decode cL_law 238 = .ok (.invokevirtual 40, 3) := by decide +kernel
theorem dL_law_241 : decode cL_law 241 = .ok (.if_icmp .eq 147, 3) := by decide +kernel
theorem dL_law_244 : decode cL_law 244 = .ok (.iconst 0, 1) := by decide +kernel
theorem dL_law_245 : decode cL_law 245 = .ok (.ireturn, 1) := by decide +kernel
theorem dL_law_246 : decode cL_law 246 = .ok (.aload_n 1, 1) := by decide +kernel
theorem dL_law_247 : decode cL_law 247 = .ok (.aload_n 0, 1) := by decide +kernel
theorem dL_law_248 : decode cL_law 248 = .ok (.iload_n 3, 1) := by decide +kernel
theorem dL_law_249 : decode cL_law 249 = .ok (.iconst 1, 1) := by decide +kernel
theorem dL_law_250 : decode cL_law 250 = .ok (.iadd, 1) := by decide +kernel
theorem dL_law_251 : decode cL_law 251 = .ok (.iaload, 1) := by decide +kernel
theorem dL_law_252 : decode cL_law 252 = .ok (.aload_n 0, 1) := by decide +kernel
theorem dL_law_253 : decode cL_law 253 = .ok (.iload_n 3, 1) := by decide +kernel
theorem dL_law_254 : decode cL_law 254 = .ok (.iconst 2, 1) := by decide +kernel
theorem dL_law_255 : decode cL_law 255 = .ok (.iadd, 1) := by decide +kernel
theorem dL_law_256 : decode cL_law 256 = .ok (.iaload, 1) := by decide +kernel
theorem dL_law_257 : decode cL_law 257 = .ok (.invokevirtual 41, 3) := by decide +kernel
theorem dL_law_260 : decode cL_law 260 = .ok (.aload_n 2, 1) := by decide +kernel
theorem dL_law_261 : decode cL_law 261 = .ok (.aload_n 0, 1) := by decide +kernel
theorem dL_law_262 : decode cL_law 262 = .ok (.iload_n 3, 1) := by decide +kernel
theorem dL_law_263 : decode cL_law 263 = .ok (.iconst 1, 1) := by decide +kernel
theorem dL_law_264 : decode cL_law 264 = .ok (.iadd, 1) := by decide +kernel
theorem dL_law_265 : decode cL_law 265 = .ok (.iaload, 1) := by decide +kernel
theorem dL_law_266 : decode cL_law 266 = .ok (.aload_n 0, 1) := by decide +kernel
theorem dL_law_267 : decode cL_law 267 = .ok (.iload_n 3, 1) := by decide +kernel
theorem dL_law_268 : decode cL_law 268 = .ok (.iconst 2, 1) := by decide +kernel
theorem dL_law_269 : decode cL_law 269 = .ok (.iadd, 1) := by decide +kernel
theorem dL_law_270 : decode cL_law 270 = .ok (.iaload, 1) := by decide +kernel
theorem dL_law_271 : decode cL_law 271 = .ok (.invokevirtual 45, 3) := by decide +kernel
theorem dL_law_274 : decode cL_law 274 = .ok (.if_icmp .eq 114, 3) := by decide +kernel
theorem dL_law_277 : decode cL_law 277 = .ok (.iconst 0, 1) := by decide +kernel
theorem dL_law_278 : decode cL_law 278 = .ok (.ireturn, 1) := by decide +kernel
theorem dL_law_279 : decode cL_law 279 = .ok (.aload_n 1, 1) := by decide +kernel
theorem dL_law_280 : decode cL_law 280 = .ok (.aload_n 0, 1) := by decide +kernel
theorem dL_law_281 : decode cL_law 281 = .ok (.iload_n 3, 1) := by decide +kernel
theorem dL_law_282 : decode cL_law 282 = .ok (.iconst 1, 1) := by decide +kernel
theorem dL_law_283 : decode cL_law 283 = .ok (.iadd, 1) := by decide +kernel
theorem dL_law_284 : decode cL_law 284 = .ok (.iaload, 1) := by decide +kernel
theorem dL_law_285 : decode cL_law 285 = .ok (.aload_n 0, 1) := by decide +kernel
theorem dL_law_286 : decode cL_law 286 = .ok (.iload_n 3, 1) := by decide +kernel
theorem dL_law_287 : decode cL_law 287 = .ok (.iconst 2, 1) := by decide +kernel
theorem dL_law_288 : decode cL_law 288 = .ok (.iadd, 1) := by decide +kernel
theorem dL_law_289 : decode cL_law 289 = .ok (.iaload, 1) := by decide +kernel
theorem dL_law_290 : decode cL_law 290 = .ok (.invokevirtual 46, 3) := by decide +kernel
theorem dL_law_293 : decode cL_law 293 = .ok (.aload_n 2, 1) := by decide +kernel
theorem dL_law_294 : decode cL_law 294 = .ok (.aload_n 0, 1) := by decide +kernel
theorem dL_law_295 : decode cL_law 295 = .ok (.iload_n 3, 1) := by decide +kernel
theorem dL_law_296 : decode cL_law 296 = .ok (.iconst 1, 1) := by decide +kernel
theorem dL_law_297 : decode cL_law 297 = .ok (.iadd, 1) := by decide +kernel
theorem dL_law_298 : decode cL_law 298 = .ok (.iaload, 1) := by decide +kernel
theorem dL_law_299 : decode cL_law 299 = .ok (.aload_n 0, 1) := by decide +kernel
theorem dL_law_300 : decode cL_law 300 = .ok (.iload_n 3, 1) := by decide +kernel
theorem dL_law_301 : decode cL_law 301 = .ok (.iconst 2, 1) := by decide +kernel
theorem dL_law_302 : decode cL_law 302 = .ok (.iadd, 1) := by decide +kernel
theorem dL_law_303 : decode cL_law 303 = .ok (.iaload, 1) := by decide +kernel
theorem dL_law_304 : decode cL_law 304 = .ok (.invokevirtual 49, 3) := by decide +kernel
theorem dL_law_307 : decode cL_law 307 = .ok (.if_icmp .eq 81, 3) := by decide +kernel
theorem dL_law_310 : decode cL_law 310 = .ok (.iconst 0, 1) := by decide +kernel
theorem dL_law_311 : decode cL_law 311 = .ok (.ireturn, 1) := by decide +kernel
theorem dL_law_312 : decode cL_law 312 = .ok (.aload_n 1, 1) := by decide +kernel
theorem dL_law_313 : decode cL_law 313 = .ok (.aload_n 0, 1) := by decide +kernel
theorem dL_law_314 : decode cL_law 314 = .ok (.iload_n 3, 1) := by decide +kernel
theorem dL_law_315 : decode cL_law 315 = .ok (.iconst 1, 1) := by decide +kernel
theorem dL_law_316 : decode cL_law 316 = .ok (.iadd, 1) := by decide +kernel
theorem dL_law_317 : decode cL_law 317 = .ok (.iaload, 1) := by decide +kernel
theorem dL_law_318 : decode cL_law 318 = .ok (.aload_n 0, 1) := by decide +kernel
theorem dL_law_319 : decode cL_law 319 = .ok (.iload_n 3, 1) := by decide +kernel
theorem dL_law_320 : decode cL_law 320 = .ok (.iconst 2, 1) := by decide +kernel
theorem dL_law_321 : decode cL_law 321 = .ok (.iadd, 1) := by decide +kernel
theorem dL_law_322 : decode cL_law 322 = .ok (.iaload, 1) := by decide +kernel
theorem dL_law_323 : decode cL_law 323 = .ok (.invokevirtual 50, 3) := by decide +kernel
theorem dL_law_326 : decode cL_law 326 = .ok (.aload_n 2, 1) := by decide +kernel
theorem dL_law_327 : decode cL_law 327 = .ok (.aload_n 0, 1) := by decide +kernel
theorem dL_law_328 : decode cL_law 328 = .ok (.iload_n 3, 1) := by decide +kernel
theorem dL_law_329 : decode cL_law 329 = .ok (.iconst 1, 1) := by decide +kernel
theorem dL_law_330 : decode cL_law 330 = .ok (.iadd, 1) := by decide +kernel
theorem dL_law_331 : decode cL_law 331 = .ok (.iaload, 1) := by decide +kernel
theorem dL_law_332 : decode cL_law 332 = .ok (.aload_n 0, 1) := by decide +kernel
theorem dL_law_333 : decode cL_law 333 = .ok (.iload_n 3, 1) := by decide +kernel
theorem dL_law_334 : decode cL_law 334 = .ok (.iconst 2, 1) := by decide +kernel
theorem dL_law_335 : decode cL_law 335 = .ok (.iadd, 1) := by decide +kernel
theorem dL_law_336 : decode cL_law 336 = .ok (.iaload, 1) := by decide +kernel
theorem dL_law_337 : decode cL_law 337 = .ok (.invokevirtual 53, 3) := by decide +kernel
theorem dL_law_340 : decode cL_law 340 = .ok (.if_icmp .eq 48, 3) := by decide +kernel
theorem dL_law_343 : decode cL_law 343 = .ok (.iconst 0, 1) := by decide +kernel
theorem dL_law_344 : decode cL_law 344 = .ok (.ireturn, 1) := by decide +kernel
theorem dL_law_345 : decode cL_law 345 = .ok (.aload_n 1, 1) := by decide +kernel
theorem dL_law_346 : decode cL_law 346 = .ok (.aload_n 0, 1) := by decide +kernel
theorem dL_law_347 : decode cL_law 347 = .ok (.iload_n 3, 1) := by decide +kernel
theorem dL_law_348 : decode cL_law 348 = .ok (.iconst 1, 1) := by decide +kernel
theorem dL_law_349 : decode cL_law 349 = .ok (.iadd, 1) := by decide +kernel
theorem dL_law_350 : decode cL_law 350 = .ok (.iaload, 1) := by decide +kernel
theorem dL_law_351 : decode cL_law 351 = .ok (.aload_n 0, 1) := by decide +kernel
theorem dL_law_352 : decode cL_law 352 = .ok (.iload_n 3, 1) := by decide +kernel
theorem dL_law_353 : decode cL_law 353 = .ok (.iconst 2, 1) := by decide +kernel
theorem dL_law_354 : decode cL_law 354 = .ok (.iadd, 1) := by decide +kernel
theorem dL_law_355 : decode cL_law 355 = .ok (.iaload, 1) := by decide +kernel
theorem dL_law_356 : decode cL_law 356 = .ok (.aload_n 0, 1) := by decide +kernel
theorem dL_law_357 : decode cL_law 357 = .ok (.iload_n 3, 1) := by decide +kernel
theorem dL_law_358 : decode cL_law 358 = .ok (.iconst 3, 1) := by decide +kernel
theorem dL_law_359 : decode cL_law 359 = .ok (.iadd, 1) := by decide +kernel
theorem dL_law_360 : decode cL_law 360 = .ok (.iaload, 1) := by decide +kernel
theorem dL_law_361 : decode cL_law 361 = .ok (.invokevirtual 54, 3) := by decide +kernel
theorem dL_law_364 : decode cL_law 364 = .ok (.aload_n 2, 1) := by decide +kernel
theorem dL_law_365 : decode cL_law 365 = .ok (.aload_n 0, 1) := by decide +kernel
theorem dL_law_366 : decode cL_law 366 = .ok (.iload_n 3, 1) := by decide +kernel
theorem dL_law_367 : decode cL_law 367 = .ok (.iconst 1, 1) := by decide +kernel
theorem dL_law_368 : decode cL_law 368 = .ok (.iadd, 1) := by decide +kernel
theorem dL_law_369 : decode cL_law 369 = .ok (.iaload, 1) := by decide +kernel
theorem dL_law_370 : decode cL_law 370 = .ok (.aload_n 0, 1) := by decide +kernel
theorem dL_law_371 : decode cL_law 371 = .ok (.iload_n 3, 1) := by decide +kernel
theorem dL_law_372 : decode cL_law 372 = .ok (.iconst 2, 1) := by decide +kernel
theorem dL_law_373 : decode cL_law 373 = .ok (.iadd, 1) := by decide +kernel
theorem dL_law_374 : decode cL_law 374 = .ok (.iaload, 1) := by decide +kernel
theorem dL_law_375 : decode cL_law 375 = .ok (.aload_n 0, 1) := by decide +kernel
theorem dL_law_376 : decode cL_law 376 = .ok (.iload_n 3, 1) := by decide +kernel
theorem dL_law_377 : decode cL_law 377 = .ok (.iconst 3, 1) := by decide +kernel
theorem dL_law_378 : decode cL_law 378 = .ok (.iadd, 1) := by decide +kernel
theorem dL_law_379 : decode cL_law 379 = .ok (.iaload, 1) := by decide +kernel
theorem dL_law_380 : decode cL_law 380 = .ok (.invokevirtual 58, 3) := by decide +kernel
theorem dL_law_383 : decode cL_law 383 = .ok (.if_icmp .eq 5, 3) := by decide +kernel
theorem dL_law_386 : decode cL_law 386 = .ok (.iconst 0, 1) := by decide +kernel
theorem dL_law_387 : decode cL_law 387 = .ok (.ireturn, 1) := by decide +kernel
theorem dL_law_388 : decode cL_law 388 = .ok (.iinc 3 6, 3) := by decide +kernel
theorem dL_law_391 : decode cL_law 391 = .ok (.goto (-373), 3) := by decide +kernel
theorem dL_law_394 : decode cL_law 394 = .ok (.iconst 1, 1) := by decide +kernel
theorem dL_law_395 : decode cL_law 395 = .ok (.ireturn, 1) := by decide +kernel
