theorem dX7_figureOf_0 : decode cX7_figureOf 0 = .ok (.aload_n 0, 1) := by decide +kernel
theorem dX7_figureOf_1 : decode cX7_figureOf 1 = .ok (.aload_n 0, 1) := by decide +kernel
theorem dX7_figureOf_2 : decode cX7_figureOf 2 = .ok (.iload_n 1, 1) := by decide +kernel
theorem dX7_figureOf_3 : decode cX7_figureOf 3 = .ok (.invokevirtual 62, 3) := by decide +kernel
theorem dX7_figureOf_6 : decode cX7_figureOf 6 = .ok (.ifCond .eq 7, 3) := by decide +kernel
theorem dX7_figureOf_9 : decode cX7_figureOf 9 = .ok (.iconst 0, 1) := by decide +kernel
theorem dX7_figureOf_10 : decode cX7_figureOf 10 = .ok (.goto 4, 3) := by decide +kernel
theorem dX7_figureOf_13 : decode cX7_figureOf 13 = .ok (.iconst 1, 1) := by decide +kernel
theorem dX7_figureOf_14 : decode cX7_figureOf 14 = .ok (.invokevirtual 55, 3) := by decide +kernel
theorem dX7_figureOf_17 : decode cX7_figureOf 17 = .ok (.ifCond .eq 11, 3) := by decide +kernel
theorem dX7_figureOf_20 : decode cX7_figureOf 20 = .ok (.aload_n 0, 1) := by decide +kernel
theorem dX7_figureOf_21 : decode cX7_figureOf 21 = .ok (.iload_n 1, 1) := by decide +kernel
theorem dX7_figureOf_22 : decode cX7_figureOf 22 = .ok (.invokevirtual 76, 3) := by decide +kernel
theorem dX7_figureOf_25 : decode cX7_figureOf 25 = .ok (.goto 4, 3) := by decide +kernel
theorem dX7_figureOf_28 : decode cX7_figureOf 28 = .ok (.iconst 0, 1) := by decide +kernel
theorem dX7_figureOf_29 : decode cX7_figureOf 29 = .ok (.ireturn, 1) := by decide +kernel
theorem dX7_side_0 : decode cX7_side 0 = .ok (.aload_n 0, 1) := by decide +kernel
theorem dX7_side_1 : decode cX7_side 1 = .ok (.getfield 7, 3) := by decide +kernel
theorem dX7_side_4 : decode cX7_side 4 = .ok (.iload_n 2, 1) := by decide +kernel
theorem dX7_side_5 : decode cX7_side 5 = .ok (.iaload, 1) := by decide +kernel
theorem dX7_side_6 : decode cX7_side 6 = .ok (.aload_n 0, 1) := by decide +kernel
theorem dX7_side_7 : decode cX7_side 7 = .ok (.getfield 7, 3) := by decide +kernel
theorem dX7_side_10 : decode cX7_side 10 = .ok (.iload_n 1, 1) := by decide +kernel
theorem dX7_side_11 : decode cX7_side 11 = .ok (.iaload, 1) := by decide +kernel
theorem dX7_side_12 : decode cX7_side 12 = .ok (.isub, 1) := by decide +kernel
theorem dX7_side_13 : decode cX7_side 13 = .ok (.aload_n 0, 1) := by decide +kernel
theorem dX7_side_14 : decode cX7_side 14 = .ok (.getfield 13, 3) := by decide +kernel
theorem dX7_side_17 : decode cX7_side 17 = .ok (.iload_n 3, 1) := by decide +kernel
theorem dX7_side_18 : decode cX7_side 18 = .ok (.iaload, 1) := by decide +kernel
theorem dX7_side_19 : decode cX7_side 19 = .ok (.aload_n 0, 1) := by decide +kernel
theorem dX7_side_20 : decode cX7_side 20 = .ok (.getfield 13, 3) := by decide +kernel
theorem dX7_side_23 : decode cX7_side 23 = .ok (.iload_n 1, 1) := by decide +kernel
theorem dX7_side_24 : decode cX7_side 24 = .ok (.iaload, 1) := by decide +kernel
theorem dX7_side_25 : decode cX7_side 25 = .ok (.isub, 1) := by decide +kernel
theorem dX7_side_26 : decode cX7_side 26 = .ok (.imul, 1) := by decide +kernel
theorem dX7_side_27 : decode cX7_side 27 = .ok (.aload_n 0, 1) := by decide +kernel
theorem dX7_side_28 : decode cX7_side 28 = .ok (.getfield 13, 3) := by decide +kernel
theorem dX7_side_31 : decode cX7_side 31 = .ok (.iload_n 2, 1) := by decide +kernel
theorem dX7_side_32 : decode cX7_side 32 = .ok (.iaload, 1) := by decide +kernel
theorem dX7_side_33 : decode cX7_side 33 = .ok (.aload_n 0, 1) := by decide +kernel
theorem dX7_side_34 : decode cX7_side 34 = .ok (.getfield 13, 3) := by decide +kernel
theorem dX7_side_37 : decode cX7_side 37 = .ok (.iload_n 1, 1) := by decide +kernel
theorem dX7_side_38 : decode cX7_side 38 = .ok (.iaload, 1) := by decide +kernel
theorem dX7_side_39 : decode cX7_side 39 = .ok (.isub, 1) := by decide +kernel
theorem dX7_side_40 : decode cX7_side 40 = .ok (.aload_n 0, 1) := by decide +kernel
theorem dX7_side_41 : decode cX7_side 41 = .ok (.getfield 7, 3) := by decide +kernel
theorem dX7_side_44 : decode cX7_side 44 = .ok (.iload_n 3, 1) := by decide +kernel
theorem dX7_side_45 : decode cX7_side 45 = .ok (.iaload, 1) := by decide +kernel
theorem dX7_side_46 : decode cX7_side 46 = .ok (.aload_n 0, 1) := by decide +kernel
theorem dX7_side_47 : decode cX7_side 47 = .ok (.getfield 7, 3) := by decide +kernel
theorem dX7_side_50 : decode cX7_side 50 = .ok (.iload_n 1, 1) := by decide +kernel
theorem dX7_side_51 : decode cX7_side 51 = .ok (.iaload, 1) := by decide +kernel
theorem dX7_side_52 : decode cX7_side 52 = .ok (.isub, 1) := by decide +kernel
theorem dX7_side_53 : decode cX7_side 53 = .ok (.imul, 1) := by decide +kernel
theorem dX7_side_54 : decode cX7_side 54 = .ok (.isub, 1) := by decide +kernel
theorem dX7_side_55 : decode cX7_side 55 = .ok (.istore 4, 2) := by decide +kernel
theorem dX7_side_57 : decode cX7_side 57 = .ok (.iload 4, 2) := by decide +kernel
theorem dX7_side_59 : decode cX7_side 59 = .ok (.ifCond .le 7, 3) := by decide +kernel
theorem dX7_side_62 : decode cX7_side 62 = .ok (.iconst 1, 1) := by decide +kernel
theorem dX7_side_63 : decode cX7_side 63 = .ok (.goto 13, 3) := by decide +kernel
theorem dX7_side_66 : decode cX7_side 66 = .ok (.iload 4, 2) := by decide +kernel
theorem dX7_side_68 : decode cX7_side 68 = .ok (.ifCond .ge 7, 3) := by decide +kernel
theorem dX7_side_71 : decode cX7_side 71 = .ok (.iconst (-1), 1) := by decide +kernel
theorem dX7_side_72 : decode cX7_side 72 = .ok (.goto 4, 3) := by decide +kernel
theorem dX7_side_75 : decode cX7_side 75 = .ok (.iconst 0, 1) := by decide +kernel
theorem dX7_side_76 : decode cX7_side 76 = .ok (.ireturn, 1) := by decide +kernel
theorem dX7_meet_0 : decode cX7_meet 0 = .ok (.iload_n 0, 1) := by decide +kernel
theorem dX7_meet_1 : decode cX7_meet 1 = .ok (.iload_n 1, 1) := by decide +kernel
theorem dX7_meet_2 : decode cX7_meet 2 = .ok (.if_icmp .ge 7, 3) := by decide +kernel
theorem dX7_meet_5 : decode cX7_meet 5 = .ok (.iload_n 0, 1) := by decide +kernel
theorem dX7_meet_6 : decode cX7_meet 6 = .ok (.goto 4, 3) := by decide +kernel
theorem dX7_meet_9 : decode cX7_meet 9 = .ok (.iload_n 1, 1) := by decide +kernel
theorem dX7_meet_10 : decode cX7_meet 10 = .ok (.istore 4, 2) := by decide +kernel
theorem dX7_meet_12 : decode cX7_meet 12 = .ok (.iload_n 0, 1) := by decide +kernel
theorem dX7_meet_13 : decode cX7_meet 13 = .ok (.iload_n 1, 1) := by decide +kernel
theorem dX7_meet_14 : decode cX7_meet 14 = .ok (.if_icmp .ge 7, 3) := by decide +kernel
theorem dX7_meet_17 : decode cX7_meet 17 = .ok (.iload_n 1, 1) := by decide +kernel
theorem dX7_meet_18 : decode cX7_meet 18 = .ok (.goto 4, 3) := by decide +kernel
theorem dX7_meet_21 : decode cX7_meet 21 = .ok (.iload_n 0, 1) := by decide +kernel
theorem dX7_meet_22 : decode cX7_meet 22 = .ok (.istore 5, 2) := by decide +kernel
theorem dX7_meet_24 : decode cX7_meet 24 = .ok (.iload_n 2, 1) := by decide +kernel
theorem dX7_meet_25 : decode cX7_meet 25 = .ok (.iload 4, 2) := by decide +kernel
theorem dX7_meet_27 : decode cX7_meet 27 = .ok (.if_icmp .ge 9, 3) := by decide +kernel
theorem dX7_meet_30 : decode cX7_meet 30 = .ok (.iload_n 3, 1) := by decide +kernel
theorem dX7_meet_31 : decode cX7_meet 31 = .ok (.iload 4, 2) := by decide +kernel
theorem dX7_meet_33 : decode cX7_meet 33 = .ok (.if_icmp .lt 19, 3) := by decide +kernel
theorem dX7_meet_36 : decode cX7_meet 36 = .ok (.iload_n 2, 1) := by decide +kernel
theorem dX7_meet_37 : decode cX7_meet 37 = .ok (.iload 5, 2) := by decide +kernel
theorem dX7_meet_39 : decode cX7_meet 39 = .ok (.if_icmp .le 9, 3) := by decide +kernel
theorem dX7_meet_42 : decode cX7_meet 42 = .ok (.iload_n 3, 1) := by decide +kernel
theorem dX7_meet_43 : decode cX7_meet 43 = .ok (.iload 5, 2) := by decide +kernel
theorem dX7_meet_45 : decode cX7_meet 45 = .ok (.if_icmp .gt 7, 3) := by decide +kernel
theorem dX7_meet_48 : decode cX7_meet 48 = .ok (.iconst 1, 1) := by decide +kernel
theorem dX7_meet_49 : decode cX7_meet 49 = .ok (.goto 4, 3) := by decide +kernel
theorem dX7_meet_52 : decode cX7_meet 52 = .ok (.iconst 0, 1) := by decide +kernel
theorem dX7_meet_53 : decode cX7_meet 53 = .ok (.ireturn, 1) := by decide +kernel
theorem dX7_cross_0 : decode cX7_cross 0 = .ok (.aload_n 0, 1) := by decide +kernel
theorem dX7_cross_1 : decode cX7_cross 1 = .ok (.getfield 16, 3) := by decide +kernel
theorem dX7_cross_4 : decode cX7_cross 4 = .ok (.iload_n 1, 1) := by decide +kernel
theorem dX7_cross_5 : decode cX7_cross 5 = .ok (.iaload, 1) := by decide +kernel
theorem dX7_cross_6 : decode cX7_cross 6 = .ok (.istore_n 3, 1) := by decide +kernel
theorem dX7_cross_7 : decode cX7_cross 7 = .ok (.aload_n 0, 1) := by decide +kernel
theorem dX7_cross_8 : decode cX7_cross 8 = .ok (.getfield 19, 3) := by decide +kernel
theorem dX7_cross_11 : decode cX7_cross 11 = .ok (.iload_n 1, 1) := by decide +kernel
theorem dX7_cross_12 : decode cX7_cross 12 = .ok (.iaload, 1) := by decide +kernel
theorem dX7_cross_13 : decode cX7_cross 13 = .ok (.istore 4, 2) := by decide +kernel
theorem dX7_cross_15 : decode cX7_cross 15 = .ok (.aload_n 0, 1) := by decide +kernel
theorem dX7_cross_16 : decode cX7_cross 16 = .ok (.getfield 16, 3) := by decide +kernel
theorem dX7_cross_19 : decode cX7_cross 19 = .ok (.iload_n 2, 1) := by decide +kernel
theorem dX7_cross_20 : decode cX7_cross 20 = .ok (.iaload, 1) := by decide +kernel
theorem dX7_cross_21 : decode cX7_cross 21 = .ok (.istore 5, 2) := by decide +kernel
theorem dX7_cross_23 : decode cX7_cross 23 = .ok (.aload_n 0, 1) := by decide +kernel
theorem dX7_cross_24 : decode cX7_cross 24 = .ok (.getfield 19, 3) := by decide +kernel
theorem dX7_cross_27 : decode cX7_cross 27 = .ok (.iload_n 2, 1) := by decide +kernel
theorem dX7_cross_28 : decode cX7_cross 28 = .ok (.iaload, 1) := by decide +kernel
theorem dX7_cross_29 : decode cX7_cross 29 = .ok (.istore 6, 2) := by decide +kernel
theorem dX7_cross_31 : decode cX7_cross 31 = .ok (.iload_n 3, 1) := by decide +kernel
theorem dX7_cross_32 : decode cX7_cross 32 = .ok (.iload 5, 2) := by decide +kernel
theorem dX7_cross_34 : decode cX7_cross 34 = .ok (.if_icmp .eq 23, 3) := by decide +kernel
theorem dX7_cross_37 : decode cX7_cross 37 = .ok (.iload_n 3, 1) := by decide +kernel
theorem dX7_cross_38 : decode cX7_cross 38 = .ok (.iload 6, 2) := by decide +kernel
theorem dX7_cross_40 : decode cX7_cross 40 = .ok (.if_icmp .eq 17, 3) := by decide +kernel
theorem dX7_cross_43 : decode cX7_cross 43 = .ok (.iload 4, 2) := by decide +kernel
theorem dX7_cross_45 : decode cX7_cross 45 = .ok (.iload 5, 2) := by decide +kernel
theorem dX7_cross_47 : decode cX7_cross 47 = .ok (.if_icmp .eq 10, 3) := by decide +kernel
theorem dX7_cross_50 : decode cX7_cross 50 = .ok (.iload 4, 2) := by decide +kernel
theorem dX7_cross_52 : decode cX7_cross 52 = .ok (.iload 6, 2) := by decide +kernel
theorem dX7_cross_54 : decode cX7_cross 54 = .ok (.if_icmp .ne 5, 3) := by decide +kernel
theorem dX7_cross_57 : decode cX7_cross 57 = .ok (.iconst 0, 1) := by decide +kernel
theorem dX7_cross_58 : decode cX7_cross 58 = .ok (.ireturn, 1) := by decide +kernel
theorem dX7_cross_59 : decode cX7_cross 59 = .ok (.aload_n 0, 1) := by decide +kernel
theorem dX7_cross_60 : decode cX7_cross 60 = .ok (.getfield 7, 3) := by decide +kernel
theorem dX7_cross_63 : decode cX7_cross 63 = .ok (.iload_n 3, 1) := by decide +kernel
theorem dX7_cross_64 : decode cX7_cross 64 = .ok (.iaload, 1) := by decide +kernel
theorem dX7_cross_65 : decode cX7_cross 65 = .ok (.aload_n 0, 1) := by decide +kernel
theorem dX7_cross_66 : decode cX7_cross 66 = .ok (.getfield 7, 3) := by decide +kernel
theorem dX7_cross_69 : decode cX7_cross 69 = .ok (.iload 4, 2) := by decide +kernel
theorem dX7_cross_71 : decode cX7_cross 71 = .ok (.iaload, 1) := by decide +kernel
theorem dX7_cross_72 : decode cX7_cross 72 = .ok (.aload_n 0, 1) := by decide +kernel
theorem dX7_cross_73 : decode cX7_cross 73 = .ok (.getfield 7, 3) := by decide +kernel
theorem dX7_cross_76 : decode cX7_cross 76 = .ok (.iload 5, 2) := by decide +kernel
theorem dX7_cross_78 : decode cX7_cross 78 = .ok (.iaload, 1) := by decide +kernel
theorem dX7_cross_79 : decode cX7_cross 79 = .ok (.aload_n 0, 1) := by decide +kernel
theorem dX7_cross_80 : decode cX7_cross 80 = .ok (.getfield 7, 3) := by decide +kernel
theorem dX7_cross_83 : decode cX7_cross 83 = .ok (.iload 6, 2) := by decide +kernel
theorem dX7_cross_85 : decode cX7_cross 85 = .ok (.iaload, 1) := by decide +kernel
theorem dX7_cross_86 : decode cX7_cross 86 = .ok (.invokestatic 97, 3) := by decide +kernel
theorem dX7_cross_89 : decode cX7_cross 89 = .ok (.ifCond .eq 40, 3) := by decide +kernel
theorem dX7_cross_92 : decode cX7_cross 92 = .ok (.aload_n 0, 1) := by decide +kernel
theorem dX7_cross_93 : decode cX7_cross 93 = .ok (.getfield 13, 3) := by decide +kernel
theorem dX7_cross_96 : decode cX7_cross 96 = .ok (.iload_n 3, 1) := by decide +kernel
theorem dX7_cross_97 : decode cX7_cross 97 = .ok (.iaload, 1) := by decide +kernel
theorem dX7_cross_98 : decode cX7_cross 98 = .ok (.aload_n 0, 1) := by decide +kernel
theorem dX7_cross_99 : decode cX7_cross 99 = .ok (.getfield 13, 3) := by decide +kernel
theorem dX7_cross_102 : decode cX7_cross 102 = .ok (.iload 4, 2) := by decide +kernel
theorem dX7_cross_104 : decode cX7_cross 104 = .ok (.iaload, 1) := by decide +kernel
theorem dX7_cross_105 : decode cX7_cross 105 = .ok (.aload_n 0, 1) := by decide +kernel
theorem dX7_cross_106 : decode cX7_cross 106 = .ok (.getfield 13, 3) := by decide +kernel
theorem dX7_cross_109 : decode cX7_cross 109 = .ok (.iload 5, 2) := by decide +kernel
theorem dX7_cross_111 : decode cX7_cross 111 = .ok (.iaload, 1) := by decide +kernel
theorem dX7_cross_112 : decode cX7_cross 112 = .ok (.aload_n 0, 1) := by decide +kernel
theorem dX7_cross_113 : decode cX7_cross 113 = .ok (.getfield 13, 3) := by decide +kernel
theorem dX7_cross_116 : decode cX7_cross 116 = .ok (.iload 6, 2) := by decide +kernel
theorem dX7_cross_118 : decode cX7_cross 118 = .ok (.iaload, 1) := by decide +kernel
theorem dX7_cross_119 : decode cX7_cross 119 = .ok (.invokestatic 97, 3) := by decide +kernel
theorem dX7_cross_122 : decode cX7_cross 122 = .ok (.ifCond .eq 7, 3) := by decide +kernel
theorem dX7_cross_125 : decode cX7_cross 125 = .ok (.iconst 1, 1) := by decide +kernel
theorem dX7_cross_126 : decode cX7_cross 126 = .ok (.goto 4, 3) := by decide +kernel
theorem dX7_cross_129 : decode cX7_cross 129 = .ok (.iconst 0, 1) := by decide +kernel
theorem dX7_cross_130 : decode cX7_cross 130 = .ok (.istore 7, 2) := by decide +kernel
theorem dX7_cross_132 : decode cX7_cross 132 = .ok (.iload 7, 2) := by decide +kernel
theorem dX7_cross_134 : decode cX7_cross 134 = .ok (.ifCond .eq 52, 3) := by decide +kernel
theorem dX7_cross_137 : decode cX7_cross 137 = .ok (.aload_n 0, 1) := by decide +kernel
theorem dX7_cross_138 : decode cX7_cross 138 = .ok (.iload_n 3, 1) := by decide +kernel
theorem dX7_cross_139 : decode cX7_cross 139 = .ok (.iload 4, 2) := by decide +kernel
theorem dX7_cross_141 : decode cX7_cross 141 = .ok (.iload 5, 2) := by decide +kernel
theorem dX7_cross_143 : decode cX7_cross 143 = .ok (.invokevirtual 101, 3) := by decide +kernel
theorem dX7_cross_146 : decode cX7_cross 146 = .ok (.aload_n 0, 1) := by decide +kernel
theorem dX7_cross_147 : decode cX7_cross 147 = .ok (.iload_n 3, 1) := by decide +kernel
theorem dX7_cross_148 : decode cX7_cross 148 = .ok (.iload 4, 2) := by decide +kernel
theorem dX7_cross_150 : decode cX7_cross 150 = .ok (.iload 6, 2) := by decide +kernel
theorem dX7_cross_152 : decode cX7_cross 152 = .ok (.invokevirtual 101, 3) := by decide +kernel
theorem dX7_cross_155 : decode cX7_cross 155 = .ok (.imul, 1) := by decide +kernel
theorem dX7_cross_156 : decode cX7_cross 156 = .ok (.ifCond .gt 30, 3) := by decide +kernel
theorem dX7_cross_159 : decode cX7_cross 159 = .ok (.aload_n 0, 1) := by decide +kernel
theorem dX7_cross_160 : decode cX7_cross 160 = .ok (.iload 5, 2) := by decide +kernel
theorem dX7_cross_162 : decode cX7_cross 162 = .ok (.iload 6, 2) := by decide +kernel
theorem dX7_cross_164 : decode cX7_cross 164 = .ok (.iload_n 3, 1) := by decide +kernel
theorem dX7_cross_165 : decode cX7_cross 165 = .ok (.invokevirtual 101, 3) := by decide +kernel
theorem dX7_cross_168 : decode cX7_cross 168 = .ok (.aload_n 0, 1) := by decide +kernel
theorem dX7_cross_169 : decode cX7_cross 169 = .ok (.iload 5, 2) := by decide +kernel
theorem dX7_cross_171 : decode cX7_cross 171 = .ok (.iload 6, 2) := by decide +kernel
theorem dX7_cross_173 : decode cX7_cross 173 = .ok (.iload 4, 2) := by decide +kernel
theorem dX7_cross_175 : decode cX7_cross 175 = .ok (.invokevirtual 101, 3) := by decide +kernel
theorem dX7_cross_178 : decode cX7_cross 178 = .ok (.imul, 1) := by decide +kernel
theorem dX7_cross_179 : decode cX7_cross 179 = .ok (.ifCond .gt 7, 3) := by decide +kernel
theorem dX7_cross_182 : decode cX7_cross 182 = .ok (.iconst 1, 1) := by decide +kernel
theorem dX7_cross_183 : decode cX7_cross 183 = .ok (.goto 4, 3) := by decide +kernel
theorem dX7_cross_186 : decode cX7_cross 186 = .ok (.iconst 0, 1) := by decide +kernel
theorem dX7_cross_187 : decode cX7_cross 187 = .ok (.ireturn, 1) := by decide +kernel
theorem dX7_crossings_0 : decode cX7_crossings 0 = .ok (.aload_n 0, 1) := by decide +kernel
theorem dX7_crossings_1 : decode cX7_crossings 1 = .ok (.aload_n 0, 1) := by decide +kernel
theorem dX7_crossings_2 : decode cX7_crossings 2 = .ok (.iload_n 1, 1) := by decide +kernel
theorem dX7_crossings_3 : decode cX7_crossings 3 = .ok (.invokevirtual 80, 3) := by decide +kernel
theorem dX7_crossings_6 : decode cX7_crossings 6 = .ok (.ifCond .eq 15, 3) := by decide +kernel
theorem dX7_crossings_9 : decode cX7_crossings 9 = .ok (.aload_n 0, 1) := by decide +kernel
theorem dX7_crossings_10 : decode cX7_crossings 10 = .ok (.iload_n 2, 1) := by decide +kernel
theorem dX7_crossings_11 : decode cX7_crossings 11 = .ok (.invokevirtual 80, 3) := by decide +kernel
theorem dX7_crossings_14 : decode cX7_crossings 14 = .ok (.ifCond .eq 7, 3) := by decide +kernel
theorem dX7_crossings_17 : decode cX7_crossings 17 = .ok (.iconst 0, 1) := by decide +kernel
theorem dX7_crossings_18 : decode cX7_crossings 18 = .ok (.goto 4, 3) := by decide +kernel
theorem dX7_crossings_21 : decode cX7_crossings 21 = .ok (.iconst 1, 1) := by decide +kernel
theorem dX7_crossings_22 : decode cX7_crossings 22 = .ok (.invokevirtual 55, 3) := by decide +kernel
theorem dX7_crossings_25 : decode cX7_crossings 25 = .ok (.ifCond .ne 5, 3) := by decide +kernel
theorem dX7_crossings_28 : decode cX7_crossings 28 = .ok (.iconst 0, 1) := by decide +kernel
theorem dX7_crossings_29 : decode cX7_crossings 29 = .ok (.ireturn, 1) := by decide +kernel
theorem dX7_crossings_30 : decode cX7_crossings 30 = .ok (.iconst 0, 1) := by decide +kernel
theorem dX7_crossings_31 : decode cX7_crossings 31 = .ok (.istore_n 3, 1) := by decide +kernel
theorem dX7_crossings_32 : decode cX7_crossings 32 = .ok (.bipush 10, 2) := by decide +kernel
theorem dX7_crossings_34 : decode cX7_crossings 34 = .ok (.iload_n 1, 1) := by decide +kernel
theorem dX7_crossings_35 : decode cX7_crossings 35 = .ok (.imul, 1) := by decide +kernel
theorem dX7_crossings_36 : decode cX7_crossings 36 = .ok (.istore 4, 2) := by decide +kernel
theorem dX7_crossings_38 : decode cX7_crossings 38 = .ok (.iload 4, 2) := by decide +kernel
theorem dX7_crossings_40 : decode cX7_crossings 40 = .ok (.bipush 10, 2) := by decide +kernel
theorem dX7_crossings_42 : decode cX7_crossings 42 = .ok (.iload_n 1, 1) := by decide +kernel
theorem dX7_crossings_43 : decode cX7_crossings 43 = .ok (.imul, 1) := by decide +kernel
theorem dX7_crossings_44 : decode cX7_crossings 44 = .ok (.aload_n 0, 1) := by decide +kernel
theorem dX7_crossings_45 : decode cX7_crossings 45 = .ok (.getfield 22, 3) := by decide +kernel
theorem dX7_crossings_48 : decode cX7_crossings 48 = .ok (.iload_n 1, 1) := by decide +kernel
theorem dX7_crossings_49 : decode cX7_crossings 49 = .ok (.iaload, 1) := by decide +kernel
theorem dX7_crossings_50 : decode cX7_crossings 50 = .ok (.iadd, 1) := by decide +kernel
theorem dX7_crossings_51 : decode cX7_crossings 51 = .ok (.if_icmp .ge 68, 3) := by decide +kernel
theorem dX7_crossings_54 : decode cX7_crossings 54 = .ok (.bipush 10, 2) := by decide +kernel
theorem dX7_crossings_56 : decode cX7_crossings 56 = .ok (.iload_n 2, 1) := by decide +kernel
theorem dX7_crossings_57 : decode cX7_crossings 57 = .ok (.imul, 1) := by decide +kernel
theorem dX7_crossings_58 : decode cX7_crossings 58 = .ok (.istore 5, 2) := by decide +kernel
theorem dX7_crossings_60 : decode cX7_crossings 60 = .ok (.iload 5, 2) := by decide +kernel
theorem dX7_crossings_62 : decode cX7_crossings 62 = .ok (.bipush 10, 2) := by decide +kernel
theorem dX7_crossings_64 : decode cX7_crossings 64 = .ok (.iload_n 2, 1) := by decide +kernel
theorem dX7_crossings_65 : decode cX7_crossings 65 = .ok (.imul, 1) := by decide +kernel
theorem dX7_crossings_66 : decode cX7_crossings 66 = .ok (.aload_n 0, 1) := by decide +kernel
theorem dX7_crossings_67 : decode cX7_crossings 67 = .ok (.getfield 22, 3) := by decide +kernel
theorem dX7_crossings_70 : decode cX7_crossings 70 = .ok (.iload_n 2, 1) := by decide +kernel
theorem dX7_crossings_71 : decode cX7_crossings 71 = .ok (.iaload, 1) := by decide +kernel
theorem dX7_crossings_72 : decode cX7_crossings 72 = .ok (.iadd, 1) := by decide +kernel
theorem dX7_crossings_73 : decode cX7_crossings 73 = .ok (.if_icmp .ge 40, 3) := by decide +kernel
theorem dX7_crossings_76 : decode cX7_crossings 76 = .ok (.iload_n 3, 1) := by decide +kernel
theorem dX7_crossings_77 : decode cX7_crossings 77 = .ok (.iload_n 1, 1) := by decide +kernel
theorem dX7_crossings_78 : decode cX7_crossings 78 = .ok (.iload_n 2, 1) := by decide +kernel
theorem dX7_crossings_79 : decode cX7_crossings 79 = .ok (.if_icmp .ne 10, 3) := by decide +kernel
theorem dX7_crossings_82 : decode cX7_crossings 82 = .ok (.iload 4, 2) := by decide +kernel
theorem dX7_crossings_84 : decode cX7_crossings 84 = .ok (.iload 5, 2) := by decide +kernel
theorem dX7_crossings_86 : decode cX7_crossings 86 = .ok (.if_icmp .ge 18, 3) := by decide +kernel
theorem dX7_crossings_89 : decode cX7_crossings 89 = .ok (.aload_n 0, 1) := by decide +kernel
theorem dX7_crossings_90 : decode cX7_crossings 90 = .ok (.iload 4, 2) := by decide +kernel
theorem dX7_crossings_92 : decode cX7_crossings 92 = .ok (.iload 5, 2) := by decide +kernel
theorem dX7_crossings_94 : decode cX7_crossings 94 = .ok (.invokevirtual 105, 3) := by decide +kernel
theorem dX7_crossings_97 : decode cX7_crossings 97 = .ok (.ifCond .eq 7, 3) := by decide +kernel
theorem dX7_crossings_100 : decode cX7_crossings 100 = .ok (.iconst 1, 1) := by decide +kernel
theorem dX7_crossings_101 : decode cX7_crossings 101 = .ok (.goto 4, 3) := by decide +kernel
theorem dX7_crossings_104 : decode cX7_crossings 104 = .ok (.iconst 0, 1) := by decide +kernel
theorem dX7_crossings_105 : decode cX7_crossings 105 = .ok (.iadd, 1) := by decide +kernel
theorem dX7_crossings_106 : decode cX7_crossings 106 = .ok (.istore_n 3, 1) := by decide +kernel
theorem dX7_crossings_107 : decode cX7_crossings 107 = .ok (.iinc 5 1, 3) := by decide +kernel
theorem dX7_crossings_110 : decode cX7_crossings 110 = .ok (.goto (-50), 3) := by decide +kernel
theorem dX7_crossings_113 : decode cX7_crossings 113 = .ok (.iinc 4 1, 3) := by decide +kernel
theorem dX7_crossings_116 : decode cX7_crossings 116 = .ok (.goto (-78), 3) := by decide +kernel
theorem dX7_crossings_119 : decode cX7_crossings 119 = .ok (.iload_n 3, 1) := by decide +kernel
theorem dX7_crossings_120 : decode cX7_crossings 120 = .ok (.ireturn, 1) := by decide +kernel
theorem dX7_vote_0 : decode cX7_vote 0 = .ok (.iload_n 1, 1) := by decide +kernel
theorem dX7_vote_1 : decode cX7_vote 1 = .ok (.iconst 0, 1) := by decide +kernel
theorem dX7_vote_2 : decode cX7_vote 2 = .ok (.iconst 5, 1) := by decide +kernel
theorem dX7_vote_3 : decode cX7_vote 3 = .ok (.invokestatic 44, 3) := by decide +kernel
theorem dX7_vote_6 : decode cX7_vote 6 = .ok (.ifCond .eq 15, 3) := by decide +kernel
theorem dX7_vote_9 : decode cX7_vote 9 = .ok (.aload_n 0, 1) := by decide +kernel
theorem dX7_vote_10 : decode cX7_vote 10 = .ok (.iload_n 2, 1) := by decide +kernel
theorem dX7_vote_11 : decode cX7_vote 11 = .ok (.invokevirtual 80, 3) := by decide +kernel
theorem dX7_vote_14 : decode cX7_vote 14 = .ok (.ifCond .eq 7, 3) := by decide +kernel
theorem dX7_vote_17 : decode cX7_vote 17 = .ok (.iconst 1, 1) := by decide +kernel
theorem dX7_vote_18 : decode cX7_vote 18 = .ok (.goto 4, 3) := by decide +kernel
theorem dX7_vote_21 : decode cX7_vote 21 = .ok (.iconst 0, 1) := by decide +kernel
theorem dX7_vote_22 : decode cX7_vote 22 = .ok (.istore 4, 2) := by decide +kernel
theorem dX7_vote_24 : decode cX7_vote 24 = .ok (.aload_n 0, 1) := by decide +kernel
theorem dX7_vote_25 : decode cX7_vote 25 = .ok (.iload 4, 2) := by decide +kernel
theorem dX7_vote_27 : decode cX7_vote 27 = .ok (.ifCond .ne 7, 3) := by decide +kernel
theorem dX7_vote_30 : decode cX7_vote 30 = .ok (.iconst 1, 1) := by decide +kernel
theorem dX7_vote_31 : decode cX7_vote 31 = .ok (.goto 18, 3) := by decide +kernel
theorem dX7_vote_34 : decode cX7_vote 34 = .ok (.iload_n 3, 1) := by decide +kernel
theorem dX7_vote_35 : decode cX7_vote 35 = .ok (.iconst (-1), 1) := by decide +kernel
theorem dX7_vote_36 : decode cX7_vote 36 = .ok (.bipush 9, 2) := by decide +kernel
theorem dX7_vote_38 : decode cX7_vote 38 = .ok (.invokestatic 44, 3) := by decide +kernel
theorem dX7_vote_41 : decode cX7_vote 41 = .ok (.ifCond .ne 7, 3) := by decide +kernel
theorem dX7_vote_44 : decode cX7_vote 44 = .ok (.iconst 2, 1) := by decide +kernel
theorem dX7_vote_45 : decode cX7_vote 45 = .ok (.goto 4, 3) := by decide +kernel
theorem dX7_vote_48 : decode cX7_vote 48 = .ok (.iconst 0, 1) := by decide +kernel
theorem dX7_vote_49 : decode cX7_vote 49 = .ok (.invokevirtual 55, 3) := by decide +kernel
theorem dX7_vote_52 : decode cX7_vote 52 = .ok (.ifCond .ne 5, 3) := by decide +kernel
theorem dX7_vote_55 : decode cX7_vote 55 = .ok (.iconst 0, 1) := by decide +kernel
theorem dX7_vote_56 : decode cX7_vote 56 = .ok (.ireturn, 1) := by decide +kernel
theorem dX7_vote_57 : decode cX7_vote 57 = .ok (.aload_n 0, 1) := by decide +kernel
theorem dX7_vote_58 : decode cX7_vote 58 = .ok (.getfield 25, 3) := by decide +kernel
theorem dX7_vote_61 : decode cX7_vote 61 = .ok (.bipush 6, 2) := by decide +kernel
theorem dX7_vote_63 : decode cX7_vote 63 = .ok (.iload_n 2, 1) := by decide +kernel
theorem dX7_vote_64 : decode cX7_vote 64 = .ok (.imul, 1) := by decide +kernel
theorem dX7_vote_65 : decode cX7_vote 65 = .ok (.iload_n 1, 1) := by decide +kernel
theorem dX7_vote_66 : decode cX7_vote 66 = .ok (.iadd, 1) := by decide +kernel
theorem dX7_vote_67 : decode cX7_vote 67 = .ok (.iaload, 1) := by decide +kernel
theorem dX7_vote_68 : decode cX7_vote 68 = .ok (.iconst 1, 1) := by decide +kernel
theorem dX7_vote_69 : decode cX7_vote 69 = .ok (.isub, 1) := by decide +kernel
theorem dX7_vote_70 : decode cX7_vote 70 = .ok (.istore 5, 2) := by decide +kernel
theorem dX7_vote_72 : decode cX7_vote 72 = .ok (.aload_n 0, 1) := by decide +kernel
theorem dX7_vote_73 : decode cX7_vote 73 = .ok (.getfield 25, 3) := by decide +kernel
theorem dX7_vote_76 : decode cX7_vote 76 = .ok (.bipush 6, 2) := by decide +kernel
theorem dX7_vote_78 : decode cX7_vote 78 = .ok (.iload_n 2, 1) := by decide +kernel
theorem dX7_vote_79 : decode cX7_vote 79 = .ok (.imul, 1) := by decide +kernel
theorem dX7_vote_80 : decode cX7_vote 80 = .ok (.iload_n 1, 1) := by decide +kernel
theorem dX7_vote_81 : decode cX7_vote 81 = .ok (.iadd, 1) := by decide +kernel
theorem dX7_vote_82 : decode cX7_vote 82 = .ok (.iload_n 3, 1) := by decide +kernel
theorem dX7_vote_83 : decode cX7_vote 83 = .ok (.iconst 1, 1) := by decide +kernel
theorem dX7_vote_84 : decode cX7_vote 84 = .ok (.iadd, 1) := by decide +kernel
theorem dX7_vote_85 : decode cX7_vote 85 = .ok (.iastore, 1) := by decide +kernel
theorem dX7_vote_86 : decode cX7_vote 86 = .ok (.iload 5, 2) := by decide +kernel
theorem dX7_vote_88 : decode cX7_vote 88 = .ok (.ireturn, 1) := by decide +kernel
theorem dX7_votesNow_0 : decode cX7_votesNow 0 = .ok (.iconst 0, 1) := by decide +kernel
theorem dX7_votesNow_1 : decode cX7_votesNow 1 = .ok (.istore_n 3, 1) := by decide +kernel
theorem dX7_votesNow_2 : decode cX7_votesNow 2 = .ok (.iconst 0, 1) := by decide +kernel
theorem dX7_votesNow_3 : decode cX7_votesNow 3 = .ok (.istore 4, 2) := by decide +kernel
theorem dX7_votesNow_5 : decode cX7_votesNow 5 = .ok (.iload 4, 2) := by decide +kernel
theorem dX7_votesNow_7 : decode cX7_votesNow 7 = .ok (.bipush 6, 2) := by decide +kernel
theorem dX7_votesNow_9 : decode cX7_votesNow 9 = .ok (.if_icmp .ge 35, 3) := by decide +kernel
theorem dX7_votesNow_12 : decode cX7_votesNow 12 = .ok (.iload_n 3, 1) := by decide +kernel
theorem dX7_votesNow_13 : decode cX7_votesNow 13 = .ok (.aload_n 0, 1) := by decide +kernel
theorem dX7_votesNow_14 : decode cX7_votesNow 14 = .ok (.getfield 25, 3) := by decide +kernel
theorem dX7_votesNow_17 : decode cX7_votesNow 17 = .ok (.bipush 6, 2) := by decide +kernel
theorem dX7_votesNow_19 : decode cX7_votesNow 19 = .ok (.iload_n 1, 1) := by decide +kernel
theorem dX7_votesNow_20 : decode cX7_votesNow 20 = .ok (.imul, 1) := by decide +kernel
theorem dX7_votesNow_21 : decode cX7_votesNow 21 = .ok (.iload 4, 2) := by decide +kernel
theorem dX7_votesNow_23 : decode cX7_votesNow 23 = .ok (.iadd, 1) := by decide +kernel
theorem dX7_votesNow_24 : decode cX7_votesNow 24 = .ok (.iaload, 1) := by decide +kernel
theorem dX7_votesNow_25 : decode cX7_votesNow 25 = .ok (.iload_n 2, 1) := by decide +kernel
theorem dX7_votesNow_26 : decode cX7_votesNow 26 = .ok (.iconst 1, 1) := by decide +kernel
theorem dX7_votesNow_27 : decode cX7_votesNow 27 = .ok (.iadd, 1) := by decide +kernel
theorem dX7_votesNow_28 : decode cX7_votesNow 28 = .ok (.if_icmp .ne 7, 3) := by decide +kernel
theorem dX7_votesNow_31 : decode cX7_votesNow 31 = .ok (.iconst 1, 1) := by decide +kernel
theorem dX7_votesNow_32 : decode cX7_votesNow 32 = .ok (.goto 4, 3) := by decide +kernel
theorem dX7_votesNow_35 : decode cX7_votesNow 35 = .ok (.iconst 0, 1) := by decide +kernel
theorem dX7_votesNow_36 : decode cX7_votesNow 36 = .ok (.iadd, 1) := by decide +kernel
theorem dX7_votesNow_37 : decode cX7_votesNow 37 = .ok (.istore_n 3, 1) := by decide +kernel
theorem dX7_votesNow_38 : decode cX7_votesNow 38 = .ok (.iinc 4 1, 3) := by decide +kernel
theorem dX7_votesNow_41 : decode cX7_votesNow 41 = .ok (.goto (-36), 3) := by decide +kernel
theorem dX7_votesNow_44 : decode cX7_votesNow 44 = .ok (.iload_n 3, 1) := by decide +kernel
theorem dX7_votesNow_45 : decode cX7_votesNow 45 = .ok (.ireturn, 1) := by decide +kernel
theorem dX7_votes_0 : decode cX7_votes 0 = .ok (.aload_n 0, 1) := by decide +kernel
theorem dX7_votes_1 : decode cX7_votes 1 = .ok (.aload_n 0, 1) := by decide +kernel
theorem dX7_votes_2 : decode cX7_votes 2 = .ok (.iload_n 1, 1) := by decide +kernel
theorem dX7_votes_3 : decode cX7_votes 3 = .ok (.invokevirtual 80, 3) := by decide +kernel
theorem dX7_votes_6 : decode cX7_votes 6 = .ok (.ifCond .ne 7, 3) := by decide +kernel
theorem dX7_votes_9 : decode cX7_votes 9 = .ok (.iconst 1, 1) := by decide +kernel
theorem dX7_votes_10 : decode cX7_votes 10 = .ok (.goto 18, 3) := by decide +kernel
theorem dX7_votes_13 : decode cX7_votes 13 = .ok (.iload_n 2, 1) := by decide +kernel
theorem dX7_votes_14 : decode cX7_votes 14 = .ok (.iconst 0, 1) := by decide +kernel
theorem dX7_votes_15 : decode cX7_votes 15 = .ok (.bipush 9, 2) := by decide +kernel
theorem dX7_votes_17 : decode cX7_votes 17 = .ok (.invokestatic 44, 3) := by decide +kernel
theorem dX7_votes_20 : decode cX7_votes 20 = .ok (.ifCond .ne 7, 3) := by decide +kernel
theorem dX7_votes_23 : decode cX7_votes 23 = .ok (.iconst 2, 1) := by decide +kernel
theorem dX7_votes_24 : decode cX7_votes 24 = .ok (.goto 4, 3) := by decide +kernel
theorem dX7_votes_27 : decode cX7_votes 27 = .ok (.iconst 0, 1) := by decide +kernel
theorem dX7_votes_28 : decode cX7_votes 28 = .ok (.invokevirtual 55, 3) := by decide +kernel
theorem dX7_votes_31 : decode cX7_votes 31 = .ok (.ifCond .eq 12, 3) := by decide +kernel
theorem dX7_votes_34 : decode cX7_votes 34 = .ok (.aload_n 0, 1) := by decide +kernel
theorem dX7_votes_35 : decode cX7_votes 35 = .ok (.iload_n 1, 1) := by decide +kernel
theorem dX7_votes_36 : decode cX7_votes 36 = .ok (.iload_n 2, 1) := by decide +kernel
theorem dX7_votes_37 : decode cX7_votes 37 = .ok (.invokevirtual 108, 3) := by decide +kernel
theorem dX7_votes_40 : decode cX7_votes 40 = .ok (.goto 4, 3) := by decide +kernel
theorem dX7_votes_43 : decode cX7_votes 43 = .ok (.iconst 0, 1) := by decide +kernel
theorem dX7_votes_44 : decode cX7_votes 44 = .ok (.ireturn, 1) := by decide +kernel
theorem dX7_gives_0 : decode cX7_gives 0 = .ok (.iconst 0, 1) := by decide +kernel
theorem dX7_gives_1 : decode cX7_gives 1 = .ok (.istore_n 1, 1) := by decide +kernel
theorem dX7_gives_2 : decode cX7_gives 2 = .ok (.iconst 0, 1) := by decide +kernel
theorem dX7_gives_3 : decode cX7_gives 3 = .ok (.istore_n 2, 1) := by decide +kernel
theorem dX7_gives_4 : decode cX7_gives 4 = .ok (.iload_n 2, 1) := by decide +kernel
theorem dX7_gives_5 : decode cX7_gives 5 = .ok (.bipush 8, 2) := by decide +kernel
theorem dX7_gives_7 : decode cX7_gives 7 = .ok (.if_icmp .ge 16, 3) := by decide +kernel
theorem dX7_gives_10 : decode cX7_gives 10 = .ok (.aload_n 0, 1) := by decide +kernel
theorem dX7_gives_11 : decode cX7_gives 11 = .ok (.getfield 28, 3) := by decide +kernel
theorem dX7_gives_14 : decode cX7_gives 14 = .ok (.iload_n 2, 1) := by decide +kernel
theorem dX7_gives_15 : decode cX7_gives 15 = .ok (.iconst (-1), 1) := by decide +kernel
theorem dX7_gives_16 : decode cX7_gives 16 = .ok (.iastore, 1) := by decide +kernel
theorem dX7_gives_17 : decode cX7_gives 17 = .ok (.iinc 2 1, 3) := by decide +kernel
theorem dX7_gives_20 : decode cX7_gives 20 = .ok (.goto (-16), 3) := by decide +kernel
theorem dX7_gives_23 : decode cX7_gives 23 = .ok (.bipush 6, 2) := by decide +kernel
theorem dX7_gives_25 : decode cX7_gives 25 = .ok (.istore_n 2, 1) := by decide +kernel
theorem dX7_gives_26 : decode cX7_gives 26 = .ok (.iload_n 2, 1) := by decide +kernel
theorem dX7_gives_27 : decode cX7_gives 27 = .ok (.ifCond .le 86, 3) := by decide +kernel
theorem dX7_gives_30 : decode cX7_gives 30 = .ok (.iconst 0, 1) := by decide +kernel
theorem dX7_gives_31 : decode cX7_gives 31 = .ok (.istore_n 3, 1) := by decide +kernel
theorem dX7_gives_32 : decode cX7_gives 32 = .ok (.iload_n 3, 1) := by decide +kernel
theorem dX7_gives_33 : decode cX7_gives 33 = .ok (.aload_n 0, 1) := by decide +kernel
theorem dX7_gives_34 : decode cX7_gives 34 = .ok (.getfield 48, 3) := by decide +kernel
theorem dX7_gives_37 : decode cX7_gives 37 = .ok (.if_icmp .ge 70, 3) := by decide +kernel
theorem dX7_gives_40 : decode cX7_gives 40 = .ok (.iconst 0, 1) := by decide +kernel
theorem dX7_gives_41 : decode cX7_gives 41 = .ok (.istore 4, 2) := by decide +kernel
theorem dX7_gives_43 : decode cX7_gives 43 = .ok (.iload 4, 2) := by decide +kernel
theorem dX7_gives_45 : decode cX7_gives 45 = .ok (.bipush 10, 2) := by decide +kernel
theorem dX7_gives_47 : decode cX7_gives 47 = .ok (.if_icmp .ge 54, 3) := by decide +kernel
theorem dX7_gives_50 : decode cX7_gives 50 = .ok (.aload_n 0, 1) := by decide +kernel
theorem dX7_gives_51 : decode cX7_gives 51 = .ok (.getfield 28, 3) := by decide +kernel
theorem dX7_gives_54 : decode cX7_gives 54 = .ok (.iload_n 3, 1) := by decide +kernel
theorem dX7_gives_55 : decode cX7_gives 55 = .ok (.iaload, 1) := by decide +kernel
theorem dX7_gives_56 : decode cX7_gives 56 = .ok (.iconst (-1), 1) := by decide +kernel
theorem dX7_gives_57 : decode cX7_gives 57 = .ok (.if_icmp .ne 38, 3) := by decide +kernel
theorem dX7_gives_60 : decode cX7_gives 60 = .ok (.iload_n 1, 1) := by decide +kernel
theorem dX7_gives_61 : decode cX7_gives 61 = .ok (.iload 4, 2) := by decide +kernel
theorem dX7_gives_63 : decode cX7_gives 63 = .ok (.ishr, 1) := by decide +kernel
theorem dX7_gives_64 : decode cX7_gives 64 = .ok (.iconst 1, 1) := by decide +kernel
theorem dX7_gives_65 : decode cX7_gives 65 = .ok (.iand, 1) := by decide +kernel
theorem dX7_gives_66 : decode cX7_gives 66 = .ok (.ifCond .ne 29, 3) := by decide +kernel
theorem dX7_gives_69 : decode cX7_gives 69 = .ok (.aload_n 0, 1) := by decide +kernel
theorem dX7_gives_70 : decode cX7_gives 70 = .ok (.iload_n 3, 1) := by decide +kernel
theorem dX7_gives_71 : decode cX7_gives 71 = .ok (.iload 4, 2) := by decide +kernel
theorem dX7_gives_73 : decode cX7_gives 73 = .ok (.invokevirtual 108, 3) := by decide +kernel
theorem dX7_gives_76 : decode cX7_gives 76 = .ok (.iload_n 2, 1) := by decide +kernel
theorem dX7_gives_77 : decode cX7_gives 77 = .ok (.if_icmp .ne 18, 3) := by decide +kernel
theorem dX7_gives_80 : decode cX7_gives 80 = .ok (.aload_n 0, 1) := by decide +kernel
theorem dX7_gives_81 : decode cX7_gives 81 = .ok (.getfield 28, 3) := by decide +kernel
theorem dX7_gives_84 : decode cX7_gives 84 = .ok (.iload_n 3, 1) := by decide +kernel
theorem dX7_gives_85 : decode cX7_gives 85 = .ok (.iload 4, 2) := by decide +kernel
theorem dX7_gives_87 : decode cX7_gives 87 = .ok (.iastore, 1) := by decide +kernel
theorem dX7_gives_88 : decode cX7_gives 88 = .ok (.iload_n 1, 1) := by decide +kernel
theorem dX7_gives_89 : decode cX7_gives 89 = .ok (.iconst 1, 1) := by decide +kernel
theorem dX7_gives_90 : decode cX7_gives 90 = .ok (.iload 4, 2) := by decide +kernel
theorem dX7_gives_92 : decode cX7_gives 92 = .ok (.ishl, 1) := by decide +kernel
theorem dX7_gives_93 : decode cX7_gives 93 = .ok (.ior, 1) := by decide +kernel
theorem dX7_gives_94 : decode cX7_gives 94 = .ok (.istore_n 1, 1) := by decide +kernel
theorem dX7_gives_95 : decode cX7_gives 95 = .ok (.iinc 4 1, 3) := by decide +kernel
theorem dX7_gives_98 : decode cX7_gives 98 = .ok (.goto (-55), 3) := by decide +kernel
theorem dX7_gives_101 : decode cX7_gives 101 = .ok (.iinc 3 1, 3) := by decide +kernel
theorem dX7_gives_104 : decode cX7_gives 104 = .ok (.goto (-72), 3) := by decide +kernel
theorem dX7_gives_107 : decode cX7_gives 107 = .ok (.iinc 2 (-1), 3) := by decide +kernel
theorem dX7_gives_110 : decode cX7_gives 110 = .ok (.goto (-84), 3) := by decide +kernel
theorem dX7_gives_113 : decode cX7_gives 113 = .ok (.return_, 1) := by decide +kernel
theorem dX7_nameNow_0 : decode cX7_nameNow 0 = .ok (.aload_n 0, 1) := by decide +kernel
theorem dX7_nameNow_1 : decode cX7_nameNow 1 = .ok (.invokevirtual 112, 3) := by decide +kernel
theorem dX7_nameNow_4 : decode cX7_nameNow 4 = .ok (.aload_n 0, 1) := by decide +kernel
theorem dX7_nameNow_5 : decode cX7_nameNow 5 = .ok (.getfield 28, 3) := by decide +kernel
theorem dX7_nameNow_8 : decode cX7_nameNow 8 = .ok (.iload_n 1, 1) := by decide +kernel
theorem dX7_nameNow_9 : decode cX7_nameNow 9 = .ok (.iaload, 1) := by decide +kernel
theorem dX7_nameNow_10 : decode cX7_nameNow 10 = .ok (.ireturn, 1) := by decide +kernel
theorem dX7_nameOf_0 : decode cX7_nameOf 0 = .ok (.aload_n 0, 1) := by decide +kernel
theorem dX7_nameOf_1 : decode cX7_nameOf 1 = .ok (.aload_n 0, 1) := by decide +kernel
theorem dX7_nameOf_2 : decode cX7_nameOf 2 = .ok (.iload_n 1, 1) := by decide +kernel
theorem dX7_nameOf_3 : decode cX7_nameOf 3 = .ok (.invokevirtual 80, 3) := by decide +kernel
theorem dX7_nameOf_6 : decode cX7_nameOf 6 = .ok (.ifCond .eq 7, 3) := by decide +kernel
theorem dX7_nameOf_9 : decode cX7_nameOf 9 = .ok (.iconst 0, 1) := by decide +kernel
theorem dX7_nameOf_10 : decode cX7_nameOf 10 = .ok (.goto 4, 3) := by decide +kernel
theorem dX7_nameOf_13 : decode cX7_nameOf 13 = .ok (.iconst 1, 1) := by decide +kernel
theorem dX7_nameOf_14 : decode cX7_nameOf 14 = .ok (.invokevirtual 55, 3) := by decide +kernel
theorem dX7_nameOf_17 : decode cX7_nameOf 17 = .ok (.ifCond .eq 11, 3) := by decide +kernel
theorem dX7_nameOf_20 : decode cX7_nameOf 20 = .ok (.aload_n 0, 1) := by decide +kernel
theorem dX7_nameOf_21 : decode cX7_nameOf 21 = .ok (.iload_n 1, 1) := by decide +kernel
theorem dX7_nameOf_22 : decode cX7_nameOf 22 = .ok (.invokevirtual 115, 3) := by decide +kernel
theorem dX7_nameOf_25 : decode cX7_nameOf 25 = .ok (.goto 4, 3) := by decide +kernel
theorem dX7_nameOf_28 : decode cX7_nameOf 28 = .ok (.iconst 0, 1) := by decide +kernel
theorem dX7_nameOf_29 : decode cX7_nameOf 29 = .ok (.ireturn, 1) := by decide +kernel
theorem dX7_quotient_0 : decode cX7_quotient 0 = .ok (.iload_n 0, 1) := by decide +kernel
theorem dX7_quotient_1 : decode cX7_quotient 1 = .ok (.iload_n 1, 1) := by decide +kernel
theorem dX7_quotient_2 : decode cX7_quotient 2 = .ok (.idiv, 1) := by decide +kernel
theorem dX7_quotient_3 : decode cX7_quotient 3 = .ok (.iload_n 0, 1) := by decide +kernel
theorem dX7_quotient_4 : decode cX7_quotient 4 = .ok (.iload_n 1, 1) := by decide +kernel
theorem dX7_quotient_5 : decode cX7_quotient 5 = .ok (.irem, 1) := by decide +kernel
theorem dX7_quotient_6 : decode cX7_quotient 6 = .ok (.ifCond .ge 7, 3) := by decide +kernel
theorem dX7_quotient_9 : decode cX7_quotient 9 = .ok (.iconst 1, 1) := by decide +kernel
theorem dX7_quotient_10 : decode cX7_quotient 10 = .ok (.goto 4, 3) := by decide +kernel
theorem dX7_quotient_13 : decode cX7_quotient 13 = .ok (.iconst 0, 1) := by decide +kernel
theorem dX7_quotient_14 : decode cX7_quotient 14 = .ok (.isub, 1) := by decide +kernel
theorem dX7_quotient_15 : decode cX7_quotient 15 = .ok (.ireturn, 1) := by decide +kernel
theorem dX7_sine_0 : decode cX7_sine 0 = .ok (.iload_n 0, 1) := by decide +kernel
theorem dX7_sine_1 : decode cX7_sine 1 = .ok (.sipush 360, 3) := by decide +kernel
theorem dX7_sine_4 : decode cX7_sine 4 = .ok (.irem, 1) := by decide +kernel
theorem dX7_sine_5 : decode cX7_sine 5 = .ok (.sipush 360, 3) := by decide +kernel
theorem dX7_sine_8 : decode cX7_sine 8 = .ok (.iadd, 1) := by decide +kernel
theorem dX7_sine_9 : decode cX7_sine 9 = .ok (.sipush 360, 3) := by decide +kernel
theorem dX7_sine_12 : decode cX7_sine 12 = .ok (.irem, 1) := by decide +kernel
theorem dX7_sine_13 : decode cX7_sine 13 = .ok (.istore_n 1, 1) := by decide +kernel
theorem dX7_sine_14 : decode cX7_sine 14 = .ok (.iload_n 1, 1) := by decide +kernel
theorem dX7_sine_15 : decode cX7_sine 15 = .ok (.sipush 180, 3) := by decide +kernel
theorem dX7_sine_18 : decode cX7_sine 18 = .ok (.irem, 1) := by decide +kernel
theorem dX7_sine_19 : decode cX7_sine 19 = .ok (.istore_n 2, 1) := by decide +kernel
theorem dX7_sine_20 : decode cX7_sine 20 = .ok (.sipush 4000, 3) := by decide +kernel
theorem dX7_sine_23 : decode cX7_sine 23 = .ok (.iload_n 2, 1) := by decide +kernel
theorem dX7_sine_24 : decode cX7_sine 24 = .ok (.imul, 1) := by decide +kernel
theorem dX7_sine_25 : decode cX7_sine 25 = .ok (.sipush 180, 3) := by decide +kernel
theorem dX7_sine_28 : decode cX7_sine 28 = .ok (.iload_n 2, 1) := by decide +kernel
theorem dX7_sine_29 : decode cX7_sine 29 = .ok (.isub, 1) := by decide +kernel
theorem dX7_sine_30 : decode cX7_sine 30 = .ok (.imul, 1) := by decide +kernel
theorem dX7_sine_31 : decode cX7_sine 31 = .ok (.ldc 118, 2) := by decide +kernel
theorem dX7_sine_33 : decode cX7_sine 33 = .ok (.iload_n 2, 1) := by decide +kernel
theorem dX7_sine_34 : decode cX7_sine 34 = .ok (.sipush 180, 3) := by decide +kernel
theorem dX7_sine_37 : decode cX7_sine 37 = .ok (.iload_n 2, 1) := by decide +kernel
theorem dX7_sine_38 : decode cX7_sine 38 = .ok (.isub, 1) := by decide +kernel
theorem dX7_sine_39 : decode cX7_sine 39 = .ok (.imul, 1) := by decide +kernel
theorem dX7_sine_40 : decode cX7_sine 40 = .ok (.isub, 1) := by decide +kernel
theorem dX7_sine_41 : decode cX7_sine 41 = .ok (.idiv, 1) := by decide +kernel
theorem dX7_sine_42 : decode cX7_sine 42 = .ok (.istore_n 3, 1) := by decide +kernel
theorem dX7_sine_43 : decode cX7_sine 43 = .ok (.iload_n 1, 1) := by decide +kernel
theorem dX7_sine_44 : decode cX7_sine 44 = .ok (.sipush 180, 3) := by decide +kernel
theorem dX7_sine_47 : decode cX7_sine 47 = .ok (.if_icmp .ge 7, 3) := by decide +kernel
theorem dX7_sine_50 : decode cX7_sine 50 = .ok (.iload_n 3, 1) := by decide +kernel
theorem dX7_sine_51 : decode cX7_sine 51 = .ok (.goto 5, 3) := by decide +kernel
theorem dX7_sine_54 : decode cX7_sine 54 = .ok (.iload_n 3, 1) := by decide +kernel
theorem dX7_sine_55 : decode cX7_sine 55 = .ok (.ineg, 1) := by decide +kernel
theorem dX7_sine_56 : decode cX7_sine 56 = .ok (.ireturn, 1) := by decide +kernel
theorem dX7_cosine_0 : decode cX7_cosine 0 = .ok (.iload_n 0, 1) := by decide +kernel
theorem dX7_cosine_1 : decode cX7_cosine 1 = .ok (.bipush 90, 2) := by decide +kernel
theorem dX7_cosine_3 : decode cX7_cosine 3 = .ok (.iadd, 1) := by decide +kernel
theorem dX7_cosine_4 : decode cX7_cosine 4 = .ok (.invokestatic 119, 3) := by decide +kernel
theorem dX7_cosine_7 : decode cX7_cosine 7 = .ok (.ireturn, 1) := by decide +kernel
theorem dX7_heightNow_0 : decode cX7_heightNow 0 = .ok (.bipush 15, 2) := by decide +kernel
theorem dX7_heightNow_2 : decode cX7_heightNow 2 = .ok (.iload 4, 2) := by decide +kernel
theorem dX7_heightNow_4 : decode cX7_heightNow 4 = .ok (.imul, 1) := by decide +kernel
theorem dX7_heightNow_5 : decode cX7_heightNow 5 = .ok (.iload_n 3, 1) := by decide +kernel
theorem dX7_heightNow_6 : decode cX7_heightNow 6 = .ok (.iadd, 1) := by decide +kernel
theorem dX7_heightNow_7 : decode cX7_heightNow 7 = .ok (.aload_n 0, 1) := by decide +kernel
theorem dX7_heightNow_8 : decode cX7_heightNow 8 = .ok (.getfield 7, 3) := by decide +kernel
theorem dX7_heightNow_11 : decode cX7_heightNow 11 = .ok (.iload_n 1, 1) := by decide +kernel
theorem dX7_heightNow_12 : decode cX7_heightNow 12 = .ok (.iaload, 1) := by decide +kernel
theorem dX7_heightNow_13 : decode cX7_heightNow 13 = .ok (.isub, 1) := by decide +kernel
theorem dX7_heightNow_14 : decode cX7_heightNow 14 = .ok (.istore 5, 2) := by decide +kernel
theorem dX7_heightNow_16 : decode cX7_heightNow 16 = .ok (.iload_n 2, 1) := by decide +kernel
theorem dX7_heightNow_17 : decode cX7_heightNow 17 = .ok (.invokestatic 122, 3) := by decide +kernel
theorem dX7_heightNow_20 : decode cX7_heightNow 20 = .ok (.aload_n 0, 1) := by decide +kernel
theorem dX7_heightNow_21 : decode cX7_heightNow 21 = .ok (.getfield 13, 3) := by decide +kernel
theorem dX7_heightNow_24 : decode cX7_heightNow 24 = .ok (.iload_n 1, 1) := by decide +kernel
theorem dX7_heightNow_25 : decode cX7_heightNow 25 = .ok (.iaload, 1) := by decide +kernel
theorem dX7_heightNow_26 : decode cX7_heightNow 26 = .ok (.invokestatic 122, 3) := by decide +kernel
theorem dX7_heightNow_29 : decode cX7_heightNow 29 = .ok (.imul, 1) := by decide +kernel
theorem dX7_heightNow_30 : decode cX7_heightNow 30 = .ok (.iload 5, 2) := by decide +kernel
theorem dX7_heightNow_32 : decode cX7_heightNow 32 = .ok (.invokestatic 122, 3) := by decide +kernel
theorem dX7_heightNow_35 : decode cX7_heightNow 35 = .ok (.imul, 1) := by decide +kernel
theorem dX7_heightNow_36 : decode cX7_heightNow 36 = .ok (.sipush 1000, 3) := by decide +kernel
theorem dX7_heightNow_39 : decode cX7_heightNow 39 = .ok (.invokestatic 125, 3) := by decide +kernel
theorem dX7_heightNow_42 : decode cX7_heightNow 42 = .ok (.istore 6, 2) := by decide +kernel
theorem dX7_heightNow_44 : decode cX7_heightNow 44 = .ok (.iload_n 2, 1) := by decide +kernel
theorem dX7_heightNow_45 : decode cX7_heightNow 45 = .ok (.invokestatic 119, 3) := by decide +kernel
theorem dX7_heightNow_48 : decode cX7_heightNow 48 = .ok (.aload_n 0, 1) := by decide +kernel
theorem dX7_heightNow_49 : decode cX7_heightNow 49 = .ok (.getfield 13, 3) := by decide +kernel
theorem dX7_heightNow_52 : decode cX7_heightNow 52 = .ok (.iload_n 1, 1) := by decide +kernel
theorem dX7_heightNow_53 : decode cX7_heightNow 53 = .ok (.iaload, 1) := by decide +kernel
theorem dX7_heightNow_54 : decode cX7_heightNow 54 = .ok (.invokestatic 119, 3) := by decide +kernel
theorem dX7_heightNow_57 : decode cX7_heightNow 57 = .ok (.imul, 1) := by decide +kernel
theorem dX7_heightNow_58 : decode cX7_heightNow 58 = .ok (.iload 6, 2) := by decide +kernel
theorem dX7_heightNow_60 : decode cX7_heightNow 60 = .ok (.iadd, 1) := by decide +kernel
theorem dX7_heightNow_61 : decode cX7_heightNow 61 = .ok (.sipush 1000, 3) := by decide +kernel
theorem dX7_heightNow_64 : decode cX7_heightNow 64 = .ok (.invokestatic 125, 3) := by decide +kernel
theorem dX7_heightNow_67 : decode cX7_heightNow 67 = .ok (.ireturn, 1) := by decide +kernel
theorem dX7_isTime_0 : decode cX7_isTime 0 = .ok (.iload_n 0, 1) := by decide +kernel
theorem dX7_isTime_1 : decode cX7_isTime 1 = .ok (.bipush (-90), 2) := by decide +kernel
theorem dX7_isTime_3 : decode cX7_isTime 3 = .ok (.bipush 90, 2) := by decide +kernel
theorem dX7_isTime_5 : decode cX7_isTime 5 = .ok (.invokestatic 44, 3) := by decide +kernel
theorem dX7_isTime_8 : decode cX7_isTime 8 = .ok (.ifCond .eq 28, 3) := by decide +kernel
theorem dX7_isTime_11 : decode cX7_isTime 11 = .ok (.iload_n 1, 1) := by decide +kernel
theorem dX7_isTime_12 : decode cX7_isTime 12 = .ok (.iconst 0, 1) := by decide +kernel
theorem dX7_isTime_13 : decode cX7_isTime 13 = .ok (.sipush 364, 3) := by decide +kernel
theorem dX7_isTime_16 : decode cX7_isTime 16 = .ok (.invokestatic 44, 3) := by decide +kernel
theorem dX7_isTime_19 : decode cX7_isTime 19 = .ok (.ifCond .eq 17, 3) := by decide +kernel
theorem dX7_isTime_22 : decode cX7_isTime 22 = .ok (.iload_n 2, 1) := by decide +kernel
theorem dX7_isTime_23 : decode cX7_isTime 23 = .ok (.iconst 0, 1) := by decide +kernel
theorem dX7_isTime_24 : decode cX7_isTime 24 = .ok (.bipush 23, 2) := by decide +kernel
theorem dX7_isTime_26 : decode cX7_isTime 26 = .ok (.invokestatic 44, 3) := by decide +kernel
theorem dX7_isTime_29 : decode cX7_isTime 29 = .ok (.ifCond .eq 7, 3) := by decide +kernel
theorem dX7_isTime_32 : decode cX7_isTime 32 = .ok (.iconst 1, 1) := by decide +kernel
theorem dX7_isTime_33 : decode cX7_isTime 33 = .ok (.goto 4, 3) := by decide +kernel
theorem dX7_isTime_36 : decode cX7_isTime 36 = .ok (.iconst 0, 1) := by decide +kernel
theorem dX7_isTime_37 : decode cX7_isTime 37 = .ok (.ireturn, 1) := by decide +kernel
theorem dX7_height_0 : decode cX7_height 0 = .ok (.aload_n 0, 1) := by decide +kernel
theorem dX7_height_1 : decode cX7_height 1 = .ok (.aload_n 0, 1) := by decide +kernel
theorem dX7_height_2 : decode cX7_height 2 = .ok (.iload_n 1, 1) := by decide +kernel
theorem dX7_height_3 : decode cX7_height 3 = .ok (.invokevirtual 62, 3) := by decide +kernel
theorem dX7_height_6 : decode cX7_height 6 = .ok (.ifCond .ne 7, 3) := by decide +kernel
theorem dX7_height_9 : decode cX7_height 9 = .ok (.iconst 1, 1) := by decide +kernel
theorem dX7_height_10 : decode cX7_height 10 = .ok (.goto 18, 3) := by decide +kernel
theorem dX7_height_13 : decode cX7_height 13 = .ok (.iload_n 2, 1) := by decide +kernel
theorem dX7_height_14 : decode cX7_height 14 = .ok (.iload_n 3, 1) := by decide +kernel
theorem dX7_height_15 : decode cX7_height 15 = .ok (.iload 4, 2) := by decide +kernel
theorem dX7_height_17 : decode cX7_height 17 = .ok (.invokestatic 128, 3) := by decide +kernel
theorem dX7_height_20 : decode cX7_height 20 = .ok (.ifCond .ne 7, 3) := by decide +kernel
theorem dX7_height_23 : decode cX7_height 23 = .ok (.iconst 2, 1) := by decide +kernel
theorem dX7_height_24 : decode cX7_height 24 = .ok (.goto 4, 3) := by decide +kernel
theorem dX7_height_27 : decode cX7_height 27 = .ok (.iconst 0, 1) := by decide +kernel
theorem dX7_height_28 : decode cX7_height 28 = .ok (.invokevirtual 55, 3) := by decide +kernel
theorem dX7_height_31 : decode cX7_height 31 = .ok (.ifCond .eq 15, 3) := by decide +kernel
theorem dX7_height_34 : decode cX7_height 34 = .ok (.aload_n 0, 1) := by decide +kernel
theorem dX7_height_35 : decode cX7_height 35 = .ok (.iload_n 1, 1) := by decide +kernel
theorem dX7_height_36 : decode cX7_height 36 = .ok (.iload_n 2, 1) := by decide +kernel
theorem dX7_height_37 : decode cX7_height 37 = .ok (.iload_n 3, 1) := by decide +kernel
theorem dX7_height_38 : decode cX7_height 38 = .ok (.iload 4, 2) := by decide +kernel
theorem dX7_height_40 : decode cX7_height 40 = .ok (.invokevirtual 131, 3) := by decide +kernel
theorem dX7_height_43 : decode cX7_height 43 = .ok (.goto 4, 3) := by decide +kernel
theorem dX7_height_46 : decode cX7_height 46 = .ok (.iconst 0, 1) := by decide +kernel
theorem dX7_height_47 : decode cX7_height 47 = .ok (.ireturn, 1) := by decide +kernel
theorem dX7_lowest_0 : decode cX7_lowest 0 = .ok (.aload_n 0, 1) := by decide +kernel
theorem dX7_lowest_1 : decode cX7_lowest 1 = .ok (.getfield 22, 3) := by decide +kernel
theorem dX7_lowest_4 : decode cX7_lowest 4 = .ok (.iload_n 1, 1) := by decide +kernel
theorem dX7_lowest_5 : decode cX7_lowest 5 = .ok (.iaload, 1) := by decide +kernel
theorem dX7_lowest_6 : decode cX7_lowest 6 = .ok (.ifCond .ne 9, 3) := by decide +kernel
theorem dX7_lowest_9 : decode cX7_lowest 9 = .ok (.sipush (-2000), 3) := by decide +kernel
theorem dX7_lowest_12 : decode cX7_lowest 12 = .ok (.goto 6, 3) := by decide +kernel
theorem dX7_lowest_15 : decode cX7_lowest 15 = .ok (.sipush 2000, 3) := by decide +kernel
theorem dX7_lowest_18 : decode cX7_lowest 18 = .ok (.istore 5, 2) := by decide +kernel
theorem dX7_lowest_20 : decode cX7_lowest 20 = .ok (.bipush 10, 2) := by decide +kernel
theorem dX7_lowest_22 : decode cX7_lowest 22 = .ok (.iload_n 1, 1) := by decide +kernel
theorem dX7_lowest_23 : decode cX7_lowest 23 = .ok (.imul, 1) := by decide +kernel
theorem dX7_lowest_24 : decode cX7_lowest 24 = .ok (.istore 6, 2) := by decide +kernel
theorem dX7_lowest_26 : decode cX7_lowest 26 = .ok (.iload 6, 2) := by decide +kernel
theorem dX7_lowest_28 : decode cX7_lowest 28 = .ok (.bipush 10, 2) := by decide +kernel
theorem dX7_lowest_30 : decode cX7_lowest 30 = .ok (.iload_n 1, 1) := by decide +kernel
theorem dX7_lowest_31 : decode cX7_lowest 31 = .ok (.imul, 1) := by decide +kernel
theorem dX7_lowest_32 : decode cX7_lowest 32 = .ok (.aload_n 0, 1) := by decide +kernel
theorem dX7_lowest_33 : decode cX7_lowest 33 = .ok (.getfield 22, 3) := by decide +kernel
theorem dX7_lowest_36 : decode cX7_lowest 36 = .ok (.iload_n 1, 1) := by decide +kernel
theorem dX7_lowest_37 : decode cX7_lowest 37 = .ok (.iaload, 1) := by decide +kernel
theorem dX7_lowest_38 : decode cX7_lowest 38 = .ok (.iadd, 1) := by decide +kernel
theorem dX7_lowest_39 : decode cX7_lowest 39 = .ok (.if_icmp .ge 75, 3) := by decide +kernel
theorem dX7_lowest_42 : decode cX7_lowest 42 = .ok (.aload_n 0, 1) := by decide +kernel
theorem dX7_lowest_43 : decode cX7_lowest 43 = .ok (.aload_n 0, 1) := by decide +kernel
theorem dX7_lowest_44 : decode cX7_lowest 44 = .ok (.getfield 16, 3) := by decide +kernel
theorem dX7_lowest_47 : decode cX7_lowest 47 = .ok (.iload 6, 2) := by decide +kernel
theorem dX7_lowest_49 : decode cX7_lowest 49 = .ok (.iaload, 1) := by decide +kernel
theorem dX7_lowest_50 : decode cX7_lowest 50 = .ok (.iload_n 2, 1) := by decide +kernel
theorem dX7_lowest_51 : decode cX7_lowest 51 = .ok (.iload_n 3, 1) := by decide +kernel
theorem dX7_lowest_52 : decode cX7_lowest 52 = .ok (.iload 4, 2) := by decide +kernel
theorem dX7_lowest_54 : decode cX7_lowest 54 = .ok (.invokevirtual 131, 3) := by decide +kernel
theorem dX7_lowest_57 : decode cX7_lowest 57 = .ok (.istore 7, 2) := by decide +kernel
theorem dX7_lowest_59 : decode cX7_lowest 59 = .ok (.aload_n 0, 1) := by decide +kernel
theorem dX7_lowest_60 : decode cX7_lowest 60 = .ok (.aload_n 0, 1) := by decide +kernel
theorem dX7_lowest_61 : decode cX7_lowest 61 = .ok (.getfield 19, 3) := by decide +kernel
theorem dX7_lowest_64 : decode cX7_lowest 64 = .ok (.iload 6, 2) := by decide +kernel
theorem dX7_lowest_66 : decode cX7_lowest 66 = .ok (.iaload, 1) := by decide +kernel
theorem dX7_lowest_67 : decode cX7_lowest 67 = .ok (.iload_n 2, 1) := by decide +kernel
theorem dX7_lowest_68 : decode cX7_lowest 68 = .ok (.iload_n 3, 1) := by decide +kernel
theorem dX7_lowest_69 : decode cX7_lowest 69 = .ok (.iload 4, 2) := by decide +kernel
theorem dX7_lowest_71 : decode cX7_lowest 71 = .ok (.invokevirtual 131, 3) := by decide +kernel
theorem dX7_lowest_74 : decode cX7_lowest 74 = .ok (.istore 8, 2) := by decide +kernel
theorem dX7_lowest_76 : decode cX7_lowest 76 = .ok (.iload 7, 2) := by decide +kernel
theorem dX7_lowest_78 : decode cX7_lowest 78 = .ok (.iload 5, 2) := by decide +kernel
theorem dX7_lowest_80 : decode cX7_lowest 80 = .ok (.if_icmp .ge 8, 3) := by decide +kernel
theorem dX7_lowest_83 : decode cX7_lowest 83 = .ok (.iload 7, 2) := by decide +kernel
theorem dX7_lowest_85 : decode cX7_lowest 85 = .ok (.goto 5, 3) := by decide +kernel
theorem dX7_lowest_88 : decode cX7_lowest 88 = .ok (.iload 5, 2) := by decide +kernel
theorem dX7_lowest_90 : decode cX7_lowest 90 = .ok (.istore 5, 2) := by decide +kernel
theorem dX7_lowest_92 : decode cX7_lowest 92 = .ok (.iload 8, 2) := by decide +kernel
theorem dX7_lowest_94 : decode cX7_lowest 94 = .ok (.iload 5, 2) := by decide +kernel
theorem dX7_lowest_96 : decode cX7_lowest 96 = .ok (.if_icmp .ge 8, 3) := by decide +kernel
theorem dX7_lowest_99 : decode cX7_lowest 99 = .ok (.iload 8, 2) := by decide +kernel
theorem dX7_lowest_101 : decode cX7_lowest 101 = .ok (.goto 5, 3) := by decide +kernel
theorem dX7_lowest_104 : decode cX7_lowest 104 = .ok (.iload 5, 2) := by decide +kernel
theorem dX7_lowest_106 : decode cX7_lowest 106 = .ok (.istore 5, 2) := by decide +kernel
theorem dX7_lowest_108 : decode cX7_lowest 108 = .ok (.iinc 6 1, 3) := by decide +kernel
theorem dX7_lowest_111 : decode cX7_lowest 111 = .ok (.goto (-85), 3) := by decide +kernel
theorem dX7_lowest_114 : decode cX7_lowest 114 = .ok (.iload 5, 2) := by decide +kernel
theorem dX7_lowest_116 : decode cX7_lowest 116 = .ok (.ireturn, 1) := by decide +kernel
theorem dX7_isUpNow_0 : decode cX7_isUpNow 0 = .ok (.aload_n 0, 1) := by decide +kernel
theorem dX7_isUpNow_1 : decode cX7_isUpNow 1 = .ok (.iload_n 1, 1) := by decide +kernel
theorem dX7_isUpNow_2 : decode cX7_isUpNow 2 = .ok (.iload_n 2, 1) := by decide +kernel
theorem dX7_isUpNow_3 : decode cX7_isUpNow 3 = .ok (.iload_n 3, 1) := by decide +kernel
theorem dX7_isUpNow_4 : decode cX7_isUpNow 4 = .ok (.iload 4, 2) := by decide +kernel
theorem dX7_isUpNow_6 : decode cX7_isUpNow 6 = .ok (.invokevirtual 135, 3) := by decide +kernel
theorem dX7_isUpNow_9 : decode cX7_isUpNow 9 = .ok (.ifCond .le 7, 3) := by decide +kernel
theorem dX7_isUpNow_12 : decode cX7_isUpNow 12 = .ok (.iconst 1, 1) := by decide +kernel
theorem dX7_isUpNow_13 : decode cX7_isUpNow 13 = .ok (.goto 4, 3) := by decide +kernel
theorem dX7_isUpNow_16 : decode cX7_isUpNow 16 = .ok (.iconst 0, 1) := by decide +kernel
theorem dX7_isUpNow_17 : decode cX7_isUpNow 17 = .ok (.ireturn, 1) := by decide +kernel
theorem dX7_isUp_0 : decode cX7_isUp 0 = .ok (.aload_n 0, 1) := by decide +kernel
theorem dX7_isUp_1 : decode cX7_isUp 1 = .ok (.aload_n 0, 1) := by decide +kernel
theorem dX7_isUp_2 : decode cX7_isUp 2 = .ok (.iload_n 1, 1) := by decide +kernel
theorem dX7_isUp_3 : decode cX7_isUp 3 = .ok (.invokevirtual 80, 3) := by decide +kernel
theorem dX7_isUp_6 : decode cX7_isUp 6 = .ok (.ifCond .ne 7, 3) := by decide +kernel
theorem dX7_isUp_9 : decode cX7_isUp 9 = .ok (.iconst 1, 1) := by decide +kernel
theorem dX7_isUp_10 : decode cX7_isUp 10 = .ok (.goto 18, 3) := by decide +kernel
theorem dX7_isUp_13 : decode cX7_isUp 13 = .ok (.iload_n 2, 1) := by decide +kernel
theorem dX7_isUp_14 : decode cX7_isUp 14 = .ok (.iload_n 3, 1) := by decide +kernel
theorem dX7_isUp_15 : decode cX7_isUp 15 = .ok (.iload 4, 2) := by decide +kernel
theorem dX7_isUp_17 : decode cX7_isUp 17 = .ok (.invokestatic 128, 3) := by decide +kernel
theorem dX7_isUp_20 : decode cX7_isUp 20 = .ok (.ifCond .ne 7, 3) := by decide +kernel
theorem dX7_isUp_23 : decode cX7_isUp 23 = .ok (.iconst 2, 1) := by decide +kernel
theorem dX7_isUp_24 : decode cX7_isUp 24 = .ok (.goto 4, 3) := by decide +kernel
theorem dX7_isUp_27 : decode cX7_isUp 27 = .ok (.iconst 0, 1) := by decide +kernel
theorem dX7_isUp_28 : decode cX7_isUp 28 = .ok (.invokevirtual 55, 3) := by decide +kernel
theorem dX7_isUp_31 : decode cX7_isUp 31 = .ok (.ifCond .eq 19, 3) := by decide +kernel
theorem dX7_isUp_34 : decode cX7_isUp 34 = .ok (.aload_n 0, 1) := by decide +kernel
theorem dX7_isUp_35 : decode cX7_isUp 35 = .ok (.iload_n 1, 1) := by decide +kernel
theorem dX7_isUp_36 : decode cX7_isUp 36 = .ok (.iload_n 2, 1) := by decide +kernel
theorem dX7_isUp_37 : decode cX7_isUp 37 = .ok (.iload_n 3, 1) := by decide +kernel
theorem dX7_isUp_38 : decode cX7_isUp 38 = .ok (.iload 4, 2) := by decide +kernel
theorem dX7_isUp_40 : decode cX7_isUp 40 = .ok (.invokevirtual 138, 3) := by decide +kernel
theorem dX7_isUp_43 : decode cX7_isUp 43 = .ok (.ifCond .eq 7, 3) := by decide +kernel
theorem dX7_isUp_46 : decode cX7_isUp 46 = .ok (.iconst 1, 1) := by decide +kernel
theorem dX7_isUp_47 : decode cX7_isUp 47 = .ok (.goto 4, 3) := by decide +kernel
theorem dX7_isUp_50 : decode cX7_isUp 50 = .ok (.iconst 0, 1) := by decide +kernel
theorem dX7_isUp_51 : decode cX7_isUp 51 = .ok (.ireturn, 1) := by decide +kernel
theorem dX7_hoursNow_0 : decode cX7_hoursNow 0 = .ok (.aload_n 0, 1) := by decide +kernel
theorem dX7_hoursNow_1 : decode cX7_hoursNow 1 = .ok (.aload_n 0, 1) := by decide +kernel
theorem dX7_hoursNow_2 : decode cX7_hoursNow 2 = .ok (.iload_n 1, 1) := by decide +kernel
theorem dX7_hoursNow_3 : decode cX7_hoursNow 3 = .ok (.invokevirtual 80, 3) := by decide +kernel
theorem dX7_hoursNow_6 : decode cX7_hoursNow 6 = .ok (.ifCond .ne 7, 3) := by decide +kernel
theorem dX7_hoursNow_9 : decode cX7_hoursNow 9 = .ok (.iconst 1, 1) := by decide +kernel
theorem dX7_hoursNow_10 : decode cX7_hoursNow 10 = .ok (.goto 17, 3) := by decide +kernel
theorem dX7_hoursNow_13 : decode cX7_hoursNow 13 = .ok (.iload_n 2, 1) := by decide +kernel
theorem dX7_hoursNow_14 : decode cX7_hoursNow 14 = .ok (.iload_n 3, 1) := by decide +kernel
theorem dX7_hoursNow_15 : decode cX7_hoursNow 15 = .ok (.iconst 0, 1) := by decide +kernel
theorem dX7_hoursNow_16 : decode cX7_hoursNow 16 = .ok (.invokestatic 128, 3) := by decide +kernel
theorem dX7_hoursNow_19 : decode cX7_hoursNow 19 = .ok (.ifCond .ne 7, 3) := by decide +kernel
theorem dX7_hoursNow_22 : decode cX7_hoursNow 22 = .ok (.iconst 2, 1) := by decide +kernel
theorem dX7_hoursNow_23 : decode cX7_hoursNow 23 = .ok (.goto 4, 3) := by decide +kernel
theorem dX7_hoursNow_26 : decode cX7_hoursNow 26 = .ok (.iconst 0, 1) := by decide +kernel
theorem dX7_hoursNow_27 : decode cX7_hoursNow 27 = .ok (.invokevirtual 55, 3) := by decide +kernel
theorem dX7_hoursNow_30 : decode cX7_hoursNow 30 = .ok (.ifCond .ne 5, 3) := by decide +kernel
theorem dX7_hoursNow_33 : decode cX7_hoursNow 33 = .ok (.iconst 0, 1) := by decide +kernel
theorem dX7_hoursNow_34 : decode cX7_hoursNow 34 = .ok (.ireturn, 1) := by decide +kernel
theorem dX7_hoursNow_35 : decode cX7_hoursNow 35 = .ok (.iconst 0, 1) := by decide +kernel
theorem dX7_hoursNow_36 : decode cX7_hoursNow 36 = .ok (.istore 4, 2) := by decide +kernel
theorem dX7_hoursNow_38 : decode cX7_hoursNow 38 = .ok (.iconst 0, 1) := by decide +kernel
theorem dX7_hoursNow_39 : decode cX7_hoursNow 39 = .ok (.istore 5, 2) := by decide +kernel
theorem dX7_hoursNow_41 : decode cX7_hoursNow 41 = .ok (.iload 5, 2) := by decide +kernel
theorem dX7_hoursNow_43 : decode cX7_hoursNow 43 = .ok (.bipush 24, 2) := by decide +kernel
theorem dX7_hoursNow_45 : decode cX7_hoursNow 45 = .ok (.if_icmp .ge 34, 3) := by decide +kernel
theorem dX7_hoursNow_48 : decode cX7_hoursNow 48 = .ok (.iload 4, 2) := by decide +kernel
theorem dX7_hoursNow_50 : decode cX7_hoursNow 50 = .ok (.aload_n 0, 1) := by decide +kernel
theorem dX7_hoursNow_51 : decode cX7_hoursNow 51 = .ok (.iload_n 1, 1) := by decide +kernel
theorem dX7_hoursNow_52 : decode cX7_hoursNow 52 = .ok (.iload_n 2, 1) := by decide +kernel
theorem dX7_hoursNow_53 : decode cX7_hoursNow 53 = .ok (.iload_n 3, 1) := by decide +kernel
theorem dX7_hoursNow_54 : decode cX7_hoursNow 54 = .ok (.iload 5, 2) := by decide +kernel
theorem dX7_hoursNow_56 : decode cX7_hoursNow 56 = .ok (.invokevirtual 138, 3) := by decide +kernel
theorem dX7_hoursNow_59 : decode cX7_hoursNow 59 = .ok (.ifCond .eq 10, 3) := by decide +kernel
theorem dX7_hoursNow_62 : decode cX7_hoursNow 62 = .ok (.iconst 1, 1) := by decide +kernel
theorem dX7_hoursNow_63 : decode cX7_hoursNow 63 = .ok (.iload 5, 2) := by decide +kernel
theorem dX7_hoursNow_65 : decode cX7_hoursNow 65 = .ok (.ishl, 1) := by decide +kernel
theorem dX7_hoursNow_66 : decode cX7_hoursNow 66 = .ok (.goto 4, 3) := by decide +kernel
theorem dX7_hoursNow_69 : decode cX7_hoursNow 69 = .ok (.iconst 0, 1) := by decide +kernel
theorem dX7_hoursNow_70 : decode cX7_hoursNow 70 = .ok (.ior, 1) := by decide +kernel
theorem dX7_hoursNow_71 : decode cX7_hoursNow 71 = .ok (.istore 4, 2) := by decide +kernel
theorem dX7_hoursNow_73 : decode cX7_hoursNow 73 = .ok (.iinc 5 1, 3) := by decide +kernel
theorem dX7_hoursNow_76 : decode cX7_hoursNow 76 = .ok (.goto (-35), 3) := by decide +kernel
theorem dX7_hoursNow_79 : decode cX7_hoursNow 79 = .ok (.iload 4, 2) := by decide +kernel
theorem dX7_hoursNow_81 : decode cX7_hoursNow 81 = .ok (.ireturn, 1) := by decide +kernel
theorem dX7_hours_0 : decode cX7_hours 0 = .ok (.aload_n 0, 1) := by decide +kernel
theorem dX7_hours_1 : decode cX7_hours 1 = .ok (.iload_n 1, 1) := by decide +kernel
theorem dX7_hours_2 : decode cX7_hours 2 = .ok (.iload_n 2, 1) := by decide +kernel
theorem dX7_hours_3 : decode cX7_hours 3 = .ok (.iload_n 3, 1) := by decide +kernel
theorem dX7_hours_4 : decode cX7_hours 4 = .ok (.invokevirtual 141, 3) := by decide +kernel
theorem dX7_hours_7 : decode cX7_hours 7 = .ok (.ireturn, 1) := by decide +kernel
theorem dX7_hoursByStars_0 : decode cX7_hoursByStars 0 = .ok (.aload_n 0, 1) := by decide +kernel
theorem dX7_hoursByStars_1 : decode cX7_hoursByStars 1 = .ok (.iload_n 1, 1) := by decide +kernel
theorem dX7_hoursByStars_2 : decode cX7_hoursByStars 2 = .ok (.iload_n 2, 1) := by decide +kernel
theorem dX7_hoursByStars_3 : decode cX7_hoursByStars 3 = .ok (.iload_n 3, 1) := by decide +kernel
theorem dX7_hoursByStars_4 : decode cX7_hoursByStars 4 = .ok (.invokevirtual 141, 3) := by decide +kernel
theorem dX7_hoursByStars_7 : decode cX7_hoursByStars 7 = .ok (.ireturn, 1) := by decide +kernel
theorem dX7_bestHour_0 : decode cX7_bestHour 0 = .ok (.aload_n 0, 1) := by decide +kernel
theorem dX7_bestHour_1 : decode cX7_bestHour 1 = .ok (.aload_n 0, 1) := by decide +kernel
theorem dX7_bestHour_2 : decode cX7_bestHour 2 = .ok (.iload_n 1, 1) := by decide +kernel
theorem dX7_bestHour_3 : decode cX7_bestHour 3 = .ok (.invokevirtual 80, 3) := by decide +kernel
theorem dX7_bestHour_6 : decode cX7_bestHour 6 = .ok (.ifCond .ne 7, 3) := by decide +kernel
theorem dX7_bestHour_9 : decode cX7_bestHour 9 = .ok (.iconst 1, 1) := by decide +kernel
theorem dX7_bestHour_10 : decode cX7_bestHour 10 = .ok (.goto 17, 3) := by decide +kernel
theorem dX7_bestHour_13 : decode cX7_bestHour 13 = .ok (.iload_n 2, 1) := by decide +kernel
theorem dX7_bestHour_14 : decode cX7_bestHour 14 = .ok (.iload_n 3, 1) := by decide +kernel
theorem dX7_bestHour_15 : decode cX7_bestHour 15 = .ok (.iconst 0, 1) := by decide +kernel
theorem dX7_bestHour_16 : decode cX7_bestHour 16 = .ok (.invokestatic 128, 3) := by decide +kernel
theorem dX7_bestHour_19 : decode cX7_bestHour 19 = .ok (.ifCond .ne 7, 3) := by decide +kernel
theorem dX7_bestHour_22 : decode cX7_bestHour 22 = .ok (.iconst 2, 1) := by decide +kernel
theorem dX7_bestHour_23 : decode cX7_bestHour 23 = .ok (.goto 4, 3) := by decide +kernel
theorem dX7_bestHour_26 : decode cX7_bestHour 26 = .ok (.iconst 0, 1) := by decide +kernel
theorem dX7_bestHour_27 : decode cX7_bestHour 27 = .ok (.invokevirtual 55, 3) := by decide +kernel
theorem dX7_bestHour_30 : decode cX7_bestHour 30 = .ok (.ifCond .ne 5, 3) := by decide +kernel
theorem dX7_bestHour_33 : decode cX7_bestHour 33 = .ok (.iconst 0, 1) := by decide +kernel
theorem dX7_bestHour_34 : decode cX7_bestHour 34 = .ok (.ireturn, 1) := by decide +kernel
theorem dX7_bestHour_35 : decode cX7_bestHour 35 = .ok (.iconst (-1), 1) := by decide +kernel
theorem dX7_bestHour_36 : decode cX7_bestHour 36 = .ok (.istore 4, 2) := by decide +kernel
theorem dX7_bestHour_38 : decode cX7_bestHour 38 = .ok (.iconst 0, 1) := by decide +kernel
theorem dX7_bestHour_39 : decode cX7_bestHour 39 = .ok (.istore 5, 2) := by decide +kernel
theorem dX7_bestHour_41 : decode cX7_bestHour 41 = .ok (.iconst 0, 1) := by decide +kernel
theorem dX7_bestHour_42 : decode cX7_bestHour 42 = .ok (.istore 6, 2) := by decide +kernel
theorem dX7_bestHour_44 : decode cX7_bestHour 44 = .ok (.iload 6, 2) := by decide +kernel
theorem dX7_bestHour_46 : decode cX7_bestHour 46 = .ok (.bipush 24, 2) := by decide +kernel
theorem dX7_bestHour_48 : decode cX7_bestHour 48 = .ok (.if_icmp .ge 52, 3) := by decide +kernel
theorem dX7_bestHour_51 : decode cX7_bestHour 51 = .ok (.aload_n 0, 1) := by decide +kernel
theorem dX7_bestHour_52 : decode cX7_bestHour 52 = .ok (.iload_n 1, 1) := by decide +kernel
theorem dX7_bestHour_53 : decode cX7_bestHour 53 = .ok (.iload_n 2, 1) := by decide +kernel
theorem dX7_bestHour_54 : decode cX7_bestHour 54 = .ok (.iload_n 3, 1) := by decide +kernel
theorem dX7_bestHour_55 : decode cX7_bestHour 55 = .ok (.iload 6, 2) := by decide +kernel
theorem dX7_bestHour_57 : decode cX7_bestHour 57 = .ok (.invokevirtual 135, 3) := by decide +kernel
theorem dX7_bestHour_60 : decode cX7_bestHour 60 = .ok (.istore 7, 2) := by decide +kernel
theorem dX7_bestHour_62 : decode cX7_bestHour 62 = .ok (.iload 7, 2) := by decide +kernel
theorem dX7_bestHour_64 : decode cX7_bestHour 64 = .ok (.iload 5, 2) := by decide +kernel
theorem dX7_bestHour_66 : decode cX7_bestHour 66 = .ok (.if_icmp .le 8, 3) := by decide +kernel
theorem dX7_bestHour_69 : decode cX7_bestHour 69 = .ok (.iload 6, 2) := by decide +kernel
theorem dX7_bestHour_71 : decode cX7_bestHour 71 = .ok (.goto 5, 3) := by decide +kernel
theorem dX7_bestHour_74 : decode cX7_bestHour 74 = .ok (.iload 4, 2) := by decide +kernel
theorem dX7_bestHour_76 : decode cX7_bestHour 76 = .ok (.istore 4, 2) := by decide +kernel
theorem dX7_bestHour_78 : decode cX7_bestHour 78 = .ok (.iload 7, 2) := by decide +kernel
theorem dX7_bestHour_80 : decode cX7_bestHour 80 = .ok (.iload 5, 2) := by decide +kernel
theorem dX7_bestHour_82 : decode cX7_bestHour 82 = .ok (.if_icmp .le 8, 3) := by decide +kernel
theorem dX7_bestHour_85 : decode cX7_bestHour 85 = .ok (.iload 7, 2) := by decide +kernel
theorem dX7_bestHour_87 : decode cX7_bestHour 87 = .ok (.goto 5, 3) := by decide +kernel
theorem dX7_bestHour_90 : decode cX7_bestHour 90 = .ok (.iload 5, 2) := by decide +kernel
theorem dX7_bestHour_92 : decode cX7_bestHour 92 = .ok (.istore 5, 2) := by decide +kernel
theorem dX7_bestHour_94 : decode cX7_bestHour 94 = .ok (.iinc 6 1, 3) := by decide +kernel
theorem dX7_bestHour_97 : decode cX7_bestHour 97 = .ok (.goto (-53), 3) := by decide +kernel
theorem dX7_bestHour_100 : decode cX7_bestHour 100 = .ok (.iload 4, 2) := by decide +kernel
theorem dX7_bestHour_102 : decode cX7_bestHour 102 = .ok (.ireturn, 1) := by decide +kernel
theorem dX7_season_0 : decode cX7_season 0 = .ok (.aload_n 0, 1) := by decide +kernel
theorem dX7_season_1 : decode cX7_season 1 = .ok (.aload_n 0, 1) := by decide +kernel
theorem dX7_season_2 : decode cX7_season 2 = .ok (.iload_n 1, 1) := by decide +kernel
theorem dX7_season_3 : decode cX7_season 3 = .ok (.invokevirtual 80, 3) := by decide +kernel
theorem dX7_season_6 : decode cX7_season 6 = .ok (.ifCond .ne 7, 3) := by decide +kernel
theorem dX7_season_9 : decode cX7_season 9 = .ok (.iconst 1, 1) := by decide +kernel
theorem dX7_season_10 : decode cX7_season 10 = .ok (.goto 17, 3) := by decide +kernel
theorem dX7_season_13 : decode cX7_season 13 = .ok (.iload_n 2, 1) := by decide +kernel
theorem dX7_season_14 : decode cX7_season 14 = .ok (.iconst 0, 1) := by decide +kernel
theorem dX7_season_15 : decode cX7_season 15 = .ok (.iload_n 3, 1) := by decide +kernel
theorem dX7_season_16 : decode cX7_season 16 = .ok (.invokestatic 128, 3) := by decide +kernel
theorem dX7_season_19 : decode cX7_season 19 = .ok (.ifCond .ne 7, 3) := by decide +kernel
theorem dX7_season_22 : decode cX7_season 22 = .ok (.iconst 2, 1) := by decide +kernel
theorem dX7_season_23 : decode cX7_season 23 = .ok (.goto 4, 3) := by decide +kernel
theorem dX7_season_26 : decode cX7_season 26 = .ok (.iconst 0, 1) := by decide +kernel
theorem dX7_season_27 : decode cX7_season 27 = .ok (.invokevirtual 55, 3) := by decide +kernel
theorem dX7_season_30 : decode cX7_season 30 = .ok (.ifCond .ne 5, 3) := by decide +kernel
theorem dX7_season_33 : decode cX7_season 33 = .ok (.iconst 0, 1) := by decide +kernel
theorem dX7_season_34 : decode cX7_season 34 = .ok (.ireturn, 1) := by decide +kernel
theorem dX7_season_35 : decode cX7_season 35 = .ok (.iconst 0, 1) := by decide +kernel
theorem dX7_season_36 : decode cX7_season 36 = .ok (.istore 4, 2) := by decide +kernel
theorem dX7_season_38 : decode cX7_season 38 = .ok (.iconst 0, 1) := by decide +kernel
theorem dX7_season_39 : decode cX7_season 39 = .ok (.istore 5, 2) := by decide +kernel
theorem dX7_season_41 : decode cX7_season 41 = .ok (.iload 5, 2) := by decide +kernel
theorem dX7_season_43 : decode cX7_season 43 = .ok (.sipush 365, 3) := by decide +kernel
theorem dX7_season_46 : decode cX7_season 46 = .ok (.if_icmp .ge 31, 3) := by decide +kernel
theorem dX7_season_49 : decode cX7_season 49 = .ok (.iload 4, 2) := by decide +kernel
theorem dX7_season_51 : decode cX7_season 51 = .ok (.aload_n 0, 1) := by decide +kernel
theorem dX7_season_52 : decode cX7_season 52 = .ok (.iload_n 1, 1) := by decide +kernel
theorem dX7_season_53 : decode cX7_season 53 = .ok (.iload_n 2, 1) := by decide +kernel
theorem dX7_season_54 : decode cX7_season 54 = .ok (.iload 5, 2) := by decide +kernel
theorem dX7_season_56 : decode cX7_season 56 = .ok (.iload_n 3, 1) := by decide +kernel
theorem dX7_season_57 : decode cX7_season 57 = .ok (.invokevirtual 138, 3) := by decide +kernel
theorem dX7_season_60 : decode cX7_season 60 = .ok (.ifCond .eq 7, 3) := by decide +kernel
theorem dX7_season_63 : decode cX7_season 63 = .ok (.iconst 1, 1) := by decide +kernel
theorem dX7_season_64 : decode cX7_season 64 = .ok (.goto 4, 3) := by decide +kernel
theorem dX7_season_67 : decode cX7_season 67 = .ok (.iconst 0, 1) := by decide +kernel
theorem dX7_season_68 : decode cX7_season 68 = .ok (.iadd, 1) := by decide +kernel
theorem dX7_season_69 : decode cX7_season 69 = .ok (.istore 4, 2) := by decide +kernel
theorem dX7_season_71 : decode cX7_season 71 = .ok (.iinc 5 1, 3) := by decide +kernel
theorem dX7_season_74 : decode cX7_season 74 = .ok (.goto (-33), 3) := by decide +kernel
theorem dX7_season_77 : decode cX7_season 77 = .ok (.iload 4, 2) := by decide +kernel
theorem dX7_season_79 : decode cX7_season 79 = .ok (.ireturn, 1) := by decide +kernel
theorem dX7_plan_0 : decode cX7_plan 0 = .ok (.aload_n 0, 1) := by decide +kernel
theorem dX7_plan_1 : decode cX7_plan 1 = .ok (.iload_n 1, 1) := by decide +kernel
theorem dX7_plan_2 : decode cX7_plan 2 = .ok (.invokevirtual 80, 3) := by decide +kernel
theorem dX7_plan_5 : decode cX7_plan 5 = .ok (.istore 5, 2) := by decide +kernel
theorem dX7_plan_7 : decode cX7_plan 7 = .ok (.iload_n 2, 1) := by decide +kernel
theorem dX7_plan_8 : decode cX7_plan 8 = .ok (.iload_n 3, 1) := by decide +kernel
theorem dX7_plan_9 : decode cX7_plan 9 = .ok (.iload 4, 2) := by decide +kernel
theorem dX7_plan_11 : decode cX7_plan 11 = .ok (.invokestatic 128, 3) := by decide +kernel
theorem dX7_plan_14 : decode cX7_plan 14 = .ok (.istore 6, 2) := by decide +kernel
theorem dX7_plan_16 : decode cX7_plan 16 = .ok (.iload 5, 2) := by decide +kernel
theorem dX7_plan_18 : decode cX7_plan 18 = .ok (.ifCond .eq 42, 3) := by decide +kernel
theorem dX7_plan_21 : decode cX7_plan 21 = .ok (.iload 6, 2) := by decide +kernel
theorem dX7_plan_23 : decode cX7_plan 23 = .ok (.ifCond .eq 37, 3) := by decide +kernel
theorem dX7_plan_26 : decode cX7_plan 26 = .ok (.aload_n 0, 1) := by decide +kernel
theorem dX7_plan_27 : decode cX7_plan 27 = .ok (.iload_n 1, 1) := by decide +kernel
theorem dX7_plan_28 : decode cX7_plan 28 = .ok (.iload_n 2, 1) := by decide +kernel
theorem dX7_plan_29 : decode cX7_plan 29 = .ok (.iload_n 3, 1) := by decide +kernel
theorem dX7_plan_30 : decode cX7_plan 30 = .ok (.iload 4, 2) := by decide +kernel
theorem dX7_plan_32 : decode cX7_plan 32 = .ok (.invokevirtual 138, 3) := by decide +kernel
theorem dX7_plan_35 : decode cX7_plan 35 = .ok (.ifCond .eq 25, 3) := by decide +kernel
theorem dX7_plan_38 : decode cX7_plan 38 = .ok (.aload_n 0, 1) := by decide +kernel
theorem dX7_plan_39 : decode cX7_plan 39 = .ok (.iload_n 1, 1) := by decide +kernel
theorem dX7_plan_40 : decode cX7_plan 40 = .ok (.invokevirtual 115, 3) := by decide +kernel
theorem dX7_plan_43 : decode cX7_plan 43 = .ok (.iconst (-1), 1) := by decide +kernel
theorem dX7_plan_44 : decode cX7_plan 44 = .ok (.if_icmp .eq 16, 3) := by decide +kernel
theorem dX7_plan_47 : decode cX7_plan 47 = .ok (.aload_n 0, 1) := by decide +kernel
theorem dX7_plan_48 : decode cX7_plan 48 = .ok (.getfield 144, 3) := by decide +kernel
theorem dX7_plan_51 : decode cX7_plan 51 = .ok (.bipush 12, 2) := by decide +kernel
theorem dX7_plan_53 : decode cX7_plan 53 = .ok (.if_icmp .ge 7, 3) := by decide +kernel
theorem dX7_plan_56 : decode cX7_plan 56 = .ok (.iconst 1, 1) := by decide +kernel
theorem dX7_plan_57 : decode cX7_plan 57 = .ok (.goto 4, 3) := by decide +kernel
theorem dX7_plan_60 : decode cX7_plan 60 = .ok (.iconst 0, 1) := by decide +kernel
theorem dX7_plan_61 : decode cX7_plan 61 = .ok (.istore 7, 2) := by decide +kernel
theorem dX7_plan_63 : decode cX7_plan 63 = .ok (.aload_n 0, 1) := by decide +kernel
theorem dX7_plan_64 : decode cX7_plan 64 = .ok (.iload 5, 2) := by decide +kernel
theorem dX7_plan_66 : decode cX7_plan 66 = .ok (.ifCond .ne 7, 3) := by decide +kernel
theorem dX7_plan_69 : decode cX7_plan 69 = .ok (.iconst 1, 1) := by decide +kernel
theorem dX7_plan_70 : decode cX7_plan 70 = .ok (.goto 22, 3) := by decide +kernel
theorem dX7_plan_73 : decode cX7_plan 73 = .ok (.iload 6, 2) := by decide +kernel
theorem dX7_plan_75 : decode cX7_plan 75 = .ok (.ifCond .ne 7, 3) := by decide +kernel
theorem dX7_plan_78 : decode cX7_plan 78 = .ok (.iconst 2, 1) := by decide +kernel
theorem dX7_plan_79 : decode cX7_plan 79 = .ok (.goto 13, 3) := by decide +kernel
theorem dX7_plan_82 : decode cX7_plan 82 = .ok (.iload 7, 2) := by decide +kernel
theorem dX7_plan_84 : decode cX7_plan 84 = .ok (.ifCond .ne 7, 3) := by decide +kernel
theorem dX7_plan_87 : decode cX7_plan 87 = .ok (.iconst 3, 1) := by decide +kernel
theorem dX7_plan_88 : decode cX7_plan 88 = .ok (.goto 4, 3) := by decide +kernel
theorem dX7_plan_91 : decode cX7_plan 91 = .ok (.iconst 0, 1) := by decide +kernel
theorem dX7_plan_92 : decode cX7_plan 92 = .ok (.invokevirtual 55, 3) := by decide +kernel
theorem dX7_plan_95 : decode cX7_plan 95 = .ok (.ifCond .ne 5, 3) := by decide +kernel
theorem dX7_plan_98 : decode cX7_plan 98 = .ok (.iconst 0, 1) := by decide +kernel
theorem dX7_plan_99 : decode cX7_plan 99 = .ok (.ireturn, 1) := by decide +kernel
theorem dX7_plan_100 : decode cX7_plan 100 = .ok (.aload_n 0, 1) := by decide +kernel
theorem dX7_plan_101 : decode cX7_plan 101 = .ok (.getfield 31, 3) := by decide +kernel
theorem dX7_plan_104 : decode cX7_plan 104 = .ok (.iconst 5, 1) := by decide +kernel
theorem dX7_plan_105 : decode cX7_plan 105 = .ok (.aload_n 0, 1) := by decide +kernel
theorem dX7_plan_106 : decode cX7_plan 106 = .ok (.getfield 144, 3) := by decide +kernel
theorem dX7_plan_109 : decode cX7_plan 109 = .ok (.imul, 1) := by decide +kernel
theorem dX7_plan_110 : decode cX7_plan 110 = .ok (.iload_n 1, 1) := by decide +kernel
theorem dX7_plan_111 : decode cX7_plan 111 = .ok (.iastore, 1) := by decide +kernel
theorem dX7_plan_112 : decode cX7_plan 112 = .ok (.aload_n 0, 1) := by decide +kernel
theorem dX7_plan_113 : decode cX7_plan 113 = .ok (.getfield 31, 3) := by decide +kernel
theorem dX7_plan_116 : decode cX7_plan 116 = .ok (.iconst 5, 1) := by decide +kernel
theorem dX7_plan_117 : decode cX7_plan 117 = .ok (.aload_n 0, 1) := by decide +kernel
theorem dX7_plan_118 : decode cX7_plan 118 = .ok (.getfield 144, 3) := by decide +kernel
theorem dX7_plan_121 : decode cX7_plan 121 = .ok (.imul, 1) := by decide +kernel
theorem dX7_plan_122 : decode cX7_plan 122 = .ok (.iconst 1, 1) := by decide +kernel
theorem dX7_plan_123 : decode cX7_plan 123 = .ok (.iadd, 1) := by decide +kernel
theorem dX7_plan_124 : decode cX7_plan 124 = .ok (.iload_n 2, 1) := by decide +kernel
theorem dX7_plan_125 : decode cX7_plan 125 = .ok (.iastore, 1) := by decide +kernel
theorem dX7_plan_126 : decode cX7_plan 126 = .ok (.aload_n 0, 1) := by decide +kernel
theorem dX7_plan_127 : decode cX7_plan 127 = .ok (.getfield 31, 3) := by decide +kernel
theorem dX7_plan_130 : decode cX7_plan 130 = .ok (.iconst 5, 1) := by decide +kernel
theorem dX7_plan_131 : decode cX7_plan 131 = .ok (.aload_n 0, 1) := by decide +kernel
theorem dX7_plan_132 : decode cX7_plan 132 = .ok (.getfield 144, 3) := by decide +kernel
theorem dX7_plan_135 : decode cX7_plan 135 = .ok (.imul, 1) := by decide +kernel
theorem dX7_plan_136 : decode cX7_plan 136 = .ok (.iconst 2, 1) := by decide +kernel
theorem dX7_plan_137 : decode cX7_plan 137 = .ok (.iadd, 1) := by decide +kernel
theorem dX7_plan_138 : decode cX7_plan 138 = .ok (.iload_n 3, 1) := by decide +kernel
theorem dX7_plan_139 : decode cX7_plan 139 = .ok (.iastore, 1) := by decide +kernel
theorem dX7_plan_140 : decode cX7_plan 140 = .ok (.aload_n 0, 1) := by decide +kernel
theorem dX7_plan_141 : decode cX7_plan 141 = .ok (.getfield 31, 3) := by decide +kernel
theorem dX7_plan_144 : decode cX7_plan 144 = .ok (.iconst 5, 1) := by decide +kernel
theorem dX7_plan_145 : decode cX7_plan 145 = .ok (.aload_n 0, 1) := by decide +kernel
theorem dX7_plan_146 : decode cX7_plan 146 = .ok (.getfield 144, 3) := by decide +kernel
theorem dX7_plan_149 : decode cX7_plan 149 = .ok (.imul, 1) := by decide +kernel
theorem dX7_plan_150 : decode cX7_plan 150 = .ok (.iconst 3, 1) := by decide +kernel
theorem dX7_plan_151 : decode cX7_plan 151 = .ok (.iadd, 1) := by decide +kernel
theorem dX7_plan_152 : decode cX7_plan 152 = .ok (.iload 4, 2) := by decide +kernel
theorem dX7_plan_154 : decode cX7_plan 154 = .ok (.iastore, 1) := by decide +kernel
theorem dX7_plan_155 : decode cX7_plan 155 = .ok (.aload_n 0, 1) := by decide +kernel
theorem dX7_plan_156 : decode cX7_plan 156 = .ok (.getfield 31, 3) := by decide +kernel
theorem dX7_plan_159 : decode cX7_plan 159 = .ok (.iconst 5, 1) := by decide +kernel
theorem dX7_plan_160 : decode cX7_plan 160 = .ok (.aload_n 0, 1) := by decide +kernel
theorem dX7_plan_161 : decode cX7_plan 161 = .ok (.getfield 144, 3) := by decide +kernel
theorem dX7_plan_164 : decode cX7_plan 164 = .ok (.imul, 1) := by decide +kernel
theorem dX7_plan_165 : decode cX7_plan 165 = .ok (.iconst 4, 1) := by decide +kernel
theorem dX7_plan_166 : decode cX7_plan 166 = .ok (.iadd, 1) := by decide +kernel
theorem dX7_plan_167 : decode cX7_plan 167 = .ok (.aload_n 0, 1) := by decide +kernel
theorem dX7_plan_168 : decode cX7_plan 168 = .ok (.iload_n 1, 1) := by decide +kernel
theorem dX7_plan_169 : decode cX7_plan 169 = .ok (.invokevirtual 115, 3) := by decide +kernel
theorem dX7_plan_172 : decode cX7_plan 172 = .ok (.iastore, 1) := by decide +kernel
theorem dX7_plan_173 : decode cX7_plan 173 = .ok (.aload_n 0, 1) := by decide +kernel
theorem dX7_plan_174 : decode cX7_plan 174 = .ok (.dup, 1) := by decide +kernel
theorem dX7_plan_175 : decode cX7_plan 175 = .ok (.getfield 144, 3) := by decide +kernel
theorem dX7_plan_178 : decode cX7_plan 178 = .ok (.iconst 1, 1) := by decide +kernel
theorem dX7_plan_179 : decode cX7_plan 179 = .ok (.iadd, 1) := by decide +kernel
theorem dX7_plan_180 : decode cX7_plan 180 = .ok (.putfield 144, 3) := by decide +kernel
theorem dX7_plan_183 : decode cX7_plan 183 = .ok (.aload_n 0, 1) := by decide +kernel
theorem dX7_plan_184 : decode cX7_plan 184 = .ok (.getfield 144, 3) := by decide +kernel
theorem dX7_plan_187 : decode cX7_plan 187 = .ok (.iconst 1, 1) := by decide +kernel
theorem dX7_plan_188 : decode cX7_plan 188 = .ok (.isub, 1) := by decide +kernel
theorem dX7_plan_189 : decode cX7_plan 189 = .ok (.ireturn, 1) := by decide +kernel
theorem dX7_isWrongNow_0 : decode cX7_isWrongNow 0 = .ok (.aload_n 0, 1) := by decide +kernel
theorem dX7_isWrongNow_1 : decode cX7_isWrongNow 1 = .ok (.getfield 31, 3) := by decide +kernel
theorem dX7_isWrongNow_4 : decode cX7_isWrongNow 4 = .ok (.iconst 5, 1) := by decide +kernel
theorem dX7_isWrongNow_5 : decode cX7_isWrongNow 5 = .ok (.iload_n 1, 1) := by decide +kernel
theorem dX7_isWrongNow_6 : decode cX7_isWrongNow 6 = .ok (.imul, 1) := by decide +kernel
theorem dX7_isWrongNow_7 : decode cX7_isWrongNow 7 = .ok (.iaload, 1) := by decide +kernel
theorem dX7_isWrongNow_8 : decode cX7_isWrongNow 8 = .ok (.istore_n 2, 1) := by decide +kernel
theorem dX7_isWrongNow_9 : decode cX7_isWrongNow 9 = .ok (.aload_n 0, 1) := by decide +kernel
theorem dX7_isWrongNow_10 : decode cX7_isWrongNow 10 = .ok (.iload_n 2, 1) := by decide +kernel
theorem dX7_isWrongNow_11 : decode cX7_isWrongNow 11 = .ok (.aload_n 0, 1) := by decide +kernel
theorem dX7_isWrongNow_12 : decode cX7_isWrongNow 12 = .ok (.getfield 31, 3) := by decide +kernel
theorem dX7_isWrongNow_15 : decode cX7_isWrongNow 15 = .ok (.iconst 5, 1) := by decide +kernel
theorem dX7_isWrongNow_16 : decode cX7_isWrongNow 16 = .ok (.iload_n 1, 1) := by decide +kernel
theorem dX7_isWrongNow_17 : decode cX7_isWrongNow 17 = .ok (.imul, 1) := by decide +kernel
theorem dX7_isWrongNow_18 : decode cX7_isWrongNow 18 = .ok (.iconst 1, 1) := by decide +kernel
theorem dX7_isWrongNow_19 : decode cX7_isWrongNow 19 = .ok (.iadd, 1) := by decide +kernel
theorem dX7_isWrongNow_20 : decode cX7_isWrongNow 20 = .ok (.iaload, 1) := by decide +kernel
theorem dX7_isWrongNow_21 : decode cX7_isWrongNow 21 = .ok (.aload_n 0, 1) := by decide +kernel
theorem dX7_isWrongNow_22 : decode cX7_isWrongNow 22 = .ok (.getfield 31, 3) := by decide +kernel
theorem dX7_isWrongNow_25 : decode cX7_isWrongNow 25 = .ok (.iconst 5, 1) := by decide +kernel
theorem dX7_isWrongNow_26 : decode cX7_isWrongNow 26 = .ok (.iload_n 1, 1) := by decide +kernel
theorem dX7_isWrongNow_27 : decode cX7_isWrongNow 27 = .ok (.imul, 1) := by decide +kernel
theorem dX7_isWrongNow_28 : decode cX7_isWrongNow 28 = .ok (.iconst 2, 1) := by decide +kernel
theorem dX7_isWrongNow_29 : decode cX7_isWrongNow 29 = .ok (.iadd, 1) := by decide +kernel
theorem dX7_isWrongNow_30 : decode cX7_isWrongNow 30 = .ok (.iaload, 1) := by decide +kernel
theorem dX7_isWrongNow_31 : decode cX7_isWrongNow 31 = .ok (.aload_n 0, 1) := by decide +kernel
theorem dX7_isWrongNow_32 : decode cX7_isWrongNow 32 = .ok (.getfield 31, 3) := by decide +kernel
theorem dX7_isWrongNow_35 : decode cX7_isWrongNow 35 = .ok (.iconst 5, 1) := by decide +kernel
theorem dX7_isWrongNow_36 : decode cX7_isWrongNow 36 = .ok (.iload_n 1, 1) := by decide +kernel
theorem dX7_isWrongNow_37 : decode cX7_isWrongNow 37 = .ok (.imul, 1) := by decide +kernel
theorem dX7_isWrongNow_38 : decode cX7_isWrongNow 38 = .ok (.iconst 3, 1) := by decide +kernel
theorem dX7_isWrongNow_39 : decode cX7_isWrongNow 39 = .ok (.iadd, 1) := by decide +kernel
theorem dX7_isWrongNow_40 : decode cX7_isWrongNow 40 = .ok (.iaload, 1) := by decide +kernel
theorem dX7_isWrongNow_41 : decode cX7_isWrongNow 41 = .ok (.invokevirtual 138, 3) := by decide +kernel
theorem dX7_isWrongNow_44 : decode cX7_isWrongNow 44 = .ok (.ifCond .eq 21, 3) := by decide +kernel
theorem dX7_isWrongNow_47 : decode cX7_isWrongNow 47 = .ok (.aload_n 0, 1) := by decide +kernel
theorem dX7_isWrongNow_48 : decode cX7_isWrongNow 48 = .ok (.iload_n 2, 1) := by decide +kernel
theorem dX7_isWrongNow_49 : decode cX7_isWrongNow 49 = .ok (.invokevirtual 115, 3) := by decide +kernel
theorem dX7_isWrongNow_52 : decode cX7_isWrongNow 52 = .ok (.aload_n 0, 1) := by decide +kernel
theorem dX7_isWrongNow_53 : decode cX7_isWrongNow 53 = .ok (.getfield 31, 3) := by decide +kernel
theorem dX7_isWrongNow_56 : decode cX7_isWrongNow 56 = .ok (.iconst 5, 1) := by decide +kernel
theorem dX7_isWrongNow_57 : decode cX7_isWrongNow 57 = .ok (.iload_n 1, 1) := by decide +kernel
theorem dX7_isWrongNow_58 : decode cX7_isWrongNow 58 = .ok (.imul, 1) := by decide +kernel
theorem dX7_isWrongNow_59 : decode cX7_isWrongNow 59 = .ok (.iconst 4, 1) := by decide +kernel
theorem dX7_isWrongNow_60 : decode cX7_isWrongNow 60 = .ok (.iadd, 1) := by decide +kernel
theorem dX7_isWrongNow_61 : decode cX7_isWrongNow 61 = .ok (.iaload, 1) := by decide +kernel
theorem dX7_isWrongNow_62 : decode cX7_isWrongNow 62 = .ok (.if_icmp .eq 7, 3) := by decide +kernel
theorem dX7_isWrongNow_65 : decode cX7_isWrongNow 65 = .ok (.iconst 1, 1) := by decide +kernel
theorem dX7_isWrongNow_66 : decode cX7_isWrongNow 66 = .ok (.goto 4, 3) := by decide +kernel
theorem dX7_isWrongNow_69 : decode cX7_isWrongNow 69 = .ok (.iconst 0, 1) := by decide +kernel
theorem dX7_isWrongNow_70 : decode cX7_isWrongNow 70 = .ok (.ireturn, 1) := by decide +kernel
theorem dX7_wrongNow_0 : decode cX7_wrongNow 0 = .ok (.iconst 0, 1) := by decide +kernel
theorem dX7_wrongNow_1 : decode cX7_wrongNow 1 = .ok (.istore_n 1, 1) := by decide +kernel
theorem dX7_wrongNow_2 : decode cX7_wrongNow 2 = .ok (.iconst 0, 1) := by decide +kernel
theorem dX7_wrongNow_3 : decode cX7_wrongNow 3 = .ok (.istore_n 2, 1) := by decide +kernel
theorem dX7_wrongNow_4 : decode cX7_wrongNow 4 = .ok (.iload_n 2, 1) := by decide +kernel
theorem dX7_wrongNow_5 : decode cX7_wrongNow 5 = .ok (.aload_n 0, 1) := by decide +kernel
theorem dX7_wrongNow_6 : decode cX7_wrongNow 6 = .ok (.getfield 144, 3) := by decide +kernel
theorem dX7_wrongNow_9 : decode cX7_wrongNow 9 = .ok (.if_icmp .ge 25, 3) := by decide +kernel
theorem dX7_wrongNow_12 : decode cX7_wrongNow 12 = .ok (.iload_n 1, 1) := by decide +kernel
theorem dX7_wrongNow_13 : decode cX7_wrongNow 13 = .ok (.aload_n 0, 1) := by decide +kernel
theorem dX7_wrongNow_14 : decode cX7_wrongNow 14 = .ok (.iload_n 2, 1) := by decide +kernel
theorem dX7_wrongNow_15 : decode cX7_wrongNow 15 = .ok (.invokevirtual 147, 3) := by decide +kernel
theorem dX7_wrongNow_18 : decode cX7_wrongNow 18 = .ok (.ifCond .eq 7, 3) := by decide +kernel
theorem dX7_wrongNow_21 : decode cX7_wrongNow 21 = .ok (.iconst 1, 1) := by decide +kernel
theorem dX7_wrongNow_22 : decode cX7_wrongNow 22 = .ok (.goto 4, 3) := by decide +kernel
theorem dX7_wrongNow_25 : decode cX7_wrongNow 25 = .ok (.iconst 0, 1) := by decide +kernel
theorem dX7_wrongNow_26 : decode cX7_wrongNow 26 = .ok (.iadd, 1) := by decide +kernel
theorem dX7_wrongNow_27 : decode cX7_wrongNow 27 = .ok (.istore_n 1, 1) := by decide +kernel
theorem dX7_wrongNow_28 : decode cX7_wrongNow 28 = .ok (.iinc 2 1, 3) := by decide +kernel
theorem dX7_wrongNow_31 : decode cX7_wrongNow 31 = .ok (.goto (-27), 3) := by decide +kernel
theorem dX7_wrongNow_34 : decode cX7_wrongNow 34 = .ok (.iload_n 1, 1) := by decide +kernel
theorem dX7_wrongNow_35 : decode cX7_wrongNow 35 = .ok (.ireturn, 1) := by decide +kernel
theorem dX7_isWrong_0 : decode cX7_isWrong 0 = .ok (.aload_n 0, 1) := by decide +kernel
theorem dX7_isWrong_1 : decode cX7_isWrong 1 = .ok (.iload_n 1, 1) := by decide +kernel
theorem dX7_isWrong_2 : decode cX7_isWrong 2 = .ok (.iconst 0, 1) := by decide +kernel
theorem dX7_isWrong_3 : decode cX7_isWrong 3 = .ok (.aload_n 0, 1) := by decide +kernel
theorem dX7_isWrong_4 : decode cX7_isWrong 4 = .ok (.getfield 144, 3) := by decide +kernel
theorem dX7_isWrong_7 : decode cX7_isWrong 7 = .ok (.iconst 1, 1) := by decide +kernel
theorem dX7_isWrong_8 : decode cX7_isWrong 8 = .ok (.isub, 1) := by decide +kernel
theorem dX7_isWrong_9 : decode cX7_isWrong 9 = .ok (.invokestatic 44, 3) := by decide +kernel
theorem dX7_isWrong_12 : decode cX7_isWrong 12 = .ok (.ifCond .eq 7, 3) := by decide +kernel
theorem dX7_isWrong_15 : decode cX7_isWrong 15 = .ok (.iconst 0, 1) := by decide +kernel
theorem dX7_isWrong_16 : decode cX7_isWrong 16 = .ok (.goto 4, 3) := by decide +kernel
theorem dX7_isWrong_19 : decode cX7_isWrong 19 = .ok (.iconst 1, 1) := by decide +kernel
theorem dX7_isWrong_20 : decode cX7_isWrong 20 = .ok (.invokevirtual 55, 3) := by decide +kernel
theorem dX7_isWrong_23 : decode cX7_isWrong 23 = .ok (.ifCond .eq 15, 3) := by decide +kernel
theorem dX7_isWrong_26 : decode cX7_isWrong 26 = .ok (.aload_n 0, 1) := by decide +kernel
theorem dX7_isWrong_27 : decode cX7_isWrong 27 = .ok (.iload_n 1, 1) := by decide +kernel
theorem dX7_isWrong_28 : decode cX7_isWrong 28 = .ok (.invokevirtual 147, 3) := by decide +kernel
theorem dX7_isWrong_31 : decode cX7_isWrong 31 = .ok (.ifCond .eq 7, 3) := by decide +kernel
theorem dX7_isWrong_34 : decode cX7_isWrong 34 = .ok (.iconst 1, 1) := by decide +kernel
theorem dX7_isWrong_35 : decode cX7_isWrong 35 = .ok (.goto 4, 3) := by decide +kernel
theorem dX7_isWrong_38 : decode cX7_isWrong 38 = .ok (.iconst 0, 1) := by decide +kernel
theorem dX7_isWrong_39 : decode cX7_isWrong 39 = .ok (.ireturn, 1) := by decide +kernel
theorem dX7_wrong_0 : decode cX7_wrong 0 = .ok (.aload_n 0, 1) := by decide +kernel
theorem dX7_wrong_1 : decode cX7_wrong 1 = .ok (.iconst 0, 1) := by decide +kernel
theorem dX7_wrong_2 : decode cX7_wrong 2 = .ok (.putfield 37, 3) := by decide +kernel
theorem dX7_wrong_5 : decode cX7_wrong 5 = .ok (.aload_n 0, 1) := by decide +kernel
theorem dX7_wrong_6 : decode cX7_wrong 6 = .ok (.invokevirtual 69, 3) := by decide +kernel
theorem dX7_wrong_9 : decode cX7_wrong 9 = .ok (.ireturn, 1) := by decide +kernel
theorem dJ6_compare_7cf53_0 : decode cJ6_compare_7cf53 0 = .ok (.iload_n 0, 1) := by decide +kernel
theorem dJ6_compare_7cf53_1 : decode cJ6_compare_7cf53 1 = .ok (.iload_n 1, 1) := by decide +kernel
theorem dJ6_compare_7cf53_2 : decode cJ6_compare_7cf53 2 = .ok (.if_icmp .ge 7, 3) := by decide +kernel
theorem dJ6_compare_7cf53_5 : decode cJ6_compare_7cf53 5 = .ok (.iconst (-1), 1) := by decide +kernel
theorem dJ6_compare_7cf53_6 : decode cJ6_compare_7cf53 6 = .ok (.goto 13, 3) := by decide +kernel
theorem dJ6_compare_7cf53_9 : decode cJ6_compare_7cf53 9 = .ok (.iload_n 0, 1) := by decide +kernel
theorem dJ6_compare_7cf53_10 : decode cJ6_compare_7cf53 10 = .ok (.iload_n 1, 1) := by decide +kernel
theorem dJ6_compare_7cf53_11 : decode cJ6_compare_7cf53 11 = .ok (.if_icmp .ne 7, 3) := by decide +kernel
theorem dJ6_compare_7cf53_14 : decode cJ6_compare_7cf53 14 = .ok (.iconst 0, 1) := by decide +kernel
theorem dJ6_compare_7cf53_15 : decode cJ6_compare_7cf53 15 = .ok (.goto 4, 3) := by decide +kernel
theorem dJ6_compare_7cf53_18 : decode cJ6_compare_7cf53 18 = .ok (.iconst 1, 1) := by decide +kernel
theorem dJ6_compare_7cf53_19 : decode cJ6_compare_7cf53 19 = .ok (.ireturn, 1) := by decide +kernel
theorem dJ9_floorDiv_7cf53_0 : decode cJ9_floorDiv_7cf53 0 = .ok (.iload_n 0, 1) := by decide +kernel
theorem dJ9_floorDiv_7cf53_1 : decode cJ9_floorDiv_7cf53 1 = .ok (.iload_n 1, 1) := by decide +kernel
theorem dJ9_floorDiv_7cf53_2 : decode cJ9_floorDiv_7cf53 2 = .ok (.idiv, 1) := by decide +kernel
theorem dJ9_floorDiv_7cf53_3 : decode cJ9_floorDiv_7cf53 3 = .ok (.istore_n 2, 1) := by decide +kernel
theorem dJ9_floorDiv_7cf53_4 : decode cJ9_floorDiv_7cf53 4 = .ok (.iload_n 0, 1) := by decide +kernel
theorem dJ9_floorDiv_7cf53_5 : decode cJ9_floorDiv_7cf53 5 = .ok (.iload_n 1, 1) := by decide +kernel
theorem dJ9_floorDiv_7cf53_6 : decode cJ9_floorDiv_7cf53 6 = .ok (.ixor, 1) := by decide +kernel
theorem dJ9_floorDiv_7cf53_7 : decode cJ9_floorDiv_7cf53 7 = .ok (.ifCond .ge 14, 3) := by decide +kernel
theorem dJ9_floorDiv_7cf53_10 : decode cJ9_floorDiv_7cf53 10 = .ok (.iload_n 2, 1) := by decide +kernel
theorem dJ9_floorDiv_7cf53_11 : decode cJ9_floorDiv_7cf53 11 = .ok (.iload_n 1, 1) := by decide +kernel
theorem dJ9_floorDiv_7cf53_12 : decode cJ9_floorDiv_7cf53 12 = .ok (.imul, 1) := by decide +kernel
theorem dJ9_floorDiv_7cf53_13 : decode cJ9_floorDiv_7cf53 13 = .ok (.iload_n 0, 1) := by decide +kernel
theorem dJ9_floorDiv_7cf53_14 : decode cJ9_floorDiv_7cf53 14 = .ok (.if_icmp .eq 7, 3) := by decide +kernel
theorem dJ9_floorDiv_7cf53_17 : decode cJ9_floorDiv_7cf53 17 = .ok (.iload_n 2, 1) := by decide +kernel
theorem dJ9_floorDiv_7cf53_18 : decode cJ9_floorDiv_7cf53 18 = .ok (.iconst 1, 1) := by decide +kernel
theorem dJ9_floorDiv_7cf53_19 : decode cJ9_floorDiv_7cf53 19 = .ok (.isub, 1) := by decide +kernel
theorem dJ9_floorDiv_7cf53_20 : decode cJ9_floorDiv_7cf53 20 = .ok (.ireturn, 1) := by decide +kernel
theorem dJ9_floorDiv_7cf53_21 : decode cJ9_floorDiv_7cf53 21 = .ok (.iload_n 2, 1) := by decide +kernel
theorem dJ9_floorDiv_7cf53_22 : decode cJ9_floorDiv_7cf53 22 = .ok (.ireturn, 1) := by decide +kernel
theorem dJ9_floorMod_7cf53_0 : decode cJ9_floorMod_7cf53 0 = .ok (.iload_n 0, 1) := by decide +kernel
theorem dJ9_floorMod_7cf53_1 : decode cJ9_floorMod_7cf53 1 = .ok (.iload_n 1, 1) := by decide +kernel
theorem dJ9_floorMod_7cf53_2 : decode cJ9_floorMod_7cf53 2 = .ok (.irem, 1) := by decide +kernel
theorem dJ9_floorMod_7cf53_3 : decode cJ9_floorMod_7cf53 3 = .ok (.istore_n 2, 1) := by decide +kernel
theorem dJ9_floorMod_7cf53_4 : decode cJ9_floorMod_7cf53 4 = .ok (.iload_n 0, 1) := by decide +kernel
theorem dJ9_floorMod_7cf53_5 : decode cJ9_floorMod_7cf53 5 = .ok (.iload_n 1, 1) := by decide +kernel
theorem dJ9_floorMod_7cf53_6 : decode cJ9_floorMod_7cf53 6 = .ok (.ixor, 1) := by decide +kernel
theorem dJ9_floorMod_7cf53_7 : decode cJ9_floorMod_7cf53 7 = .ok (.ifCond .ge 11, 3) := by decide +kernel
theorem dJ9_floorMod_7cf53_10 : decode cJ9_floorMod_7cf53 10 = .ok (.iload_n 2, 1) := by decide +kernel
theorem dJ9_floorMod_7cf53_11 : decode cJ9_floorMod_7cf53 11 = .ok (.ifCond .eq 7, 3) := by decide +kernel
theorem dJ9_floorMod_7cf53_14 : decode cJ9_floorMod_7cf53 14 = .ok (.iload_n 2, 1) := by decide +kernel
theorem dJ9_floorMod_7cf53_15 : decode cJ9_floorMod_7cf53 15 = .ok (.iload_n 1, 1) := by decide +kernel
theorem dJ9_floorMod_7cf53_16 : decode cJ9_floorMod_7cf53 16 = .ok (.iadd, 1) := by decide +kernel
theorem dJ9_floorMod_7cf53_17 : decode cJ9_floorMod_7cf53 17 = .ok (.ireturn, 1) := by decide +kernel
theorem dJ9_floorMod_7cf53_18 : decode cJ9_floorMod_7cf53 18 = .ok (.iload_n 2, 1) := by decide +kernel
theorem dJ9_floorMod_7cf53_19 : decode cJ9_floorMod_7cf53 19 = .ok (.ireturn, 1) := by decide +kernel
theorem dJ9_max_7cf53_0 : decode cJ9_max_7cf53 0 = .ok (.iload_n 0, 1) := by decide +kernel
theorem dJ9_max_7cf53_1 : decode cJ9_max_7cf53 1 = .ok (.iload_n 1, 1) := by decide +kernel
theorem dJ9_max_7cf53_2 : decode cJ9_max_7cf53 2 = .ok (.if_icmp .lt 7, 3) := by decide +kernel
theorem dJ9_max_7cf53_5 : decode cJ9_max_7cf53 5 = .ok (.iload_n 0, 1) := by decide +kernel
theorem dJ9_max_7cf53_6 : decode cJ9_max_7cf53 6 = .ok (.goto 4, 3) := by decide +kernel
theorem dJ9_max_7cf53_9 : decode cJ9_max_7cf53 9 = .ok (.iload_n 1, 1) := by decide +kernel
theorem dJ9_max_7cf53_10 : decode cJ9_max_7cf53 10 = .ok (.ireturn, 1) := by decide +kernel
theorem dJ9_min_7cf53_0 : decode cJ9_min_7cf53 0 = .ok (.iload_n 0, 1) := by decide +kernel
theorem dJ9_min_7cf53_1 : decode cJ9_min_7cf53 1 = .ok (.iload_n 1, 1) := by decide +kernel
theorem dJ9_min_7cf53_2 : decode cJ9_min_7cf53 2 = .ok (.if_icmp .gt 7, 3) := by decide +kernel
theorem dJ9_min_7cf53_5 : decode cJ9_min_7cf53 5 = .ok (.iload_n 0, 1) := by decide +kernel
theorem dJ9_min_7cf53_6 : decode cJ9_min_7cf53 6 = .ok (.goto 4, 3) := by decide +kernel
theorem dJ9_min_7cf53_9 : decode cJ9_min_7cf53 9 = .ok (.iload_n 1, 1) := by decide +kernel
theorem dJ9_min_7cf53_10 : decode cJ9_min_7cf53 10 = .ok (.ireturn, 1) := by decide +kernel
theorem dJ7_fill_53178_0 : decode cJ7_fill_53178 0 = .ok (.iconst 0, 1) := by decide +kernel
theorem dJ7_fill_53178_1 : decode cJ7_fill_53178 1 = .ok (.istore_n 2, 1) := by decide +kernel
theorem dJ7_fill_53178_2 : decode cJ7_fill_53178 2 = .ok (.aload_n 0, 1) := by decide +kernel
theorem dJ7_fill_53178_3 : decode cJ7_fill_53178 3 = .ok (.arraylength, 1) := by decide +kernel
theorem dJ7_fill_53178_4 : decode cJ7_fill_53178 4 = .ok (.istore_n 3, 1) := by decide +kernel
theorem dJ7_fill_53178_5 : decode cJ7_fill_53178 5 = .ok (.iload_n 2, 1) := by decide +kernel
theorem dJ7_fill_53178_6 : decode cJ7_fill_53178 6 = .ok (.iload_n 3, 1) := by decide +kernel
theorem dJ7_fill_53178_7 : decode cJ7_fill_53178 7 = .ok (.if_icmp .ge 13, 3) := by decide +kernel
theorem dJ7_fill_53178_10 : decode cJ7_fill_53178 10 = .ok (.aload_n 0, 1) := by decide +kernel
theorem dJ7_fill_53178_11 : decode cJ7_fill_53178 11 = .ok (.iload_n 2, 1) := by decide +kernel
theorem dJ7_fill_53178_12 : decode cJ7_fill_53178 12 = .ok (.iload_n 1, 1) := by decide +kernel
theorem dJ7_fill_53178_13 : decode cJ7_fill_53178 13 = .ok (.iastore, 1) := by decide +kernel
theorem dJ7_fill_53178_14 : decode cJ7_fill_53178 14 = .ok (.iinc 2 1, 3) := by decide +kernel
theorem dJ7_fill_53178_17 : decode cJ7_fill_53178 17 = .ok (.goto (-12), 3) := by decide +kernel
theorem dJ7_fill_53178_20 : decode cJ7_fill_53178 20 = .ok (.return_, 1) := by decide +kernel
theorem dL_addStar_0 : decode cL_addStar 0 = .ok (.aload_n 3, 1) := by decide +kernel
theorem dL_addStar_1 : decode cL_addStar 1 = .ok (.iconst 0, 1) := by decide +kernel
theorem dL_addStar_2 : decode cL_addStar 2 = .ok (.aload_n 0, 1) := by decide +kernel
theorem dL_addStar_3 : decode cL_addStar 3 = .ok (.iload_n 1, 1) := by decide +kernel
theorem dL_addStar_4 : decode cL_addStar 4 = .ok (.iload_n 2, 1) := by decide +kernel
theorem dL_addStar_5 : decode cL_addStar 5 = .ok (.invokevirtual 7, 3) := by decide +kernel
theorem dL_addStar_8 : decode cL_addStar 8 = .ok (.i2l, 1) := by decide +kernel
theorem dL_addStar_9 : decode cL_addStar 9 = .ok (.lastore, 1) := by decide +kernel
theorem dL_addStar_10 : decode cL_addStar 10 = .ok (.goto 11, 3) := by decide +kernel
theorem dL_addStar_13 : decode cL_addStar 13 = .ok (.astore 4, 2) := by decide +kernel
theorem dL_addStar_15 : decode cL_addStar 15 = .ok (.iconst 1, 1) := by decide +kernel
theorem dL_addStar_16 : decode cL_addStar 16 = .ok (.ireturn, 1) := by decide +kernel
theorem dL_addStar_17 : decode cL_addStar 17 = .ok (.astore 4, 2) := by decide +kernel
theorem dL_addStar_19 : decode cL_addStar 19 = .ok (.iconst 2, 1) := by decide +kernel
theorem dL_addStar_20 : decode cL_addStar 20 = .ok (.ireturn, 1) := by decide +kernel
theorem dL_addStar_21 : decode cL_addStar 21 = .ok (.iconst 0, 1) := by decide +kernel
theorem dL_addStar_22 : decode cL_addStar 22 = .ok (.ireturn, 1) := by decide +kernel
theorem dL_correct_0 : decode cL_correct 0 = .ok (.aload 4, 2) := by decide +kernel
theorem dL_correct_2 : decode cL_correct 2 = .ok (.iconst 0, 1) := by decide +kernel
theorem dL_correct_3 : decode cL_correct 3 = .ok (.aload_n 0, 1) := by decide +kernel
theorem dL_correct_4 : decode cL_correct 4 = .ok (.iload_n 1, 1) := by decide +kernel
theorem dL_correct_5 : decode cL_correct 5 = .ok (.iload_n 2, 1) := by decide +kernel
theorem dL_correct_6 : decode cL_correct 6 = .ok (.iload_n 3, 1) := by decide +kernel
theorem dL_correct_7 : decode cL_correct 7 = .ok (.invokevirtual 17, 3) := by decide +kernel
theorem dL_correct_10 : decode cL_correct 10 = .ok (.i2l, 1) := by decide +kernel
theorem dL_correct_11 : decode cL_correct 11 = .ok (.lastore, 1) := by decide +kernel
theorem dL_correct_12 : decode cL_correct 12 = .ok (.goto 11, 3) := by decide +kernel
theorem dL_correct_15 : decode cL_correct 15 = .ok (.astore 5, 2) := by decide +kernel
theorem dL_correct_17 : decode cL_correct 17 = .ok (.iconst 1, 1) := by decide +kernel
theorem dL_correct_18 : decode cL_correct 18 = .ok (.ireturn, 1) := by decide +kernel
theorem dL_correct_19 : decode cL_correct 19 = .ok (.astore 5, 2) := by decide +kernel
theorem dL_correct_21 : decode cL_correct 21 = .ok (.iconst 2, 1) := by decide +kernel
theorem dL_correct_22 : decode cL_correct 22 = .ok (.ireturn, 1) := by decide +kernel
theorem dL_correct_23 : decode cL_correct 23 = .ok (.iconst 0, 1) := by decide +kernel
theorem dL_correct_24 : decode cL_correct 24 = .ok (.ireturn, 1) := by decide +kernel
theorem dL_addFigure_0 : decode cL_addFigure 0 = .ok (.aload_n 1, 1) := by decide +kernel
theorem dL_addFigure_1 : decode cL_addFigure 1 = .ok (.iconst 0, 1) := by decide +kernel
theorem dL_addFigure_2 : decode cL_addFigure 2 = .ok (.aload_n 0, 1) := by decide +kernel
theorem dL_addFigure_3 : decode cL_addFigure 3 = .ok (.invokevirtual 23, 3) := by decide +kernel
theorem dL_addFigure_6 : decode cL_addFigure 6 = .ok (.i2l, 1) := by decide +kernel
theorem dL_addFigure_7 : decode cL_addFigure 7 = .ok (.lastore, 1) := by decide +kernel
theorem dL_addFigure_8 : decode cL_addFigure 8 = .ok (.goto 6, 3) := by decide +kernel
theorem dL_addFigure_11 : decode cL_addFigure 11 = .ok (.astore_n 2, 1) := by decide +kernel
theorem dL_addFigure_12 : decode cL_addFigure 12 = .ok (.iconst 1, 1) := by decide +kernel
theorem dL_addFigure_13 : decode cL_addFigure 13 = .ok (.ireturn, 1) := by decide +kernel
theorem dL_addFigure_14 : decode cL_addFigure 14 = .ok (.iconst 0, 1) := by decide +kernel
theorem dL_addFigure_15 : decode cL_addFigure 15 = .ok (.ireturn, 1) := by decide +kernel
theorem dL_draw_0 : decode cL_draw 0 = .ok (.aload 4, 2) := by decide +kernel
theorem dL_draw_2 : decode cL_draw 2 = .ok (.iconst 0, 1) := by decide +kernel
theorem dL_draw_3 : decode cL_draw 3 = .ok (.aload_n 0, 1) := by decide +kernel
theorem dL_draw_4 : decode cL_draw 4 = .ok (.iload_n 1, 1) := by decide +kernel
theorem dL_draw_5 : decode cL_draw 5 = .ok (.iload_n 2, 1) := by decide +kernel
theorem dL_draw_6 : decode cL_draw 6 = .ok (.iload_n 3, 1) := by decide +kernel
theorem dL_draw_7 : decode cL_draw 7 = .ok (.invokevirtual 27, 3) := by decide +kernel
theorem dL_draw_10 : decode cL_draw 10 = .ok (.i2l, 1) := by decide +kernel
theorem dL_draw_11 : decode cL_draw 11 = .ok (.lastore, 1) := by decide +kernel
theorem dL_draw_12 : decode cL_draw 12 = .ok (.goto 15, 3) := by decide +kernel
theorem dL_draw_15 : decode cL_draw 15 = .ok (.astore 5, 2) := by decide +kernel
theorem dL_draw_17 : decode cL_draw 17 = .ok (.iconst 1, 1) := by decide +kernel
theorem dL_draw_18 : decode cL_draw 18 = .ok (.ireturn, 1) := by decide +kernel
theorem dL_draw_19 : decode cL_draw 19 = .ok (.astore 5, 2) := by decide +kernel
theorem dL_draw_21 : decode cL_draw 21 = .ok (.iconst 2, 1) := by decide +kernel
theorem dL_draw_22 : decode cL_draw 22 = .ok (.ireturn, 1) := by decide +kernel
theorem dL_draw_23 : decode cL_draw 23 = .ok (.astore 5, 2) := by decide +kernel
theorem dL_draw_25 : decode cL_draw 25 = .ok (.iconst 3, 1) := by decide +kernel
theorem dL_draw_26 : decode cL_draw 26 = .ok (.ireturn, 1) := by decide +kernel
theorem dL_draw_27 : decode cL_draw 27 = .ok (.iconst 0, 1) := by decide +kernel
theorem dL_draw_28 : decode cL_draw 28 = .ok (.ireturn, 1) := by decide +kernel
theorem dL_erase_0 : decode cL_erase 0 = .ok (.aload_n 3, 1) := by decide +kernel
theorem dL_erase_1 : decode cL_erase 1 = .ok (.iconst 0, 1) := by decide +kernel
theorem dL_erase_2 : decode cL_erase 2 = .ok (.aload_n 0, 1) := by decide +kernel
theorem dL_erase_3 : decode cL_erase 3 = .ok (.iload_n 1, 1) := by decide +kernel
theorem dL_erase_4 : decode cL_erase 4 = .ok (.iload_n 2, 1) := by decide +kernel
theorem dL_erase_5 : decode cL_erase 5 = .ok (.invokevirtual 30, 3) := by decide +kernel
theorem dL_erase_8 : decode cL_erase 8 = .ok (.i2l, 1) := by decide +kernel
theorem dL_erase_9 : decode cL_erase 9 = .ok (.lastore, 1) := by decide +kernel
theorem dL_erase_10 : decode cL_erase 10 = .ok (.goto 7, 3) := by decide +kernel
theorem dL_erase_13 : decode cL_erase 13 = .ok (.astore 4, 2) := by decide +kernel
theorem dL_erase_15 : decode cL_erase 15 = .ok (.iconst 1, 1) := by decide +kernel
theorem dL_erase_16 : decode cL_erase 16 = .ok (.ireturn, 1) := by decide +kernel
theorem dL_erase_17 : decode cL_erase 17 = .ok (.iconst 0, 1) := by decide +kernel
theorem dL_erase_18 : decode cL_erase 18 = .ok (.ireturn, 1) := by decide +kernel
theorem dL_undo_0 : decode cL_undo 0 = .ok (.aload_n 1, 1) := by decide +kernel
theorem dL_undo_1 : decode cL_undo 1 = .ok (.iconst 0, 1) := by decide +kernel
theorem dL_undo_2 : decode cL_undo 2 = .ok (.aload_n 0, 1) := by decide +kernel
theorem dL_undo_3 : decode cL_undo 3 = .ok (.invokevirtual 33, 3) := by decide +kernel
theorem dL_undo_6 : decode cL_undo 6 = .ok (.i2l, 1) := by decide +kernel
theorem dL_undo_7 : decode cL_undo 7 = .ok (.lastore, 1) := by decide +kernel
theorem dL_undo_8 : decode cL_undo 8 = .ok (.goto 6, 3) := by decide +kernel
theorem dL_undo_11 : decode cL_undo 11 = .ok (.astore_n 2, 1) := by decide +kernel
theorem dL_undo_12 : decode cL_undo 12 = .ok (.iconst 1, 1) := by decide +kernel
theorem dL_undo_13 : decode cL_undo 13 = .ok (.ireturn, 1) := by decide +kernel
theorem dL_undo_14 : decode cL_undo 14 = .ok (.iconst 0, 1) := by decide +kernel
theorem dL_undo_15 : decode cL_undo 15 = .ok (.ireturn, 1) := by decide +kernel
theorem dL_lines_0 : decode cL_lines 0 = .ok (.aload_n 2, 1) := by decide +kernel
theorem dL_lines_1 : decode cL_lines 1 = .ok (.iconst 0, 1) := by decide +kernel
theorem dL_lines_2 : decode cL_lines 2 = .ok (.aload_n 0, 1) := by decide +kernel
theorem dL_lines_3 : decode cL_lines 3 = .ok (.iload_n 1, 1) := by decide +kernel
theorem dL_lines_4 : decode cL_lines 4 = .ok (.invokevirtual 36, 3) := by decide +kernel
theorem dL_lines_7 : decode cL_lines 7 = .ok (.i2l, 1) := by decide +kernel
theorem dL_lines_8 : decode cL_lines 8 = .ok (.lastore, 1) := by decide +kernel
theorem dL_lines_9 : decode cL_lines 9 = .ok (.goto 6, 3) := by decide +kernel
theorem dL_lines_12 : decode cL_lines 12 = .ok (.astore_n 3, 1) := by decide +kernel
theorem dL_lines_13 : decode cL_lines 13 = .ok (.iconst 1, 1) := by decide +kernel
theorem dL_lines_14 : decode cL_lines 14 = .ok (.ireturn, 1) := by decide +kernel
theorem dL_lines_15 : decode cL_lines 15 = .ok (.iconst 0, 1) := by decide +kernel
theorem dL_lines_16 : decode cL_lines 16 = .ok (.ireturn, 1) := by decide +kernel
theorem dL_placeOf_0 : decode cL_placeOf 0 = .ok (.aload_n 2, 1) := by decide +kernel
theorem dL_placeOf_1 : decode cL_placeOf 1 = .ok (.iconst 0, 1) := by decide +kernel
theorem dL_placeOf_2 : decode cL_placeOf 2 = .ok (.aload_n 0, 1) := by decide +kernel
theorem dL_placeOf_3 : decode cL_placeOf 3 = .ok (.iload_n 1, 1) := by decide +kernel
theorem dL_placeOf_4 : decode cL_placeOf 4 = .ok (.invokevirtual 40, 3) := by decide +kernel
theorem dL_placeOf_7 : decode cL_placeOf 7 = .ok (.i2l, 1) := by decide +kernel
theorem dL_placeOf_8 : decode cL_placeOf 8 = .ok (.lastore, 1) := by decide +kernel
theorem dL_placeOf_9 : decode cL_placeOf 9 = .ok (.goto 6, 3) := by decide +kernel
theorem dL_placeOf_12 : decode cL_placeOf 12 = .ok (.astore_n 3, 1) := by decide +kernel
theorem dL_placeOf_13 : decode cL_placeOf 13 = .ok (.iconst 1, 1) := by decide +kernel
theorem dL_placeOf_14 : decode cL_placeOf 14 = .ok (.ireturn, 1) := by decide +kernel
theorem dL_placeOf_15 : decode cL_placeOf 15 = .ok (.iconst 0, 1) := by decide +kernel
theorem dL_placeOf_16 : decode cL_placeOf 16 = .ok (.ireturn, 1) := by decide +kernel
theorem dL_figureOf_0 : decode cL_figureOf 0 = .ok (.aload_n 2, 1) := by decide +kernel
theorem dL_figureOf_1 : decode cL_figureOf 1 = .ok (.iconst 0, 1) := by decide +kernel
theorem dL_figureOf_2 : decode cL_figureOf 2 = .ok (.aload_n 0, 1) := by decide +kernel
theorem dL_figureOf_3 : decode cL_figureOf 3 = .ok (.iload_n 1, 1) := by decide +kernel
theorem dL_figureOf_4 : decode cL_figureOf 4 = .ok (.invokevirtual 43, 3) := by decide +kernel
theorem dL_figureOf_7 : decode cL_figureOf 7 = .ok (.i2l, 1) := by decide +kernel
theorem dL_figureOf_8 : decode cL_figureOf 8 = .ok (.lastore, 1) := by decide +kernel
theorem dL_figureOf_9 : decode cL_figureOf 9 = .ok (.goto 6, 3) := by decide +kernel
theorem dL_figureOf_12 : decode cL_figureOf 12 = .ok (.astore_n 3, 1) := by decide +kernel
theorem dL_figureOf_13 : decode cL_figureOf 13 = .ok (.iconst 1, 1) := by decide +kernel
theorem dL_figureOf_14 : decode cL_figureOf 14 = .ok (.ireturn, 1) := by decide +kernel
theorem dL_figureOf_15 : decode cL_figureOf 15 = .ok (.iconst 0, 1) := by decide +kernel
theorem dL_figureOf_16 : decode cL_figureOf 16 = .ok (.ireturn, 1) := by decide +kernel
theorem dL_crossings_0 : decode cL_crossings 0 = .ok (.aload_n 3, 1) := by decide +kernel
theorem dL_crossings_1 : decode cL_crossings 1 = .ok (.iconst 0, 1) := by decide +kernel
theorem dL_crossings_2 : decode cL_crossings 2 = .ok (.aload_n 0, 1) := by decide +kernel
theorem dL_crossings_3 : decode cL_crossings 3 = .ok (.iload_n 1, 1) := by decide +kernel
theorem dL_crossings_4 : decode cL_crossings 4 = .ok (.iload_n 2, 1) := by decide +kernel
theorem dL_crossings_5 : decode cL_crossings 5 = .ok (.invokevirtual 46, 3) := by decide +kernel
theorem dL_crossings_8 : decode cL_crossings 8 = .ok (.i2l, 1) := by decide +kernel
theorem dL_crossings_9 : decode cL_crossings 9 = .ok (.lastore, 1) := by decide +kernel
theorem dL_crossings_10 : decode cL_crossings 10 = .ok (.goto 7, 3) := by decide +kernel
theorem dL_crossings_13 : decode cL_crossings 13 = .ok (.astore 4, 2) := by decide +kernel
theorem dL_crossings_15 : decode cL_crossings 15 = .ok (.iconst 1, 1) := by decide +kernel
theorem dL_crossings_16 : decode cL_crossings 16 = .ok (.ireturn, 1) := by decide +kernel
theorem dL_crossings_17 : decode cL_crossings 17 = .ok (.iconst 0, 1) := by decide +kernel
theorem dL_crossings_18 : decode cL_crossings 18 = .ok (.ireturn, 1) := by decide +kernel
theorem dL_vote_0 : decode cL_vote 0 = .ok (.aload 4, 2) := by decide +kernel
theorem dL_vote_2 : decode cL_vote 2 = .ok (.iconst 0, 1) := by decide +kernel
theorem dL_vote_3 : decode cL_vote 3 = .ok (.aload_n 0, 1) := by decide +kernel
theorem dL_vote_4 : decode cL_vote 4 = .ok (.iload_n 1, 1) := by decide +kernel
theorem dL_vote_5 : decode cL_vote 5 = .ok (.iload_n 2, 1) := by decide +kernel
theorem dL_vote_6 : decode cL_vote 6 = .ok (.iload_n 3, 1) := by decide +kernel
theorem dL_vote_7 : decode cL_vote 7 = .ok (.invokevirtual 49, 3) := by decide +kernel
theorem dL_vote_10 : decode cL_vote 10 = .ok (.i2l, 1) := by decide +kernel
theorem dL_vote_11 : decode cL_vote 11 = .ok (.lastore, 1) := by decide +kernel
theorem dL_vote_12 : decode cL_vote 12 = .ok (.goto 11, 3) := by decide +kernel
theorem dL_vote_15 : decode cL_vote 15 = .ok (.astore 5, 2) := by decide +kernel
