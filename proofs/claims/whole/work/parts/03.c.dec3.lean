theorem dX6_kindBy_21 : decode cX6_kindBy 21 = .ok (.bipush 114, 2) := by decide +kernel
theorem dX6_kindBy_23 : decode cX6_kindBy 23 = .ok (.if_icmp .ne 7, 3) := by decide +kernel
theorem dX6_kindBy_26 : decode cX6_kindBy 26 = .ok (.iconst 3, 1) := by decide +kernel
theorem dX6_kindBy_27 : decode cX6_kindBy 27 = .ok (.goto 24, 3) := by decide +kernel
theorem dX6_kindBy_30 : decode cX6_kindBy 30 = .ok (.iload_n 0, 1) := by decide +kernel
theorem dX6_kindBy_31 : decode cX6_kindBy 31 = .ok (.bipush 116, 2) := by decide +kernel
theorem dX6_kindBy_33 : decode cX6_kindBy 33 = .ok (.if_icmp .ne 7, 3) := by decide +kernel
theorem dX6_kindBy_36 : decode cX6_kindBy 36 = .ok (.iconst 4, 1) := by decide +kernel
theorem dX6_kindBy_37 : decode cX6_kindBy 37 = .ok (.goto 14, 3) := by decide +kernel
theorem dX6_kindBy_40 : decode cX6_kindBy 40 = .ok (.iload_n 0, 1) := by decide +kernel
theorem dX6_kindBy_41 : decode cX6_kindBy 41 = .ok (.bipush 99, 2) := by decide +kernel
theorem dX6_kindBy_43 : decode cX6_kindBy 43 = .ok (.if_icmp .ne 7, 3) := by decide +kernel
theorem dX6_kindBy_46 : decode cX6_kindBy 46 = .ok (.iconst 5, 1) := by decide +kernel
theorem dX6_kindBy_47 : decode cX6_kindBy 47 = .ok (.goto 4, 3) := by decide +kernel
theorem dX6_kindBy_50 : decode cX6_kindBy 50 = .ok (.iconst 0, 1) := by decide +kernel
theorem dX6_kindBy_51 : decode cX6_kindBy 51 = .ok (.ireturn, 1) := by decide +kernel
theorem dX6_reads_0 : decode cX6_reads 0 = .ok (.aload_n 0, 1) := by decide +kernel
theorem dX6_reads_1 : decode cX6_reads 1 = .ok (.iconst 0, 1) := by decide +kernel
theorem dX6_reads_2 : decode cX6_reads 2 = .ok (.putfield 86, 3) := by decide +kernel
theorem dX6_reads_5 : decode cX6_reads 5 = .ok (.aload_n 0, 1) := by decide +kernel
theorem dX6_reads_6 : decode cX6_reads 6 = .ok (.bipush 109, 2) := by decide +kernel
theorem dX6_reads_8 : decode cX6_reads 8 = .ok (.invokevirtual 98, 3) := by decide +kernel
theorem dX6_reads_11 : decode cX6_reads 11 = .ok (.ifCond .eq 43, 3) := by decide +kernel
theorem dX6_reads_14 : decode cX6_reads 14 = .ok (.aload_n 0, 1) := by decide +kernel
theorem dX6_reads_15 : decode cX6_reads 15 = .ok (.bipush 16, 2) := by decide +kernel
theorem dX6_reads_17 : decode cX6_reads 17 = .ok (.iconst 4, 1) := by decide +kernel
theorem dX6_reads_18 : decode cX6_reads 18 = .ok (.bipush 12, 2) := by decide +kernel
theorem dX6_reads_20 : decode cX6_reads 20 = .ok (.invokevirtual 101, 3) := by decide +kernel
theorem dX6_reads_23 : decode cX6_reads 23 = .ok (.ifCond .eq 31, 3) := by decide +kernel
theorem dX6_reads_26 : decode cX6_reads 26 = .ok (.aload_n 0, 1) := by decide +kernel
theorem dX6_reads_27 : decode cX6_reads 27 = .ok (.bipush 44, 2) := by decide +kernel
theorem dX6_reads_29 : decode cX6_reads 29 = .ok (.invokevirtual 98, 3) := by decide +kernel
theorem dX6_reads_32 : decode cX6_reads 32 = .ok (.ifCond .eq 22, 3) := by decide +kernel
theorem dX6_reads_35 : decode cX6_reads 35 = .ok (.aload_n 0, 1) := by decide +kernel
theorem dX6_reads_36 : decode cX6_reads 36 = .ok (.iconst 1, 1) := by decide +kernel
theorem dX6_reads_37 : decode cX6_reads 37 = .ok (.iconst 0, 1) := by decide +kernel
theorem dX6_reads_38 : decode cX6_reads 38 = .ok (.iconst 2, 1) := by decide +kernel
theorem dX6_reads_39 : decode cX6_reads 39 = .ok (.invokevirtual 101, 3) := by decide +kernel
theorem dX6_reads_42 : decode cX6_reads 42 = .ok (.ifCond .eq 12, 3) := by decide +kernel
theorem dX6_reads_45 : decode cX6_reads 45 = .ok (.aload_n 0, 1) := by decide +kernel
theorem dX6_reads_46 : decode cX6_reads 46 = .ok (.bipush 59, 2) := by decide +kernel
theorem dX6_reads_48 : decode cX6_reads 48 = .ok (.invokevirtual 98, 3) := by decide +kernel
theorem dX6_reads_51 : decode cX6_reads 51 = .ok (.ifCond .ne 5, 3) := by decide +kernel
theorem dX6_reads_54 : decode cX6_reads 54 = .ok (.iconst 0, 1) := by decide +kernel
theorem dX6_reads_55 : decode cX6_reads 55 = .ok (.ireturn, 1) := by decide +kernel
theorem dX6_reads_56 : decode cX6_reads 56 = .ok (.aload_n 0, 1) := by decide +kernel
theorem dX6_reads_57 : decode cX6_reads 57 = .ok (.getfield 86, 3) := by decide +kernel
theorem dX6_reads_60 : decode cX6_reads 60 = .ok (.aload_n 0, 1) := by decide +kernel
theorem dX6_reads_61 : decode cX6_reads 61 = .ok (.getfield 79, 3) := by decide +kernel
theorem dX6_reads_64 : decode cX6_reads 64 = .ok (.if_icmp .lt 13, 3) := by decide +kernel
theorem dX6_reads_67 : decode cX6_reads 67 = .ok (.aload_n 0, 1) := by decide +kernel
theorem dX6_reads_68 : decode cX6_reads 68 = .ok (.getfield 28, 3) := by decide +kernel
theorem dX6_reads_71 : decode cX6_reads 71 = .ok (.bipush 17, 2) := by decide +kernel
theorem dX6_reads_73 : decode cX6_reads 73 = .ok (.iaload, 1) := by decide +kernel
theorem dX6_reads_74 : decode cX6_reads 74 = .ok (.ifCond .ne 112, 3) := by decide +kernel
theorem dX6_reads_77 : decode cX6_reads 77 = .ok (.aload_n 0, 1) := by decide +kernel
theorem dX6_reads_78 : decode cX6_reads 78 = .ok (.aload_n 0, 1) := by decide +kernel
theorem dX6_reads_79 : decode cX6_reads 79 = .ok (.getfield 86, 3) := by decide +kernel
theorem dX6_reads_82 : decode cX6_reads 82 = .ok (.invokevirtual 89, 3) := by decide +kernel
theorem dX6_reads_85 : decode cX6_reads 85 = .ok (.invokestatic 104, 3) := by decide +kernel
theorem dX6_reads_88 : decode cX6_reads 88 = .ok (.istore_n 1, 1) := by decide +kernel
theorem dX6_reads_89 : decode cX6_reads 89 = .ok (.iload_n 1, 1) := by decide +kernel
theorem dX6_reads_90 : decode cX6_reads 90 = .ok (.ifCond .ne 9, 3) := by decide +kernel
theorem dX6_reads_93 : decode cX6_reads 93 = .ok (.aload_n 0, 1) := by decide +kernel
theorem dX6_reads_94 : decode cX6_reads 94 = .ok (.iconst 1, 1) := by decide +kernel
theorem dX6_reads_95 : decode cX6_reads 95 = .ok (.invokevirtual 92, 3) := by decide +kernel
theorem dX6_reads_98 : decode cX6_reads 98 = .ok (.ireturn, 1) := by decide +kernel
theorem dX6_reads_99 : decode cX6_reads 99 = .ok (.aload_n 0, 1) := by decide +kernel
theorem dX6_reads_100 : decode cX6_reads 100 = .ok (.getfield 28, 3) := by decide +kernel
theorem dX6_reads_103 : decode cX6_reads 103 = .ok (.bipush 17, 2) := by decide +kernel
theorem dX6_reads_105 : decode cX6_reads 105 = .ok (.iaload, 1) := by decide +kernel
theorem dX6_reads_106 : decode cX6_reads 106 = .ok (.istore_n 2, 1) := by decide +kernel
theorem dX6_reads_107 : decode cX6_reads 107 = .ok (.iload_n 2, 1) := by decide +kernel
theorem dX6_reads_108 : decode cX6_reads 108 = .ok (.bipush 7, 2) := by decide +kernel
theorem dX6_reads_110 : decode cX6_reads 110 = .ok (.if_icmp .ne 9, 3) := by decide +kernel
theorem dX6_reads_113 : decode cX6_reads 113 = .ok (.aload_n 0, 1) := by decide +kernel
theorem dX6_reads_114 : decode cX6_reads 114 = .ok (.iconst 3, 1) := by decide +kernel
theorem dX6_reads_115 : decode cX6_reads 115 = .ok (.invokevirtual 92, 3) := by decide +kernel
theorem dX6_reads_118 : decode cX6_reads 118 = .ok (.ireturn, 1) := by decide +kernel
theorem dX6_reads_119 : decode cX6_reads 119 = .ok (.aload_n 0, 1) := by decide +kernel
theorem dX6_reads_120 : decode cX6_reads 120 = .ok (.dup, 1) := by decide +kernel
theorem dX6_reads_121 : decode cX6_reads 121 = .ok (.getfield 86, 3) := by decide +kernel
theorem dX6_reads_124 : decode cX6_reads 124 = .ok (.iconst 1, 1) := by decide +kernel
theorem dX6_reads_125 : decode cX6_reads 125 = .ok (.iadd, 1) := by decide +kernel
theorem dX6_reads_126 : decode cX6_reads 126 = .ok (.putfield 86, 3) := by decide +kernel
theorem dX6_reads_129 : decode cX6_reads 129 = .ok (.aload_n 0, 1) := by decide +kernel
theorem dX6_reads_130 : decode cX6_reads 130 = .ok (.getfield 28, 3) := by decide +kernel
theorem dX6_reads_133 : decode cX6_reads 133 = .ok (.bipush 18, 2) := by decide +kernel
theorem dX6_reads_135 : decode cX6_reads 135 = .ok (.iload_n 2, 1) := by decide +kernel
theorem dX6_reads_136 : decode cX6_reads 136 = .ok (.iadd, 1) := by decide +kernel
theorem dX6_reads_137 : decode cX6_reads 137 = .ok (.iload_n 1, 1) := by decide +kernel
theorem dX6_reads_138 : decode cX6_reads 138 = .ok (.iastore, 1) := by decide +kernel
theorem dX6_reads_139 : decode cX6_reads 139 = .ok (.aload_n 0, 1) := by decide +kernel
theorem dX6_reads_140 : decode cX6_reads 140 = .ok (.getfield 28, 3) := by decide +kernel
theorem dX6_reads_143 : decode cX6_reads 143 = .ok (.iconst 2, 1) := by decide +kernel
theorem dX6_reads_144 : decode cX6_reads 144 = .ok (.iload_n 2, 1) := by decide +kernel
theorem dX6_reads_145 : decode cX6_reads 145 = .ok (.iadd, 1) := by decide +kernel
theorem dX6_reads_146 : decode cX6_reads 146 = .ok (.iconst (-1), 1) := by decide +kernel
theorem dX6_reads_147 : decode cX6_reads 147 = .ok (.iastore, 1) := by decide +kernel
theorem dX6_reads_148 : decode cX6_reads 148 = .ok (.aload_n 0, 1) := by decide +kernel
theorem dX6_reads_149 : decode cX6_reads 149 = .ok (.bipush 9, 2) := by decide +kernel
theorem dX6_reads_151 : decode cX6_reads 151 = .ok (.iload_n 2, 1) := by decide +kernel
theorem dX6_reads_152 : decode cX6_reads 152 = .ok (.iadd, 1) := by decide +kernel
theorem dX6_reads_153 : decode cX6_reads 153 = .ok (.iconst 0, 1) := by decide +kernel
theorem dX6_reads_154 : decode cX6_reads 154 = .ok (.iconst 1, 1) := by decide +kernel
theorem dX6_reads_155 : decode cX6_reads 155 = .ok (.invokevirtual 101, 3) := by decide +kernel
theorem dX6_reads_158 : decode cX6_reads 158 = .ok (.ifCond .eq 12, 3) := by decide +kernel
theorem dX6_reads_161 : decode cX6_reads 161 = .ok (.aload_n 0, 1) := by decide +kernel
theorem dX6_reads_162 : decode cX6_reads 162 = .ok (.bipush 59, 2) := by decide +kernel
theorem dX6_reads_164 : decode cX6_reads 164 = .ok (.invokevirtual 98, 3) := by decide +kernel
theorem dX6_reads_167 : decode cX6_reads 167 = .ok (.ifCond .ne 5, 3) := by decide +kernel
theorem dX6_reads_170 : decode cX6_reads 170 = .ok (.iconst 0, 1) := by decide +kernel
theorem dX6_reads_171 : decode cX6_reads 171 = .ok (.ireturn, 1) := by decide +kernel
theorem dX6_reads_172 : decode cX6_reads 172 = .ok (.aload_n 0, 1) := by decide +kernel
theorem dX6_reads_173 : decode cX6_reads 173 = .ok (.getfield 28, 3) := by decide +kernel
theorem dX6_reads_176 : decode cX6_reads 176 = .ok (.bipush 17, 2) := by decide +kernel
theorem dX6_reads_178 : decode cX6_reads 178 = .ok (.dup2, 1) := by decide +kernel
theorem dX6_reads_179 : decode cX6_reads 179 = .ok (.iaload, 1) := by decide +kernel
theorem dX6_reads_180 : decode cX6_reads 180 = .ok (.iconst 1, 1) := by decide +kernel
theorem dX6_reads_181 : decode cX6_reads 181 = .ok (.iadd, 1) := by decide +kernel
theorem dX6_reads_182 : decode cX6_reads 182 = .ok (.iastore, 1) := by decide +kernel
theorem dX6_reads_183 : decode cX6_reads 183 = .ok (.goto (-127), 3) := by decide +kernel
theorem dX6_reads_186 : decode cX6_reads 186 = .ok (.iconst 1, 1) := by decide +kernel
theorem dX6_reads_187 : decode cX6_reads 187 = .ok (.ireturn, 1) := by decide +kernel
theorem dX6_stair_0 : decode cX6_stair 0 = .ok (.iconst 0, 1) := by decide +kernel
theorem dX6_stair_1 : decode cX6_stair 1 = .ok (.istore_n 1, 1) := by decide +kernel
theorem dX6_stair_2 : decode cX6_stair 2 = .ok (.iload_n 1, 1) := by decide +kernel
theorem dX6_stair_3 : decode cX6_stair 3 = .ok (.bipush 25, 2) := by decide +kernel
theorem dX6_stair_5 : decode cX6_stair 5 = .ok (.if_icmp .ge 16, 3) := by decide +kernel
theorem dX6_stair_8 : decode cX6_stair 8 = .ok (.aload_n 0, 1) := by decide +kernel
theorem dX6_stair_9 : decode cX6_stair 9 = .ok (.getfield 28, 3) := by decide +kernel
theorem dX6_stair_12 : decode cX6_stair 12 = .ok (.iload_n 1, 1) := by decide +kernel
theorem dX6_stair_13 : decode cX6_stair 13 = .ok (.iconst 0, 1) := by decide +kernel
theorem dX6_stair_14 : decode cX6_stair 14 = .ok (.iastore, 1) := by decide +kernel
theorem dX6_stair_15 : decode cX6_stair 15 = .ok (.iinc 1 1, 3) := by decide +kernel
theorem dX6_stair_18 : decode cX6_stair 18 = .ok (.goto (-16), 3) := by decide +kernel
theorem dX6_stair_21 : decode cX6_stair 21 = .ok (.aload_n 0, 1) := by decide +kernel
theorem dX6_stair_22 : decode cX6_stair 22 = .ok (.invokevirtual 107, 3) := by decide +kernel
theorem dX6_stair_25 : decode cX6_stair 25 = .ok (.istore_n 1, 1) := by decide +kernel
theorem dX6_stair_26 : decode cX6_stair 26 = .ok (.aload_n 0, 1) := by decide +kernel
theorem dX6_stair_27 : decode cX6_stair 27 = .ok (.iconst 0, 1) := by decide +kernel
theorem dX6_stair_28 : decode cX6_stair 28 = .ok (.putfield 79, 3) := by decide +kernel
theorem dX6_stair_31 : decode cX6_stair 31 = .ok (.iload_n 1, 1) := by decide +kernel
theorem dX6_stair_32 : decode cX6_stair 32 = .ok (.ifCond .ne 19, 3) := by decide +kernel
theorem dX6_stair_35 : decode cX6_stair 35 = .ok (.aload_n 0, 1) := by decide +kernel
theorem dX6_stair_36 : decode cX6_stair 36 = .ok (.aload_n 0, 1) := by decide +kernel
theorem dX6_stair_37 : decode cX6_stair 37 = .ok (.getfield 83, 3) := by decide +kernel
theorem dX6_stair_40 : decode cX6_stair 40 = .ok (.putfield 111, 3) := by decide +kernel
theorem dX6_stair_43 : decode cX6_stair 43 = .ok (.ldc 114, 2) := by decide +kernel
theorem dX6_stair_45 : decode cX6_stair 45 = .ok (.aload_n 0, 1) := by decide +kernel
theorem dX6_stair_46 : decode cX6_stair 46 = .ok (.getfield 86, 3) := by decide +kernel
theorem dX6_stair_49 : decode cX6_stair 49 = .ok (.isub, 1) := by decide +kernel
theorem dX6_stair_50 : decode cX6_stair 50 = .ok (.ireturn, 1) := by decide +kernel
theorem dX6_stair_51 : decode cX6_stair 51 = .ok (.iconst 0, 1) := by decide +kernel
theorem dX6_stair_52 : decode cX6_stair 52 = .ok (.istore_n 2, 1) := by decide +kernel
theorem dX6_stair_53 : decode cX6_stair 53 = .ok (.iload_n 2, 1) := by decide +kernel
theorem dX6_stair_54 : decode cX6_stair 54 = .ok (.bipush 25, 2) := by decide +kernel
theorem dX6_stair_56 : decode cX6_stair 56 = .ok (.if_icmp .ge 21, 3) := by decide +kernel
theorem dX6_stair_59 : decode cX6_stair 59 = .ok (.aload_n 0, 1) := by decide +kernel
theorem dX6_stair_60 : decode cX6_stair 60 = .ok (.getfield 25, 3) := by decide +kernel
theorem dX6_stair_63 : decode cX6_stair 63 = .ok (.iload_n 2, 1) := by decide +kernel
theorem dX6_stair_64 : decode cX6_stair 64 = .ok (.aload_n 0, 1) := by decide +kernel
theorem dX6_stair_65 : decode cX6_stair 65 = .ok (.getfield 28, 3) := by decide +kernel
theorem dX6_stair_68 : decode cX6_stair 68 = .ok (.iload_n 2, 1) := by decide +kernel
theorem dX6_stair_69 : decode cX6_stair 69 = .ok (.iaload, 1) := by decide +kernel
theorem dX6_stair_70 : decode cX6_stair 70 = .ok (.iastore, 1) := by decide +kernel
theorem dX6_stair_71 : decode cX6_stair 71 = .ok (.iinc 2 1, 3) := by decide +kernel
theorem dX6_stair_74 : decode cX6_stair 74 = .ok (.goto (-21), 3) := by decide +kernel
theorem dX6_stair_77 : decode cX6_stair 77 = .ok (.aload_n 0, 1) := by decide +kernel
theorem dX6_stair_78 : decode cX6_stair 78 = .ok (.iconst 0, 1) := by decide +kernel
theorem dX6_stair_79 : decode cX6_stair 79 = .ok (.putfield 115, 3) := by decide +kernel
theorem dX6_stair_82 : decode cX6_stair 82 = .ok (.aload_n 0, 1) := by decide +kernel
theorem dX6_stair_83 : decode cX6_stair 83 = .ok (.getfield 25, 3) := by decide +kernel
theorem dX6_stair_86 : decode cX6_stair 86 = .ok (.bipush 17, 2) := by decide +kernel
theorem dX6_stair_88 : decode cX6_stair 88 = .ok (.iaload, 1) := by decide +kernel
theorem dX6_stair_89 : decode cX6_stair 89 = .ok (.ireturn, 1) := by decide +kernel
theorem dX6_fault_0 : decode cX6_fault 0 = .ok (.aload_n 0, 1) := by decide +kernel
theorem dX6_fault_1 : decode cX6_fault 1 = .ok (.getfield 111, 3) := by decide +kernel
theorem dX6_fault_4 : decode cX6_fault 4 = .ok (.ireturn, 1) := by decide +kernel
theorem dX6_isStair_0 : decode cX6_isStair 0 = .ok (.aload_n 0, 1) := by decide +kernel
theorem dX6_isStair_1 : decode cX6_isStair 1 = .ok (.getfield 25, 3) := by decide +kernel
theorem dX6_isStair_4 : decode cX6_isStair 4 = .ok (.bipush 17, 2) := by decide +kernel
theorem dX6_isStair_6 : decode cX6_isStair 6 = .ok (.iaload, 1) := by decide +kernel
theorem dX6_isStair_7 : decode cX6_isStair 7 = .ok (.ifCond .le 7, 3) := by decide +kernel
theorem dX6_isStair_10 : decode cX6_isStair 10 = .ok (.iconst 1, 1) := by decide +kernel
theorem dX6_isStair_11 : decode cX6_isStair 11 = .ok (.goto 4, 3) := by decide +kernel
theorem dX6_isStair_14 : decode cX6_isStair 14 = .ok (.iconst 0, 1) := by decide +kernel
theorem dX6_isStair_15 : decode cX6_isStair 15 = .ok (.ireturn, 1) := by decide +kernel
theorem dX6_isRider_0 : decode cX6_isRider 0 = .ok (.iload_n 1, 1) := by decide +kernel
theorem dX6_isRider_1 : decode cX6_isRider 1 = .ok (.iconst 0, 1) := by decide +kernel
theorem dX6_isRider_2 : decode cX6_isRider 2 = .ok (.aload_n 0, 1) := by decide +kernel
theorem dX6_isRider_3 : decode cX6_isRider 3 = .ok (.getfield 25, 3) := by decide +kernel
theorem dX6_isRider_6 : decode cX6_isRider 6 = .ok (.bipush 17, 2) := by decide +kernel
theorem dX6_isRider_8 : decode cX6_isRider 8 = .ok (.iaload, 1) := by decide +kernel
theorem dX6_isRider_9 : decode cX6_isRider 9 = .ok (.iconst 1, 1) := by decide +kernel
theorem dX6_isRider_10 : decode cX6_isRider 10 = .ok (.isub, 1) := by decide +kernel
theorem dX6_isRider_11 : decode cX6_isRider 11 = .ok (.invokestatic 50, 3) := by decide +kernel
theorem dX6_isRider_14 : decode cX6_isRider 14 = .ok (.ireturn, 1) := by decide +kernel
theorem dX6_keeps_0 : decode cX6_keeps 0 = .ok (.aload_n 0, 1) := by decide +kernel
theorem dX6_keeps_1 : decode cX6_keeps 1 = .ok (.getfield 115, 3) := by decide +kernel
theorem dX6_keeps_4 : decode cX6_keeps 4 = .ok (.bipush 24, 2) := by decide +kernel
theorem dX6_keeps_6 : decode cX6_keeps 6 = .ok (.if_icmp .ne 43, 3) := by decide +kernel
theorem dX6_keeps_9 : decode cX6_keeps 9 = .ok (.iconst 0, 1) := by decide +kernel
theorem dX6_keeps_10 : decode cX6_keeps 10 = .ok (.istore_n 1, 1) := by decide +kernel
theorem dX6_keeps_11 : decode cX6_keeps 11 = .ok (.iload_n 1, 1) := by decide +kernel
theorem dX6_keeps_12 : decode cX6_keeps 12 = .ok (.sipush 368, 3) := by decide +kernel
theorem dX6_keeps_15 : decode cX6_keeps 15 = .ok (.if_icmp .ge 24, 3) := by decide +kernel
theorem dX6_keeps_18 : decode cX6_keeps 18 = .ok (.aload_n 0, 1) := by decide +kernel
theorem dX6_keeps_19 : decode cX6_keeps 19 = .ok (.getfield 38, 3) := by decide +kernel
theorem dX6_keeps_22 : decode cX6_keeps 22 = .ok (.iload_n 1, 1) := by decide +kernel
theorem dX6_keeps_23 : decode cX6_keeps 23 = .ok (.aload_n 0, 1) := by decide +kernel
theorem dX6_keeps_24 : decode cX6_keeps 24 = .ok (.getfield 38, 3) := by decide +kernel
theorem dX6_keeps_27 : decode cX6_keeps 27 = .ok (.iload_n 1, 1) := by decide +kernel
theorem dX6_keeps_28 : decode cX6_keeps 28 = .ok (.bipush 16, 2) := by decide +kernel
theorem dX6_keeps_30 : decode cX6_keeps 30 = .ok (.iadd, 1) := by decide +kernel
theorem dX6_keeps_31 : decode cX6_keeps 31 = .ok (.iaload, 1) := by decide +kernel
theorem dX6_keeps_32 : decode cX6_keeps 32 = .ok (.iastore, 1) := by decide +kernel
theorem dX6_keeps_33 : decode cX6_keeps 33 = .ok (.iinc 1 1, 3) := by decide +kernel
theorem dX6_keeps_36 : decode cX6_keeps 36 = .ok (.goto (-25), 3) := by decide +kernel
theorem dX6_keeps_39 : decode cX6_keeps 39 = .ok (.aload_n 0, 1) := by decide +kernel
theorem dX6_keeps_40 : decode cX6_keeps 40 = .ok (.dup, 1) := by decide +kernel
theorem dX6_keeps_41 : decode cX6_keeps 41 = .ok (.getfield 115, 3) := by decide +kernel
theorem dX6_keeps_44 : decode cX6_keeps 44 = .ok (.iconst 1, 1) := by decide +kernel
theorem dX6_keeps_45 : decode cX6_keeps 45 = .ok (.isub, 1) := by decide +kernel
theorem dX6_keeps_46 : decode cX6_keeps 46 = .ok (.putfield 115, 3) := by decide +kernel
theorem dX6_keeps_49 : decode cX6_keeps 49 = .ok (.iconst 0, 1) := by decide +kernel
theorem dX6_keeps_50 : decode cX6_keeps 50 = .ok (.istore_n 1, 1) := by decide +kernel
theorem dX6_keeps_51 : decode cX6_keeps 51 = .ok (.iload_n 1, 1) := by decide +kernel
theorem dX6_keeps_52 : decode cX6_keeps 52 = .ok (.bipush 16, 2) := by decide +kernel
theorem dX6_keeps_54 : decode cX6_keeps 54 = .ok (.if_icmp .ge 29, 3) := by decide +kernel
theorem dX6_keeps_57 : decode cX6_keeps 57 = .ok (.aload_n 0, 1) := by decide +kernel
theorem dX6_keeps_58 : decode cX6_keeps 58 = .ok (.getfield 38, 3) := by decide +kernel
theorem dX6_keeps_61 : decode cX6_keeps 61 = .ok (.bipush 16, 2) := by decide +kernel
theorem dX6_keeps_63 : decode cX6_keeps 63 = .ok (.aload_n 0, 1) := by decide +kernel
theorem dX6_keeps_64 : decode cX6_keeps 64 = .ok (.getfield 115, 3) := by decide +kernel
theorem dX6_keeps_67 : decode cX6_keeps 67 = .ok (.imul, 1) := by decide +kernel
theorem dX6_keeps_68 : decode cX6_keeps 68 = .ok (.iload_n 1, 1) := by decide +kernel
theorem dX6_keeps_69 : decode cX6_keeps 69 = .ok (.iadd, 1) := by decide +kernel
theorem dX6_keeps_70 : decode cX6_keeps 70 = .ok (.aload_n 0, 1) := by decide +kernel
theorem dX6_keeps_71 : decode cX6_keeps 71 = .ok (.getfield 25, 3) := by decide +kernel
theorem dX6_keeps_74 : decode cX6_keeps 74 = .ok (.iload_n 1, 1) := by decide +kernel
theorem dX6_keeps_75 : decode cX6_keeps 75 = .ok (.iaload, 1) := by decide +kernel
theorem dX6_keeps_76 : decode cX6_keeps 76 = .ok (.iastore, 1) := by decide +kernel
theorem dX6_keeps_77 : decode cX6_keeps 77 = .ok (.iinc 1 1, 3) := by decide +kernel
theorem dX6_keeps_80 : decode cX6_keeps 80 = .ok (.goto (-29), 3) := by decide +kernel
theorem dX6_keeps_83 : decode cX6_keeps 83 = .ok (.aload_n 0, 1) := by decide +kernel
theorem dX6_keeps_84 : decode cX6_keeps 84 = .ok (.dup, 1) := by decide +kernel
theorem dX6_keeps_85 : decode cX6_keeps 85 = .ok (.getfield 115, 3) := by decide +kernel
theorem dX6_keeps_88 : decode cX6_keeps 88 = .ok (.iconst 1, 1) := by decide +kernel
theorem dX6_keeps_89 : decode cX6_keeps 89 = .ok (.iadd, 1) := by decide +kernel
theorem dX6_keeps_90 : decode cX6_keeps 90 = .ok (.putfield 115, 3) := by decide +kernel
theorem dX6_keeps_93 : decode cX6_keeps 93 = .ok (.return_, 1) := by decide +kernel
theorem dX6_isOn_0 : decode cX6_isOn 0 = .ok (.iload_n 0, 1) := by decide +kernel
theorem dX6_isOn_1 : decode cX6_isOn 1 = .ok (.iconst (-1), 1) := by decide +kernel
theorem dX6_isOn_2 : decode cX6_isOn 2 = .ok (.if_icmp .eq 13, 3) := by decide +kernel
theorem dX6_isOn_5 : decode cX6_isOn 5 = .ok (.iload_n 0, 1) := by decide +kernel
theorem dX6_isOn_6 : decode cX6_isOn 6 = .ok (.bipush 99, 2) := by decide +kernel
theorem dX6_isOn_8 : decode cX6_isOn 8 = .ok (.if_icmp .eq 7, 3) := by decide +kernel
theorem dX6_isOn_11 : decode cX6_isOn 11 = .ok (.iconst 1, 1) := by decide +kernel
theorem dX6_isOn_12 : decode cX6_isOn 12 = .ok (.goto 4, 3) := by decide +kernel
theorem dX6_isOn_15 : decode cX6_isOn 15 = .ok (.iconst 0, 1) := by decide +kernel
theorem dX6_isOn_16 : decode cX6_isOn 16 = .ok (.ireturn, 1) := by decide +kernel
theorem dX6_isFree_0 : decode cX6_isFree 0 = .ok (.iconst 1, 1) := by decide +kernel
theorem dX6_isFree_1 : decode cX6_isFree 1 = .ok (.istore 4, 2) := by decide +kernel
theorem dX6_isFree_3 : decode cX6_isFree 3 = .ok (.iconst 0, 1) := by decide +kernel
theorem dX6_isFree_4 : decode cX6_isFree 4 = .ok (.istore 5, 2) := by decide +kernel
theorem dX6_isFree_6 : decode cX6_isFree 6 = .ok (.iload 5, 2) := by decide +kernel
theorem dX6_isFree_8 : decode cX6_isFree 8 = .ok (.aload_n 0, 1) := by decide +kernel
theorem dX6_isFree_9 : decode cX6_isFree 9 = .ok (.bipush 17, 2) := by decide +kernel
theorem dX6_isFree_11 : decode cX6_isFree 11 = .ok (.iaload, 1) := by decide +kernel
theorem dX6_isFree_12 : decode cX6_isFree 12 = .ok (.if_icmp .ge 81, 3) := by decide +kernel
theorem dX6_isFree_15 : decode cX6_isFree 15 = .ok (.aload_n 0, 1) := by decide +kernel
theorem dX6_isFree_16 : decode cX6_isFree 16 = .ok (.bipush 18, 2) := by decide +kernel
theorem dX6_isFree_18 : decode cX6_isFree 18 = .ok (.iload_n 1, 1) := by decide +kernel
theorem dX6_isFree_19 : decode cX6_isFree 19 = .ok (.iadd, 1) := by decide +kernel
theorem dX6_isFree_20 : decode cX6_isFree 20 = .ok (.iaload, 1) := by decide +kernel
theorem dX6_isFree_21 : decode cX6_isFree 21 = .ok (.iconst 4, 1) := by decide +kernel
theorem dX6_isFree_22 : decode cX6_isFree 22 = .ok (.if_icmp .ge 25, 3) := by decide +kernel
theorem dX6_isFree_25 : decode cX6_isFree 25 = .ok (.aload_n 0, 1) := by decide +kernel
theorem dX6_isFree_26 : decode cX6_isFree 26 = .ok (.bipush 18, 2) := by decide +kernel
theorem dX6_isFree_28 : decode cX6_isFree 28 = .ok (.iload 5, 2) := by decide +kernel
theorem dX6_isFree_30 : decode cX6_isFree 30 = .ok (.iadd, 1) := by decide +kernel
theorem dX6_isFree_31 : decode cX6_isFree 31 = .ok (.iaload, 1) := by decide +kernel
theorem dX6_isFree_32 : decode cX6_isFree 32 = .ok (.iconst 4, 1) := by decide +kernel
theorem dX6_isFree_33 : decode cX6_isFree 33 = .ok (.if_icmp .ge 14, 3) := by decide +kernel
theorem dX6_isFree_36 : decode cX6_isFree 36 = .ok (.aload_n 0, 1) := by decide +kernel
theorem dX6_isFree_37 : decode cX6_isFree 37 = .ok (.bipush 9, 2) := by decide +kernel
theorem dX6_isFree_39 : decode cX6_isFree 39 = .ok (.iload 5, 2) := by decide +kernel
theorem dX6_isFree_41 : decode cX6_isFree 41 = .ok (.iadd, 1) := by decide +kernel
theorem dX6_isFree_42 : decode cX6_isFree 42 = .ok (.iaload, 1) := by decide +kernel
theorem dX6_isFree_43 : decode cX6_isFree 43 = .ok (.iload_n 3, 1) := by decide +kernel
theorem dX6_isFree_44 : decode cX6_isFree 44 = .ok (.if_icmp .ne 7, 3) := by decide +kernel
theorem dX6_isFree_47 : decode cX6_isFree 47 = .ok (.iconst 1, 1) := by decide +kernel
theorem dX6_isFree_48 : decode cX6_isFree 48 = .ok (.goto 4, 3) := by decide +kernel
theorem dX6_isFree_51 : decode cX6_isFree 51 = .ok (.iconst 0, 1) := by decide +kernel
theorem dX6_isFree_52 : decode cX6_isFree 52 = .ok (.istore 6, 2) := by decide +kernel
theorem dX6_isFree_54 : decode cX6_isFree 54 = .ok (.iload 4, 2) := by decide +kernel
theorem dX6_isFree_56 : decode cX6_isFree 56 = .ok (.ifCond .eq 28, 3) := by decide +kernel
theorem dX6_isFree_59 : decode cX6_isFree 59 = .ok (.iload 5, 2) := by decide +kernel
theorem dX6_isFree_61 : decode cX6_isFree 61 = .ok (.iload_n 1, 1) := by decide +kernel
theorem dX6_isFree_62 : decode cX6_isFree 62 = .ok (.if_icmp .eq 18, 3) := by decide +kernel
theorem dX6_isFree_65 : decode cX6_isFree 65 = .ok (.aload_n 0, 1) := by decide +kernel
theorem dX6_isFree_66 : decode cX6_isFree 66 = .ok (.iconst 2, 1) := by decide +kernel
theorem dX6_isFree_67 : decode cX6_isFree 67 = .ok (.iload 5, 2) := by decide +kernel
theorem dX6_isFree_69 : decode cX6_isFree 69 = .ok (.iadd, 1) := by decide +kernel
theorem dX6_isFree_70 : decode cX6_isFree 70 = .ok (.iaload, 1) := by decide +kernel
theorem dX6_isFree_71 : decode cX6_isFree 71 = .ok (.iload_n 2, 1) := by decide +kernel
theorem dX6_isFree_72 : decode cX6_isFree 72 = .ok (.if_icmp .ne 8, 3) := by decide +kernel
theorem dX6_isFree_75 : decode cX6_isFree 75 = .ok (.iload 6, 2) := by decide +kernel
theorem dX6_isFree_77 : decode cX6_isFree 77 = .ok (.ifCond .ne 7, 3) := by decide +kernel
theorem dX6_isFree_80 : decode cX6_isFree 80 = .ok (.iconst 1, 1) := by decide +kernel
theorem dX6_isFree_81 : decode cX6_isFree 81 = .ok (.goto 4, 3) := by decide +kernel
theorem dX6_isFree_84 : decode cX6_isFree 84 = .ok (.iconst 0, 1) := by decide +kernel
theorem dX6_isFree_85 : decode cX6_isFree 85 = .ok (.istore 4, 2) := by decide +kernel
theorem dX6_isFree_87 : decode cX6_isFree 87 = .ok (.iinc 5 1, 3) := by decide +kernel
theorem dX6_isFree_90 : decode cX6_isFree 90 = .ok (.goto (-84), 3) := by decide +kernel
theorem dX6_isFree_93 : decode cX6_isFree 93 = .ok (.iload 4, 2) := by decide +kernel
theorem dX6_isFree_95 : decode cX6_isFree 95 = .ok (.ireturn, 1) := by decide +kernel
theorem dX6_goes_0 : decode cX6_goes 0 = .ok (.aload_n 0, 1) := by decide +kernel
theorem dX6_goes_1 : decode cX6_goes 1 = .ok (.iconst 2, 1) := by decide +kernel
theorem dX6_goes_2 : decode cX6_goes 2 = .ok (.iload_n 1, 1) := by decide +kernel
theorem dX6_goes_3 : decode cX6_goes 3 = .ok (.iadd, 1) := by decide +kernel
theorem dX6_goes_4 : decode cX6_goes 4 = .ok (.iaload, 1) := by decide +kernel
theorem dX6_goes_5 : decode cX6_goes 5 = .ok (.iload_n 2, 1) := by decide +kernel
theorem dX6_goes_6 : decode cX6_goes 6 = .ok (.iadd, 1) := by decide +kernel
theorem dX6_goes_7 : decode cX6_goes 7 = .ok (.istore_n 3, 1) := by decide +kernel
theorem dX6_goes_8 : decode cX6_goes 8 = .ok (.iload_n 3, 1) := by decide +kernel
theorem dX6_goes_9 : decode cX6_goes 9 = .ok (.iconst 0, 1) := by decide +kernel
theorem dX6_goes_10 : decode cX6_goes 10 = .ok (.aload_n 0, 1) := by decide +kernel
theorem dX6_goes_11 : decode cX6_goes 11 = .ok (.bipush 16, 2) := by decide +kernel
theorem dX6_goes_13 : decode cX6_goes 13 = .ok (.iaload, 1) := by decide +kernel
theorem dX6_goes_14 : decode cX6_goes 14 = .ok (.iconst 1, 1) := by decide +kernel
theorem dX6_goes_15 : decode cX6_goes 15 = .ok (.isub, 1) := by decide +kernel
theorem dX6_goes_16 : decode cX6_goes 16 = .ok (.invokestatic 50, 3) := by decide +kernel
theorem dX6_goes_19 : decode cX6_goes 19 = .ok (.ifCond .eq 22, 3) := by decide +kernel
theorem dX6_goes_22 : decode cX6_goes 22 = .ok (.aload_n 0, 1) := by decide +kernel
theorem dX6_goes_23 : decode cX6_goes 23 = .ok (.iload_n 1, 1) := by decide +kernel
theorem dX6_goes_24 : decode cX6_goes 24 = .ok (.iload_n 3, 1) := by decide +kernel
theorem dX6_goes_25 : decode cX6_goes 25 = .ok (.aload_n 0, 1) := by decide +kernel
theorem dX6_goes_26 : decode cX6_goes 26 = .ok (.bipush 9, 2) := by decide +kernel
theorem dX6_goes_28 : decode cX6_goes 28 = .ok (.iload_n 1, 1) := by decide +kernel
theorem dX6_goes_29 : decode cX6_goes 29 = .ok (.iadd, 1) := by decide +kernel
theorem dX6_goes_30 : decode cX6_goes 30 = .ok (.iaload, 1) := by decide +kernel
theorem dX6_goes_31 : decode cX6_goes 31 = .ok (.invokestatic 118, 3) := by decide +kernel
theorem dX6_goes_34 : decode cX6_goes 34 = .ok (.ifCond .eq 7, 3) := by decide +kernel
theorem dX6_goes_37 : decode cX6_goes 37 = .ok (.iconst 1, 1) := by decide +kernel
theorem dX6_goes_38 : decode cX6_goes 38 = .ok (.goto 4, 3) := by decide +kernel
theorem dX6_goes_41 : decode cX6_goes 41 = .ok (.iconst 0, 1) := by decide +kernel
theorem dX6_goes_42 : decode cX6_goes 42 = .ok (.istore 4, 2) := by decide +kernel
theorem dX6_goes_44 : decode cX6_goes 44 = .ok (.aload_n 0, 1) := by decide +kernel
theorem dX6_goes_45 : decode cX6_goes 45 = .ok (.iconst 2, 1) := by decide +kernel
theorem dX6_goes_46 : decode cX6_goes 46 = .ok (.iload_n 1, 1) := by decide +kernel
theorem dX6_goes_47 : decode cX6_goes 47 = .ok (.iadd, 1) := by decide +kernel
theorem dX6_goes_48 : decode cX6_goes 48 = .ok (.dup2, 1) := by decide +kernel
theorem dX6_goes_49 : decode cX6_goes 49 = .ok (.iaload, 1) := by decide +kernel
theorem dX6_goes_50 : decode cX6_goes 50 = .ok (.iload 4, 2) := by decide +kernel
theorem dX6_goes_52 : decode cX6_goes 52 = .ok (.ifCond .eq 7, 3) := by decide +kernel
theorem dX6_goes_55 : decode cX6_goes 55 = .ok (.iload_n 2, 1) := by decide +kernel
theorem dX6_goes_56 : decode cX6_goes 56 = .ok (.goto 4, 3) := by decide +kernel
theorem dX6_goes_59 : decode cX6_goes 59 = .ok (.iconst 0, 1) := by decide +kernel
theorem dX6_goes_60 : decode cX6_goes 60 = .ok (.iadd, 1) := by decide +kernel
theorem dX6_goes_61 : decode cX6_goes 61 = .ok (.iastore, 1) := by decide +kernel
theorem dX6_goes_62 : decode cX6_goes 62 = .ok (.iload 4, 2) := by decide +kernel
theorem dX6_goes_64 : decode cX6_goes 64 = .ok (.ireturn, 1) := by decide +kernel
theorem dX6_moves_0 : decode cX6_moves 0 = .ok (.aload_n 0, 1) := by decide +kernel
theorem dX6_moves_1 : decode cX6_moves 1 = .ok (.bipush 18, 2) := by decide +kernel
theorem dX6_moves_3 : decode cX6_moves 3 = .ok (.iload_n 1, 1) := by decide +kernel
theorem dX6_moves_4 : decode cX6_moves 4 = .ok (.iadd, 1) := by decide +kernel
theorem dX6_moves_5 : decode cX6_moves 5 = .ok (.iaload, 1) := by decide +kernel
theorem dX6_moves_6 : decode cX6_moves 6 = .ok (.istore_n 2, 1) := by decide +kernel
theorem dX6_moves_7 : decode cX6_moves 7 = .ok (.iload_n 2, 1) := by decide +kernel
theorem dX6_moves_8 : decode cX6_moves 8 = .ok (.iconst 2, 1) := by decide +kernel
theorem dX6_moves_9 : decode cX6_moves 9 = .ok (.if_icmp .eq 8, 3) := by decide +kernel
theorem dX6_moves_12 : decode cX6_moves 12 = .ok (.iload_n 2, 1) := by decide +kernel
theorem dX6_moves_13 : decode cX6_moves 13 = .ok (.iconst 3, 1) := by decide +kernel
theorem dX6_moves_14 : decode cX6_moves 14 = .ok (.if_icmp .ne 12, 3) := by decide +kernel
theorem dX6_moves_17 : decode cX6_moves 17 = .ok (.aload_n 0, 1) := by decide +kernel
theorem dX6_moves_18 : decode cX6_moves 18 = .ok (.iload_n 1, 1) := by decide +kernel
theorem dX6_moves_19 : decode cX6_moves 19 = .ok (.iconst 1, 1) := by decide +kernel
theorem dX6_moves_20 : decode cX6_moves 20 = .ok (.invokestatic 122, 3) := by decide +kernel
theorem dX6_moves_23 : decode cX6_moves 23 = .ok (.goto 31, 3) := by decide +kernel
theorem dX6_moves_26 : decode cX6_moves 26 = .ok (.iload_n 2, 1) := by decide +kernel
theorem dX6_moves_27 : decode cX6_moves 27 = .ok (.iconst 5, 1) := by decide +kernel
theorem dX6_moves_28 : decode cX6_moves 28 = .ok (.if_icmp .ne 25, 3) := by decide +kernel
theorem dX6_moves_31 : decode cX6_moves 31 = .ok (.aload_n 0, 1) := by decide +kernel
theorem dX6_moves_32 : decode cX6_moves 32 = .ok (.iconst 0, 1) := by decide +kernel
theorem dX6_moves_33 : decode cX6_moves 33 = .ok (.iaload, 1) := by decide +kernel
theorem dX6_moves_34 : decode cX6_moves 34 = .ok (.iconst 2, 1) := by decide +kernel
theorem dX6_moves_35 : decode cX6_moves 35 = .ok (.irem, 1) := by decide +kernel
theorem dX6_moves_36 : decode cX6_moves 36 = .ok (.iconst 1, 1) := by decide +kernel
theorem dX6_moves_37 : decode cX6_moves 37 = .ok (.if_icmp .ne 16, 3) := by decide +kernel
theorem dX6_moves_40 : decode cX6_moves 40 = .ok (.aload_n 0, 1) := by decide +kernel
theorem dX6_moves_41 : decode cX6_moves 41 = .ok (.iload_n 1, 1) := by decide +kernel
theorem dX6_moves_42 : decode cX6_moves 42 = .ok (.iconst (-1), 1) := by decide +kernel
theorem dX6_moves_43 : decode cX6_moves 43 = .ok (.invokestatic 122, 3) := by decide +kernel
theorem dX6_moves_46 : decode cX6_moves 46 = .ok (.ifCond .eq 7, 3) := by decide +kernel
theorem dX6_moves_49 : decode cX6_moves 49 = .ok (.iconst 1, 1) := by decide +kernel
theorem dX6_moves_50 : decode cX6_moves 50 = .ok (.goto 4, 3) := by decide +kernel
theorem dX6_moves_53 : decode cX6_moves 53 = .ok (.iconst 0, 1) := by decide +kernel
theorem dX6_moves_54 : decode cX6_moves 54 = .ok (.istore_n 3, 1) := by decide +kernel
theorem dX6_moves_55 : decode cX6_moves 55 = .ok (.iload_n 2, 1) := by decide +kernel
theorem dX6_moves_56 : decode cX6_moves 56 = .ok (.iconst 3, 1) := by decide +kernel
theorem dX6_moves_57 : decode cX6_moves 57 = .ok (.if_icmp .ne 14, 3) := by decide +kernel
theorem dX6_moves_60 : decode cX6_moves 60 = .ok (.iload_n 3, 1) := by decide +kernel
theorem dX6_moves_61 : decode cX6_moves 61 = .ok (.ifCond .eq 10, 3) := by decide +kernel
theorem dX6_moves_64 : decode cX6_moves 64 = .ok (.aload_n 0, 1) := by decide +kernel
theorem dX6_moves_65 : decode cX6_moves 65 = .ok (.iload_n 1, 1) := by decide +kernel
theorem dX6_moves_66 : decode cX6_moves 66 = .ok (.iconst 1, 1) := by decide +kernel
theorem dX6_moves_67 : decode cX6_moves 67 = .ok (.invokestatic 122, 3) := by decide +kernel
theorem dX6_moves_70 : decode cX6_moves 70 = .ok (.pop, 1) := by decide +kernel
theorem dX6_moves_71 : decode cX6_moves 71 = .ok (.return_, 1) := by decide +kernel
theorem dX6_tick_0 : decode cX6_tick 0 = .ok (.iconst 0, 1) := by decide +kernel
theorem dX6_tick_1 : decode cX6_tick 1 = .ok (.istore_n 2, 1) := by decide +kernel
theorem dX6_tick_2 : decode cX6_tick 2 = .ok (.iload_n 2, 1) := by decide +kernel
theorem dX6_tick_3 : decode cX6_tick 3 = .ok (.aload_n 1, 1) := by decide +kernel
theorem dX6_tick_4 : decode cX6_tick 4 = .ok (.bipush 17, 2) := by decide +kernel
theorem dX6_tick_6 : decode cX6_tick 6 = .ok (.iaload, 1) := by decide +kernel
theorem dX6_tick_7 : decode cX6_tick 7 = .ok (.if_icmp .ge 22, 3) := by decide +kernel
theorem dX6_tick_10 : decode cX6_tick 10 = .ok (.aload_n 0, 1) := by decide +kernel
theorem dX6_tick_11 : decode cX6_tick 11 = .ok (.getfield 44, 3) := by decide +kernel
theorem dX6_tick_14 : decode cX6_tick 14 = .ok (.iconst 2, 1) := by decide +kernel
theorem dX6_tick_15 : decode cX6_tick 15 = .ok (.iload_n 2, 1) := by decide +kernel
theorem dX6_tick_16 : decode cX6_tick 16 = .ok (.iadd, 1) := by decide +kernel
theorem dX6_tick_17 : decode cX6_tick 17 = .ok (.aload_n 1, 1) := by decide +kernel
theorem dX6_tick_18 : decode cX6_tick 18 = .ok (.iconst 2, 1) := by decide +kernel
theorem dX6_tick_19 : decode cX6_tick 19 = .ok (.iload_n 2, 1) := by decide +kernel
theorem dX6_tick_20 : decode cX6_tick 20 = .ok (.iadd, 1) := by decide +kernel
theorem dX6_tick_21 : decode cX6_tick 21 = .ok (.iaload, 1) := by decide +kernel
theorem dX6_tick_22 : decode cX6_tick 22 = .ok (.iastore, 1) := by decide +kernel
theorem dX6_tick_23 : decode cX6_tick 23 = .ok (.iinc 2 1, 3) := by decide +kernel
theorem dX6_tick_26 : decode cX6_tick 26 = .ok (.goto (-24), 3) := by decide +kernel
theorem dX6_tick_29 : decode cX6_tick 29 = .ok (.aload_n 1, 1) := by decide +kernel
theorem dX6_tick_30 : decode cX6_tick 30 = .ok (.bipush 16, 2) := by decide +kernel
theorem dX6_tick_32 : decode cX6_tick 32 = .ok (.iaload, 1) := by decide +kernel
theorem dX6_tick_33 : decode cX6_tick 33 = .ok (.iconst 1, 1) := by decide +kernel
theorem dX6_tick_34 : decode cX6_tick 34 = .ok (.isub, 1) := by decide +kernel
theorem dX6_tick_35 : decode cX6_tick 35 = .ok (.istore_n 2, 1) := by decide +kernel
theorem dX6_tick_36 : decode cX6_tick 36 = .ok (.iload_n 2, 1) := by decide +kernel
theorem dX6_tick_37 : decode cX6_tick 37 = .ok (.ifCond .lt 70, 3) := by decide +kernel
theorem dX6_tick_40 : decode cX6_tick 40 = .ok (.iconst 0, 1) := by decide +kernel
theorem dX6_tick_41 : decode cX6_tick 41 = .ok (.istore_n 3, 1) := by decide +kernel
theorem dX6_tick_42 : decode cX6_tick 42 = .ok (.iload_n 3, 1) := by decide +kernel
theorem dX6_tick_43 : decode cX6_tick 43 = .ok (.iconst 2, 1) := by decide +kernel
theorem dX6_tick_44 : decode cX6_tick 44 = .ok (.if_icmp .ge 57, 3) := by decide +kernel
theorem dX6_tick_47 : decode cX6_tick 47 = .ok (.iconst 0, 1) := by decide +kernel
theorem dX6_tick_48 : decode cX6_tick 48 = .ok (.istore 4, 2) := by decide +kernel
theorem dX6_tick_50 : decode cX6_tick 50 = .ok (.iload 4, 2) := by decide +kernel
theorem dX6_tick_52 : decode cX6_tick 52 = .ok (.aload_n 1, 1) := by decide +kernel
theorem dX6_tick_53 : decode cX6_tick 53 = .ok (.bipush 17, 2) := by decide +kernel
theorem dX6_tick_55 : decode cX6_tick 55 = .ok (.iaload, 1) := by decide +kernel
theorem dX6_tick_56 : decode cX6_tick 56 = .ok (.if_icmp .ge 39, 3) := by decide +kernel
theorem dX6_tick_59 : decode cX6_tick 59 = .ok (.aload_n 0, 1) := by decide +kernel
theorem dX6_tick_60 : decode cX6_tick 60 = .ok (.getfield 44, 3) := by decide +kernel
theorem dX6_tick_63 : decode cX6_tick 63 = .ok (.iconst 2, 1) := by decide +kernel
theorem dX6_tick_64 : decode cX6_tick 64 = .ok (.iload 4, 2) := by decide +kernel
theorem dX6_tick_66 : decode cX6_tick 66 = .ok (.iadd, 1) := by decide +kernel
theorem dX6_tick_67 : decode cX6_tick 67 = .ok (.iaload, 1) := by decide +kernel
theorem dX6_tick_68 : decode cX6_tick 68 = .ok (.iload_n 2, 1) := by decide +kernel
theorem dX6_tick_69 : decode cX6_tick 69 = .ok (.if_icmp .ne 20, 3) := by decide +kernel
theorem dX6_tick_72 : decode cX6_tick 72 = .ok (.aload_n 1, 1) := by decide +kernel
theorem dX6_tick_73 : decode cX6_tick 73 = .ok (.bipush 9, 2) := by decide +kernel
theorem dX6_tick_75 : decode cX6_tick 75 = .ok (.iload 4, 2) := by decide +kernel
theorem dX6_tick_77 : decode cX6_tick 77 = .ok (.iadd, 1) := by decide +kernel
theorem dX6_tick_78 : decode cX6_tick 78 = .ok (.iaload, 1) := by decide +kernel
theorem dX6_tick_79 : decode cX6_tick 79 = .ok (.iload_n 3, 1) := by decide +kernel
theorem dX6_tick_80 : decode cX6_tick 80 = .ok (.if_icmp .ne 9, 3) := by decide +kernel
theorem dX6_tick_83 : decode cX6_tick 83 = .ok (.aload_n 1, 1) := by decide +kernel
theorem dX6_tick_84 : decode cX6_tick 84 = .ok (.iload 4, 2) := by decide +kernel
theorem dX6_tick_86 : decode cX6_tick 86 = .ok (.invokestatic 126, 3) := by decide +kernel
theorem dX6_tick_89 : decode cX6_tick 89 = .ok (.iinc 4 1, 3) := by decide +kernel
theorem dX6_tick_92 : decode cX6_tick 92 = .ok (.goto (-42), 3) := by decide +kernel
theorem dX6_tick_95 : decode cX6_tick 95 = .ok (.iinc 3 1, 3) := by decide +kernel
theorem dX6_tick_98 : decode cX6_tick 98 = .ok (.goto (-56), 3) := by decide +kernel
theorem dX6_tick_101 : decode cX6_tick 101 = .ok (.iinc 2 (-1), 3) := by decide +kernel
theorem dX6_tick_104 : decode cX6_tick 104 = .ok (.goto (-68), 3) := by decide +kernel
theorem dX6_tick_107 : decode cX6_tick 107 = .ok (.iconst 0, 1) := by decide +kernel
theorem dX6_tick_108 : decode cX6_tick 108 = .ok (.istore_n 2, 1) := by decide +kernel
theorem dX6_tick_109 : decode cX6_tick 109 = .ok (.iload_n 2, 1) := by decide +kernel
theorem dX6_tick_110 : decode cX6_tick 110 = .ok (.aload_n 1, 1) := by decide +kernel
theorem dX6_tick_111 : decode cX6_tick 111 = .ok (.bipush 17, 2) := by decide +kernel
theorem dX6_tick_113 : decode cX6_tick 113 = .ok (.iaload, 1) := by decide +kernel
theorem dX6_tick_114 : decode cX6_tick 114 = .ok (.if_icmp .ge 58, 3) := by decide +kernel
theorem dX6_tick_117 : decode cX6_tick 117 = .ok (.aload_n 1, 1) := by decide +kernel
theorem dX6_tick_118 : decode cX6_tick 118 = .ok (.iconst 2, 1) := by decide +kernel
theorem dX6_tick_119 : decode cX6_tick 119 = .ok (.iload_n 2, 1) := by decide +kernel
theorem dX6_tick_120 : decode cX6_tick 120 = .ok (.iadd, 1) := by decide +kernel
theorem dX6_tick_121 : decode cX6_tick 121 = .ok (.iaload, 1) := by decide +kernel
theorem dX6_tick_122 : decode cX6_tick 122 = .ok (.invokestatic 130, 3) := by decide +kernel
theorem dX6_tick_125 : decode cX6_tick 125 = .ok (.ifCond .eq 41, 3) := by decide +kernel
theorem dX6_tick_128 : decode cX6_tick 128 = .ok (.aload_n 1, 1) := by decide +kernel
theorem dX6_tick_129 : decode cX6_tick 129 = .ok (.iconst 2, 1) := by decide +kernel
theorem dX6_tick_130 : decode cX6_tick 130 = .ok (.iload_n 2, 1) := by decide +kernel
theorem dX6_tick_131 : decode cX6_tick 131 = .ok (.iadd, 1) := by decide +kernel
theorem dX6_tick_132 : decode cX6_tick 132 = .ok (.dup2, 1) := by decide +kernel
theorem dX6_tick_133 : decode cX6_tick 133 = .ok (.iaload, 1) := by decide +kernel
theorem dX6_tick_134 : decode cX6_tick 134 = .ok (.aload_n 1, 1) := by decide +kernel
theorem dX6_tick_135 : decode cX6_tick 135 = .ok (.iconst 1, 1) := by decide +kernel
theorem dX6_tick_136 : decode cX6_tick 136 = .ok (.iaload, 1) := by decide +kernel
theorem dX6_tick_137 : decode cX6_tick 137 = .ok (.iadd, 1) := by decide +kernel
theorem dX6_tick_138 : decode cX6_tick 138 = .ok (.iastore, 1) := by decide +kernel
theorem dX6_tick_139 : decode cX6_tick 139 = .ok (.aload_n 1, 1) := by decide +kernel
theorem dX6_tick_140 : decode cX6_tick 140 = .ok (.iconst 2, 1) := by decide +kernel
theorem dX6_tick_141 : decode cX6_tick 141 = .ok (.iload_n 2, 1) := by decide +kernel
theorem dX6_tick_142 : decode cX6_tick 142 = .ok (.iadd, 1) := by decide +kernel
theorem dX6_tick_143 : decode cX6_tick 143 = .ok (.aload_n 1, 1) := by decide +kernel
theorem dX6_tick_144 : decode cX6_tick 144 = .ok (.iconst 2, 1) := by decide +kernel
theorem dX6_tick_145 : decode cX6_tick 145 = .ok (.iload_n 2, 1) := by decide +kernel
theorem dX6_tick_146 : decode cX6_tick 146 = .ok (.iadd, 1) := by decide +kernel
theorem dX6_tick_147 : decode cX6_tick 147 = .ok (.iaload, 1) := by decide +kernel
theorem dX6_tick_148 : decode cX6_tick 148 = .ok (.aload_n 1, 1) := by decide +kernel
theorem dX6_tick_149 : decode cX6_tick 149 = .ok (.bipush 16, 2) := by decide +kernel
theorem dX6_tick_151 : decode cX6_tick 151 = .ok (.iaload, 1) := by decide +kernel
theorem dX6_tick_152 : decode cX6_tick 152 = .ok (.if_icmp .lt 8, 3) := by decide +kernel
theorem dX6_tick_155 : decode cX6_tick 155 = .ok (.bipush 99, 2) := by decide +kernel
theorem dX6_tick_157 : decode cX6_tick 157 = .ok (.goto 8, 3) := by decide +kernel
theorem dX6_tick_160 : decode cX6_tick 160 = .ok (.aload_n 1, 1) := by decide +kernel
theorem dX6_tick_161 : decode cX6_tick 161 = .ok (.iconst 2, 1) := by decide +kernel
theorem dX6_tick_162 : decode cX6_tick 162 = .ok (.iload_n 2, 1) := by decide +kernel
theorem dX6_tick_163 : decode cX6_tick 163 = .ok (.iadd, 1) := by decide +kernel
theorem dX6_tick_164 : decode cX6_tick 164 = .ok (.iaload, 1) := by decide +kernel
theorem dX6_tick_165 : decode cX6_tick 165 = .ok (.iastore, 1) := by decide +kernel
theorem dX6_tick_166 : decode cX6_tick 166 = .ok (.iinc 2 1, 3) := by decide +kernel
theorem dX6_tick_169 : decode cX6_tick 169 = .ok (.goto (-60), 3) := by decide +kernel
theorem dX6_tick_172 : decode cX6_tick 172 = .ok (.iconst (-1), 1) := by decide +kernel
theorem dX6_tick_173 : decode cX6_tick 173 = .ok (.istore_n 2, 1) := by decide +kernel
theorem dX6_tick_174 : decode cX6_tick 174 = .ok (.aload_n 1, 1) := by decide +kernel
theorem dX6_tick_175 : decode cX6_tick 175 = .ok (.bipush 17, 2) := by decide +kernel
theorem dX6_tick_177 : decode cX6_tick 177 = .ok (.iaload, 1) := by decide +kernel
theorem dX6_tick_178 : decode cX6_tick 178 = .ok (.iconst 1, 1) := by decide +kernel
theorem dX6_tick_179 : decode cX6_tick 179 = .ok (.isub, 1) := by decide +kernel
theorem dX6_tick_180 : decode cX6_tick 180 = .ok (.istore_n 3, 1) := by decide +kernel
theorem dX6_tick_181 : decode cX6_tick 181 = .ok (.iload_n 3, 1) := by decide +kernel
theorem dX6_tick_182 : decode cX6_tick 182 = .ok (.ifCond .lt 39, 3) := by decide +kernel
theorem dX6_tick_185 : decode cX6_tick 185 = .ok (.aload_n 1, 1) := by decide +kernel
theorem dX6_tick_186 : decode cX6_tick 186 = .ok (.iconst 2, 1) := by decide +kernel
theorem dX6_tick_187 : decode cX6_tick 187 = .ok (.iload_n 3, 1) := by decide +kernel
theorem dX6_tick_188 : decode cX6_tick 188 = .ok (.iadd, 1) := by decide +kernel
theorem dX6_tick_189 : decode cX6_tick 189 = .ok (.iaload, 1) := by decide +kernel
theorem dX6_tick_190 : decode cX6_tick 190 = .ok (.iconst (-1), 1) := by decide +kernel
theorem dX6_tick_191 : decode cX6_tick 191 = .ok (.if_icmp .ne 22, 3) := by decide +kernel
theorem dX6_tick_194 : decode cX6_tick 194 = .ok (.aload_n 1, 1) := by decide +kernel
theorem dX6_tick_195 : decode cX6_tick 195 = .ok (.iload_n 3, 1) := by decide +kernel
theorem dX6_tick_196 : decode cX6_tick 196 = .ok (.iconst 0, 1) := by decide +kernel
theorem dX6_tick_197 : decode cX6_tick 197 = .ok (.aload_n 1, 1) := by decide +kernel
theorem dX6_tick_198 : decode cX6_tick 198 = .ok (.bipush 9, 2) := by decide +kernel
theorem dX6_tick_200 : decode cX6_tick 200 = .ok (.iload_n 3, 1) := by decide +kernel
theorem dX6_tick_201 : decode cX6_tick 201 = .ok (.iadd, 1) := by decide +kernel
theorem dX6_tick_202 : decode cX6_tick 202 = .ok (.iaload, 1) := by decide +kernel
theorem dX6_tick_203 : decode cX6_tick 203 = .ok (.invokestatic 118, 3) := by decide +kernel
theorem dX6_tick_206 : decode cX6_tick 206 = .ok (.ifCond .eq 7, 3) := by decide +kernel
theorem dX6_tick_209 : decode cX6_tick 209 = .ok (.iload_n 3, 1) := by decide +kernel
theorem dX6_tick_210 : decode cX6_tick 210 = .ok (.goto 4, 3) := by decide +kernel
theorem dX6_tick_213 : decode cX6_tick 213 = .ok (.iload_n 2, 1) := by decide +kernel
theorem dX6_tick_214 : decode cX6_tick 214 = .ok (.istore_n 2, 1) := by decide +kernel
theorem dX6_tick_215 : decode cX6_tick 215 = .ok (.iinc 3 (-1), 3) := by decide +kernel
theorem dX6_tick_218 : decode cX6_tick 218 = .ok (.goto (-37), 3) := by decide +kernel
theorem dX6_tick_221 : decode cX6_tick 221 = .ok (.iload_n 2, 1) := by decide +kernel
theorem dX6_tick_222 : decode cX6_tick 222 = .ok (.ifCond .lt 9, 3) := by decide +kernel
theorem dX6_tick_225 : decode cX6_tick 225 = .ok (.aload_n 1, 1) := by decide +kernel
theorem dX6_tick_226 : decode cX6_tick 226 = .ok (.iconst 2, 1) := by decide +kernel
theorem dX6_tick_227 : decode cX6_tick 227 = .ok (.iload_n 2, 1) := by decide +kernel
theorem dX6_tick_228 : decode cX6_tick 228 = .ok (.iadd, 1) := by decide +kernel
theorem dX6_tick_229 : decode cX6_tick 229 = .ok (.iconst 0, 1) := by decide +kernel
theorem dX6_tick_230 : decode cX6_tick 230 = .ok (.iastore, 1) := by decide +kernel
theorem dX6_tick_231 : decode cX6_tick 231 = .ok (.aload_n 1, 1) := by decide +kernel
theorem dX6_tick_232 : decode cX6_tick 232 = .ok (.iconst 0, 1) := by decide +kernel
theorem dX6_tick_233 : decode cX6_tick 233 = .ok (.dup2, 1) := by decide +kernel
theorem dX6_tick_234 : decode cX6_tick 234 = .ok (.iaload, 1) := by decide +kernel
theorem dX6_tick_235 : decode cX6_tick 235 = .ok (.iconst 1, 1) := by decide +kernel
theorem dX6_tick_236 : decode cX6_tick 236 = .ok (.iadd, 1) := by decide +kernel
theorem dX6_tick_237 : decode cX6_tick 237 = .ok (.iastore, 1) := by decide +kernel
theorem dX6_tick_238 : decode cX6_tick 238 = .ok (.return_, 1) := by decide +kernel
theorem dX6_offIn_0 : decode cX6_offIn 0 = .ok (.iconst 0, 1) := by decide +kernel
theorem dX6_offIn_1 : decode cX6_offIn 1 = .ok (.istore_n 1, 1) := by decide +kernel
theorem dX6_offIn_2 : decode cX6_offIn 2 = .ok (.iconst 0, 1) := by decide +kernel
theorem dX6_offIn_3 : decode cX6_offIn 3 = .ok (.istore_n 2, 1) := by decide +kernel
theorem dX6_offIn_4 : decode cX6_offIn 4 = .ok (.iload_n 2, 1) := by decide +kernel
theorem dX6_offIn_5 : decode cX6_offIn 5 = .ok (.aload_n 0, 1) := by decide +kernel
theorem dX6_offIn_6 : decode cX6_offIn 6 = .ok (.bipush 17, 2) := by decide +kernel
theorem dX6_offIn_8 : decode cX6_offIn 8 = .ok (.iaload, 1) := by decide +kernel
theorem dX6_offIn_9 : decode cX6_offIn 9 = .ok (.if_icmp .ge 27, 3) := by decide +kernel
theorem dX6_offIn_12 : decode cX6_offIn 12 = .ok (.iload_n 1, 1) := by decide +kernel
theorem dX6_offIn_13 : decode cX6_offIn 13 = .ok (.aload_n 0, 1) := by decide +kernel
theorem dX6_offIn_14 : decode cX6_offIn 14 = .ok (.iconst 2, 1) := by decide +kernel
theorem dX6_offIn_15 : decode cX6_offIn 15 = .ok (.iload_n 2, 1) := by decide +kernel
theorem dX6_offIn_16 : decode cX6_offIn 16 = .ok (.iadd, 1) := by decide +kernel
theorem dX6_offIn_17 : decode cX6_offIn 17 = .ok (.iaload, 1) := by decide +kernel
theorem dX6_offIn_18 : decode cX6_offIn 18 = .ok (.bipush 99, 2) := by decide +kernel
theorem dX6_offIn_20 : decode cX6_offIn 20 = .ok (.if_icmp .ne 7, 3) := by decide +kernel
theorem dX6_offIn_23 : decode cX6_offIn 23 = .ok (.iconst 1, 1) := by decide +kernel
theorem dX6_offIn_24 : decode cX6_offIn 24 = .ok (.goto 4, 3) := by decide +kernel
theorem dX6_offIn_27 : decode cX6_offIn 27 = .ok (.iconst 0, 1) := by decide +kernel
theorem dX6_offIn_28 : decode cX6_offIn 28 = .ok (.iadd, 1) := by decide +kernel
theorem dX6_offIn_29 : decode cX6_offIn 29 = .ok (.istore_n 1, 1) := by decide +kernel
theorem dX6_offIn_30 : decode cX6_offIn 30 = .ok (.iinc 2 1, 3) := by decide +kernel
theorem dX6_offIn_33 : decode cX6_offIn 33 = .ok (.goto (-29), 3) := by decide +kernel
theorem dX6_offIn_36 : decode cX6_offIn 36 = .ok (.iload_n 1, 1) := by decide +kernel
theorem dX6_offIn_37 : decode cX6_offIn 37 = .ok (.ireturn, 1) := by decide +kernel
theorem dX6_ticks_0 : decode cX6_ticks 0 = .ok (.aload_n 0, 1) := by decide +kernel
theorem dX6_ticks_1 : decode cX6_ticks 1 = .ok (.invokevirtual 133, 3) := by decide +kernel
theorem dX6_ticks_4 : decode cX6_ticks 4 = .ok (.ifCond .ne 6, 3) := by decide +kernel
theorem dX6_ticks_7 : decode cX6_ticks 7 = .ok (.ldc 136, 2) := by decide +kernel
theorem dX6_ticks_9 : decode cX6_ticks 9 = .ok (.ireturn, 1) := by decide +kernel
theorem dX6_ticks_10 : decode cX6_ticks 10 = .ok (.iload_n 1, 1) := by decide +kernel
theorem dX6_ticks_11 : decode cX6_ticks 11 = .ok (.iconst 1, 1) := by decide +kernel
theorem dX6_ticks_12 : decode cX6_ticks 12 = .ok (.bipush 24, 2) := by decide +kernel
theorem dX6_ticks_14 : decode cX6_ticks 14 = .ok (.invokestatic 50, 3) := by decide +kernel
theorem dX6_ticks_17 : decode cX6_ticks 17 = .ok (.ifCond .ne 6, 3) := by decide +kernel
theorem dX6_ticks_20 : decode cX6_ticks 20 = .ok (.ldc 65, 2) := by decide +kernel
theorem dX6_ticks_22 : decode cX6_ticks 22 = .ok (.ireturn, 1) := by decide +kernel
theorem dX6_ticks_23 : decode cX6_ticks 23 = .ok (.aload_n 0, 1) := by decide +kernel
theorem dX6_ticks_24 : decode cX6_ticks 24 = .ok (.getfield 25, 3) := by decide +kernel
theorem dX6_ticks_27 : decode cX6_ticks 27 = .ok (.iconst 0, 1) := by decide +kernel
theorem dX6_ticks_28 : decode cX6_ticks 28 = .ok (.iaload, 1) := by decide +kernel
theorem dX6_ticks_29 : decode cX6_ticks 29 = .ok (.iload_n 1, 1) := by decide +kernel
theorem dX6_ticks_30 : decode cX6_ticks 30 = .ok (.iadd, 1) := by decide +kernel
theorem dX6_ticks_31 : decode cX6_ticks 31 = .ok (.sipush 9999, 3) := by decide +kernel
theorem dX6_ticks_34 : decode cX6_ticks 34 = .ok (.if_icmp .le 6, 3) := by decide +kernel
theorem dX6_ticks_37 : decode cX6_ticks 37 = .ok (.ldc 82, 2) := by decide +kernel
theorem dX6_ticks_39 : decode cX6_ticks 39 = .ok (.ireturn, 1) := by decide +kernel
theorem dX6_ticks_40 : decode cX6_ticks 40 = .ok (.iconst 0, 1) := by decide +kernel
theorem dX6_ticks_41 : decode cX6_ticks 41 = .ok (.istore_n 2, 1) := by decide +kernel
theorem dX6_ticks_42 : decode cX6_ticks 42 = .ok (.iload_n 2, 1) := by decide +kernel
theorem dX6_ticks_43 : decode cX6_ticks 43 = .ok (.iload_n 1, 1) := by decide +kernel
theorem dX6_ticks_44 : decode cX6_ticks 44 = .ok (.if_icmp .ge 21, 3) := by decide +kernel
theorem dX6_ticks_47 : decode cX6_ticks 47 = .ok (.aload_n 0, 1) := by decide +kernel
theorem dX6_ticks_48 : decode cX6_ticks 48 = .ok (.invokevirtual 137, 3) := by decide +kernel
theorem dX6_ticks_51 : decode cX6_ticks 51 = .ok (.aload_n 0, 1) := by decide +kernel
theorem dX6_ticks_52 : decode cX6_ticks 52 = .ok (.aload_n 0, 1) := by decide +kernel
theorem dX6_ticks_53 : decode cX6_ticks 53 = .ok (.getfield 25, 3) := by decide +kernel
theorem dX6_ticks_56 : decode cX6_ticks 56 = .ok (.invokevirtual 140, 3) := by decide +kernel
theorem dX6_ticks_59 : decode cX6_ticks 59 = .ok (.iinc 2 1, 3) := by decide +kernel
theorem dX6_ticks_62 : decode cX6_ticks 62 = .ok (.goto (-20), 3) := by decide +kernel
theorem dX6_ticks_65 : decode cX6_ticks 65 = .ok (.aload_n 0, 1) := by decide +kernel
theorem dX6_ticks_66 : decode cX6_ticks 66 = .ok (.getfield 25, 3) := by decide +kernel
theorem dX6_ticks_69 : decode cX6_ticks 69 = .ok (.invokestatic 144, 3) := by decide +kernel
theorem dX6_ticks_72 : decode cX6_ticks 72 = .ok (.ireturn, 1) := by decide +kernel
theorem dX6_speed_0 : decode cX6_speed 0 = .ok (.aload_n 0, 1) := by decide +kernel
theorem dX6_speed_1 : decode cX6_speed 1 = .ok (.invokevirtual 133, 3) := by decide +kernel
theorem dX6_speed_4 : decode cX6_speed 4 = .ok (.ifCond .ne 6, 3) := by decide +kernel
theorem dX6_speed_7 : decode cX6_speed 7 = .ok (.ldc 136, 2) := by decide +kernel
theorem dX6_speed_9 : decode cX6_speed 9 = .ok (.ireturn, 1) := by decide +kernel
theorem dX6_speed_10 : decode cX6_speed 10 = .ok (.iload_n 1, 1) := by decide +kernel
theorem dX6_speed_11 : decode cX6_speed 11 = .ok (.iconst 0, 1) := by decide +kernel
theorem dX6_speed_12 : decode cX6_speed 12 = .ok (.iconst 2, 1) := by decide +kernel
theorem dX6_speed_13 : decode cX6_speed 13 = .ok (.invokestatic 50, 3) := by decide +kernel
theorem dX6_speed_16 : decode cX6_speed 16 = .ok (.ifCond .ne 6, 3) := by decide +kernel
theorem dX6_speed_19 : decode cX6_speed 19 = .ok (.ldc 65, 2) := by decide +kernel
theorem dX6_speed_21 : decode cX6_speed 21 = .ok (.ireturn, 1) := by decide +kernel
theorem dX6_speed_22 : decode cX6_speed 22 = .ok (.aload_n 0, 1) := by decide +kernel
theorem dX6_speed_23 : decode cX6_speed 23 = .ok (.invokevirtual 137, 3) := by decide +kernel
theorem dX6_speed_26 : decode cX6_speed 26 = .ok (.aload_n 0, 1) := by decide +kernel
theorem dX6_speed_27 : decode cX6_speed 27 = .ok (.getfield 25, 3) := by decide +kernel
theorem dX6_speed_30 : decode cX6_speed 30 = .ok (.iconst 1, 1) := by decide +kernel
theorem dX6_speed_31 : decode cX6_speed 31 = .ok (.iaload, 1) := by decide +kernel
theorem dX6_speed_32 : decode cX6_speed 32 = .ok (.istore_n 2, 1) := by decide +kernel
theorem dX6_speed_33 : decode cX6_speed 33 = .ok (.aload_n 0, 1) := by decide +kernel
theorem dX6_speed_34 : decode cX6_speed 34 = .ok (.getfield 25, 3) := by decide +kernel
theorem dX6_speed_37 : decode cX6_speed 37 = .ok (.iconst 1, 1) := by decide +kernel
theorem dX6_speed_38 : decode cX6_speed 38 = .ok (.iload_n 1, 1) := by decide +kernel
theorem dX6_speed_39 : decode cX6_speed 39 = .ok (.iastore, 1) := by decide +kernel
theorem dX6_speed_40 : decode cX6_speed 40 = .ok (.iload_n 2, 1) := by decide +kernel
theorem dX6_speed_41 : decode cX6_speed 41 = .ok (.ireturn, 1) := by decide +kernel
theorem dX6_cross_0 : decode cX6_cross 0 = .ok (.aload_n 0, 1) := by decide +kernel
theorem dX6_cross_1 : decode cX6_cross 1 = .ok (.iload_n 1, 1) := by decide +kernel
theorem dX6_cross_2 : decode cX6_cross 2 = .ok (.invokevirtual 148, 3) := by decide +kernel
theorem dX6_cross_5 : decode cX6_cross 5 = .ok (.ifCond .ne 6, 3) := by decide +kernel
theorem dX6_cross_8 : decode cX6_cross 8 = .ok (.ldc 65, 2) := by decide +kernel
theorem dX6_cross_10 : decode cX6_cross 10 = .ok (.ireturn, 1) := by decide +kernel
theorem dX6_cross_11 : decode cX6_cross 11 = .ok (.iconst 1, 1) := by decide +kernel
theorem dX6_cross_12 : decode cX6_cross 12 = .ok (.aload_n 0, 1) := by decide +kernel
theorem dX6_cross_13 : decode cX6_cross 13 = .ok (.getfield 25, 3) := by decide +kernel
theorem dX6_cross_16 : decode cX6_cross 16 = .ok (.bipush 9, 2) := by decide +kernel
theorem dX6_cross_18 : decode cX6_cross 18 = .ok (.iload_n 1, 1) := by decide +kernel
theorem dX6_cross_19 : decode cX6_cross 19 = .ok (.iadd, 1) := by decide +kernel
theorem dX6_cross_20 : decode cX6_cross 20 = .ok (.iaload, 1) := by decide +kernel
theorem dX6_cross_21 : decode cX6_cross 21 = .ok (.isub, 1) := by decide +kernel
theorem dX6_cross_22 : decode cX6_cross 22 = .ok (.istore_n 2, 1) := by decide +kernel
theorem dX6_cross_23 : decode cX6_cross 23 = .ok (.aload_n 0, 1) := by decide +kernel
theorem dX6_cross_24 : decode cX6_cross 24 = .ok (.getfield 25, 3) := by decide +kernel
theorem dX6_cross_27 : decode cX6_cross 27 = .ok (.iconst 2, 1) := by decide +kernel
theorem dX6_cross_28 : decode cX6_cross 28 = .ok (.iload_n 1, 1) := by decide +kernel
theorem dX6_cross_29 : decode cX6_cross 29 = .ok (.iadd, 1) := by decide +kernel
theorem dX6_cross_30 : decode cX6_cross 30 = .ok (.iaload, 1) := by decide +kernel
theorem dX6_cross_31 : decode cX6_cross 31 = .ok (.istore_n 3, 1) := by decide +kernel
theorem dX6_cross_32 : decode cX6_cross 32 = .ok (.iload_n 3, 1) := by decide +kernel
theorem dX6_cross_33 : decode cX6_cross 33 = .ok (.bipush 99, 2) := by decide +kernel
theorem dX6_cross_35 : decode cX6_cross 35 = .ok (.if_icmp .eq 36, 3) := by decide +kernel
theorem dX6_cross_38 : decode cX6_cross 38 = .ok (.iload_n 3, 1) := by decide +kernel
theorem dX6_cross_39 : decode cX6_cross 39 = .ok (.invokestatic 130, 3) := by decide +kernel
theorem dX6_cross_42 : decode cX6_cross 42 = .ok (.ifCond .eq 32, 3) := by decide +kernel
theorem dX6_cross_45 : decode cX6_cross 45 = .ok (.aload_n 0, 1) := by decide +kernel
theorem dX6_cross_46 : decode cX6_cross 46 = .ok (.getfield 25, 3) := by decide +kernel
theorem dX6_cross_49 : decode cX6_cross 49 = .ok (.bipush 18, 2) := by decide +kernel
theorem dX6_cross_51 : decode cX6_cross 51 = .ok (.iload_n 1, 1) := by decide +kernel
theorem dX6_cross_52 : decode cX6_cross 52 = .ok (.iadd, 1) := by decide +kernel
theorem dX6_cross_53 : decode cX6_cross 53 = .ok (.iaload, 1) := by decide +kernel
theorem dX6_cross_54 : decode cX6_cross 54 = .ok (.iconst 4, 1) := by decide +kernel
theorem dX6_cross_55 : decode cX6_cross 55 = .ok (.if_icmp .ge 19, 3) := by decide +kernel
theorem dX6_cross_58 : decode cX6_cross 58 = .ok (.aload_n 0, 1) := by decide +kernel
theorem dX6_cross_59 : decode cX6_cross 59 = .ok (.getfield 25, 3) := by decide +kernel
theorem dX6_cross_62 : decode cX6_cross 62 = .ok (.iload_n 1, 1) := by decide +kernel
theorem dX6_cross_63 : decode cX6_cross 63 = .ok (.iload_n 3, 1) := by decide +kernel
theorem dX6_cross_64 : decode cX6_cross 64 = .ok (.iload_n 2, 1) := by decide +kernel
theorem dX6_cross_65 : decode cX6_cross 65 = .ok (.invokestatic 118, 3) := by decide +kernel
theorem dX6_cross_68 : decode cX6_cross 68 = .ok (.ifCond .ne 6, 3) := by decide +kernel
theorem dX6_cross_71 : decode cX6_cross 71 = .ok (.ldc 136, 2) := by decide +kernel
theorem dX6_cross_73 : decode cX6_cross 73 = .ok (.ireturn, 1) := by decide +kernel
theorem dX6_cross_74 : decode cX6_cross 74 = .ok (.aload_n 0, 1) := by decide +kernel
theorem dX6_cross_75 : decode cX6_cross 75 = .ok (.invokevirtual 137, 3) := by decide +kernel
theorem dX6_cross_78 : decode cX6_cross 78 = .ok (.aload_n 0, 1) := by decide +kernel
theorem dX6_cross_79 : decode cX6_cross 79 = .ok (.getfield 25, 3) := by decide +kernel
theorem dX6_cross_82 : decode cX6_cross 82 = .ok (.bipush 9, 2) := by decide +kernel
theorem dX6_cross_84 : decode cX6_cross 84 = .ok (.iload_n 1, 1) := by decide +kernel
theorem dX6_cross_85 : decode cX6_cross 85 = .ok (.iadd, 1) := by decide +kernel
theorem dX6_cross_86 : decode cX6_cross 86 = .ok (.iload_n 2, 1) := by decide +kernel
theorem dX6_cross_87 : decode cX6_cross 87 = .ok (.iastore, 1) := by decide +kernel
theorem dX6_cross_88 : decode cX6_cross 88 = .ok (.iload_n 2, 1) := by decide +kernel
theorem dX6_cross_89 : decode cX6_cross 89 = .ok (.ireturn, 1) := by decide +kernel
theorem dX6_take_0 : decode cX6_take 0 = .ok (.aload_n 0, 1) := by decide +kernel
theorem dX6_take_1 : decode cX6_take 1 = .ok (.iload_n 1, 1) := by decide +kernel
theorem dX6_take_2 : decode cX6_take 2 = .ok (.invokevirtual 148, 3) := by decide +kernel
theorem dX6_take_5 : decode cX6_take 5 = .ok (.ifCond .ne 6, 3) := by decide +kernel
theorem dX6_take_8 : decode cX6_take 8 = .ok (.ldc 65, 2) := by decide +kernel
theorem dX6_take_10 : decode cX6_take 10 = .ok (.ireturn, 1) := by decide +kernel
theorem dX6_take_11 : decode cX6_take 11 = .ok (.aload_n 0, 1) := by decide +kernel
theorem dX6_take_12 : decode cX6_take 12 = .ok (.getfield 25, 3) := by decide +kernel
theorem dX6_take_15 : decode cX6_take 15 = .ok (.iconst 2, 1) := by decide +kernel
theorem dX6_take_16 : decode cX6_take 16 = .ok (.iload_n 1, 1) := by decide +kernel
theorem dX6_take_17 : decode cX6_take 17 = .ok (.iadd, 1) := by decide +kernel
theorem dX6_take_18 : decode cX6_take 18 = .ok (.iaload, 1) := by decide +kernel
theorem dX6_take_19 : decode cX6_take 19 = .ok (.istore_n 2, 1) := by decide +kernel
theorem dX6_take_20 : decode cX6_take 20 = .ok (.iload_n 2, 1) := by decide +kernel
theorem dX6_take_21 : decode cX6_take 21 = .ok (.bipush 99, 2) := by decide +kernel
theorem dX6_take_23 : decode cX6_take 23 = .ok (.if_icmp .ne 6, 3) := by decide +kernel
theorem dX6_take_26 : decode cX6_take 26 = .ok (.ldc 136, 2) := by decide +kernel
theorem dX6_take_28 : decode cX6_take 28 = .ok (.ireturn, 1) := by decide +kernel
theorem dX6_take_29 : decode cX6_take 29 = .ok (.aload_n 0, 1) := by decide +kernel
theorem dX6_take_30 : decode cX6_take 30 = .ok (.invokevirtual 137, 3) := by decide +kernel
theorem dX6_take_33 : decode cX6_take 33 = .ok (.aload_n 0, 1) := by decide +kernel
theorem dX6_take_34 : decode cX6_take 34 = .ok (.getfield 25, 3) := by decide +kernel
theorem dX6_take_37 : decode cX6_take 37 = .ok (.iconst 2, 1) := by decide +kernel
theorem dX6_take_38 : decode cX6_take 38 = .ok (.iload_n 1, 1) := by decide +kernel
theorem dX6_take_39 : decode cX6_take 39 = .ok (.iadd, 1) := by decide +kernel
theorem dX6_take_40 : decode cX6_take 40 = .ok (.bipush 99, 2) := by decide +kernel
theorem dX6_take_42 : decode cX6_take 42 = .ok (.iastore, 1) := by decide +kernel
theorem dX6_take_43 : decode cX6_take 43 = .ok (.iload_n 2, 1) := by decide +kernel
theorem dX6_take_44 : decode cX6_take 44 = .ok (.ireturn, 1) := by decide +kernel
theorem dX6_again_0 : decode cX6_again 0 = .ok (.aload_n 0, 1) := by decide +kernel
theorem dX6_again_1 : decode cX6_again 1 = .ok (.iload_n 1, 1) := by decide +kernel
theorem dX6_again_2 : decode cX6_again 2 = .ok (.invokevirtual 148, 3) := by decide +kernel
theorem dX6_again_5 : decode cX6_again 5 = .ok (.ifCond .eq 12, 3) := by decide +kernel
theorem dX6_again_8 : decode cX6_again 8 = .ok (.iload_n 2, 1) := by decide +kernel
theorem dX6_again_9 : decode cX6_again 9 = .ok (.iconst 0, 1) := by decide +kernel
theorem dX6_again_10 : decode cX6_again 10 = .ok (.iconst 1, 1) := by decide +kernel
theorem dX6_again_11 : decode cX6_again 11 = .ok (.invokestatic 50, 3) := by decide +kernel
theorem dX6_again_14 : decode cX6_again 14 = .ok (.ifCond .ne 6, 3) := by decide +kernel
theorem dX6_again_17 : decode cX6_again 17 = .ok (.ldc 65, 2) := by decide +kernel
theorem dX6_again_19 : decode cX6_again 19 = .ok (.ireturn, 1) := by decide +kernel
theorem dX6_again_20 : decode cX6_again 20 = .ok (.aload_n 0, 1) := by decide +kernel
theorem dX6_again_21 : decode cX6_again 21 = .ok (.getfield 25, 3) := by decide +kernel
theorem dX6_again_24 : decode cX6_again 24 = .ok (.iconst 2, 1) := by decide +kernel
theorem dX6_again_25 : decode cX6_again 25 = .ok (.iload_n 1, 1) := by decide +kernel
theorem dX6_again_26 : decode cX6_again 26 = .ok (.iadd, 1) := by decide +kernel
theorem dX6_again_27 : decode cX6_again 27 = .ok (.iaload, 1) := by decide +kernel
theorem dX6_again_28 : decode cX6_again 28 = .ok (.bipush 99, 2) := by decide +kernel
theorem dX6_again_30 : decode cX6_again 30 = .ok (.if_icmp .eq 6, 3) := by decide +kernel
theorem dX6_again_33 : decode cX6_again 33 = .ok (.ldc 136, 2) := by decide +kernel
theorem dX6_again_35 : decode cX6_again 35 = .ok (.ireturn, 1) := by decide +kernel
theorem dX6_again_36 : decode cX6_again 36 = .ok (.aload_n 0, 1) := by decide +kernel
theorem dX6_again_37 : decode cX6_again 37 = .ok (.invokevirtual 137, 3) := by decide +kernel
theorem dX6_again_40 : decode cX6_again 40 = .ok (.aload_n 0, 1) := by decide +kernel
theorem dX6_again_41 : decode cX6_again 41 = .ok (.getfield 25, 3) := by decide +kernel
theorem dX6_again_44 : decode cX6_again 44 = .ok (.iconst 2, 1) := by decide +kernel
theorem dX6_again_45 : decode cX6_again 45 = .ok (.iload_n 1, 1) := by decide +kernel
theorem dX6_again_46 : decode cX6_again 46 = .ok (.iadd, 1) := by decide +kernel
theorem dX6_again_47 : decode cX6_again 47 = .ok (.iconst (-1), 1) := by decide +kernel
theorem dX6_again_48 : decode cX6_again 48 = .ok (.iastore, 1) := by decide +kernel
theorem dX6_again_49 : decode cX6_again 49 = .ok (.aload_n 0, 1) := by decide +kernel
theorem dX6_again_50 : decode cX6_again 50 = .ok (.getfield 25, 3) := by decide +kernel
theorem dX6_again_53 : decode cX6_again 53 = .ok (.bipush 9, 2) := by decide +kernel
theorem dX6_again_55 : decode cX6_again 55 = .ok (.iload_n 1, 1) := by decide +kernel
theorem dX6_again_56 : decode cX6_again 56 = .ok (.iadd, 1) := by decide +kernel
theorem dX6_again_57 : decode cX6_again 57 = .ok (.iload_n 2, 1) := by decide +kernel
theorem dX6_again_58 : decode cX6_again 58 = .ok (.iastore, 1) := by decide +kernel
theorem dX6_again_59 : decode cX6_again 59 = .ok (.aload_n 0, 1) := by decide +kernel
theorem dX6_again_60 : decode cX6_again 60 = .ok (.getfield 25, 3) := by decide +kernel
theorem dX6_again_63 : decode cX6_again 63 = .ok (.invokestatic 144, 3) := by decide +kernel
theorem dX6_again_66 : decode cX6_again 66 = .ok (.ireturn, 1) := by decide +kernel
theorem dX6_undo_0 : decode cX6_undo 0 = .ok (.aload_n 0, 1) := by decide +kernel
theorem dX6_undo_1 : decode cX6_undo 1 = .ok (.getfield 115, 3) := by decide +kernel
theorem dX6_undo_4 : decode cX6_undo 4 = .ok (.ifCond .ne 6, 3) := by decide +kernel
theorem dX6_undo_7 : decode cX6_undo 7 = .ok (.ldc 136, 2) := by decide +kernel
theorem dX6_undo_9 : decode cX6_undo 9 = .ok (.ireturn, 1) := by decide +kernel
theorem dX6_undo_10 : decode cX6_undo 10 = .ok (.aload_n 0, 1) := by decide +kernel
theorem dX6_undo_11 : decode cX6_undo 11 = .ok (.dup, 1) := by decide +kernel
theorem dX6_undo_12 : decode cX6_undo 12 = .ok (.getfield 115, 3) := by decide +kernel
theorem dX6_undo_15 : decode cX6_undo 15 = .ok (.iconst 1, 1) := by decide +kernel
theorem dX6_undo_16 : decode cX6_undo 16 = .ok (.isub, 1) := by decide +kernel
theorem dX6_undo_17 : decode cX6_undo 17 = .ok (.putfield 115, 3) := by decide +kernel
theorem dX6_undo_20 : decode cX6_undo 20 = .ok (.iconst 0, 1) := by decide +kernel
theorem dX6_undo_21 : decode cX6_undo 21 = .ok (.istore_n 1, 1) := by decide +kernel
theorem dX6_undo_22 : decode cX6_undo 22 = .ok (.iload_n 1, 1) := by decide +kernel
theorem dX6_undo_23 : decode cX6_undo 23 = .ok (.bipush 16, 2) := by decide +kernel
theorem dX6_undo_25 : decode cX6_undo 25 = .ok (.if_icmp .ge 29, 3) := by decide +kernel
theorem dX6_undo_28 : decode cX6_undo 28 = .ok (.aload_n 0, 1) := by decide +kernel
theorem dX6_undo_29 : decode cX6_undo 29 = .ok (.getfield 25, 3) := by decide +kernel
theorem dX6_undo_32 : decode cX6_undo 32 = .ok (.iload_n 1, 1) := by decide +kernel
theorem dX6_undo_33 : decode cX6_undo 33 = .ok (.aload_n 0, 1) := by decide +kernel
theorem dX6_undo_34 : decode cX6_undo 34 = .ok (.getfield 38, 3) := by decide +kernel
theorem dX6_undo_37 : decode cX6_undo 37 = .ok (.bipush 16, 2) := by decide +kernel
theorem dX6_undo_39 : decode cX6_undo 39 = .ok (.aload_n 0, 1) := by decide +kernel
theorem dX6_undo_40 : decode cX6_undo 40 = .ok (.getfield 115, 3) := by decide +kernel
theorem dX6_undo_43 : decode cX6_undo 43 = .ok (.imul, 1) := by decide +kernel
theorem dX6_undo_44 : decode cX6_undo 44 = .ok (.iload_n 1, 1) := by decide +kernel
theorem dX6_undo_45 : decode cX6_undo 45 = .ok (.iadd, 1) := by decide +kernel
theorem dX6_undo_46 : decode cX6_undo 46 = .ok (.iaload, 1) := by decide +kernel
theorem dX6_undo_47 : decode cX6_undo 47 = .ok (.iastore, 1) := by decide +kernel
theorem dX6_undo_48 : decode cX6_undo 48 = .ok (.iinc 1 1, 3) := by decide +kernel
theorem dX6_undo_51 : decode cX6_undo 51 = .ok (.goto (-29), 3) := by decide +kernel
theorem dX6_undo_54 : decode cX6_undo 54 = .ok (.aload_n 0, 1) := by decide +kernel
theorem dX6_undo_55 : decode cX6_undo 55 = .ok (.getfield 115, 3) := by decide +kernel
theorem dX6_undo_58 : decode cX6_undo 58 = .ok (.ireturn, 1) := by decide +kernel
theorem dX6_rider_0 : decode cX6_rider 0 = .ok (.aload_n 0, 1) := by decide +kernel
theorem dX6_rider_1 : decode cX6_rider 1 = .ok (.iload_n 1, 1) := by decide +kernel
theorem dX6_rider_2 : decode cX6_rider 2 = .ok (.invokevirtual 148, 3) := by decide +kernel
theorem dX6_rider_5 : decode cX6_rider 5 = .ok (.ifCond .ne 6, 3) := by decide +kernel
theorem dX6_rider_8 : decode cX6_rider 8 = .ok (.ldc 65, 2) := by decide +kernel
theorem dX6_rider_10 : decode cX6_rider 10 = .ok (.ireturn, 1) := by decide +kernel
theorem dX6_rider_11 : decode cX6_rider 11 = .ok (.aload_n 0, 1) := by decide +kernel
theorem dX6_rider_12 : decode cX6_rider 12 = .ok (.getfield 25, 3) := by decide +kernel
theorem dX6_rider_15 : decode cX6_rider 15 = .ok (.iconst 2, 1) := by decide +kernel
theorem dX6_rider_16 : decode cX6_rider 16 = .ok (.iload_n 1, 1) := by decide +kernel
theorem dX6_rider_17 : decode cX6_rider 17 = .ok (.iadd, 1) := by decide +kernel
theorem dX6_rider_18 : decode cX6_rider 18 = .ok (.iaload, 1) := by decide +kernel
theorem dX6_rider_19 : decode cX6_rider 19 = .ok (.istore_n 3, 1) := by decide +kernel
theorem dX6_rider_20 : decode cX6_rider 20 = .ok (.iload_n 2, 1) := by decide +kernel
theorem dX6_rider_21 : decode cX6_rider 21 = .ok (.tableswitch 111 0 3 #[31, 33, 43, 62], 31) := by decide +kernel
theorem dX6_rider_52 : decode cX6_rider 52 = .ok (.iload_n 3, 1) := by decide +kernel
theorem dX6_rider_53 : decode cX6_rider 53 = .ok (.ireturn, 1) := by decide +kernel
theorem dX6_rider_54 : decode cX6_rider 54 = .ok (.aload_n 0, 1) := by decide +kernel
theorem dX6_rider_55 : decode cX6_rider 55 = .ok (.getfield 25, 3) := by decide +kernel
theorem dX6_rider_58 : decode cX6_rider 58 = .ok (.bipush 9, 2) := by decide +kernel
theorem dX6_rider_60 : decode cX6_rider 60 = .ok (.iload_n 1, 1) := by decide +kernel
theorem dX6_rider_61 : decode cX6_rider 61 = .ok (.iadd, 1) := by decide +kernel
theorem dX6_rider_62 : decode cX6_rider 62 = .ok (.iaload, 1) := by decide +kernel
theorem dX6_rider_63 : decode cX6_rider 63 = .ok (.ireturn, 1) := by decide +kernel
theorem dX6_rider_64 : decode cX6_rider 64 = .ok (.aload_n 0, 1) := by decide +kernel
theorem dX6_rider_65 : decode cX6_rider 65 = .ok (.getfield 25, 3) := by decide +kernel
theorem dX6_rider_68 : decode cX6_rider 68 = .ok (.bipush 18, 2) := by decide +kernel
theorem dX6_rider_70 : decode cX6_rider 70 = .ok (.iload_n 1, 1) := by decide +kernel
theorem dX6_rider_71 : decode cX6_rider 71 = .ok (.iadd, 1) := by decide +kernel
theorem dX6_rider_72 : decode cX6_rider 72 = .ok (.iaload, 1) := by decide +kernel
theorem dX6_rider_73 : decode cX6_rider 73 = .ok (.iconst 4, 1) := by decide +kernel
theorem dX6_rider_74 : decode cX6_rider 74 = .ok (.if_icmp .lt 7, 3) := by decide +kernel
theorem dX6_rider_77 : decode cX6_rider 77 = .ok (.iconst 1, 1) := by decide +kernel
theorem dX6_rider_78 : decode cX6_rider 78 = .ok (.goto 4, 3) := by decide +kernel
theorem dX6_rider_81 : decode cX6_rider 81 = .ok (.iconst 0, 1) := by decide +kernel
theorem dX6_rider_82 : decode cX6_rider 82 = .ok (.ireturn, 1) := by decide +kernel
theorem dX6_rider_83 : decode cX6_rider 83 = .ok (.iload_n 3, 1) := by decide +kernel
theorem dX6_rider_84 : decode cX6_rider 84 = .ok (.invokestatic 130, 3) := by decide +kernel
theorem dX6_rider_87 : decode cX6_rider 87 = .ok (.ifCond .eq 43, 3) := by decide +kernel
theorem dX6_rider_90 : decode cX6_rider 90 = .ok (.iload_n 3, 1) := by decide +kernel
theorem dX6_rider_91 : decode cX6_rider 91 = .ok (.aload_n 0, 1) := by decide +kernel
theorem dX6_rider_92 : decode cX6_rider 92 = .ok (.getfield 25, 3) := by decide +kernel
theorem dX6_rider_95 : decode cX6_rider 95 = .ok (.bipush 16, 2) := by decide +kernel
theorem dX6_rider_97 : decode cX6_rider 97 = .ok (.iaload, 1) := by decide +kernel
theorem dX6_rider_98 : decode cX6_rider 98 = .ok (.iconst 1, 1) := by decide +kernel
theorem dX6_rider_99 : decode cX6_rider 99 = .ok (.isub, 1) := by decide +kernel
theorem dX6_rider_100 : decode cX6_rider 100 = .ok (.if_icmp .ge 30, 3) := by decide +kernel
theorem dX6_rider_103 : decode cX6_rider 103 = .ok (.aload_n 0, 1) := by decide +kernel
theorem dX6_rider_104 : decode cX6_rider 104 = .ok (.getfield 25, 3) := by decide +kernel
theorem dX6_rider_107 : decode cX6_rider 107 = .ok (.iload_n 1, 1) := by decide +kernel
theorem dX6_rider_108 : decode cX6_rider 108 = .ok (.iload_n 3, 1) := by decide +kernel
theorem dX6_rider_109 : decode cX6_rider 109 = .ok (.iconst 1, 1) := by decide +kernel
theorem dX6_rider_110 : decode cX6_rider 110 = .ok (.iadd, 1) := by decide +kernel
theorem dX6_rider_111 : decode cX6_rider 111 = .ok (.aload_n 0, 1) := by decide +kernel
theorem dX6_rider_112 : decode cX6_rider 112 = .ok (.getfield 25, 3) := by decide +kernel
theorem dX6_rider_115 : decode cX6_rider 115 = .ok (.bipush 9, 2) := by decide +kernel
theorem dX6_rider_117 : decode cX6_rider 117 = .ok (.iload_n 1, 1) := by decide +kernel
theorem dX6_rider_118 : decode cX6_rider 118 = .ok (.iadd, 1) := by decide +kernel
theorem dX6_rider_119 : decode cX6_rider 119 = .ok (.iaload, 1) := by decide +kernel
theorem dX6_rider_120 : decode cX6_rider 120 = .ok (.invokestatic 118, 3) := by decide +kernel
theorem dX6_rider_123 : decode cX6_rider 123 = .ok (.ifCond .eq 7, 3) := by decide +kernel
theorem dX6_rider_126 : decode cX6_rider 126 = .ok (.iconst 1, 1) := by decide +kernel
theorem dX6_rider_127 : decode cX6_rider 127 = .ok (.goto 4, 3) := by decide +kernel
theorem dX6_rider_130 : decode cX6_rider 130 = .ok (.iconst 0, 1) := by decide +kernel
theorem dX6_rider_131 : decode cX6_rider 131 = .ok (.ireturn, 1) := by decide +kernel
theorem dX6_rider_132 : decode cX6_rider 132 = .ok (.ldc 65, 2) := by decide +kernel
theorem dX6_rider_134 : decode cX6_rider 134 = .ok (.ireturn, 1) := by decide +kernel
theorem dX6_step_0 : decode cX6_step 0 = .ok (.iload_n 1, 1) := by decide +kernel
theorem dX6_step_1 : decode cX6_step 1 = .ok (.iconst 0, 1) := by decide +kernel
theorem dX6_step_2 : decode cX6_step 2 = .ok (.aload_n 0, 1) := by decide +kernel
theorem dX6_step_3 : decode cX6_step 3 = .ok (.getfield 25, 3) := by decide +kernel
theorem dX6_step_6 : decode cX6_step 6 = .ok (.bipush 16, 2) := by decide +kernel
theorem dX6_step_8 : decode cX6_step 8 = .ok (.iaload, 1) := by decide +kernel
theorem dX6_step_9 : decode cX6_step 9 = .ok (.iconst 1, 1) := by decide +kernel
theorem dX6_step_10 : decode cX6_step 10 = .ok (.isub, 1) := by decide +kernel
theorem dX6_step_11 : decode cX6_step 11 = .ok (.invokestatic 50, 3) := by decide +kernel
theorem dX6_step_14 : decode cX6_step 14 = .ok (.ifCond .eq 12, 3) := by decide +kernel
theorem dX6_step_17 : decode cX6_step 17 = .ok (.iload_n 2, 1) := by decide +kernel
theorem dX6_step_18 : decode cX6_step 18 = .ok (.iconst 0, 1) := by decide +kernel
theorem dX6_step_19 : decode cX6_step 19 = .ok (.iconst 1, 1) := by decide +kernel
theorem dX6_step_20 : decode cX6_step 20 = .ok (.invokestatic 50, 3) := by decide +kernel
theorem dX6_step_23 : decode cX6_step 23 = .ok (.ifCond .ne 6, 3) := by decide +kernel
theorem dX6_step_26 : decode cX6_step 26 = .ok (.ldc 65, 2) := by decide +kernel
theorem dX6_step_28 : decode cX6_step 28 = .ok (.ireturn, 1) := by decide +kernel
theorem dX6_step_29 : decode cX6_step 29 = .ok (.iconst 0, 1) := by decide +kernel
theorem dX6_step_30 : decode cX6_step 30 = .ok (.istore_n 3, 1) := by decide +kernel
theorem dX6_step_31 : decode cX6_step 31 = .ok (.iconst 0, 1) := by decide +kernel
theorem dX6_step_32 : decode cX6_step 32 = .ok (.istore 4, 2) := by decide +kernel
theorem dX6_step_34 : decode cX6_step 34 = .ok (.iload 4, 2) := by decide +kernel
theorem dX6_step_36 : decode cX6_step 36 = .ok (.aload_n 0, 1) := by decide +kernel
theorem dX6_step_37 : decode cX6_step 37 = .ok (.getfield 25, 3) := by decide +kernel
theorem dX6_step_40 : decode cX6_step 40 = .ok (.bipush 17, 2) := by decide +kernel
theorem dX6_step_42 : decode cX6_step 42 = .ok (.iaload, 1) := by decide +kernel
theorem dX6_step_43 : decode cX6_step 43 = .ok (.if_icmp .ge 73, 3) := by decide +kernel
theorem dX6_step_46 : decode cX6_step 46 = .ok (.aload_n 0, 1) := by decide +kernel
theorem dX6_step_47 : decode cX6_step 47 = .ok (.getfield 25, 3) := by decide +kernel
theorem dX6_step_50 : decode cX6_step 50 = .ok (.iconst 2, 1) := by decide +kernel
theorem dX6_step_51 : decode cX6_step 51 = .ok (.iload 4, 2) := by decide +kernel
theorem dX6_step_53 : decode cX6_step 53 = .ok (.iadd, 1) := by decide +kernel
theorem dX6_step_54 : decode cX6_step 54 = .ok (.iaload, 1) := by decide +kernel
theorem dX6_step_55 : decode cX6_step 55 = .ok (.iload_n 1, 1) := by decide +kernel
theorem dX6_step_56 : decode cX6_step 56 = .ok (.if_icmp .ne 35, 3) := by decide +kernel
theorem dX6_step_59 : decode cX6_step 59 = .ok (.aload_n 0, 1) := by decide +kernel
theorem dX6_step_60 : decode cX6_step 60 = .ok (.getfield 25, 3) := by decide +kernel
theorem dX6_step_63 : decode cX6_step 63 = .ok (.bipush 18, 2) := by decide +kernel
theorem dX6_step_65 : decode cX6_step 65 = .ok (.iload 4, 2) := by decide +kernel
theorem dX6_step_67 : decode cX6_step 67 = .ok (.iadd, 1) := by decide +kernel
theorem dX6_step_68 : decode cX6_step 68 = .ok (.iaload, 1) := by decide +kernel
theorem dX6_step_69 : decode cX6_step 69 = .ok (.iconst 4, 1) := by decide +kernel
theorem dX6_step_70 : decode cX6_step 70 = .ok (.if_icmp .ge 17, 3) := by decide +kernel
theorem dX6_step_73 : decode cX6_step 73 = .ok (.aload_n 0, 1) := by decide +kernel
theorem dX6_step_74 : decode cX6_step 74 = .ok (.getfield 25, 3) := by decide +kernel
theorem dX6_step_77 : decode cX6_step 77 = .ok (.bipush 9, 2) := by decide +kernel
theorem dX6_step_79 : decode cX6_step 79 = .ok (.iload 4, 2) := by decide +kernel
theorem dX6_step_81 : decode cX6_step 81 = .ok (.iadd, 1) := by decide +kernel
theorem dX6_step_82 : decode cX6_step 82 = .ok (.iaload, 1) := by decide +kernel
theorem dX6_step_83 : decode cX6_step 83 = .ok (.iload_n 2, 1) := by decide +kernel
theorem dX6_step_84 : decode cX6_step 84 = .ok (.if_icmp .ne 7, 3) := by decide +kernel
theorem dX6_step_87 : decode cX6_step 87 = .ok (.iconst 1, 1) := by decide +kernel
theorem dX6_step_88 : decode cX6_step 88 = .ok (.goto 4, 3) := by decide +kernel
theorem dX6_step_91 : decode cX6_step 91 = .ok (.iconst 0, 1) := by decide +kernel
theorem dX6_step_92 : decode cX6_step 92 = .ok (.istore 5, 2) := by decide +kernel
theorem dX6_step_94 : decode cX6_step 94 = .ok (.iload_n 3, 1) := by decide +kernel
theorem dX6_step_95 : decode cX6_step 95 = .ok (.iload 5, 2) := by decide +kernel
theorem dX6_step_97 : decode cX6_step 97 = .ok (.ifCond .eq 10, 3) := by decide +kernel
theorem dX6_step_100 : decode cX6_step 100 = .ok (.iconst 1, 1) := by decide +kernel
theorem dX6_step_101 : decode cX6_step 101 = .ok (.iload 4, 2) := by decide +kernel
theorem dX6_step_103 : decode cX6_step 103 = .ok (.ishl, 1) := by decide +kernel
theorem dX6_step_104 : decode cX6_step 104 = .ok (.goto 4, 3) := by decide +kernel
theorem dX6_step_107 : decode cX6_step 107 = .ok (.iconst 0, 1) := by decide +kernel
theorem dX6_step_108 : decode cX6_step 108 = .ok (.ior, 1) := by decide +kernel
theorem dX6_step_109 : decode cX6_step 109 = .ok (.istore_n 3, 1) := by decide +kernel
theorem dX6_step_110 : decode cX6_step 110 = .ok (.iinc 4 1, 3) := by decide +kernel
theorem dX6_step_113 : decode cX6_step 113 = .ok (.goto (-79), 3) := by decide +kernel
theorem dX6_step_116 : decode cX6_step 116 = .ok (.iload_n 3, 1) := by decide +kernel
theorem dX6_step_117 : decode cX6_step 117 = .ok (.ireturn, 1) := by decide +kernel
theorem dX6_starts_0 : decode cX6_starts 0 = .ok (.iconst 0, 1) := by decide +kernel
theorem dX6_starts_1 : decode cX6_starts 1 = .ok (.istore_n 1, 1) := by decide +kernel
theorem dX6_starts_2 : decode cX6_starts 2 = .ok (.iload_n 1, 1) := by decide +kernel
theorem dX6_starts_3 : decode cX6_starts 3 = .ok (.bipush 25, 2) := by decide +kernel
theorem dX6_starts_5 : decode cX6_starts 5 = .ok (.if_icmp .ge 21, 3) := by decide +kernel
theorem dX6_starts_8 : decode cX6_starts 8 = .ok (.aload_n 0, 1) := by decide +kernel
theorem dX6_starts_9 : decode cX6_starts 9 = .ok (.getfield 41, 3) := by decide +kernel
theorem dX6_starts_12 : decode cX6_starts 12 = .ok (.iload_n 1, 1) := by decide +kernel
theorem dX6_starts_13 : decode cX6_starts 13 = .ok (.aload_n 0, 1) := by decide +kernel
theorem dX6_starts_14 : decode cX6_starts 14 = .ok (.getfield 25, 3) := by decide +kernel
theorem dX6_starts_17 : decode cX6_starts 17 = .ok (.iload_n 1, 1) := by decide +kernel
theorem dX6_starts_18 : decode cX6_starts 18 = .ok (.iaload, 1) := by decide +kernel
theorem dX6_starts_19 : decode cX6_starts 19 = .ok (.iastore, 1) := by decide +kernel
theorem dX6_starts_20 : decode cX6_starts 20 = .ok (.iinc 1 1, 3) := by decide +kernel
theorem dX6_starts_23 : decode cX6_starts 23 = .ok (.goto (-21), 3) := by decide +kernel
theorem dX6_starts_26 : decode cX6_starts 26 = .ok (.return_, 1) := by decide +kernel
theorem dX6_ahead_0 : decode cX6_ahead 0 = .ok (.aload_n 0, 1) := by decide +kernel
theorem dX6_ahead_1 : decode cX6_ahead 1 = .ok (.iload_n 1, 1) := by decide +kernel
theorem dX6_ahead_2 : decode cX6_ahead 2 = .ok (.invokevirtual 148, 3) := by decide +kernel
theorem dX6_ahead_5 : decode cX6_ahead 5 = .ok (.ifCond .eq 13, 3) := by decide +kernel
theorem dX6_ahead_8 : decode cX6_ahead 8 = .ok (.iload_n 2, 1) := by decide +kernel
theorem dX6_ahead_9 : decode cX6_ahead 9 = .ok (.iconst 0, 1) := by decide +kernel
theorem dX6_ahead_10 : decode cX6_ahead 10 = .ok (.bipush 60, 2) := by decide +kernel
theorem dX6_ahead_12 : decode cX6_ahead 12 = .ok (.invokestatic 50, 3) := by decide +kernel
theorem dX6_ahead_15 : decode cX6_ahead 15 = .ok (.ifCond .ne 6, 3) := by decide +kernel
theorem dX6_ahead_18 : decode cX6_ahead 18 = .ok (.ldc 65, 2) := by decide +kernel
theorem dX6_ahead_20 : decode cX6_ahead 20 = .ok (.ireturn, 1) := by decide +kernel
theorem dX6_ahead_21 : decode cX6_ahead 21 = .ok (.aload_n 0, 1) := by decide +kernel
theorem dX6_ahead_22 : decode cX6_ahead 22 = .ok (.invokevirtual 151, 3) := by decide +kernel
theorem dX6_ahead_25 : decode cX6_ahead 25 = .ok (.iconst 0, 1) := by decide +kernel
theorem dX6_ahead_26 : decode cX6_ahead 26 = .ok (.istore_n 3, 1) := by decide +kernel
theorem dX6_ahead_27 : decode cX6_ahead 27 = .ok (.iload_n 3, 1) := by decide +kernel
theorem dX6_ahead_28 : decode cX6_ahead 28 = .ok (.iload_n 2, 1) := by decide +kernel
theorem dX6_ahead_29 : decode cX6_ahead 29 = .ok (.if_icmp .ge 17, 3) := by decide +kernel
theorem dX6_ahead_32 : decode cX6_ahead 32 = .ok (.aload_n 0, 1) := by decide +kernel
theorem dX6_ahead_33 : decode cX6_ahead 33 = .ok (.aload_n 0, 1) := by decide +kernel
theorem dX6_ahead_34 : decode cX6_ahead 34 = .ok (.getfield 41, 3) := by decide +kernel
theorem dX6_ahead_37 : decode cX6_ahead 37 = .ok (.invokevirtual 140, 3) := by decide +kernel
theorem dX6_ahead_40 : decode cX6_ahead 40 = .ok (.iinc 3 1, 3) := by decide +kernel
theorem dX6_ahead_43 : decode cX6_ahead 43 = .ok (.goto (-16), 3) := by decide +kernel
theorem dX6_ahead_46 : decode cX6_ahead 46 = .ok (.aload_n 0, 1) := by decide +kernel
theorem dX6_ahead_47 : decode cX6_ahead 47 = .ok (.getfield 41, 3) := by decide +kernel
theorem dX6_ahead_50 : decode cX6_ahead 50 = .ok (.iconst 2, 1) := by decide +kernel
theorem dX6_ahead_51 : decode cX6_ahead 51 = .ok (.iload_n 1, 1) := by decide +kernel
theorem dX6_ahead_52 : decode cX6_ahead 52 = .ok (.iadd, 1) := by decide +kernel
theorem dX6_ahead_53 : decode cX6_ahead 53 = .ok (.iaload, 1) := by decide +kernel
theorem dX6_ahead_54 : decode cX6_ahead 54 = .ok (.ireturn, 1) := by decide +kernel
theorem dX6_later_0 : decode cX6_later 0 = .ok (.aload_n 0, 1) := by decide +kernel
theorem dX6_later_1 : decode cX6_later 1 = .ok (.invokevirtual 133, 3) := by decide +kernel
theorem dX6_later_4 : decode cX6_later 4 = .ok (.ifCond .ne 6, 3) := by decide +kernel
theorem dX6_later_7 : decode cX6_later 7 = .ok (.ldc 136, 2) := by decide +kernel
theorem dX6_later_9 : decode cX6_later 9 = .ok (.ireturn, 1) := by decide +kernel
theorem dX6_later_10 : decode cX6_later 10 = .ok (.iload_n 1, 1) := by decide +kernel
theorem dX6_later_11 : decode cX6_later 11 = .ok (.iconst 0, 1) := by decide +kernel
theorem dX6_later_12 : decode cX6_later 12 = .ok (.bipush 60, 2) := by decide +kernel
theorem dX6_later_14 : decode cX6_later 14 = .ok (.invokestatic 50, 3) := by decide +kernel
theorem dX6_later_17 : decode cX6_later 17 = .ok (.ifCond .eq 12, 3) := by decide +kernel
theorem dX6_later_20 : decode cX6_later 20 = .ok (.iload_n 2, 1) := by decide +kernel
theorem dX6_later_21 : decode cX6_later 21 = .ok (.iconst 0, 1) := by decide +kernel
theorem dX6_later_22 : decode cX6_later 22 = .ok (.iconst 1, 1) := by decide +kernel
theorem dX6_later_23 : decode cX6_later 23 = .ok (.invokestatic 50, 3) := by decide +kernel
theorem dX6_later_26 : decode cX6_later 26 = .ok (.ifCond .ne 6, 3) := by decide +kernel
theorem dX6_later_29 : decode cX6_later 29 = .ok (.ldc 65, 2) := by decide +kernel
theorem dX6_later_31 : decode cX6_later 31 = .ok (.ireturn, 1) := by decide +kernel
theorem dX6_later_32 : decode cX6_later 32 = .ok (.aload_n 0, 1) := by decide +kernel
theorem dX6_later_33 : decode cX6_later 33 = .ok (.invokevirtual 151, 3) := by decide +kernel
theorem dX6_later_36 : decode cX6_later 36 = .ok (.iconst 0, 1) := by decide +kernel
theorem dX6_later_37 : decode cX6_later 37 = .ok (.istore_n 3, 1) := by decide +kernel
theorem dX6_later_38 : decode cX6_later 38 = .ok (.iload_n 3, 1) := by decide +kernel
theorem dX6_later_39 : decode cX6_later 39 = .ok (.iload_n 1, 1) := by decide +kernel
theorem dX6_later_40 : decode cX6_later 40 = .ok (.if_icmp .ge 17, 3) := by decide +kernel
theorem dX6_later_43 : decode cX6_later 43 = .ok (.aload_n 0, 1) := by decide +kernel
theorem dX6_later_44 : decode cX6_later 44 = .ok (.aload_n 0, 1) := by decide +kernel
theorem dX6_later_45 : decode cX6_later 45 = .ok (.getfield 41, 3) := by decide +kernel
theorem dX6_later_48 : decode cX6_later 48 = .ok (.invokevirtual 140, 3) := by decide +kernel
theorem dX6_later_51 : decode cX6_later 51 = .ok (.iinc 3 1, 3) := by decide +kernel
theorem dX6_later_54 : decode cX6_later 54 = .ok (.goto (-16), 3) := by decide +kernel
theorem dX6_later_57 : decode cX6_later 57 = .ok (.iconst 0, 1) := by decide +kernel
theorem dX6_later_58 : decode cX6_later 58 = .ok (.istore_n 3, 1) := by decide +kernel
theorem dX6_later_59 : decode cX6_later 59 = .ok (.iconst 0, 1) := by decide +kernel
theorem dX6_later_60 : decode cX6_later 60 = .ok (.istore 4, 2) := by decide +kernel
theorem dX6_later_62 : decode cX6_later 62 = .ok (.iload 4, 2) := by decide +kernel
theorem dX6_later_64 : decode cX6_later 64 = .ok (.aload_n 0, 1) := by decide +kernel
theorem dX6_later_65 : decode cX6_later 65 = .ok (.getfield 25, 3) := by decide +kernel
theorem dX6_later_68 : decode cX6_later 68 = .ok (.bipush 17, 2) := by decide +kernel
theorem dX6_later_70 : decode cX6_later 70 = .ok (.iaload, 1) := by decide +kernel
theorem dX6_later_71 : decode cX6_later 71 = .ok (.if_icmp .ge 42, 3) := by decide +kernel
theorem dX6_later_74 : decode cX6_later 74 = .ok (.iload_n 3, 1) := by decide +kernel
theorem dX6_later_75 : decode cX6_later 75 = .ok (.aload_n 0, 1) := by decide +kernel
theorem dX6_later_76 : decode cX6_later 76 = .ok (.getfield 41, 3) := by decide +kernel
theorem dX6_later_79 : decode cX6_later 79 = .ok (.iconst 2, 1) := by decide +kernel
theorem dX6_later_80 : decode cX6_later 80 = .ok (.iload 4, 2) := by decide +kernel
theorem dX6_later_82 : decode cX6_later 82 = .ok (.iadd, 1) := by decide +kernel
theorem dX6_later_83 : decode cX6_later 83 = .ok (.iaload, 1) := by decide +kernel
theorem dX6_later_84 : decode cX6_later 84 = .ok (.invokestatic 130, 3) := by decide +kernel
theorem dX6_later_87 : decode cX6_later 87 = .ok (.ifCond .eq 17, 3) := by decide +kernel
theorem dX6_later_90 : decode cX6_later 90 = .ok (.iconst 1, 1) := by decide +kernel
theorem dX6_later_91 : decode cX6_later 91 = .ok (.aload_n 0, 1) := by decide +kernel
theorem dX6_later_92 : decode cX6_later 92 = .ok (.getfield 41, 3) := by decide +kernel
theorem dX6_later_95 : decode cX6_later 95 = .ok (.iconst 2, 1) := by decide +kernel
theorem dX6_later_96 : decode cX6_later 96 = .ok (.iload 4, 2) := by decide +kernel
theorem dX6_later_98 : decode cX6_later 98 = .ok (.iadd, 1) := by decide +kernel
theorem dX6_later_99 : decode cX6_later 99 = .ok (.iaload, 1) := by decide +kernel
theorem dX6_later_100 : decode cX6_later 100 = .ok (.ishl, 1) := by decide +kernel
theorem dX6_later_101 : decode cX6_later 101 = .ok (.goto 4, 3) := by decide +kernel
theorem dX6_later_104 : decode cX6_later 104 = .ok (.iconst 0, 1) := by decide +kernel
theorem dX6_later_105 : decode cX6_later 105 = .ok (.ior, 1) := by decide +kernel
theorem dX6_later_106 : decode cX6_later 106 = .ok (.istore_n 3, 1) := by decide +kernel
theorem dX6_later_107 : decode cX6_later 107 = .ok (.iinc 4 1, 3) := by decide +kernel
theorem dX6_later_110 : decode cX6_later 110 = .ok (.goto (-48), 3) := by decide +kernel
theorem dX6_later_113 : decode cX6_later 113 = .ok (.iload_n 2, 1) := by decide +kernel
theorem dX6_later_114 : decode cX6_later 114 = .ok (.ifCond .ne 13, 3) := by decide +kernel
theorem dX6_later_117 : decode cX6_later 117 = .ok (.aload_n 0, 1) := by decide +kernel
theorem dX6_later_118 : decode cX6_later 118 = .ok (.getfield 41, 3) := by decide +kernel
theorem dX6_later_121 : decode cX6_later 121 = .ok (.invokestatic 144, 3) := by decide +kernel
theorem dX6_later_124 : decode cX6_later 124 = .ok (.goto 4, 3) := by decide +kernel
theorem dX6_later_127 : decode cX6_later 127 = .ok (.iload_n 3, 1) := by decide +kernel
theorem dX6_later_128 : decode cX6_later 128 = .ok (.ireturn, 1) := by decide +kernel
theorem dX6_off_0 : decode cX6_off 0 = .ok (.aload_n 0, 1) := by decide +kernel
theorem dX6_off_1 : decode cX6_off 1 = .ok (.iload_n 1, 1) := by decide +kernel
theorem dX6_off_2 : decode cX6_off 2 = .ok (.invokevirtual 148, 3) := by decide +kernel
theorem dX6_off_5 : decode cX6_off 5 = .ok (.ifCond .ne 6, 3) := by decide +kernel
theorem dX6_off_8 : decode cX6_off 8 = .ok (.ldc 65, 2) := by decide +kernel
theorem dX6_off_10 : decode cX6_off 10 = .ok (.ireturn, 1) := by decide +kernel
theorem dX6_off_11 : decode cX6_off 11 = .ok (.aload_n 0, 1) := by decide +kernel
theorem dX6_off_12 : decode cX6_off 12 = .ok (.invokevirtual 151, 3) := by decide +kernel
theorem dX6_off_15 : decode cX6_off 15 = .ok (.iconst 0, 1) := by decide +kernel
theorem dX6_off_16 : decode cX6_off 16 = .ok (.istore_n 2, 1) := by decide +kernel
theorem dX6_off_17 : decode cX6_off 17 = .ok (.iload_n 2, 1) := by decide +kernel
theorem dX6_off_18 : decode cX6_off 18 = .ok (.bipush 60, 2) := by decide +kernel
theorem dX6_off_20 : decode cX6_off 20 = .ok (.if_icmp .gt 32, 3) := by decide +kernel
theorem dX6_off_23 : decode cX6_off 23 = .ok (.aload_n 0, 1) := by decide +kernel
theorem dX6_off_24 : decode cX6_off 24 = .ok (.getfield 41, 3) := by decide +kernel
theorem dX6_off_27 : decode cX6_off 27 = .ok (.iconst 2, 1) := by decide +kernel
theorem dX6_off_28 : decode cX6_off 28 = .ok (.iload_n 1, 1) := by decide +kernel
theorem dX6_off_29 : decode cX6_off 29 = .ok (.iadd, 1) := by decide +kernel
theorem dX6_off_30 : decode cX6_off 30 = .ok (.iaload, 1) := by decide +kernel
theorem dX6_off_31 : decode cX6_off 31 = .ok (.bipush 99, 2) := by decide +kernel
theorem dX6_off_33 : decode cX6_off 33 = .ok (.if_icmp .ne 5, 3) := by decide +kernel
theorem dX6_off_36 : decode cX6_off 36 = .ok (.iload_n 2, 1) := by decide +kernel
theorem dX6_off_37 : decode cX6_off 37 = .ok (.ireturn, 1) := by decide +kernel
theorem dX6_off_38 : decode cX6_off 38 = .ok (.aload_n 0, 1) := by decide +kernel
theorem dX6_off_39 : decode cX6_off 39 = .ok (.aload_n 0, 1) := by decide +kernel
theorem dX6_off_40 : decode cX6_off 40 = .ok (.getfield 41, 3) := by decide +kernel
theorem dX6_off_43 : decode cX6_off 43 = .ok (.invokevirtual 140, 3) := by decide +kernel
theorem dX6_off_46 : decode cX6_off 46 = .ok (.iinc 2 1, 3) := by decide +kernel
theorem dX6_off_49 : decode cX6_off 49 = .ok (.goto (-32), 3) := by decide +kernel
theorem dX6_off_52 : decode cX6_off 52 = .ok (.ldc 154, 2) := by decide +kernel
theorem dX6_off_54 : decode cX6_off 54 = .ok (.ireturn, 1) := by decide +kernel
theorem dX6_clears_0 : decode cX6_clears 0 = .ok (.iconst 0, 1) := by decide +kernel
theorem dX6_clears_1 : decode cX6_clears 1 = .ok (.istore_n 1, 1) := by decide +kernel
theorem dX6_clears_2 : decode cX6_clears 2 = .ok (.iload_n 1, 1) := by decide +kernel
theorem dX6_clears_3 : decode cX6_clears 3 = .ok (.bipush 60, 2) := by decide +kernel
theorem dX6_clears_5 : decode cX6_clears 5 = .ok (.if_icmp .gt 36, 3) := by decide +kernel
theorem dX6_clears_8 : decode cX6_clears 8 = .ok (.aload_n 0, 1) := by decide +kernel
theorem dX6_clears_9 : decode cX6_clears 9 = .ok (.getfield 41, 3) := by decide +kernel
theorem dX6_clears_12 : decode cX6_clears 12 = .ok (.invokestatic 144, 3) := by decide +kernel
theorem dX6_clears_15 : decode cX6_clears 15 = .ok (.aload_n 0, 1) := by decide +kernel
theorem dX6_clears_16 : decode cX6_clears 16 = .ok (.getfield 41, 3) := by decide +kernel
theorem dX6_clears_19 : decode cX6_clears 19 = .ok (.bipush 17, 2) := by decide +kernel
theorem dX6_clears_21 : decode cX6_clears 21 = .ok (.iaload, 1) := by decide +kernel
theorem dX6_clears_22 : decode cX6_clears 22 = .ok (.if_icmp .ne 5, 3) := by decide +kernel
theorem dX6_clears_25 : decode cX6_clears 25 = .ok (.iload_n 1, 1) := by decide +kernel
theorem dX6_clears_26 : decode cX6_clears 26 = .ok (.ireturn, 1) := by decide +kernel
theorem dX6_clears_27 : decode cX6_clears 27 = .ok (.aload_n 0, 1) := by decide +kernel
theorem dX6_clears_28 : decode cX6_clears 28 = .ok (.aload_n 0, 1) := by decide +kernel
theorem dX6_clears_29 : decode cX6_clears 29 = .ok (.getfield 41, 3) := by decide +kernel
theorem dX6_clears_32 : decode cX6_clears 32 = .ok (.invokevirtual 140, 3) := by decide +kernel
theorem dX6_clears_35 : decode cX6_clears 35 = .ok (.iinc 1 1, 3) := by decide +kernel
theorem dX6_clears_38 : decode cX6_clears 38 = .ok (.goto (-36), 3) := by decide +kernel
theorem dX6_clears_41 : decode cX6_clears 41 = .ok (.ldc 154, 2) := by decide +kernel
theorem dX6_clears_43 : decode cX6_clears 43 = .ok (.ireturn, 1) := by decide +kernel
theorem dX6_clear_0 : decode cX6_clear 0 = .ok (.aload_n 0, 1) := by decide +kernel
theorem dX6_clear_1 : decode cX6_clear 1 = .ok (.invokevirtual 133, 3) := by decide +kernel
theorem dX6_clear_4 : decode cX6_clear 4 = .ok (.ifCond .ne 6, 3) := by decide +kernel
theorem dX6_clear_7 : decode cX6_clear 7 = .ok (.ldc 136, 2) := by decide +kernel
theorem dX6_clear_9 : decode cX6_clear 9 = .ok (.ireturn, 1) := by decide +kernel
theorem dX6_clear_10 : decode cX6_clear 10 = .ok (.aload_n 0, 1) := by decide +kernel
theorem dX6_clear_11 : decode cX6_clear 11 = .ok (.invokevirtual 151, 3) := by decide +kernel
theorem dX6_clear_14 : decode cX6_clear 14 = .ok (.aload_n 0, 1) := by decide +kernel
theorem dX6_clear_15 : decode cX6_clear 15 = .ok (.invokevirtual 155, 3) := by decide +kernel
theorem dX6_clear_18 : decode cX6_clear 18 = .ok (.ireturn, 1) := by decide +kernel
theorem dX6_queued_0 : decode cX6_queued 0 = .ok (.iconst 0, 1) := by decide +kernel
theorem dX6_queued_1 : decode cX6_queued 1 = .ok (.istore_n 1, 1) := by decide +kernel
theorem dX6_queued_2 : decode cX6_queued 2 = .ok (.iconst 0, 1) := by decide +kernel
theorem dX6_queued_3 : decode cX6_queued 3 = .ok (.istore_n 2, 1) := by decide +kernel
theorem dX6_queued_4 : decode cX6_queued 4 = .ok (.iload_n 2, 1) := by decide +kernel
theorem dX6_queued_5 : decode cX6_queued 5 = .ok (.aload_n 0, 1) := by decide +kernel
theorem dX6_queued_6 : decode cX6_queued 6 = .ok (.getfield 25, 3) := by decide +kernel
theorem dX6_queued_9 : decode cX6_queued 9 = .ok (.bipush 17, 2) := by decide +kernel
theorem dX6_queued_11 : decode cX6_queued 11 = .ok (.iaload, 1) := by decide +kernel
theorem dX6_queued_12 : decode cX6_queued 12 = .ok (.if_icmp .ge 31, 3) := by decide +kernel
theorem dX6_queued_15 : decode cX6_queued 15 = .ok (.iload_n 1, 1) := by decide +kernel
theorem dX6_queued_16 : decode cX6_queued 16 = .ok (.aload_n 0, 1) := by decide +kernel
theorem dX6_queued_17 : decode cX6_queued 17 = .ok (.getfield 25, 3) := by decide +kernel
theorem dX6_queued_20 : decode cX6_queued 20 = .ok (.iconst 2, 1) := by decide +kernel
theorem dX6_queued_21 : decode cX6_queued 21 = .ok (.iload_n 2, 1) := by decide +kernel
theorem dX6_queued_22 : decode cX6_queued 22 = .ok (.iadd, 1) := by decide +kernel
theorem dX6_queued_23 : decode cX6_queued 23 = .ok (.iaload, 1) := by decide +kernel
theorem dX6_queued_24 : decode cX6_queued 24 = .ok (.iconst (-1), 1) := by decide +kernel
theorem dX6_queued_25 : decode cX6_queued 25 = .ok (.if_icmp .ne 9, 3) := by decide +kernel
theorem dX6_queued_28 : decode cX6_queued 28 = .ok (.iconst 1, 1) := by decide +kernel
theorem dX6_queued_29 : decode cX6_queued 29 = .ok (.iload_n 2, 1) := by decide +kernel
theorem dX6_queued_30 : decode cX6_queued 30 = .ok (.ishl, 1) := by decide +kernel
theorem dX6_queued_31 : decode cX6_queued 31 = .ok (.goto 4, 3) := by decide +kernel
theorem dX6_queued_34 : decode cX6_queued 34 = .ok (.iconst 0, 1) := by decide +kernel
theorem dX6_queued_35 : decode cX6_queued 35 = .ok (.ior, 1) := by decide +kernel
theorem dX6_queued_36 : decode cX6_queued 36 = .ok (.istore_n 1, 1) := by decide +kernel
theorem dX6_queued_37 : decode cX6_queued 37 = .ok (.iinc 2 1, 3) := by decide +kernel
theorem dX6_queued_40 : decode cX6_queued 40 = .ok (.goto (-36), 3) := by decide +kernel
theorem dX6_queued_43 : decode cX6_queued 43 = .ok (.iload_n 1, 1) := by decide +kernel
theorem dX6_queued_44 : decode cX6_queued 44 = .ok (.ireturn, 1) := by decide +kernel
theorem dX6_has_0 : decode cX6_has 0 = .ok (.iload_n 0, 1) := by decide +kernel
theorem dX6_has_1 : decode cX6_has 1 = .ok (.iload_n 1, 1) := by decide +kernel
theorem dX6_has_2 : decode cX6_has 2 = .ok (.ishr, 1) := by decide +kernel
theorem dX6_has_3 : decode cX6_has 3 = .ok (.iconst 1, 1) := by decide +kernel
theorem dX6_has_4 : decode cX6_has 4 = .ok (.iand, 1) := by decide +kernel
theorem dX6_has_5 : decode cX6_has 5 = .ok (.iconst 1, 1) := by decide +kernel
theorem dX6_has_6 : decode cX6_has 6 = .ok (.if_icmp .ne 7, 3) := by decide +kernel
theorem dX6_has_9 : decode cX6_has 9 = .ok (.iconst 1, 1) := by decide +kernel
theorem dX6_has_10 : decode cX6_has 10 = .ok (.goto 4, 3) := by decide +kernel
theorem dX6_has_13 : decode cX6_has 13 = .ok (.iconst 0, 1) := by decide +kernel
theorem dX6_has_14 : decode cX6_has 14 = .ok (.ireturn, 1) := by decide +kernel
theorem dX6_sorting_0 : decode cX6_sorting 0 = .ok (.aload_n 0, 1) := by decide +kernel
theorem dX6_sorting_1 : decode cX6_sorting 1 = .ok (.invokevirtual 133, 3) := by decide +kernel
theorem dX6_sorting_4 : decode cX6_sorting 4 = .ok (.ifCond .ne 6, 3) := by decide +kernel
theorem dX6_sorting_7 : decode cX6_sorting 7 = .ok (.ldc 136, 2) := by decide +kernel
theorem dX6_sorting_9 : decode cX6_sorting 9 = .ok (.ireturn, 1) := by decide +kernel
theorem dX6_sorting_10 : decode cX6_sorting 10 = .ok (.iload_n 1, 1) := by decide +kernel
theorem dX6_sorting_11 : decode cX6_sorting 11 = .ok (.iconst 0, 1) := by decide +kernel
theorem dX6_sorting_12 : decode cX6_sorting 12 = .ok (.iconst 1, 1) := by decide +kernel
theorem dX6_sorting_13 : decode cX6_sorting 13 = .ok (.invokestatic 50, 3) := by decide +kernel
theorem dX6_sorting_16 : decode cX6_sorting 16 = .ok (.ifCond .ne 6, 3) := by decide +kernel
theorem dX6_sorting_19 : decode cX6_sorting 19 = .ok (.ldc 65, 2) := by decide +kernel
theorem dX6_sorting_21 : decode cX6_sorting 21 = .ok (.ireturn, 1) := by decide +kernel
theorem dX6_sorting_22 : decode cX6_sorting 22 = .ok (.aload_n 0, 1) := by decide +kernel
theorem dX6_sorting_23 : decode cX6_sorting 23 = .ok (.invokevirtual 159, 3) := by decide +kernel
theorem dX6_sorting_26 : decode cX6_sorting 26 = .ok (.istore_n 2, 1) := by decide +kernel
theorem dX6_sorting_27 : decode cX6_sorting 27 = .ok (.ldc 154, 2) := by decide +kernel
theorem dX6_sorting_29 : decode cX6_sorting 29 = .ok (.istore_n 3, 1) := by decide +kernel
theorem dX6_sorting_30 : decode cX6_sorting 30 = .ok (.ldc 154, 2) := by decide +kernel
