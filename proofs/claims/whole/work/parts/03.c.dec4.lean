theorem dX6_sorting_32 : decode cX6_sorting 32 = .ok (.istore 4, 2) := by decide +kernel
theorem dX6_sorting_34 : decode cX6_sorting 34 = .ok (.iconst 0, 1) := by decide +kernel
theorem dX6_sorting_35 : decode cX6_sorting 35 = .ok (.istore 5, 2) := by decide +kernel
theorem dX6_sorting_37 : decode cX6_sorting 37 = .ok (.iload 5, 2) := by decide +kernel
theorem dX6_sorting_39 : decode cX6_sorting 39 = .ok (.iconst 1, 1) := by decide +kernel
theorem dX6_sorting_40 : decode cX6_sorting 40 = .ok (.aload_n 0, 1) := by decide +kernel
theorem dX6_sorting_41 : decode cX6_sorting 41 = .ok (.getfield 25, 3) := by decide +kernel
theorem dX6_sorting_44 : decode cX6_sorting 44 = .ok (.bipush 17, 2) := by decide +kernel
theorem dX6_sorting_46 : decode cX6_sorting 46 = .ok (.iaload, 1) := by decide +kernel
theorem dX6_sorting_47 : decode cX6_sorting 47 = .ok (.ishl, 1) := by decide +kernel
theorem dX6_sorting_48 : decode cX6_sorting 48 = .ok (.if_icmp .ge 142, 3) := by decide +kernel
theorem dX6_sorting_51 : decode cX6_sorting 51 = .ok (.iload 5, 2) := by decide +kernel
theorem dX6_sorting_53 : decode cX6_sorting 53 = .ok (.iload_n 2, 1) := by decide +kernel
theorem dX6_sorting_54 : decode cX6_sorting 54 = .ok (.iconst (-1), 1) := by decide +kernel
theorem dX6_sorting_55 : decode cX6_sorting 55 = .ok (.ixor, 1) := by decide +kernel
theorem dX6_sorting_56 : decode cX6_sorting 56 = .ok (.iand, 1) := by decide +kernel
theorem dX6_sorting_57 : decode cX6_sorting 57 = .ok (.ifCond .ne 127, 3) := by decide +kernel
theorem dX6_sorting_60 : decode cX6_sorting 60 = .ok (.aload_n 0, 1) := by decide +kernel
theorem dX6_sorting_61 : decode cX6_sorting 61 = .ok (.invokevirtual 151, 3) := by decide +kernel
theorem dX6_sorting_64 : decode cX6_sorting 64 = .ok (.iconst 0, 1) := by decide +kernel
theorem dX6_sorting_65 : decode cX6_sorting 65 = .ok (.istore 6, 2) := by decide +kernel
theorem dX6_sorting_67 : decode cX6_sorting 67 = .ok (.iload 6, 2) := by decide +kernel
theorem dX6_sorting_69 : decode cX6_sorting 69 = .ok (.aload_n 0, 1) := by decide +kernel
theorem dX6_sorting_70 : decode cX6_sorting 70 = .ok (.getfield 25, 3) := by decide +kernel
theorem dX6_sorting_73 : decode cX6_sorting 73 = .ok (.bipush 17, 2) := by decide +kernel
theorem dX6_sorting_75 : decode cX6_sorting 75 = .ok (.iaload, 1) := by decide +kernel
theorem dX6_sorting_76 : decode cX6_sorting 76 = .ok (.if_icmp .ge 48, 3) := by decide +kernel
theorem dX6_sorting_79 : decode cX6_sorting 79 = .ok (.aload_n 0, 1) := by decide +kernel
theorem dX6_sorting_80 : decode cX6_sorting 80 = .ok (.getfield 41, 3) := by decide +kernel
theorem dX6_sorting_83 : decode cX6_sorting 83 = .ok (.bipush 9, 2) := by decide +kernel
theorem dX6_sorting_85 : decode cX6_sorting 85 = .ok (.iload 6, 2) := by decide +kernel
theorem dX6_sorting_87 : decode cX6_sorting 87 = .ok (.iadd, 1) := by decide +kernel
theorem dX6_sorting_88 : decode cX6_sorting 88 = .ok (.iload_n 2, 1) := by decide +kernel
theorem dX6_sorting_89 : decode cX6_sorting 89 = .ok (.iload 6, 2) := by decide +kernel
theorem dX6_sorting_91 : decode cX6_sorting 91 = .ok (.invokestatic 162, 3) := by decide +kernel
theorem dX6_sorting_94 : decode cX6_sorting 94 = .ok (.ifCond .eq 13, 3) := by decide +kernel
theorem dX6_sorting_97 : decode cX6_sorting 97 = .ok (.iload 5, 2) := by decide +kernel
theorem dX6_sorting_99 : decode cX6_sorting 99 = .ok (.iload 6, 2) := by decide +kernel
theorem dX6_sorting_101 : decode cX6_sorting 101 = .ok (.ishr, 1) := by decide +kernel
theorem dX6_sorting_102 : decode cX6_sorting 102 = .ok (.iconst 1, 1) := by decide +kernel
theorem dX6_sorting_103 : decode cX6_sorting 103 = .ok (.iand, 1) := by decide +kernel
theorem dX6_sorting_104 : decode cX6_sorting 104 = .ok (.goto 13, 3) := by decide +kernel
theorem dX6_sorting_107 : decode cX6_sorting 107 = .ok (.aload_n 0, 1) := by decide +kernel
theorem dX6_sorting_108 : decode cX6_sorting 108 = .ok (.getfield 41, 3) := by decide +kernel
theorem dX6_sorting_111 : decode cX6_sorting 111 = .ok (.bipush 9, 2) := by decide +kernel
theorem dX6_sorting_113 : decode cX6_sorting 113 = .ok (.iload 6, 2) := by decide +kernel
theorem dX6_sorting_115 : decode cX6_sorting 115 = .ok (.iadd, 1) := by decide +kernel
theorem dX6_sorting_116 : decode cX6_sorting 116 = .ok (.iaload, 1) := by decide +kernel
theorem dX6_sorting_117 : decode cX6_sorting 117 = .ok (.iastore, 1) := by decide +kernel
theorem dX6_sorting_118 : decode cX6_sorting 118 = .ok (.iinc 6 1, 3) := by decide +kernel
theorem dX6_sorting_121 : decode cX6_sorting 121 = .ok (.goto (-54), 3) := by decide +kernel
theorem dX6_sorting_124 : decode cX6_sorting 124 = .ok (.aload_n 0, 1) := by decide +kernel
theorem dX6_sorting_125 : decode cX6_sorting 125 = .ok (.invokevirtual 155, 3) := by decide +kernel
theorem dX6_sorting_128 : decode cX6_sorting 128 = .ok (.istore 6, 2) := by decide +kernel
theorem dX6_sorting_130 : decode cX6_sorting 130 = .ok (.iload 6, 2) := by decide +kernel
theorem dX6_sorting_132 : decode cX6_sorting 132 = .ok (.ldc 154, 2) := by decide +kernel
theorem dX6_sorting_134 : decode cX6_sorting 134 = .ok (.if_icmp .eq 21, 3) := by decide +kernel
theorem dX6_sorting_137 : decode cX6_sorting 137 = .ok (.iload 4, 2) := by decide +kernel
theorem dX6_sorting_139 : decode cX6_sorting 139 = .ok (.ldc 154, 2) := by decide +kernel
theorem dX6_sorting_141 : decode cX6_sorting 141 = .ok (.if_icmp .eq 10, 3) := by decide +kernel
theorem dX6_sorting_144 : decode cX6_sorting 144 = .ok (.iload 6, 2) := by decide +kernel
theorem dX6_sorting_146 : decode cX6_sorting 146 = .ok (.iload 4, 2) := by decide +kernel
theorem dX6_sorting_148 : decode cX6_sorting 148 = .ok (.if_icmp .ge 7, 3) := by decide +kernel
theorem dX6_sorting_151 : decode cX6_sorting 151 = .ok (.iconst 1, 1) := by decide +kernel
theorem dX6_sorting_152 : decode cX6_sorting 152 = .ok (.goto 4, 3) := by decide +kernel
theorem dX6_sorting_155 : decode cX6_sorting 155 = .ok (.iconst 0, 1) := by decide +kernel
theorem dX6_sorting_156 : decode cX6_sorting 156 = .ok (.istore 7, 2) := by decide +kernel
theorem dX6_sorting_158 : decode cX6_sorting 158 = .ok (.iload 7, 2) := by decide +kernel
theorem dX6_sorting_160 : decode cX6_sorting 160 = .ok (.ifCond .eq 8, 3) := by decide +kernel
theorem dX6_sorting_163 : decode cX6_sorting 163 = .ok (.iload 5, 2) := by decide +kernel
theorem dX6_sorting_165 : decode cX6_sorting 165 = .ok (.goto 4, 3) := by decide +kernel
theorem dX6_sorting_168 : decode cX6_sorting 168 = .ok (.iload_n 3, 1) := by decide +kernel
theorem dX6_sorting_169 : decode cX6_sorting 169 = .ok (.istore_n 3, 1) := by decide +kernel
theorem dX6_sorting_170 : decode cX6_sorting 170 = .ok (.iload 7, 2) := by decide +kernel
theorem dX6_sorting_172 : decode cX6_sorting 172 = .ok (.ifCond .eq 8, 3) := by decide +kernel
theorem dX6_sorting_175 : decode cX6_sorting 175 = .ok (.iload 6, 2) := by decide +kernel
theorem dX6_sorting_177 : decode cX6_sorting 177 = .ok (.goto 5, 3) := by decide +kernel
theorem dX6_sorting_180 : decode cX6_sorting 180 = .ok (.iload 4, 2) := by decide +kernel
theorem dX6_sorting_182 : decode cX6_sorting 182 = .ok (.istore 4, 2) := by decide +kernel
theorem dX6_sorting_184 : decode cX6_sorting 184 = .ok (.iinc 5 1, 3) := by decide +kernel
theorem dX6_sorting_187 : decode cX6_sorting 187 = .ok (.goto (-150), 3) := by decide +kernel
theorem dX6_sorting_190 : decode cX6_sorting 190 = .ok (.iload_n 1, 1) := by decide +kernel
theorem dX6_sorting_191 : decode cX6_sorting 191 = .ok (.ifCond .ne 8, 3) := by decide +kernel
theorem dX6_sorting_194 : decode cX6_sorting 194 = .ok (.iload 4, 2) := by decide +kernel
theorem dX6_sorting_196 : decode cX6_sorting 196 = .ok (.goto 4, 3) := by decide +kernel
theorem dX6_sorting_199 : decode cX6_sorting 199 = .ok (.iload_n 3, 1) := by decide +kernel
theorem dX6_sorting_200 : decode cX6_sorting 200 = .ok (.ireturn, 1) := by decide +kernel
theorem dX6_taken_0 : decode cX6_taken 0 = .ok (.aload_n 0, 1) := by decide +kernel
theorem dX6_taken_1 : decode cX6_taken 1 = .ok (.invokevirtual 133, 3) := by decide +kernel
theorem dX6_taken_4 : decode cX6_taken 4 = .ok (.ifCond .ne 6, 3) := by decide +kernel
theorem dX6_taken_7 : decode cX6_taken 7 = .ok (.ldc 136, 2) := by decide +kernel
theorem dX6_taken_9 : decode cX6_taken 9 = .ok (.ireturn, 1) := by decide +kernel
theorem dX6_taken_10 : decode cX6_taken 10 = .ok (.iload_n 1, 1) := by decide +kernel
theorem dX6_taken_11 : decode cX6_taken 11 = .ok (.iconst 0, 1) := by decide +kernel
theorem dX6_taken_12 : decode cX6_taken 12 = .ok (.iconst 1, 1) := by decide +kernel
theorem dX6_taken_13 : decode cX6_taken 13 = .ok (.invokestatic 50, 3) := by decide +kernel
theorem dX6_taken_16 : decode cX6_taken 16 = .ok (.ifCond .ne 6, 3) := by decide +kernel
theorem dX6_taken_19 : decode cX6_taken 19 = .ok (.ldc 65, 2) := by decide +kernel
theorem dX6_taken_21 : decode cX6_taken 21 = .ok (.ireturn, 1) := by decide +kernel
theorem dX6_taken_22 : decode cX6_taken 22 = .ok (.aload_n 0, 1) := by decide +kernel
theorem dX6_taken_23 : decode cX6_taken 23 = .ok (.invokevirtual 151, 3) := by decide +kernel
theorem dX6_taken_26 : decode cX6_taken 26 = .ok (.aload_n 0, 1) := by decide +kernel
theorem dX6_taken_27 : decode cX6_taken 27 = .ok (.invokevirtual 155, 3) := by decide +kernel
theorem dX6_taken_30 : decode cX6_taken 30 = .ok (.istore_n 2, 1) := by decide +kernel
theorem dX6_taken_31 : decode cX6_taken 31 = .ok (.ldc 154, 2) := by decide +kernel
theorem dX6_taken_33 : decode cX6_taken 33 = .ok (.istore_n 3, 1) := by decide +kernel
theorem dX6_taken_34 : decode cX6_taken 34 = .ok (.iconst 0, 1) := by decide +kernel
theorem dX6_taken_35 : decode cX6_taken 35 = .ok (.istore 4, 2) := by decide +kernel
theorem dX6_taken_37 : decode cX6_taken 37 = .ok (.iload 4, 2) := by decide +kernel
theorem dX6_taken_39 : decode cX6_taken 39 = .ok (.aload_n 0, 1) := by decide +kernel
theorem dX6_taken_40 : decode cX6_taken 40 = .ok (.getfield 25, 3) := by decide +kernel
theorem dX6_taken_43 : decode cX6_taken 43 = .ok (.bipush 17, 2) := by decide +kernel
theorem dX6_taken_45 : decode cX6_taken 45 = .ok (.iaload, 1) := by decide +kernel
theorem dX6_taken_46 : decode cX6_taken 46 = .ok (.if_icmp .ge 55, 3) := by decide +kernel
theorem dX6_taken_49 : decode cX6_taken 49 = .ok (.aload_n 0, 1) := by decide +kernel
theorem dX6_taken_50 : decode cX6_taken 50 = .ok (.invokevirtual 151, 3) := by decide +kernel
theorem dX6_taken_53 : decode cX6_taken 53 = .ok (.aload_n 0, 1) := by decide +kernel
theorem dX6_taken_54 : decode cX6_taken 54 = .ok (.getfield 41, 3) := by decide +kernel
theorem dX6_taken_57 : decode cX6_taken 57 = .ok (.iconst 2, 1) := by decide +kernel
theorem dX6_taken_58 : decode cX6_taken 58 = .ok (.iload 4, 2) := by decide +kernel
theorem dX6_taken_60 : decode cX6_taken 60 = .ok (.iadd, 1) := by decide +kernel
theorem dX6_taken_61 : decode cX6_taken 61 = .ok (.bipush 99, 2) := by decide +kernel
theorem dX6_taken_63 : decode cX6_taken 63 = .ok (.iastore, 1) := by decide +kernel
theorem dX6_taken_64 : decode cX6_taken 64 = .ok (.aload_n 0, 1) := by decide +kernel
theorem dX6_taken_65 : decode cX6_taken 65 = .ok (.invokevirtual 155, 3) := by decide +kernel
theorem dX6_taken_68 : decode cX6_taken 68 = .ok (.istore 5, 2) := by decide +kernel
theorem dX6_taken_70 : decode cX6_taken 70 = .ok (.iload 5, 2) := by decide +kernel
theorem dX6_taken_72 : decode cX6_taken 72 = .ok (.ldc 154, 2) := by decide +kernel
theorem dX6_taken_74 : decode cX6_taken 74 = .ok (.if_icmp .eq 21, 3) := by decide +kernel
theorem dX6_taken_77 : decode cX6_taken 77 = .ok (.iload_n 2, 1) := by decide +kernel
theorem dX6_taken_78 : decode cX6_taken 78 = .ok (.ldc 154, 2) := by decide +kernel
theorem dX6_taken_80 : decode cX6_taken 80 = .ok (.if_icmp .eq 9, 3) := by decide +kernel
theorem dX6_taken_83 : decode cX6_taken 83 = .ok (.iload 5, 2) := by decide +kernel
theorem dX6_taken_85 : decode cX6_taken 85 = .ok (.iload_n 2, 1) := by decide +kernel
theorem dX6_taken_86 : decode cX6_taken 86 = .ok (.if_icmp .ge 9, 3) := by decide +kernel
theorem dX6_taken_89 : decode cX6_taken 89 = .ok (.iload 4, 2) := by decide +kernel
theorem dX6_taken_91 : decode cX6_taken 91 = .ok (.istore_n 3, 1) := by decide +kernel
theorem dX6_taken_92 : decode cX6_taken 92 = .ok (.iload 5, 2) := by decide +kernel
theorem dX6_taken_94 : decode cX6_taken 94 = .ok (.istore_n 2, 1) := by decide +kernel
theorem dX6_taken_95 : decode cX6_taken 95 = .ok (.iinc 4 1, 3) := by decide +kernel
theorem dX6_taken_98 : decode cX6_taken 98 = .ok (.goto (-61), 3) := by decide +kernel
theorem dX6_taken_101 : decode cX6_taken 101 = .ok (.iload_n 3, 1) := by decide +kernel
theorem dX6_taken_102 : decode cX6_taken 102 = .ok (.ldc 154, 2) := by decide +kernel
theorem dX6_taken_104 : decode cX6_taken 104 = .ok (.if_icmp .eq 7, 3) := by decide +kernel
theorem dX6_taken_107 : decode cX6_taken 107 = .ok (.iload_n 1, 1) := by decide +kernel
theorem dX6_taken_108 : decode cX6_taken 108 = .ok (.ifCond .ne 7, 3) := by decide +kernel
theorem dX6_taken_111 : decode cX6_taken 111 = .ok (.iload_n 3, 1) := by decide +kernel
theorem dX6_taken_112 : decode cX6_taken 112 = .ok (.goto 4, 3) := by decide +kernel
theorem dX6_taken_115 : decode cX6_taken 115 = .ok (.iload_n 2, 1) := by decide +kernel
theorem dX6_taken_116 : decode cX6_taken 116 = .ok (.ireturn, 1) := by decide +kernel
theorem dX6_pace_0 : decode cX6_pace 0 = .ok (.aload_n 0, 1) := by decide +kernel
theorem dX6_pace_1 : decode cX6_pace 1 = .ok (.iload_n 1, 1) := by decide +kernel
theorem dX6_pace_2 : decode cX6_pace 2 = .ok (.invokevirtual 148, 3) := by decide +kernel
theorem dX6_pace_5 : decode cX6_pace 5 = .ok (.ifCond .eq 18, 3) := by decide +kernel
theorem dX6_pace_8 : decode cX6_pace 8 = .ok (.iload_n 2, 1) := by decide +kernel
theorem dX6_pace_9 : decode cX6_pace 9 = .ok (.iconst 1, 1) := by decide +kernel
theorem dX6_pace_10 : decode cX6_pace 10 = .ok (.bipush 6, 2) := by decide +kernel
theorem dX6_pace_12 : decode cX6_pace 12 = .ok (.invokestatic 50, 3) := by decide +kernel
theorem dX6_pace_15 : decode cX6_pace 15 = .ok (.ifCond .eq 8, 3) := by decide +kernel
theorem dX6_pace_18 : decode cX6_pace 18 = .ok (.iload_n 3, 1) := by decide +kernel
theorem dX6_pace_19 : decode cX6_pace 19 = .ok (.iconst (-1), 1) := by decide +kernel
theorem dX6_pace_20 : decode cX6_pace 20 = .ok (.if_icmp .ge 6, 3) := by decide +kernel
theorem dX6_pace_23 : decode cX6_pace 23 = .ok (.ldc 65, 2) := by decide +kernel
theorem dX6_pace_25 : decode cX6_pace 25 = .ok (.ireturn, 1) := by decide +kernel
theorem dX6_pace_26 : decode cX6_pace 26 = .ok (.iconst 1, 1) := by decide +kernel
theorem dX6_pace_27 : decode cX6_pace 27 = .ok (.istore 4, 2) := by decide +kernel
theorem dX6_pace_29 : decode cX6_pace 29 = .ok (.iconst 0, 1) := by decide +kernel
theorem dX6_pace_30 : decode cX6_pace 30 = .ok (.istore 5, 2) := by decide +kernel
theorem dX6_pace_32 : decode cX6_pace 32 = .ok (.iload 5, 2) := by decide +kernel
theorem dX6_pace_34 : decode cX6_pace 34 = .ok (.iload_n 2, 1) := by decide +kernel
theorem dX6_pace_35 : decode cX6_pace 35 = .ok (.if_icmp .ge 15, 3) := by decide +kernel
theorem dX6_pace_38 : decode cX6_pace 38 = .ok (.iload 4, 2) := by decide +kernel
theorem dX6_pace_40 : decode cX6_pace 40 = .ok (.iconst 3, 1) := by decide +kernel
theorem dX6_pace_41 : decode cX6_pace 41 = .ok (.imul, 1) := by decide +kernel
theorem dX6_pace_42 : decode cX6_pace 42 = .ok (.istore 4, 2) := by decide +kernel
theorem dX6_pace_44 : decode cX6_pace 44 = .ok (.iinc 5 1, 3) := by decide +kernel
theorem dX6_pace_47 : decode cX6_pace 47 = .ok (.goto (-15), 3) := by decide +kernel
theorem dX6_pace_50 : decode cX6_pace 50 = .ok (.ldc 154, 2) := by decide +kernel
theorem dX6_pace_52 : decode cX6_pace 52 = .ok (.istore 5, 2) := by decide +kernel
theorem dX6_pace_54 : decode cX6_pace 54 = .ok (.bipush 99, 2) := by decide +kernel
theorem dX6_pace_56 : decode cX6_pace 56 = .ok (.istore 6, 2) := by decide +kernel
theorem dX6_pace_58 : decode cX6_pace 58 = .ok (.iconst 0, 1) := by decide +kernel
theorem dX6_pace_59 : decode cX6_pace 59 = .ok (.istore 7, 2) := by decide +kernel
theorem dX6_pace_61 : decode cX6_pace 61 = .ok (.iload 7, 2) := by decide +kernel
theorem dX6_pace_63 : decode cX6_pace 63 = .ok (.iload 4, 2) := by decide +kernel
theorem dX6_pace_65 : decode cX6_pace 65 = .ok (.if_icmp .ge 128, 3) := by decide +kernel
theorem dX6_pace_68 : decode cX6_pace 68 = .ok (.aload_n 0, 1) := by decide +kernel
theorem dX6_pace_69 : decode cX6_pace 69 = .ok (.invokevirtual 151, 3) := by decide +kernel
theorem dX6_pace_72 : decode cX6_pace 72 = .ok (.iload 4, 2) := by decide +kernel
theorem dX6_pace_74 : decode cX6_pace 74 = .ok (.istore 8, 2) := by decide +kernel
theorem dX6_pace_76 : decode cX6_pace 76 = .ok (.iconst 0, 1) := by decide +kernel
theorem dX6_pace_77 : decode cX6_pace 77 = .ok (.istore 9, 2) := by decide +kernel
theorem dX6_pace_79 : decode cX6_pace 79 = .ok (.iconst 0, 1) := by decide +kernel
theorem dX6_pace_80 : decode cX6_pace 80 = .ok (.istore 10, 2) := by decide +kernel
theorem dX6_pace_82 : decode cX6_pace 82 = .ok (.iload 10, 2) := by decide +kernel
theorem dX6_pace_84 : decode cX6_pace 84 = .ok (.iload_n 2, 1) := by decide +kernel
theorem dX6_pace_85 : decode cX6_pace 85 = .ok (.if_icmp .ge 47, 3) := by decide +kernel
theorem dX6_pace_88 : decode cX6_pace 88 = .ok (.iload 8, 2) := by decide +kernel
theorem dX6_pace_90 : decode cX6_pace 90 = .ok (.iconst 3, 1) := by decide +kernel
theorem dX6_pace_91 : decode cX6_pace 91 = .ok (.idiv, 1) := by decide +kernel
theorem dX6_pace_92 : decode cX6_pace 92 = .ok (.istore 8, 2) := by decide +kernel
theorem dX6_pace_94 : decode cX6_pace 94 = .ok (.aload_n 0, 1) := by decide +kernel
theorem dX6_pace_95 : decode cX6_pace 95 = .ok (.getfield 41, 3) := by decide +kernel
theorem dX6_pace_98 : decode cX6_pace 98 = .ok (.iconst 1, 1) := by decide +kernel
theorem dX6_pace_99 : decode cX6_pace 99 = .ok (.iload 7, 2) := by decide +kernel
theorem dX6_pace_101 : decode cX6_pace 101 = .ok (.iload 8, 2) := by decide +kernel
theorem dX6_pace_103 : decode cX6_pace 103 = .ok (.idiv, 1) := by decide +kernel
theorem dX6_pace_104 : decode cX6_pace 104 = .ok (.iconst 3, 1) := by decide +kernel
theorem dX6_pace_105 : decode cX6_pace 105 = .ok (.irem, 1) := by decide +kernel
theorem dX6_pace_106 : decode cX6_pace 106 = .ok (.iastore, 1) := by decide +kernel
theorem dX6_pace_107 : decode cX6_pace 107 = .ok (.iload 9, 2) := by decide +kernel
theorem dX6_pace_109 : decode cX6_pace 109 = .ok (.aload_n 0, 1) := by decide +kernel
theorem dX6_pace_110 : decode cX6_pace 110 = .ok (.getfield 41, 3) := by decide +kernel
theorem dX6_pace_113 : decode cX6_pace 113 = .ok (.iconst 1, 1) := by decide +kernel
theorem dX6_pace_114 : decode cX6_pace 114 = .ok (.iaload, 1) := by decide +kernel
theorem dX6_pace_115 : decode cX6_pace 115 = .ok (.iadd, 1) := by decide +kernel
theorem dX6_pace_116 : decode cX6_pace 116 = .ok (.istore 9, 2) := by decide +kernel
theorem dX6_pace_118 : decode cX6_pace 118 = .ok (.aload_n 0, 1) := by decide +kernel
theorem dX6_pace_119 : decode cX6_pace 119 = .ok (.aload_n 0, 1) := by decide +kernel
theorem dX6_pace_120 : decode cX6_pace 120 = .ok (.getfield 41, 3) := by decide +kernel
theorem dX6_pace_123 : decode cX6_pace 123 = .ok (.invokevirtual 140, 3) := by decide +kernel
theorem dX6_pace_126 : decode cX6_pace 126 = .ok (.iinc 10 1, 3) := by decide +kernel
theorem dX6_pace_129 : decode cX6_pace 129 = .ok (.goto (-47), 3) := by decide +kernel
theorem dX6_pace_132 : decode cX6_pace 132 = .ok (.aload_n 0, 1) := by decide +kernel
theorem dX6_pace_133 : decode cX6_pace 133 = .ok (.getfield 41, 3) := by decide +kernel
theorem dX6_pace_136 : decode cX6_pace 136 = .ok (.iconst 2, 1) := by decide +kernel
theorem dX6_pace_137 : decode cX6_pace 137 = .ok (.iload_n 1, 1) := by decide +kernel
theorem dX6_pace_138 : decode cX6_pace 138 = .ok (.iadd, 1) := by decide +kernel
theorem dX6_pace_139 : decode cX6_pace 139 = .ok (.iaload, 1) := by decide +kernel
theorem dX6_pace_140 : decode cX6_pace 140 = .ok (.bipush 99, 2) := by decide +kernel
theorem dX6_pace_142 : decode cX6_pace 142 = .ok (.if_icmp .ne 14, 3) := by decide +kernel
theorem dX6_pace_145 : decode cX6_pace 145 = .ok (.iload 9, 2) := by decide +kernel
theorem dX6_pace_147 : decode cX6_pace 147 = .ok (.iload 6, 2) := by decide +kernel
theorem dX6_pace_149 : decode cX6_pace 149 = .ok (.if_icmp .ge 7, 3) := by decide +kernel
theorem dX6_pace_152 : decode cX6_pace 152 = .ok (.iconst 1, 1) := by decide +kernel
theorem dX6_pace_153 : decode cX6_pace 153 = .ok (.goto 4, 3) := by decide +kernel
theorem dX6_pace_156 : decode cX6_pace 156 = .ok (.iconst 0, 1) := by decide +kernel
theorem dX6_pace_157 : decode cX6_pace 157 = .ok (.istore 10, 2) := by decide +kernel
theorem dX6_pace_159 : decode cX6_pace 159 = .ok (.iload 10, 2) := by decide +kernel
theorem dX6_pace_161 : decode cX6_pace 161 = .ok (.ifCond .eq 8, 3) := by decide +kernel
theorem dX6_pace_164 : decode cX6_pace 164 = .ok (.iload 7, 2) := by decide +kernel
theorem dX6_pace_166 : decode cX6_pace 166 = .ok (.goto 5, 3) := by decide +kernel
theorem dX6_pace_169 : decode cX6_pace 169 = .ok (.iload 5, 2) := by decide +kernel
theorem dX6_pace_171 : decode cX6_pace 171 = .ok (.istore 5, 2) := by decide +kernel
theorem dX6_pace_173 : decode cX6_pace 173 = .ok (.iload 10, 2) := by decide +kernel
theorem dX6_pace_175 : decode cX6_pace 175 = .ok (.ifCond .eq 8, 3) := by decide +kernel
theorem dX6_pace_178 : decode cX6_pace 178 = .ok (.iload 9, 2) := by decide +kernel
theorem dX6_pace_180 : decode cX6_pace 180 = .ok (.goto 5, 3) := by decide +kernel
theorem dX6_pace_183 : decode cX6_pace 183 = .ok (.iload 6, 2) := by decide +kernel
theorem dX6_pace_185 : decode cX6_pace 185 = .ok (.istore 6, 2) := by decide +kernel
theorem dX6_pace_187 : decode cX6_pace 187 = .ok (.iinc 7 1, 3) := by decide +kernel
theorem dX6_pace_190 : decode cX6_pace 190 = .ok (.goto (-129), 3) := by decide +kernel
theorem dX6_pace_193 : decode cX6_pace 193 = .ok (.iload 5, 2) := by decide +kernel
theorem dX6_pace_195 : decode cX6_pace 195 = .ok (.ldc 154, 2) := by decide +kernel
theorem dX6_pace_197 : decode cX6_pace 197 = .ok (.if_icmp .eq 8, 3) := by decide +kernel
theorem dX6_pace_200 : decode cX6_pace 200 = .ok (.iload_n 3, 1) := by decide +kernel
theorem dX6_pace_201 : decode cX6_pace 201 = .ok (.iload_n 2, 1) := by decide +kernel
theorem dX6_pace_202 : decode cX6_pace 202 = .ok (.if_icmp .lt 6, 3) := by decide +kernel
theorem dX6_pace_205 : decode cX6_pace 205 = .ok (.ldc 154, 2) := by decide +kernel
theorem dX6_pace_207 : decode cX6_pace 207 = .ok (.ireturn, 1) := by decide +kernel
theorem dX6_pace_208 : decode cX6_pace 208 = .ok (.iload_n 2, 1) := by decide +kernel
theorem dX6_pace_209 : decode cX6_pace 209 = .ok (.iconst 1, 1) := by decide +kernel
theorem dX6_pace_210 : decode cX6_pace 210 = .ok (.isub, 1) := by decide +kernel
theorem dX6_pace_211 : decode cX6_pace 211 = .ok (.istore 7, 2) := by decide +kernel
theorem dX6_pace_213 : decode cX6_pace 213 = .ok (.iload 7, 2) := by decide +kernel
theorem dX6_pace_215 : decode cX6_pace 215 = .ok (.iload_n 3, 1) := by decide +kernel
theorem dX6_pace_216 : decode cX6_pace 216 = .ok (.if_icmp .le 19, 3) := by decide +kernel
theorem dX6_pace_219 : decode cX6_pace 219 = .ok (.iload_n 3, 1) := by decide +kernel
theorem dX6_pace_220 : decode cX6_pace 220 = .ok (.ifCond .lt 15, 3) := by decide +kernel
theorem dX6_pace_223 : decode cX6_pace 223 = .ok (.iload 5, 2) := by decide +kernel
theorem dX6_pace_225 : decode cX6_pace 225 = .ok (.iconst 3, 1) := by decide +kernel
theorem dX6_pace_226 : decode cX6_pace 226 = .ok (.idiv, 1) := by decide +kernel
theorem dX6_pace_227 : decode cX6_pace 227 = .ok (.istore 5, 2) := by decide +kernel
theorem dX6_pace_229 : decode cX6_pace 229 = .ok (.iinc 7 (-1), 3) := by decide +kernel
theorem dX6_pace_232 : decode cX6_pace 232 = .ok (.goto (-19), 3) := by decide +kernel
theorem dX6_pace_235 : decode cX6_pace 235 = .ok (.iload_n 3, 1) := by decide +kernel
theorem dX6_pace_236 : decode cX6_pace 236 = .ok (.iconst (-1), 1) := by decide +kernel
theorem dX6_pace_237 : decode cX6_pace 237 = .ok (.if_icmp .ne 8, 3) := by decide +kernel
theorem dX6_pace_240 : decode cX6_pace 240 = .ok (.iload 6, 2) := by decide +kernel
theorem dX6_pace_242 : decode cX6_pace 242 = .ok (.goto 7, 3) := by decide +kernel
theorem dX6_pace_245 : decode cX6_pace 245 = .ok (.iload 5, 2) := by decide +kernel
theorem dX6_pace_247 : decode cX6_pace 247 = .ok (.iconst 3, 1) := by decide +kernel
theorem dX6_pace_248 : decode cX6_pace 248 = .ok (.irem, 1) := by decide +kernel
theorem dX6_pace_249 : decode cX6_pace 249 = .ok (.ireturn, 1) := by decide +kernel
theorem dX6_isSo_0 : decode cX6_isSo 0 = .ok (.iconst 1, 1) := by decide +kernel
theorem dX6_isSo_1 : decode cX6_isSo 1 = .ok (.istore 4, 2) := by decide +kernel
theorem dX6_isSo_3 : decode cX6_isSo 3 = .ok (.iconst 0, 1) := by decide +kernel
theorem dX6_isSo_4 : decode cX6_isSo 4 = .ok (.istore 5, 2) := by decide +kernel
theorem dX6_isSo_6 : decode cX6_isSo 6 = .ok (.iload 5, 2) := by decide +kernel
theorem dX6_isSo_8 : decode cX6_isSo 8 = .ok (.iload_n 3, 1) := by decide +kernel
theorem dX6_isSo_9 : decode cX6_isSo 9 = .ok (.if_icmp .ge 49, 3) := by decide +kernel
theorem dX6_isSo_12 : decode cX6_isSo 12 = .ok (.aload_n 0, 1) := by decide +kernel
theorem dX6_isSo_13 : decode cX6_isSo 13 = .ok (.aload_n 0, 1) := by decide +kernel
theorem dX6_isSo_14 : decode cX6_isSo 14 = .ok (.getfield 41, 3) := by decide +kernel
theorem dX6_isSo_17 : decode cX6_isSo 17 = .ok (.invokevirtual 140, 3) := by decide +kernel
theorem dX6_isSo_20 : decode cX6_isSo 20 = .ok (.iload 4, 2) := by decide +kernel
theorem dX6_isSo_22 : decode cX6_isSo 22 = .ok (.ifCond .eq 27, 3) := by decide +kernel
theorem dX6_isSo_25 : decode cX6_isSo 25 = .ok (.aload_n 0, 1) := by decide +kernel
theorem dX6_isSo_26 : decode cX6_isSo 26 = .ok (.getfield 41, 3) := by decide +kernel
theorem dX6_isSo_29 : decode cX6_isSo 29 = .ok (.iconst 2, 1) := by decide +kernel
theorem dX6_isSo_30 : decode cX6_isSo 30 = .ok (.iload_n 1, 1) := by decide +kernel
theorem dX6_isSo_31 : decode cX6_isSo 31 = .ok (.iadd, 1) := by decide +kernel
theorem dX6_isSo_32 : decode cX6_isSo 32 = .ok (.iaload, 1) := by decide +kernel
theorem dX6_isSo_33 : decode cX6_isSo 33 = .ok (.aload_n 0, 1) := by decide +kernel
theorem dX6_isSo_34 : decode cX6_isSo 34 = .ok (.getfield 16, 3) := by decide +kernel
theorem dX6_isSo_37 : decode cX6_isSo 37 = .ok (.iload_n 2, 1) := by decide +kernel
theorem dX6_isSo_38 : decode cX6_isSo 38 = .ok (.iload 5, 2) := by decide +kernel
theorem dX6_isSo_40 : decode cX6_isSo 40 = .ok (.iadd, 1) := by decide +kernel
theorem dX6_isSo_41 : decode cX6_isSo 41 = .ok (.iaload, 1) := by decide +kernel
theorem dX6_isSo_42 : decode cX6_isSo 42 = .ok (.if_icmp .ne 7, 3) := by decide +kernel
theorem dX6_isSo_45 : decode cX6_isSo 45 = .ok (.iconst 1, 1) := by decide +kernel
theorem dX6_isSo_46 : decode cX6_isSo 46 = .ok (.goto 4, 3) := by decide +kernel
theorem dX6_isSo_49 : decode cX6_isSo 49 = .ok (.iconst 0, 1) := by decide +kernel
theorem dX6_isSo_50 : decode cX6_isSo 50 = .ok (.istore 4, 2) := by decide +kernel
theorem dX6_isSo_52 : decode cX6_isSo 52 = .ok (.iinc 5 1, 3) := by decide +kernel
theorem dX6_isSo_55 : decode cX6_isSo 55 = .ok (.goto (-49), 3) := by decide +kernel
theorem dX6_isSo_58 : decode cX6_isSo 58 = .ok (.iload 4, 2) := by decide +kernel
theorem dX6_isSo_60 : decode cX6_isSo 60 = .ok (.ireturn, 1) := by decide +kernel
theorem dX6_fits_0 : decode cX6_fits 0 = .ok (.aload_n 0, 1) := by decide +kernel
theorem dX6_fits_1 : decode cX6_fits 1 = .ok (.iload_n 1, 1) := by decide +kernel
theorem dX6_fits_2 : decode cX6_fits 2 = .ok (.invokevirtual 148, 3) := by decide +kernel
theorem dX6_fits_5 : decode cX6_fits 5 = .ok (.ifCond .eq 31, 3) := by decide +kernel
theorem dX6_fits_8 : decode cX6_fits 8 = .ok (.iload_n 2, 1) := by decide +kernel
theorem dX6_fits_9 : decode cX6_fits 9 = .ok (.invokestatic 61, 3) := by decide +kernel
theorem dX6_fits_12 : decode cX6_fits 12 = .ok (.ifCond .eq 24, 3) := by decide +kernel
theorem dX6_fits_15 : decode cX6_fits 15 = .ok (.iload 4, 2) := by decide +kernel
theorem dX6_fits_17 : decode cX6_fits 17 = .ok (.iconst 1, 1) := by decide +kernel
theorem dX6_fits_18 : decode cX6_fits 18 = .ok (.bipush 12, 2) := by decide +kernel
theorem dX6_fits_20 : decode cX6_fits 20 = .ok (.invokestatic 50, 3) := by decide +kernel
theorem dX6_fits_23 : decode cX6_fits 23 = .ok (.ifCond .eq 13, 3) := by decide +kernel
theorem dX6_fits_26 : decode cX6_fits 26 = .ok (.iload 5, 2) := by decide +kernel
theorem dX6_fits_28 : decode cX6_fits 28 = .ok (.iconst 0, 1) := by decide +kernel
theorem dX6_fits_29 : decode cX6_fits 29 = .ok (.iconst 3, 1) := by decide +kernel
theorem dX6_fits_30 : decode cX6_fits 30 = .ok (.invokestatic 50, 3) := by decide +kernel
theorem dX6_fits_33 : decode cX6_fits 33 = .ok (.ifCond .ne 6, 3) := by decide +kernel
theorem dX6_fits_36 : decode cX6_fits 36 = .ok (.ldc 65, 2) := by decide +kernel
theorem dX6_fits_38 : decode cX6_fits 38 = .ok (.ireturn, 1) := by decide +kernel
theorem dX6_fits_39 : decode cX6_fits 39 = .ok (.aload_n 0, 1) := by decide +kernel
theorem dX6_fits_40 : decode cX6_fits 40 = .ok (.getfield 7, 3) := by decide +kernel
theorem dX6_fits_43 : decode cX6_fits 43 = .ok (.iload_n 2, 1) := by decide +kernel
theorem dX6_fits_44 : decode cX6_fits 44 = .ok (.iaload, 1) := by decide +kernel
theorem dX6_fits_45 : decode cX6_fits 45 = .ok (.ifCond .ge 10, 3) := by decide +kernel
theorem dX6_fits_48 : decode cX6_fits 48 = .ok (.aload_n 0, 1) := by decide +kernel
theorem dX6_fits_49 : decode cX6_fits 49 = .ok (.ldc 55, 2) := by decide +kernel
theorem dX6_fits_51 : decode cX6_fits 51 = .ok (.invokevirtual 67, 3) := by decide +kernel
theorem dX6_fits_54 : decode cX6_fits 54 = .ok (.ireturn, 1) := by decide +kernel
theorem dX6_fits_55 : decode cX6_fits 55 = .ok (.aload_n 0, 1) := by decide +kernel
theorem dX6_fits_56 : decode cX6_fits 56 = .ok (.iload_n 2, 1) := by decide +kernel
theorem dX6_fits_57 : decode cX6_fits 57 = .ok (.iload_n 3, 1) := by decide +kernel
theorem dX6_fits_58 : decode cX6_fits 58 = .ok (.iload 4, 2) := by decide +kernel
theorem dX6_fits_60 : decode cX6_fits 60 = .ok (.invokevirtual 71, 3) := by decide +kernel
theorem dX6_fits_63 : decode cX6_fits 63 = .ok (.ifCond .ne 10, 3) := by decide +kernel
theorem dX6_fits_66 : decode cX6_fits 66 = .ok (.aload_n 0, 1) := by decide +kernel
theorem dX6_fits_67 : decode cX6_fits 67 = .ok (.ldc 74, 2) := by decide +kernel
theorem dX6_fits_69 : decode cX6_fits 69 = .ok (.invokevirtual 67, 3) := by decide +kernel
theorem dX6_fits_72 : decode cX6_fits 72 = .ok (.ireturn, 1) := by decide +kernel
theorem dX6_fits_73 : decode cX6_fits 73 = .ok (.iconst 0, 1) := by decide +kernel
theorem dX6_fits_74 : decode cX6_fits 74 = .ok (.istore 6, 2) := by decide +kernel
theorem dX6_fits_76 : decode cX6_fits 76 = .ok (.bipush 40, 2) := by decide +kernel
theorem dX6_fits_78 : decode cX6_fits 78 = .ok (.iload_n 2, 1) := by decide +kernel
theorem dX6_fits_79 : decode cX6_fits 79 = .ok (.imul, 1) := by decide +kernel
theorem dX6_fits_80 : decode cX6_fits 80 = .ok (.iload_n 3, 1) := by decide +kernel
theorem dX6_fits_81 : decode cX6_fits 81 = .ok (.iadd, 1) := by decide +kernel
theorem dX6_fits_82 : decode cX6_fits 82 = .ok (.istore 7, 2) := by decide +kernel
theorem dX6_fits_84 : decode cX6_fits 84 = .ok (.iload 5, 2) := by decide +kernel
theorem dX6_fits_86 : decode cX6_fits 86 = .ok (.ifCond .ne 7, 3) := by decide +kernel
theorem dX6_fits_89 : decode cX6_fits 89 = .ok (.iconst 1, 1) := by decide +kernel
theorem dX6_fits_90 : decode cX6_fits 90 = .ok (.goto 4, 3) := by decide +kernel
theorem dX6_fits_93 : decode cX6_fits 93 = .ok (.iconst 0, 1) := by decide +kernel
theorem dX6_fits_94 : decode cX6_fits 94 = .ok (.istore 8, 2) := by decide +kernel
theorem dX6_fits_96 : decode cX6_fits 96 = .ok (.iload 5, 2) := by decide +kernel
theorem dX6_fits_98 : decode cX6_fits 98 = .ok (.ifCond .ne 7, 3) := by decide +kernel
theorem dX6_fits_101 : decode cX6_fits 101 = .ok (.iconst 5, 1) := by decide +kernel
theorem dX6_fits_102 : decode cX6_fits 102 = .ok (.goto 32, 3) := by decide +kernel
theorem dX6_fits_105 : decode cX6_fits 105 = .ok (.iload 5, 2) := by decide +kernel
theorem dX6_fits_107 : decode cX6_fits 107 = .ok (.iconst 1, 1) := by decide +kernel
theorem dX6_fits_108 : decode cX6_fits 108 = .ok (.if_icmp .ne 7, 3) := by decide +kernel
theorem dX6_fits_111 : decode cX6_fits 111 = .ok (.iconst 1, 1) := by decide +kernel
theorem dX6_fits_112 : decode cX6_fits 112 = .ok (.goto 22, 3) := by decide +kernel
theorem dX6_fits_115 : decode cX6_fits 115 = .ok (.iload 5, 2) := by decide +kernel
theorem dX6_fits_117 : decode cX6_fits 117 = .ok (.iconst 2, 1) := by decide +kernel
theorem dX6_fits_118 : decode cX6_fits 118 = .ok (.if_icmp .ne 7, 3) := by decide +kernel
theorem dX6_fits_121 : decode cX6_fits 121 = .ok (.iconst 2, 1) := by decide +kernel
theorem dX6_fits_122 : decode cX6_fits 122 = .ok (.goto 12, 3) := by decide +kernel
theorem dX6_fits_125 : decode cX6_fits 125 = .ok (.aload_n 0, 1) := by decide +kernel
theorem dX6_fits_126 : decode cX6_fits 126 = .ok (.getfield 25, 3) := by decide +kernel
theorem dX6_fits_129 : decode cX6_fits 129 = .ok (.bipush 16, 2) := by decide +kernel
theorem dX6_fits_131 : decode cX6_fits 131 = .ok (.iaload, 1) := by decide +kernel
theorem dX6_fits_132 : decode cX6_fits 132 = .ok (.iconst 1, 1) := by decide +kernel
theorem dX6_fits_133 : decode cX6_fits 133 = .ok (.isub, 1) := by decide +kernel
theorem dX6_fits_134 : decode cX6_fits 134 = .ok (.istore 9, 2) := by decide +kernel
theorem dX6_fits_136 : decode cX6_fits 136 = .ok (.aload_n 0, 1) := by decide +kernel
theorem dX6_fits_137 : decode cX6_fits 137 = .ok (.getfield 25, 3) := by decide +kernel
theorem dX6_fits_140 : decode cX6_fits 140 = .ok (.iconst 2, 1) := by decide +kernel
theorem dX6_fits_141 : decode cX6_fits 141 = .ok (.iload_n 1, 1) := by decide +kernel
theorem dX6_fits_142 : decode cX6_fits 142 = .ok (.iadd, 1) := by decide +kernel
theorem dX6_fits_143 : decode cX6_fits 143 = .ok (.iaload, 1) := by decide +kernel
theorem dX6_fits_144 : decode cX6_fits 144 = .ok (.invokestatic 130, 3) := by decide +kernel
theorem dX6_fits_147 : decode cX6_fits 147 = .ok (.istore 10, 2) := by decide +kernel
theorem dX6_fits_149 : decode cX6_fits 149 = .ok (.iload 8, 2) := by decide +kernel
theorem dX6_fits_151 : decode cX6_fits 151 = .ok (.istore 11, 2) := by decide +kernel
theorem dX6_fits_153 : decode cX6_fits 153 = .ok (.iload 11, 2) := by decide +kernel
theorem dX6_fits_155 : decode cX6_fits 155 = .ok (.iload 9, 2) := by decide +kernel
theorem dX6_fits_157 : decode cX6_fits 157 = .ok (.if_icmp .gt 132, 3) := by decide +kernel
theorem dX6_fits_160 : decode cX6_fits 160 = .ok (.aload_n 0, 1) := by decide +kernel
theorem dX6_fits_161 : decode cX6_fits 161 = .ok (.invokevirtual 151, 3) := by decide +kernel
theorem dX6_fits_164 : decode cX6_fits 164 = .ok (.iload 5, 2) := by decide +kernel
theorem dX6_fits_166 : decode cX6_fits 166 = .ok (.ifCond .ne 10, 3) := by decide +kernel
theorem dX6_fits_169 : decode cX6_fits 169 = .ok (.bipush 18, 2) := by decide +kernel
theorem dX6_fits_171 : decode cX6_fits 171 = .ok (.iload_n 1, 1) := by decide +kernel
theorem dX6_fits_172 : decode cX6_fits 172 = .ok (.iadd, 1) := by decide +kernel
theorem dX6_fits_173 : decode cX6_fits 173 = .ok (.goto 29, 3) := by decide +kernel
theorem dX6_fits_176 : decode cX6_fits 176 = .ok (.iload 5, 2) := by decide +kernel
theorem dX6_fits_178 : decode cX6_fits 178 = .ok (.iconst 1, 1) := by decide +kernel
theorem dX6_fits_179 : decode cX6_fits 179 = .ok (.if_icmp .ne 10, 3) := by decide +kernel
theorem dX6_fits_182 : decode cX6_fits 182 = .ok (.bipush 9, 2) := by decide +kernel
theorem dX6_fits_184 : decode cX6_fits 184 = .ok (.iload_n 1, 1) := by decide +kernel
theorem dX6_fits_185 : decode cX6_fits 185 = .ok (.iadd, 1) := by decide +kernel
theorem dX6_fits_186 : decode cX6_fits 186 = .ok (.goto 16, 3) := by decide +kernel
theorem dX6_fits_189 : decode cX6_fits 189 = .ok (.iload 5, 2) := by decide +kernel
theorem dX6_fits_191 : decode cX6_fits 191 = .ok (.iconst 2, 1) := by decide +kernel
theorem dX6_fits_192 : decode cX6_fits 192 = .ok (.if_icmp .ne 7, 3) := by decide +kernel
theorem dX6_fits_195 : decode cX6_fits 195 = .ok (.iconst 1, 1) := by decide +kernel
theorem dX6_fits_196 : decode cX6_fits 196 = .ok (.goto 6, 3) := by decide +kernel
theorem dX6_fits_199 : decode cX6_fits 199 = .ok (.iconst 2, 1) := by decide +kernel
theorem dX6_fits_200 : decode cX6_fits 200 = .ok (.iload_n 1, 1) := by decide +kernel
theorem dX6_fits_201 : decode cX6_fits 201 = .ok (.iadd, 1) := by decide +kernel
theorem dX6_fits_202 : decode cX6_fits 202 = .ok (.istore 12, 2) := by decide +kernel
theorem dX6_fits_204 : decode cX6_fits 204 = .ok (.iload 5, 2) := by decide +kernel
theorem dX6_fits_206 : decode cX6_fits 206 = .ok (.iconst 3, 1) := by decide +kernel
theorem dX6_fits_207 : decode cX6_fits 207 = .ok (.if_icmp .lt 30, 3) := by decide +kernel
theorem dX6_fits_210 : decode cX6_fits 210 = .ok (.iload 10, 2) := by decide +kernel
theorem dX6_fits_212 : decode cX6_fits 212 = .ok (.ifCond .eq 29, 3) := by decide +kernel
theorem dX6_fits_215 : decode cX6_fits 215 = .ok (.aload_n 0, 1) := by decide +kernel
theorem dX6_fits_216 : decode cX6_fits 216 = .ok (.getfield 25, 3) := by decide +kernel
theorem dX6_fits_219 : decode cX6_fits 219 = .ok (.iload_n 1, 1) := by decide +kernel
theorem dX6_fits_220 : decode cX6_fits 220 = .ok (.iload 11, 2) := by decide +kernel
theorem dX6_fits_222 : decode cX6_fits 222 = .ok (.aload_n 0, 1) := by decide +kernel
theorem dX6_fits_223 : decode cX6_fits 223 = .ok (.getfield 25, 3) := by decide +kernel
theorem dX6_fits_226 : decode cX6_fits 226 = .ok (.bipush 9, 2) := by decide +kernel
theorem dX6_fits_228 : decode cX6_fits 228 = .ok (.iload_n 1, 1) := by decide +kernel
theorem dX6_fits_229 : decode cX6_fits 229 = .ok (.iadd, 1) := by decide +kernel
theorem dX6_fits_230 : decode cX6_fits 230 = .ok (.iaload, 1) := by decide +kernel
theorem dX6_fits_231 : decode cX6_fits 231 = .ok (.invokestatic 118, 3) := by decide +kernel
theorem dX6_fits_234 : decode cX6_fits 234 = .ok (.ifCond .eq 7, 3) := by decide +kernel
theorem dX6_fits_237 : decode cX6_fits 237 = .ok (.iconst 1, 1) := by decide +kernel
theorem dX6_fits_238 : decode cX6_fits 238 = .ok (.goto 4, 3) := by decide +kernel
theorem dX6_fits_241 : decode cX6_fits 241 = .ok (.iconst 0, 1) := by decide +kernel
theorem dX6_fits_242 : decode cX6_fits 242 = .ok (.istore 13, 2) := by decide +kernel
theorem dX6_fits_244 : decode cX6_fits 244 = .ok (.aload_n 0, 1) := by decide +kernel
theorem dX6_fits_245 : decode cX6_fits 245 = .ok (.getfield 41, 3) := by decide +kernel
theorem dX6_fits_248 : decode cX6_fits 248 = .ok (.iload 12, 2) := by decide +kernel
theorem dX6_fits_250 : decode cX6_fits 250 = .ok (.iload 11, 2) := by decide +kernel
theorem dX6_fits_252 : decode cX6_fits 252 = .ok (.iastore, 1) := by decide +kernel
theorem dX6_fits_253 : decode cX6_fits 253 = .ok (.iload 6, 2) := by decide +kernel
theorem dX6_fits_255 : decode cX6_fits 255 = .ok (.iload 13, 2) := by decide +kernel
theorem dX6_fits_257 : decode cX6_fits 257 = .ok (.ifCond .eq 22, 3) := by decide +kernel
theorem dX6_fits_260 : decode cX6_fits 260 = .ok (.aload_n 0, 1) := by decide +kernel
theorem dX6_fits_261 : decode cX6_fits 261 = .ok (.iload_n 1, 1) := by decide +kernel
theorem dX6_fits_262 : decode cX6_fits 262 = .ok (.iload 7, 2) := by decide +kernel
theorem dX6_fits_264 : decode cX6_fits 264 = .ok (.iload 4, 2) := by decide +kernel
theorem dX6_fits_266 : decode cX6_fits 266 = .ok (.invokevirtual 166, 3) := by decide +kernel
theorem dX6_fits_269 : decode cX6_fits 269 = .ok (.ifCond .eq 10, 3) := by decide +kernel
theorem dX6_fits_272 : decode cX6_fits 272 = .ok (.iconst 1, 1) := by decide +kernel
theorem dX6_fits_273 : decode cX6_fits 273 = .ok (.iload 11, 2) := by decide +kernel
theorem dX6_fits_275 : decode cX6_fits 275 = .ok (.ishl, 1) := by decide +kernel
theorem dX6_fits_276 : decode cX6_fits 276 = .ok (.goto 4, 3) := by decide +kernel
theorem dX6_fits_279 : decode cX6_fits 279 = .ok (.iconst 0, 1) := by decide +kernel
theorem dX6_fits_280 : decode cX6_fits 280 = .ok (.ior, 1) := by decide +kernel
theorem dX6_fits_281 : decode cX6_fits 281 = .ok (.istore 6, 2) := by decide +kernel
theorem dX6_fits_283 : decode cX6_fits 283 = .ok (.iinc 11 1, 3) := by decide +kernel
theorem dX6_fits_286 : decode cX6_fits 286 = .ok (.goto (-133), 3) := by decide +kernel
theorem dX6_fits_289 : decode cX6_fits 289 = .ok (.aload_n 0, 1) := by decide +kernel
theorem dX6_fits_290 : decode cX6_fits 290 = .ok (.iload 6, 2) := by decide +kernel
theorem dX6_fits_292 : decode cX6_fits 292 = .ok (.invokevirtual 67, 3) := by decide +kernel
theorem dX6_fits_295 : decode cX6_fits 295 = .ok (.ireturn, 1) := by decide +kernel
theorem dX6_absent_0 : decode cX6_absent 0 = .ok (.aload_n 0, 1) := by decide +kernel
theorem dX6_absent_1 : decode cX6_absent 1 = .ok (.iload_n 1, 1) := by decide +kernel
theorem dX6_absent_2 : decode cX6_absent 2 = .ok (.invokevirtual 148, 3) := by decide +kernel
theorem dX6_absent_5 : decode cX6_absent 5 = .ok (.ifCond .eq 33, 3) := by decide +kernel
theorem dX6_absent_8 : decode cX6_absent 8 = .ok (.iload_n 2, 1) := by decide +kernel
theorem dX6_absent_9 : decode cX6_absent 9 = .ok (.iconst 0, 1) := by decide +kernel
theorem dX6_absent_10 : decode cX6_absent 10 = .ok (.bipush 60, 2) := by decide +kernel
theorem dX6_absent_12 : decode cX6_absent 12 = .ok (.invokestatic 50, 3) := by decide +kernel
theorem dX6_absent_15 : decode cX6_absent 15 = .ok (.ifCond .eq 23, 3) := by decide +kernel
theorem dX6_absent_18 : decode cX6_absent 18 = .ok (.iload_n 3, 1) := by decide +kernel
theorem dX6_absent_19 : decode cX6_absent 19 = .ok (.iconst 0, 1) := by decide +kernel
theorem dX6_absent_20 : decode cX6_absent 20 = .ok (.bipush 10, 2) := by decide +kernel
theorem dX6_absent_22 : decode cX6_absent 22 = .ok (.invokestatic 50, 3) := by decide +kernel
theorem dX6_absent_25 : decode cX6_absent 25 = .ok (.ifCond .eq 13, 3) := by decide +kernel
theorem dX6_absent_28 : decode cX6_absent 28 = .ok (.iload 4, 2) := by decide +kernel
theorem dX6_absent_30 : decode cX6_absent 30 = .ok (.iconst 0, 1) := by decide +kernel
theorem dX6_absent_31 : decode cX6_absent 31 = .ok (.iconst 1, 1) := by decide +kernel
theorem dX6_absent_32 : decode cX6_absent 32 = .ok (.invokestatic 50, 3) := by decide +kernel
theorem dX6_absent_35 : decode cX6_absent 35 = .ok (.ifCond .ne 6, 3) := by decide +kernel
theorem dX6_absent_38 : decode cX6_absent 38 = .ok (.ldc 65, 2) := by decide +kernel
theorem dX6_absent_40 : decode cX6_absent 40 = .ok (.ireturn, 1) := by decide +kernel
theorem dX6_absent_41 : decode cX6_absent 41 = .ok (.aload_n 0, 1) := by decide +kernel
theorem dX6_absent_42 : decode cX6_absent 42 = .ok (.invokevirtual 159, 3) := by decide +kernel
theorem dX6_absent_45 : decode cX6_absent 45 = .ok (.istore 5, 2) := by decide +kernel
theorem dX6_absent_47 : decode cX6_absent 47 = .ok (.iconst 0, 1) := by decide +kernel
theorem dX6_absent_48 : decode cX6_absent 48 = .ok (.istore 6, 2) := by decide +kernel
theorem dX6_absent_50 : decode cX6_absent 50 = .ok (.iconst 1, 1) := by decide +kernel
theorem dX6_absent_51 : decode cX6_absent 51 = .ok (.istore 7, 2) := by decide +kernel
theorem dX6_absent_53 : decode cX6_absent 53 = .ok (.iconst 0, 1) := by decide +kernel
theorem dX6_absent_54 : decode cX6_absent 54 = .ok (.istore 8, 2) := by decide +kernel
theorem dX6_absent_56 : decode cX6_absent 56 = .ok (.iload 8, 2) := by decide +kernel
theorem dX6_absent_58 : decode cX6_absent 58 = .ok (.iconst 1, 1) := by decide +kernel
theorem dX6_absent_59 : decode cX6_absent 59 = .ok (.aload_n 0, 1) := by decide +kernel
theorem dX6_absent_60 : decode cX6_absent 60 = .ok (.getfield 25, 3) := by decide +kernel
theorem dX6_absent_63 : decode cX6_absent 63 = .ok (.bipush 17, 2) := by decide +kernel
theorem dX6_absent_65 : decode cX6_absent 65 = .ok (.iaload, 1) := by decide +kernel
theorem dX6_absent_66 : decode cX6_absent 66 = .ok (.ishl, 1) := by decide +kernel
theorem dX6_absent_67 : decode cX6_absent 67 = .ok (.if_icmp .ge 152, 3) := by decide +kernel
theorem dX6_absent_70 : decode cX6_absent 70 = .ok (.iload 8, 2) := by decide +kernel
theorem dX6_absent_72 : decode cX6_absent 72 = .ok (.iload 5, 2) := by decide +kernel
theorem dX6_absent_74 : decode cX6_absent 74 = .ok (.iconst (-1), 1) := by decide +kernel
theorem dX6_absent_75 : decode cX6_absent 75 = .ok (.ixor, 1) := by decide +kernel
theorem dX6_absent_76 : decode cX6_absent 76 = .ok (.iand, 1) := by decide +kernel
theorem dX6_absent_77 : decode cX6_absent 77 = .ok (.ifCond .ne 136, 3) := by decide +kernel
theorem dX6_absent_80 : decode cX6_absent 80 = .ok (.aload_n 0, 1) := by decide +kernel
theorem dX6_absent_81 : decode cX6_absent 81 = .ok (.invokevirtual 151, 3) := by decide +kernel
theorem dX6_absent_84 : decode cX6_absent 84 = .ok (.iconst 1, 1) := by decide +kernel
theorem dX6_absent_85 : decode cX6_absent 85 = .ok (.istore 9, 2) := by decide +kernel
theorem dX6_absent_87 : decode cX6_absent 87 = .ok (.iconst 0, 1) := by decide +kernel
theorem dX6_absent_88 : decode cX6_absent 88 = .ok (.istore 10, 2) := by decide +kernel
theorem dX6_absent_90 : decode cX6_absent 90 = .ok (.iload 10, 2) := by decide +kernel
theorem dX6_absent_92 : decode cX6_absent 92 = .ok (.aload_n 0, 1) := by decide +kernel
theorem dX6_absent_93 : decode cX6_absent 93 = .ok (.getfield 25, 3) := by decide +kernel
theorem dX6_absent_96 : decode cX6_absent 96 = .ok (.bipush 17, 2) := by decide +kernel
theorem dX6_absent_98 : decode cX6_absent 98 = .ok (.iaload, 1) := by decide +kernel
theorem dX6_absent_99 : decode cX6_absent 99 = .ok (.if_icmp .ge 67, 3) := by decide +kernel
theorem dX6_absent_102 : decode cX6_absent 102 = .ok (.iload 5, 2) := by decide +kernel
theorem dX6_absent_104 : decode cX6_absent 104 = .ok (.iload 10, 2) := by decide +kernel
theorem dX6_absent_106 : decode cX6_absent 106 = .ok (.invokestatic 162, 3) := by decide +kernel
theorem dX6_absent_109 : decode cX6_absent 109 = .ok (.ifCond .eq 51, 3) := by decide +kernel
theorem dX6_absent_112 : decode cX6_absent 112 = .ok (.iload 9, 2) := by decide +kernel
theorem dX6_absent_114 : decode cX6_absent 114 = .ok (.iload 8, 2) := by decide +kernel
theorem dX6_absent_116 : decode cX6_absent 116 = .ok (.iload 10, 2) := by decide +kernel
theorem dX6_absent_118 : decode cX6_absent 118 = .ok (.invokestatic 162, 3) := by decide +kernel
theorem dX6_absent_121 : decode cX6_absent 121 = .ok (.ifCond .eq 7, 3) := by decide +kernel
theorem dX6_absent_124 : decode cX6_absent 124 = .ok (.iload_n 3, 1) := by decide +kernel
theorem dX6_absent_125 : decode cX6_absent 125 = .ok (.goto 7, 3) := by decide +kernel
theorem dX6_absent_128 : decode cX6_absent 128 = .ok (.bipush 10, 2) := by decide +kernel
theorem dX6_absent_130 : decode cX6_absent 130 = .ok (.iload_n 3, 1) := by decide +kernel
theorem dX6_absent_131 : decode cX6_absent 131 = .ok (.isub, 1) := by decide +kernel
theorem dX6_absent_132 : decode cX6_absent 132 = .ok (.imul, 1) := by decide +kernel
theorem dX6_absent_133 : decode cX6_absent 133 = .ok (.istore 9, 2) := by decide +kernel
theorem dX6_absent_135 : decode cX6_absent 135 = .ok (.aload_n 0, 1) := by decide +kernel
theorem dX6_absent_136 : decode cX6_absent 136 = .ok (.getfield 41, 3) := by decide +kernel
theorem dX6_absent_139 : decode cX6_absent 139 = .ok (.iconst 2, 1) := by decide +kernel
theorem dX6_absent_140 : decode cX6_absent 140 = .ok (.iload 10, 2) := by decide +kernel
theorem dX6_absent_142 : decode cX6_absent 142 = .ok (.iadd, 1) := by decide +kernel
theorem dX6_absent_143 : decode cX6_absent 143 = .ok (.iload 8, 2) := by decide +kernel
theorem dX6_absent_145 : decode cX6_absent 145 = .ok (.iload 10, 2) := by decide +kernel
theorem dX6_absent_147 : decode cX6_absent 147 = .ok (.invokestatic 162, 3) := by decide +kernel
theorem dX6_absent_150 : decode cX6_absent 150 = .ok (.ifCond .eq 8, 3) := by decide +kernel
theorem dX6_absent_153 : decode cX6_absent 153 = .ok (.bipush 99, 2) := by decide +kernel
theorem dX6_absent_155 : decode cX6_absent 155 = .ok (.goto 4, 3) := by decide +kernel
theorem dX6_absent_158 : decode cX6_absent 158 = .ok (.iconst (-1), 1) := by decide +kernel
theorem dX6_absent_159 : decode cX6_absent 159 = .ok (.iastore, 1) := by decide +kernel
theorem dX6_absent_160 : decode cX6_absent 160 = .ok (.iinc 10 1, 3) := by decide +kernel
theorem dX6_absent_163 : decode cX6_absent 163 = .ok (.goto (-73), 3) := by decide +kernel
theorem dX6_absent_166 : decode cX6_absent 166 = .ok (.iconst 0, 1) := by decide +kernel
theorem dX6_absent_167 : decode cX6_absent 167 = .ok (.istore 10, 2) := by decide +kernel
theorem dX6_absent_169 : decode cX6_absent 169 = .ok (.iload 10, 2) := by decide +kernel
theorem dX6_absent_171 : decode cX6_absent 171 = .ok (.iload_n 2, 1) := by decide +kernel
theorem dX6_absent_172 : decode cX6_absent 172 = .ok (.if_icmp .ge 17, 3) := by decide +kernel
theorem dX6_absent_175 : decode cX6_absent 175 = .ok (.aload_n 0, 1) := by decide +kernel
theorem dX6_absent_176 : decode cX6_absent 176 = .ok (.aload_n 0, 1) := by decide +kernel
theorem dX6_absent_177 : decode cX6_absent 177 = .ok (.getfield 41, 3) := by decide +kernel
theorem dX6_absent_180 : decode cX6_absent 180 = .ok (.invokevirtual 140, 3) := by decide +kernel
theorem dX6_absent_183 : decode cX6_absent 183 = .ok (.iinc 10 1, 3) := by decide +kernel
theorem dX6_absent_186 : decode cX6_absent 186 = .ok (.goto (-17), 3) := by decide +kernel
theorem dX6_absent_189 : decode cX6_absent 189 = .ok (.iload 6, 2) := by decide +kernel
theorem dX6_absent_191 : decode cX6_absent 191 = .ok (.aload_n 0, 1) := by decide +kernel
theorem dX6_absent_192 : decode cX6_absent 192 = .ok (.getfield 41, 3) := by decide +kernel
theorem dX6_absent_195 : decode cX6_absent 195 = .ok (.iconst 2, 1) := by decide +kernel
theorem dX6_absent_196 : decode cX6_absent 196 = .ok (.iload_n 1, 1) := by decide +kernel
theorem dX6_absent_197 : decode cX6_absent 197 = .ok (.iadd, 1) := by decide +kernel
theorem dX6_absent_198 : decode cX6_absent 198 = .ok (.iaload, 1) := by decide +kernel
theorem dX6_absent_199 : decode cX6_absent 199 = .ok (.bipush 99, 2) := by decide +kernel
theorem dX6_absent_201 : decode cX6_absent 201 = .ok (.if_icmp .ne 8, 3) := by decide +kernel
theorem dX6_absent_204 : decode cX6_absent 204 = .ok (.iload 9, 2) := by decide +kernel
theorem dX6_absent_206 : decode cX6_absent 206 = .ok (.goto 4, 3) := by decide +kernel
theorem dX6_absent_209 : decode cX6_absent 209 = .ok (.iconst 0, 1) := by decide +kernel
theorem dX6_absent_210 : decode cX6_absent 210 = .ok (.iadd, 1) := by decide +kernel
theorem dX6_absent_211 : decode cX6_absent 211 = .ok (.istore 6, 2) := by decide +kernel
theorem dX6_absent_213 : decode cX6_absent 213 = .ok (.iinc 8 1, 3) := by decide +kernel
theorem dX6_absent_216 : decode cX6_absent 216 = .ok (.goto (-160), 3) := by decide +kernel
theorem dX6_absent_219 : decode cX6_absent 219 = .ok (.iconst 0, 1) := by decide +kernel
theorem dX6_absent_220 : decode cX6_absent 220 = .ok (.istore 8, 2) := by decide +kernel
theorem dX6_absent_222 : decode cX6_absent 222 = .ok (.iload 8, 2) := by decide +kernel
theorem dX6_absent_224 : decode cX6_absent 224 = .ok (.aload_n 0, 1) := by decide +kernel
theorem dX6_absent_225 : decode cX6_absent 225 = .ok (.getfield 25, 3) := by decide +kernel
theorem dX6_absent_228 : decode cX6_absent 228 = .ok (.bipush 17, 2) := by decide +kernel
theorem dX6_absent_230 : decode cX6_absent 230 = .ok (.iaload, 1) := by decide +kernel
theorem dX6_absent_231 : decode cX6_absent 231 = .ok (.if_icmp .ge 30, 3) := by decide +kernel
theorem dX6_absent_234 : decode cX6_absent 234 = .ok (.iload 7, 2) := by decide +kernel
theorem dX6_absent_236 : decode cX6_absent 236 = .ok (.iload 5, 2) := by decide +kernel
theorem dX6_absent_238 : decode cX6_absent 238 = .ok (.iload 8, 2) := by decide +kernel
theorem dX6_absent_240 : decode cX6_absent 240 = .ok (.invokestatic 162, 3) := by decide +kernel
theorem dX6_absent_243 : decode cX6_absent 243 = .ok (.ifCond .eq 8, 3) := by decide +kernel
theorem dX6_absent_246 : decode cX6_absent 246 = .ok (.bipush 10, 2) := by decide +kernel
theorem dX6_absent_248 : decode cX6_absent 248 = .ok (.goto 4, 3) := by decide +kernel
theorem dX6_absent_251 : decode cX6_absent 251 = .ok (.iconst 1, 1) := by decide +kernel
theorem dX6_absent_252 : decode cX6_absent 252 = .ok (.imul, 1) := by decide +kernel
theorem dX6_absent_253 : decode cX6_absent 253 = .ok (.istore 7, 2) := by decide +kernel
theorem dX6_absent_255 : decode cX6_absent 255 = .ok (.iinc 8 1, 3) := by decide +kernel
theorem dX6_absent_258 : decode cX6_absent 258 = .ok (.goto (-36), 3) := by decide +kernel
theorem dX6_absent_261 : decode cX6_absent 261 = .ok (.iload 6, 2) := by decide +kernel
theorem dX6_absent_263 : decode cX6_absent 263 = .ok (.istore 8, 2) := by decide +kernel
theorem dX6_absent_265 : decode cX6_absent 265 = .ok (.iload 7, 2) := by decide +kernel
theorem dX6_absent_267 : decode cX6_absent 267 = .ok (.istore 9, 2) := by decide +kernel
theorem dX6_absent_269 : decode cX6_absent 269 = .ok (.iload 9, 2) := by decide +kernel
theorem dX6_absent_271 : decode cX6_absent 271 = .ok (.ifCond .le 21, 3) := by decide +kernel
theorem dX6_absent_274 : decode cX6_absent 274 = .ok (.iload 8, 2) := by decide +kernel
theorem dX6_absent_276 : decode cX6_absent 276 = .ok (.iload 9, 2) := by decide +kernel
theorem dX6_absent_278 : decode cX6_absent 278 = .ok (.irem, 1) := by decide +kernel
theorem dX6_absent_279 : decode cX6_absent 279 = .ok (.istore 10, 2) := by decide +kernel
theorem dX6_absent_281 : decode cX6_absent 281 = .ok (.iload 9, 2) := by decide +kernel
theorem dX6_absent_283 : decode cX6_absent 283 = .ok (.istore 8, 2) := by decide +kernel
theorem dX6_absent_285 : decode cX6_absent 285 = .ok (.iload 10, 2) := by decide +kernel
theorem dX6_absent_287 : decode cX6_absent 287 = .ok (.istore 9, 2) := by decide +kernel
theorem dX6_absent_289 : decode cX6_absent 289 = .ok (.goto (-20), 3) := by decide +kernel
theorem dX6_absent_292 : decode cX6_absent 292 = .ok (.iload 4, 2) := by decide +kernel
theorem dX6_absent_294 : decode cX6_absent 294 = .ok (.ifCond .ne 11, 3) := by decide +kernel
theorem dX6_absent_297 : decode cX6_absent 297 = .ok (.iload 6, 2) := by decide +kernel
theorem dX6_absent_299 : decode cX6_absent 299 = .ok (.iload 8, 2) := by decide +kernel
theorem dX6_absent_301 : decode cX6_absent 301 = .ok (.idiv, 1) := by decide +kernel
theorem dX6_absent_302 : decode cX6_absent 302 = .ok (.goto 8, 3) := by decide +kernel
theorem dX6_absent_305 : decode cX6_absent 305 = .ok (.iload 7, 2) := by decide +kernel
theorem dX6_absent_307 : decode cX6_absent 307 = .ok (.iload 8, 2) := by decide +kernel
theorem dX6_absent_309 : decode cX6_absent 309 = .ok (.idiv, 1) := by decide +kernel
theorem dX6_absent_310 : decode cX6_absent 310 = .ok (.ireturn, 1) := by decide +kernel
theorem dX6_drawn_0 : decode cX6_drawn 0 = .ok (.aload_n 0, 1) := by decide +kernel
theorem dX6_drawn_1 : decode cX6_drawn 1 = .ok (.invokevirtual 133, 3) := by decide +kernel
theorem dX6_drawn_4 : decode cX6_drawn 4 = .ok (.ifCond .ne 6, 3) := by decide +kernel
theorem dX6_drawn_7 : decode cX6_drawn 7 = .ok (.ldc 136, 2) := by decide +kernel
theorem dX6_drawn_9 : decode cX6_drawn 9 = .ok (.ireturn, 1) := by decide +kernel
theorem dX6_drawn_10 : decode cX6_drawn 10 = .ok (.iload_n 1, 1) := by decide +kernel
theorem dX6_drawn_11 : decode cX6_drawn 11 = .ok (.iconst 0, 1) := by decide +kernel
theorem dX6_drawn_12 : decode cX6_drawn 12 = .ok (.bipush 60, 2) := by decide +kernel
theorem dX6_drawn_14 : decode cX6_drawn 14 = .ok (.invokestatic 50, 3) := by decide +kernel
theorem dX6_drawn_17 : decode cX6_drawn 17 = .ok (.ifCond .eq 22, 3) := by decide +kernel
theorem dX6_drawn_20 : decode cX6_drawn 20 = .ok (.iload_n 2, 1) := by decide +kernel
theorem dX6_drawn_21 : decode cX6_drawn 21 = .ok (.iconst 1, 1) := by decide +kernel
theorem dX6_drawn_22 : decode cX6_drawn 22 = .ok (.ldc 169, 2) := by decide +kernel
theorem dX6_drawn_24 : decode cX6_drawn 24 = .ok (.invokestatic 50, 3) := by decide +kernel
theorem dX6_drawn_27 : decode cX6_drawn 27 = .ok (.ifCond .eq 12, 3) := by decide +kernel
theorem dX6_drawn_30 : decode cX6_drawn 30 = .ok (.iload_n 3, 1) := by decide +kernel
theorem dX6_drawn_31 : decode cX6_drawn 31 = .ok (.iconst 0, 1) := by decide +kernel
theorem dX6_drawn_32 : decode cX6_drawn 32 = .ok (.iconst 1, 1) := by decide +kernel
theorem dX6_drawn_33 : decode cX6_drawn 33 = .ok (.invokestatic 50, 3) := by decide +kernel
theorem dX6_drawn_36 : decode cX6_drawn 36 = .ok (.ifCond .ne 6, 3) := by decide +kernel
theorem dX6_drawn_39 : decode cX6_drawn 39 = .ok (.ldc 65, 2) := by decide +kernel
theorem dX6_drawn_41 : decode cX6_drawn 41 = .ok (.ireturn, 1) := by decide +kernel
theorem dX6_drawn_42 : decode cX6_drawn 42 = .ok (.aload_n 0, 1) := by decide +kernel
theorem dX6_drawn_43 : decode cX6_drawn 43 = .ok (.invokevirtual 151, 3) := by decide +kernel
theorem dX6_drawn_46 : decode cX6_drawn 46 = .ok (.iload_n 2, 1) := by decide +kernel
theorem dX6_drawn_47 : decode cX6_drawn 47 = .ok (.i2l, 1) := by decide +kernel
theorem dX6_drawn_48 : decode cX6_drawn 48 = .ok (.lstore 4, 2) := by decide +kernel
theorem dX6_drawn_50 : decode cX6_drawn 50 = .ok (.iconst 0, 1) := by decide +kernel
theorem dX6_drawn_51 : decode cX6_drawn 51 = .ok (.istore 6, 2) := by decide +kernel
theorem dX6_drawn_53 : decode cX6_drawn 53 = .ok (.iconst 0, 1) := by decide +kernel
theorem dX6_drawn_54 : decode cX6_drawn 54 = .ok (.istore 7, 2) := by decide +kernel
theorem dX6_drawn_56 : decode cX6_drawn 56 = .ok (.iload 7, 2) := by decide +kernel
theorem dX6_drawn_58 : decode cX6_drawn 58 = .ok (.iload_n 1, 1) := by decide +kernel
theorem dX6_drawn_59 : decode cX6_drawn 59 = .ok (.if_icmp .ge 141, 3) := by decide +kernel
theorem dX6_drawn_62 : decode cX6_drawn 62 = .ok (.lload 4, 2) := by decide +kernel
theorem dX6_drawn_64 : decode cX6_drawn 64 = .ok (.ldc2_w 170, 3) := by decide +kernel
theorem dX6_drawn_67 : decode cX6_drawn 67 = .ok (.lmul, 1) := by decide +kernel
theorem dX6_drawn_68 : decode cX6_drawn 68 = .ok (.ldc2_w 172, 3) := by decide +kernel
theorem dX6_drawn_71 : decode cX6_drawn 71 = .ok (.lrem, 1) := by decide +kernel
theorem dX6_drawn_72 : decode cX6_drawn 72 = .ok (.lstore 4, 2) := by decide +kernel
theorem dX6_drawn_74 : decode cX6_drawn 74 = .ok (.aload_n 0, 1) := by decide +kernel
theorem dX6_drawn_75 : decode cX6_drawn 75 = .ok (.getfield 41, 3) := by decide +kernel
theorem dX6_drawn_78 : decode cX6_drawn 78 = .ok (.iconst 1, 1) := by decide +kernel
theorem dX6_drawn_79 : decode cX6_drawn 79 = .ok (.lload 4, 2) := by decide +kernel
theorem dX6_drawn_81 : decode cX6_drawn 81 = .ok (.ldc2_w 174, 3) := by decide +kernel
theorem dX6_drawn_84 : decode cX6_drawn 84 = .ok (.lrem, 1) := by decide +kernel
theorem dX6_drawn_85 : decode cX6_drawn 85 = .ok (.lconst 0, 1) := by decide +kernel
theorem dX6_drawn_86 : decode cX6_drawn 86 = .ok (.lcmp, 1) := by decide +kernel
theorem dX6_drawn_87 : decode cX6_drawn 87 = .ok (.ifCond .ne 13, 3) := by decide +kernel
theorem dX6_drawn_90 : decode cX6_drawn 90 = .ok (.lload 4, 2) := by decide +kernel
theorem dX6_drawn_92 : decode cX6_drawn 92 = .ok (.ldc2_w 176, 3) := by decide +kernel
theorem dX6_drawn_95 : decode cX6_drawn 95 = .ok (.lrem, 1) := by decide +kernel
theorem dX6_drawn_96 : decode cX6_drawn 96 = .ok (.l2i, 1) := by decide +kernel
theorem dX6_drawn_97 : decode cX6_drawn 97 = .ok (.goto 9, 3) := by decide +kernel
theorem dX6_drawn_100 : decode cX6_drawn 100 = .ok (.aload_n 0, 1) := by decide +kernel
theorem dX6_drawn_101 : decode cX6_drawn 101 = .ok (.getfield 41, 3) := by decide +kernel
theorem dX6_drawn_104 : decode cX6_drawn 104 = .ok (.iconst 1, 1) := by decide +kernel
theorem dX6_drawn_105 : decode cX6_drawn 105 = .ok (.iaload, 1) := by decide +kernel
theorem dX6_drawn_106 : decode cX6_drawn 106 = .ok (.iastore, 1) := by decide +kernel
theorem dX6_drawn_107 : decode cX6_drawn 107 = .ok (.lload 4, 2) := by decide +kernel
theorem dX6_drawn_109 : decode cX6_drawn 109 = .ok (.aload_n 0, 1) := by decide +kernel
theorem dX6_drawn_110 : decode cX6_drawn 110 = .ok (.getfield 41, 3) := by decide +kernel
theorem dX6_drawn_113 : decode cX6_drawn 113 = .ok (.bipush 17, 2) := by decide +kernel
theorem dX6_drawn_115 : decode cX6_drawn 115 = .ok (.iaload, 1) := by decide +kernel
theorem dX6_drawn_116 : decode cX6_drawn 116 = .ok (.i2l, 1) := by decide +kernel
theorem dX6_drawn_117 : decode cX6_drawn 117 = .ok (.lrem, 1) := by decide +kernel
theorem dX6_drawn_118 : decode cX6_drawn 118 = .ok (.l2i, 1) := by decide +kernel
theorem dX6_drawn_119 : decode cX6_drawn 119 = .ok (.istore 8, 2) := by decide +kernel
theorem dX6_drawn_121 : decode cX6_drawn 121 = .ok (.aload_n 0, 1) := by decide +kernel
theorem dX6_drawn_122 : decode cX6_drawn 122 = .ok (.getfield 41, 3) := by decide +kernel
theorem dX6_drawn_125 : decode cX6_drawn 125 = .ok (.iconst 2, 1) := by decide +kernel
theorem dX6_drawn_126 : decode cX6_drawn 126 = .ok (.iload 8, 2) := by decide +kernel
theorem dX6_drawn_128 : decode cX6_drawn 128 = .ok (.iadd, 1) := by decide +kernel
theorem dX6_drawn_129 : decode cX6_drawn 129 = .ok (.iaload, 1) := by decide +kernel
theorem dX6_drawn_130 : decode cX6_drawn 130 = .ok (.bipush 99, 2) := by decide +kernel
theorem dX6_drawn_132 : decode cX6_drawn 132 = .ok (.if_icmp .ne 30, 3) := by decide +kernel
theorem dX6_drawn_135 : decode cX6_drawn 135 = .ok (.aload_n 0, 1) := by decide +kernel
theorem dX6_drawn_136 : decode cX6_drawn 136 = .ok (.getfield 41, 3) := by decide +kernel
theorem dX6_drawn_139 : decode cX6_drawn 139 = .ok (.iconst 2, 1) := by decide +kernel
theorem dX6_drawn_140 : decode cX6_drawn 140 = .ok (.iload 8, 2) := by decide +kernel
theorem dX6_drawn_142 : decode cX6_drawn 142 = .ok (.iadd, 1) := by decide +kernel
theorem dX6_drawn_143 : decode cX6_drawn 143 = .ok (.iconst (-1), 1) := by decide +kernel
theorem dX6_drawn_144 : decode cX6_drawn 144 = .ok (.iastore, 1) := by decide +kernel
theorem dX6_drawn_145 : decode cX6_drawn 145 = .ok (.aload_n 0, 1) := by decide +kernel
theorem dX6_drawn_146 : decode cX6_drawn 146 = .ok (.getfield 41, 3) := by decide +kernel
theorem dX6_drawn_149 : decode cX6_drawn 149 = .ok (.bipush 9, 2) := by decide +kernel
theorem dX6_drawn_151 : decode cX6_drawn 151 = .ok (.iload 8, 2) := by decide +kernel
theorem dX6_drawn_153 : decode cX6_drawn 153 = .ok (.iadd, 1) := by decide +kernel
theorem dX6_drawn_154 : decode cX6_drawn 154 = .ok (.lload 4, 2) := by decide +kernel
theorem dX6_drawn_156 : decode cX6_drawn 156 = .ok (.ldc2_w 178, 3) := by decide +kernel
theorem dX6_drawn_159 : decode cX6_drawn 159 = .ok (.lrem, 1) := by decide +kernel
theorem dX6_drawn_160 : decode cX6_drawn 160 = .ok (.l2i, 1) := by decide +kernel
theorem dX6_drawn_161 : decode cX6_drawn 161 = .ok (.iastore, 1) := by decide +kernel
theorem dX6_drawn_162 : decode cX6_drawn 162 = .ok (.aload_n 0, 1) := by decide +kernel
theorem dX6_drawn_163 : decode cX6_drawn 163 = .ok (.getfield 41, 3) := by decide +kernel
theorem dX6_drawn_166 : decode cX6_drawn 166 = .ok (.invokestatic 144, 3) := by decide +kernel
theorem dX6_drawn_169 : decode cX6_drawn 169 = .ok (.istore 9, 2) := by decide +kernel
theorem dX6_drawn_171 : decode cX6_drawn 171 = .ok (.aload_n 0, 1) := by decide +kernel
theorem dX6_drawn_172 : decode cX6_drawn 172 = .ok (.aload_n 0, 1) := by decide +kernel
theorem dX6_drawn_173 : decode cX6_drawn 173 = .ok (.getfield 41, 3) := by decide +kernel
theorem dX6_drawn_176 : decode cX6_drawn 176 = .ok (.invokevirtual 140, 3) := by decide +kernel
theorem dX6_drawn_179 : decode cX6_drawn 179 = .ok (.iload 6, 2) := by decide +kernel
theorem dX6_drawn_181 : decode cX6_drawn 181 = .ok (.aload_n 0, 1) := by decide +kernel
theorem dX6_drawn_182 : decode cX6_drawn 182 = .ok (.getfield 41, 3) := by decide +kernel
theorem dX6_drawn_185 : decode cX6_drawn 185 = .ok (.invokestatic 144, 3) := by decide +kernel
theorem dX6_drawn_188 : decode cX6_drawn 188 = .ok (.iload 9, 2) := by decide +kernel
theorem dX6_drawn_190 : decode cX6_drawn 190 = .ok (.isub, 1) := by decide +kernel
theorem dX6_drawn_191 : decode cX6_drawn 191 = .ok (.iadd, 1) := by decide +kernel
theorem dX6_drawn_192 : decode cX6_drawn 192 = .ok (.istore 6, 2) := by decide +kernel
theorem dX6_drawn_194 : decode cX6_drawn 194 = .ok (.iinc 7 1, 3) := by decide +kernel
theorem dX6_drawn_197 : decode cX6_drawn 197 = .ok (.goto (-141), 3) := by decide +kernel
theorem dX6_drawn_200 : decode cX6_drawn 200 = .ok (.iload_n 3, 1) := by decide +kernel
theorem dX6_drawn_201 : decode cX6_drawn 201 = .ok (.ifCond .ne 8, 3) := by decide +kernel
theorem dX6_drawn_204 : decode cX6_drawn 204 = .ok (.iload 6, 2) := by decide +kernel
theorem dX6_drawn_206 : decode cX6_drawn 206 = .ok (.goto 10, 3) := by decide +kernel
theorem dX6_drawn_209 : decode cX6_drawn 209 = .ok (.aload_n 0, 1) := by decide +kernel
theorem dX6_drawn_210 : decode cX6_drawn 210 = .ok (.getfield 41, 3) := by decide +kernel
theorem dX6_drawn_213 : decode cX6_drawn 213 = .ok (.invokestatic 144, 3) := by decide +kernel
theorem dX6_drawn_216 : decode cX6_drawn 216 = .ok (.ireturn, 1) := by decide +kernel
theorem dX6_image_0 : decode cX6_image 0 = .ok (.iload_n 1, 1) := by decide +kernel
theorem dX6_image_1 : decode cX6_image 1 = .ok (.iconst 0, 1) := by decide +kernel
theorem dX6_image_2 : decode cX6_image 2 = .ok (.iconst 1, 1) := by decide +kernel
theorem dX6_image_3 : decode cX6_image 3 = .ok (.invokestatic 50, 3) := by decide +kernel
theorem dX6_image_6 : decode cX6_image 6 = .ok (.ifCond .ne 6, 3) := by decide +kernel
theorem dX6_image_9 : decode cX6_image 9 = .ok (.ldc 65, 2) := by decide +kernel
theorem dX6_image_11 : decode cX6_image 11 = .ok (.ireturn, 1) := by decide +kernel
theorem dX6_image_12 : decode cX6_image 12 = .ok (.aload_n 0, 1) := by decide +kernel
theorem dX6_image_13 : decode cX6_image 13 = .ok (.invokevirtual 133, 3) := by decide +kernel
theorem dX6_image_16 : decode cX6_image 16 = .ok (.ifCond .ne 6, 3) := by decide +kernel
theorem dX6_image_19 : decode cX6_image 19 = .ok (.ldc 136, 2) := by decide +kernel
theorem dX6_image_21 : decode cX6_image 21 = .ok (.ireturn, 1) := by decide +kernel
theorem dX6_image_22 : decode cX6_image 22 = .ok (.iconst 0, 1) := by decide +kernel
theorem dX6_image_23 : decode cX6_image 23 = .ok (.istore_n 2, 1) := by decide +kernel
theorem dX6_image_24 : decode cX6_image 24 = .ok (.iload_n 2, 1) := by decide +kernel
theorem dX6_image_25 : decode cX6_image 25 = .ok (.bipush 25, 2) := by decide +kernel
theorem dX6_image_27 : decode cX6_image 27 = .ok (.if_icmp .ge 26, 3) := by decide +kernel
theorem dX6_image_30 : decode cX6_image 30 = .ok (.aload_n 0, 1) := by decide +kernel
theorem dX6_image_31 : decode cX6_image 31 = .ok (.getfield 31, 3) := by decide +kernel
theorem dX6_image_34 : decode cX6_image 34 = .ok (.bipush 25, 2) := by decide +kernel
theorem dX6_image_36 : decode cX6_image 36 = .ok (.iload_n 1, 1) := by decide +kernel
theorem dX6_image_37 : decode cX6_image 37 = .ok (.imul, 1) := by decide +kernel
theorem dX6_image_38 : decode cX6_image 38 = .ok (.iload_n 2, 1) := by decide +kernel
theorem dX6_image_39 : decode cX6_image 39 = .ok (.iadd, 1) := by decide +kernel
theorem dX6_image_40 : decode cX6_image 40 = .ok (.aload_n 0, 1) := by decide +kernel
theorem dX6_image_41 : decode cX6_image 41 = .ok (.getfield 25, 3) := by decide +kernel
theorem dX6_image_44 : decode cX6_image 44 = .ok (.iload_n 2, 1) := by decide +kernel
theorem dX6_image_45 : decode cX6_image 45 = .ok (.iaload, 1) := by decide +kernel
theorem dX6_image_46 : decode cX6_image 46 = .ok (.iastore, 1) := by decide +kernel
theorem dX6_image_47 : decode cX6_image 47 = .ok (.iinc 2 1, 3) := by decide +kernel
theorem dX6_image_50 : decode cX6_image 50 = .ok (.goto (-26), 3) := by decide +kernel
theorem dX6_image_53 : decode cX6_image 53 = .ok (.aload_n 0, 1) := by decide +kernel
theorem dX6_image_54 : decode cX6_image 54 = .ok (.getfield 34, 3) := by decide +kernel
theorem dX6_image_57 : decode cX6_image 57 = .ok (.iload_n 1, 1) := by decide +kernel
theorem dX6_image_58 : decode cX6_image 58 = .ok (.iconst 1, 1) := by decide +kernel
theorem dX6_image_59 : decode cX6_image 59 = .ok (.bastore, 1) := by decide +kernel
theorem dX6_image_60 : decode cX6_image 60 = .ok (.iconst 1, 1) := by decide +kernel
theorem dX6_image_61 : decode cX6_image 61 = .ok (.ireturn, 1) := by decide +kernel
theorem dX6_restore_0 : decode cX6_restore 0 = .ok (.iload_n 1, 1) := by decide +kernel
theorem dX6_restore_1 : decode cX6_restore 1 = .ok (.iconst 0, 1) := by decide +kernel
theorem dX6_restore_2 : decode cX6_restore 2 = .ok (.iconst 1, 1) := by decide +kernel
theorem dX6_restore_3 : decode cX6_restore 3 = .ok (.invokestatic 50, 3) := by decide +kernel
theorem dX6_restore_6 : decode cX6_restore 6 = .ok (.ifCond .ne 6, 3) := by decide +kernel
theorem dX6_restore_9 : decode cX6_restore 9 = .ok (.ldc 65, 2) := by decide +kernel
theorem dX6_restore_11 : decode cX6_restore 11 = .ok (.ireturn, 1) := by decide +kernel
theorem dX6_restore_12 : decode cX6_restore 12 = .ok (.aload_n 0, 1) := by decide +kernel
theorem dX6_restore_13 : decode cX6_restore 13 = .ok (.getfield 34, 3) := by decide +kernel
theorem dX6_restore_16 : decode cX6_restore 16 = .ok (.iload_n 1, 1) := by decide +kernel
theorem dX6_restore_17 : decode cX6_restore 17 = .ok (.baload, 1) := by decide +kernel
theorem dX6_restore_18 : decode cX6_restore 18 = .ok (.ifCond .ne 6, 3) := by decide +kernel
theorem dX6_restore_21 : decode cX6_restore 21 = .ok (.ldc 136, 2) := by decide +kernel
theorem dX6_restore_23 : decode cX6_restore 23 = .ok (.ireturn, 1) := by decide +kernel
theorem dX6_restore_24 : decode cX6_restore 24 = .ok (.iconst 0, 1) := by decide +kernel
theorem dX6_restore_25 : decode cX6_restore 25 = .ok (.istore_n 2, 1) := by decide +kernel
theorem dX6_restore_26 : decode cX6_restore 26 = .ok (.iload_n 2, 1) := by decide +kernel
theorem dX6_restore_27 : decode cX6_restore 27 = .ok (.bipush 25, 2) := by decide +kernel
theorem dX6_restore_29 : decode cX6_restore 29 = .ok (.if_icmp .ge 26, 3) := by decide +kernel
theorem dX6_restore_32 : decode cX6_restore 32 = .ok (.aload_n 0, 1) := by decide +kernel
theorem dX6_restore_33 : decode cX6_restore 33 = .ok (.getfield 25, 3) := by decide +kernel
theorem dX6_restore_36 : decode cX6_restore 36 = .ok (.iload_n 2, 1) := by decide +kernel
theorem dX6_restore_37 : decode cX6_restore 37 = .ok (.aload_n 0, 1) := by decide +kernel
theorem dX6_restore_38 : decode cX6_restore 38 = .ok (.getfield 31, 3) := by decide +kernel
theorem dX6_restore_41 : decode cX6_restore 41 = .ok (.bipush 25, 2) := by decide +kernel
theorem dX6_restore_43 : decode cX6_restore 43 = .ok (.iload_n 1, 1) := by decide +kernel
theorem dX6_restore_44 : decode cX6_restore 44 = .ok (.imul, 1) := by decide +kernel
theorem dX6_restore_45 : decode cX6_restore 45 = .ok (.iload_n 2, 1) := by decide +kernel
theorem dX6_restore_46 : decode cX6_restore 46 = .ok (.iadd, 1) := by decide +kernel
theorem dX6_restore_47 : decode cX6_restore 47 = .ok (.iaload, 1) := by decide +kernel
theorem dX6_restore_48 : decode cX6_restore 48 = .ok (.iastore, 1) := by decide +kernel
theorem dX6_restore_49 : decode cX6_restore 49 = .ok (.iinc 2 1, 3) := by decide +kernel
theorem dX6_restore_52 : decode cX6_restore 52 = .ok (.goto (-26), 3) := by decide +kernel
theorem dX6_restore_55 : decode cX6_restore 55 = .ok (.aload_n 0, 1) := by decide +kernel
theorem dX6_restore_56 : decode cX6_restore 56 = .ok (.iconst 0, 1) := by decide +kernel
theorem dX6_restore_57 : decode cX6_restore 57 = .ok (.putfield 115, 3) := by decide +kernel
theorem dX6_restore_60 : decode cX6_restore 60 = .ok (.iconst 1, 1) := by decide +kernel
theorem dX6_restore_61 : decode cX6_restore 61 = .ok (.ireturn, 1) := by decide +kernel
theorem dX6_kind_0 : decode cX6_kind 0 = .ok (.aload_n 0, 1) := by decide +kernel
theorem dX6_kind_1 : decode cX6_kind 1 = .ok (.iload_n 1, 1) := by decide +kernel
theorem dX6_kind_2 : decode cX6_kind 2 = .ok (.invokevirtual 148, 3) := by decide +kernel
theorem dX6_kind_5 : decode cX6_kind 5 = .ok (.ifCond .eq 15, 3) := by decide +kernel
theorem dX6_kind_8 : decode cX6_kind 8 = .ok (.aload_n 0, 1) := by decide +kernel
theorem dX6_kind_9 : decode cX6_kind 9 = .ok (.getfield 25, 3) := by decide +kernel
theorem dX6_kind_12 : decode cX6_kind 12 = .ok (.bipush 18, 2) := by decide +kernel
theorem dX6_kind_14 : decode cX6_kind 14 = .ok (.iload_n 1, 1) := by decide +kernel
theorem dX6_kind_15 : decode cX6_kind 15 = .ok (.iadd, 1) := by decide +kernel
theorem dX6_kind_16 : decode cX6_kind 16 = .ok (.iaload, 1) := by decide +kernel
theorem dX6_kind_17 : decode cX6_kind 17 = .ok (.goto 5, 3) := by decide +kernel
theorem dX6_kind_20 : decode cX6_kind 20 = .ok (.ldc 65, 2) := by decide +kernel
theorem dX6_kind_22 : decode cX6_kind 22 = .ok (.ireturn, 1) := by decide +kernel
theorem dX6_as_0 : decode cX6_as 0 = .ok (.aload_n 0, 1) := by decide +kernel
theorem dX6_as_1 : decode cX6_as 1 = .ok (.iload_n 1, 1) := by decide +kernel
theorem dX6_as_2 : decode cX6_as 2 = .ok (.invokevirtual 148, 3) := by decide +kernel
theorem dX6_as_5 : decode cX6_as 5 = .ok (.ifCond .eq 12, 3) := by decide +kernel
theorem dX6_as_8 : decode cX6_as 8 = .ok (.iload_n 2, 1) := by decide +kernel
theorem dX6_as_9 : decode cX6_as 9 = .ok (.iconst 0, 1) := by decide +kernel
theorem dX6_as_10 : decode cX6_as 10 = .ok (.iconst 5, 1) := by decide +kernel
theorem dX6_as_11 : decode cX6_as 11 = .ok (.invokestatic 50, 3) := by decide +kernel
theorem dX6_as_14 : decode cX6_as 14 = .ok (.ifCond .ne 6, 3) := by decide +kernel
theorem dX6_as_17 : decode cX6_as 17 = .ok (.ldc 65, 2) := by decide +kernel
theorem dX6_as_19 : decode cX6_as 19 = .ok (.ireturn, 1) := by decide +kernel
theorem dX6_as_20 : decode cX6_as 20 = .ok (.aload_n 0, 1) := by decide +kernel
theorem dX6_as_21 : decode cX6_as 21 = .ok (.getfield 25, 3) := by decide +kernel
theorem dX6_as_24 : decode cX6_as 24 = .ok (.bipush 18, 2) := by decide +kernel
theorem dX6_as_26 : decode cX6_as 26 = .ok (.iload_n 1, 1) := by decide +kernel
theorem dX6_as_27 : decode cX6_as 27 = .ok (.iadd, 1) := by decide +kernel
theorem dX6_as_28 : decode cX6_as 28 = .ok (.iaload, 1) := by decide +kernel
theorem dX6_as_29 : decode cX6_as 29 = .ok (.istore_n 3, 1) := by decide +kernel
theorem dX6_as_30 : decode cX6_as 30 = .ok (.iload_n 2, 1) := by decide +kernel
theorem dX6_as_31 : decode cX6_as 31 = .ok (.ifCond .eq 28, 3) := by decide +kernel
theorem dX6_as_34 : decode cX6_as 34 = .ok (.iload_n 2, 1) := by decide +kernel
theorem dX6_as_35 : decode cX6_as 35 = .ok (.iload_n 3, 1) := by decide +kernel
theorem dX6_as_36 : decode cX6_as 36 = .ok (.if_icmp .eq 23, 3) := by decide +kernel
theorem dX6_as_39 : decode cX6_as 39 = .ok (.iload_n 2, 1) := by decide +kernel
theorem dX6_as_40 : decode cX6_as 40 = .ok (.iconst 1, 1) := by decide +kernel
theorem dX6_as_41 : decode cX6_as 41 = .ok (.if_icmp .ne 8, 3) := by decide +kernel
theorem dX6_as_44 : decode cX6_as 44 = .ok (.iload_n 3, 1) := by decide +kernel
theorem dX6_as_45 : decode cX6_as 45 = .ok (.iconst 4, 1) := by decide +kernel
theorem dX6_as_46 : decode cX6_as 46 = .ok (.if_icmp .lt 13, 3) := by decide +kernel
theorem dX6_as_49 : decode cX6_as 49 = .ok (.iload_n 2, 1) := by decide +kernel
theorem dX6_as_50 : decode cX6_as 50 = .ok (.iconst 4, 1) := by decide +kernel
theorem dX6_as_51 : decode cX6_as 51 = .ok (.if_icmp .ne 12, 3) := by decide +kernel
theorem dX6_as_54 : decode cX6_as 54 = .ok (.iload_n 3, 1) := by decide +kernel
theorem dX6_as_55 : decode cX6_as 55 = .ok (.iconst 5, 1) := by decide +kernel
theorem dX6_as_56 : decode cX6_as 56 = .ok (.if_icmp .ne 7, 3) := by decide +kernel
theorem dX6_as_59 : decode cX6_as 59 = .ok (.iconst 1, 1) := by decide +kernel
theorem dX6_as_60 : decode cX6_as 60 = .ok (.goto 4, 3) := by decide +kernel
theorem dX6_as_63 : decode cX6_as 63 = .ok (.iconst 0, 1) := by decide +kernel
theorem dX6_as_64 : decode cX6_as 64 = .ok (.istore 4, 2) := by decide +kernel
theorem dX6_as_66 : decode cX6_as 66 = .ok (.aload_n 0, 1) := by decide +kernel
theorem dX6_as_67 : decode cX6_as 67 = .ok (.iload 4, 2) := by decide +kernel
theorem dX6_as_69 : decode cX6_as 69 = .ok (.ifCond .eq 7, 3) := by decide +kernel
theorem dX6_as_72 : decode cX6_as 72 = .ok (.iload_n 1, 1) := by decide +kernel
theorem dX6_as_73 : decode cX6_as 73 = .ok (.goto 5, 3) := by decide +kernel
theorem dX6_as_76 : decode cX6_as 76 = .ok (.ldc 180, 2) := by decide +kernel
theorem dX6_as_78 : decode cX6_as 78 = .ok (.invokevirtual 67, 3) := by decide +kernel
theorem dX6_as_81 : decode cX6_as 81 = .ok (.ireturn, 1) := by decide +kernel
theorem dX6_begins_0 : decode cX6_begins 0 = .ok (.aload_n 0, 1) := by decide +kernel
theorem dX6_begins_1 : decode cX6_begins 1 = .ok (.getfield 181, 3) := by decide +kernel
theorem dX6_begins_4 : decode cX6_begins 4 = .ok (.aload_n 0, 1) := by decide +kernel
theorem dX6_begins_5 : decode cX6_begins 5 = .ok (.getfield 47, 3) := by decide +kernel
theorem dX6_begins_8 : decode cX6_begins 8 = .ok (.arraylength, 1) := by decide +kernel
theorem dX6_begins_9 : decode cX6_begins 9 = .ok (.if_icmp .ge 23, 3) := by decide +kernel
theorem dX6_begins_12 : decode cX6_begins 12 = .ok (.aload_n 0, 1) := by decide +kernel
theorem dX6_begins_13 : decode cX6_begins 13 = .ok (.getfield 47, 3) := by decide +kernel
theorem dX6_begins_16 : decode cX6_begins 16 = .ok (.aload_n 0, 1) := by decide +kernel
theorem dX6_begins_17 : decode cX6_begins 17 = .ok (.getfield 181, 3) := by decide +kernel
theorem dX6_begins_20 : decode cX6_begins 20 = .ok (.iload_n 1, 1) := by decide +kernel
theorem dX6_begins_21 : decode cX6_begins 21 = .ok (.iastore, 1) := by decide +kernel
theorem dX6_begins_22 : decode cX6_begins 22 = .ok (.aload_n 0, 1) := by decide +kernel
theorem dX6_begins_23 : decode cX6_begins 23 = .ok (.dup, 1) := by decide +kernel
theorem dX6_begins_24 : decode cX6_begins 24 = .ok (.getfield 181, 3) := by decide +kernel
theorem dX6_begins_27 : decode cX6_begins 27 = .ok (.iconst 1, 1) := by decide +kernel
theorem dX6_begins_28 : decode cX6_begins 28 = .ok (.iadd, 1) := by decide +kernel
theorem dX6_begins_29 : decode cX6_begins 29 = .ok (.putfield 181, 3) := by decide +kernel
theorem dX6_begins_32 : decode cX6_begins 32 = .ok (.return_, 1) := by decide +kernel
theorem dX6_size_0 : decode cX6_size 0 = .ok (.aload_n 0, 1) := by decide +kernel
theorem dX6_size_1 : decode cX6_size 1 = .ok (.getfield 25, 3) := by decide +kernel
theorem dX6_size_4 : decode cX6_size 4 = .ok (.bipush 18, 2) := by decide +kernel
theorem dX6_size_6 : decode cX6_size 6 = .ok (.iload_n 1, 1) := by decide +kernel
theorem dX6_size_7 : decode cX6_size 7 = .ok (.iadd, 1) := by decide +kernel
theorem dX6_size_8 : decode cX6_size 8 = .ok (.iaload, 1) := by decide +kernel
theorem dX6_size_9 : decode cX6_size 9 = .ok (.istore_n 2, 1) := by decide +kernel
theorem dX6_size_10 : decode cX6_size 10 = .ok (.aload_n 0, 1) := by decide +kernel
theorem dX6_size_11 : decode cX6_size 11 = .ok (.getfield 25, 3) := by decide +kernel
theorem dX6_size_14 : decode cX6_size 14 = .ok (.iconst 2, 1) := by decide +kernel
theorem dX6_size_15 : decode cX6_size 15 = .ok (.iload_n 1, 1) := by decide +kernel
theorem dX6_size_16 : decode cX6_size 16 = .ok (.iadd, 1) := by decide +kernel
theorem dX6_size_17 : decode cX6_size 17 = .ok (.iaload, 1) := by decide +kernel
theorem dX6_size_18 : decode cX6_size 18 = .ok (.istore_n 3, 1) := by decide +kernel
theorem dX6_size_19 : decode cX6_size 19 = .ok (.iload_n 2, 1) := by decide +kernel
theorem dX6_size_20 : decode cX6_size 20 = .ok (.iconst 5, 1) := by decide +kernel
theorem dX6_size_21 : decode cX6_size 21 = .ok (.if_icmp .ne 9, 3) := by decide +kernel
theorem dX6_size_24 : decode cX6_size 24 = .ok (.aload_n 0, 1) := by decide +kernel
theorem dX6_size_25 : decode cX6_size 25 = .ok (.bipush 14, 2) := by decide +kernel
theorem dX6_size_27 : decode cX6_size 27 = .ok (.invokevirtual 184, 3) := by decide +kernel
theorem dX6_size_30 : decode cX6_size 30 = .ok (.iload_n 2, 1) := by decide +kernel
theorem dX6_size_31 : decode cX6_size 31 = .ok (.iconst 4, 1) := by decide +kernel
theorem dX6_size_32 : decode cX6_size 32 = .ok (.if_icmp .lt 34, 3) := by decide +kernel
theorem dX6_size_35 : decode cX6_size 35 = .ok (.aload_n 0, 1) := by decide +kernel
theorem dX6_size_36 : decode cX6_size 36 = .ok (.bipush 13, 2) := by decide +kernel
theorem dX6_size_38 : decode cX6_size 38 = .ok (.invokevirtual 184, 3) := by decide +kernel
theorem dX6_size_41 : decode cX6_size 41 = .ok (.aload_n 0, 1) := by decide +kernel
theorem dX6_size_42 : decode cX6_size 42 = .ok (.bipush 10, 2) := by decide +kernel
theorem dX6_size_44 : decode cX6_size 44 = .ok (.invokevirtual 184, 3) := by decide +kernel
theorem dX6_size_47 : decode cX6_size 47 = .ok (.iload_n 2, 1) := by decide +kernel
theorem dX6_size_48 : decode cX6_size 48 = .ok (.iconst 5, 1) := by decide +kernel
theorem dX6_size_49 : decode cX6_size 49 = .ok (.if_icmp .ne 12, 3) := by decide +kernel
theorem dX6_size_52 : decode cX6_size 52 = .ok (.iconst 2, 1) := by decide +kernel
theorem dX6_size_53 : decode cX6_size 53 = .ok (.iload_n 3, 1) := by decide +kernel
theorem dX6_size_54 : decode cX6_size 54 = .ok (.bipush 100, 2) := by decide +kernel
theorem dX6_size_56 : decode cX6_size 56 = .ok (.isub, 1) := by decide +kernel
theorem dX6_size_57 : decode cX6_size 57 = .ok (.imul, 1) := by decide +kernel
theorem dX6_size_58 : decode cX6_size 58 = .ok (.goto 7, 3) := by decide +kernel
theorem dX6_size_61 : decode cX6_size 61 = .ok (.iload_n 3, 1) := by decide +kernel
theorem dX6_size_62 : decode cX6_size 62 = .ok (.bipush 100, 2) := by decide +kernel
theorem dX6_size_64 : decode cX6_size 64 = .ok (.isub, 1) := by decide +kernel
theorem dX6_size_65 : decode cX6_size 65 = .ok (.ireturn, 1) := by decide +kernel
theorem dX6_size_66 : decode cX6_size 66 = .ok (.iload_n 2, 1) := by decide +kernel
theorem dX6_size_67 : decode cX6_size 67 = .ok (.iconst 2, 1) := by decide +kernel
theorem dX6_size_68 : decode cX6_size 68 = .ok (.if_icmp .ne 9, 3) := by decide +kernel
theorem dX6_size_71 : decode cX6_size 71 = .ok (.aload_n 0, 1) := by decide +kernel
theorem dX6_size_72 : decode cX6_size 72 = .ok (.bipush 12, 2) := by decide +kernel
theorem dX6_size_74 : decode cX6_size 74 = .ok (.invokevirtual 184, 3) := by decide +kernel
theorem dX6_size_77 : decode cX6_size 77 = .ok (.aload_n 0, 1) := by decide +kernel
theorem dX6_size_78 : decode cX6_size 78 = .ok (.bipush 11, 2) := by decide +kernel
theorem dX6_size_80 : decode cX6_size 80 = .ok (.invokevirtual 184, 3) := by decide +kernel
theorem dX6_size_83 : decode cX6_size 83 = .ok (.aload_n 0, 1) := by decide +kernel
theorem dX6_size_84 : decode cX6_size 84 = .ok (.bipush 10, 2) := by decide +kernel
theorem dX6_size_86 : decode cX6_size 86 = .ok (.invokevirtual 184, 3) := by decide +kernel
theorem dX6_size_89 : decode cX6_size 89 = .ok (.iload_n 3, 1) := by decide +kernel
theorem dX6_size_90 : decode cX6_size 90 = .ok (.aload_n 0, 1) := by decide +kernel
theorem dX6_size_91 : decode cX6_size 91 = .ok (.iload_n 1, 1) := by decide +kernel
theorem dX6_size_92 : decode cX6_size 92 = .ok (.invokevirtual 188, 3) := by decide +kernel
theorem dX6_size_95 : decode cX6_size 95 = .ok (.iadd, 1) := by decide +kernel
theorem dX6_size_96 : decode cX6_size 96 = .ok (.istore 4, 2) := by decide +kernel
theorem dX6_size_98 : decode cX6_size 98 = .ok (.iload_n 2, 1) := by decide +kernel
theorem dX6_size_99 : decode cX6_size 99 = .ok (.iconst 2, 1) := by decide +kernel
theorem dX6_size_100 : decode cX6_size 100 = .ok (.if_icmp .ne 9, 3) := by decide +kernel
theorem dX6_size_103 : decode cX6_size 103 = .ok (.iload 4, 2) := by decide +kernel
theorem dX6_size_105 : decode cX6_size 105 = .ok (.ineg, 1) := by decide +kernel
theorem dX6_size_106 : decode cX6_size 106 = .ok (.goto 5, 3) := by decide +kernel
theorem dX6_size_109 : decode cX6_size 109 = .ok (.iload 4, 2) := by decide +kernel
theorem dX6_size_111 : decode cX6_size 111 = .ok (.ireturn, 1) := by decide +kernel
theorem dX6_stands_0 : decode cX6_stands 0 = .ok (.aload_n 0, 1) := by decide +kernel
theorem dX6_stands_1 : decode cX6_stands 1 = .ok (.getfield 25, 3) := by decide +kernel
theorem dX6_stands_4 : decode cX6_stands 4 = .ok (.bipush 18, 2) := by decide +kernel
theorem dX6_stands_6 : decode cX6_stands 6 = .ok (.iload_n 1, 1) := by decide +kernel
theorem dX6_stands_7 : decode cX6_stands 7 = .ok (.iadd, 1) := by decide +kernel
theorem dX6_stands_8 : decode cX6_stands 8 = .ok (.iaload, 1) := by decide +kernel
theorem dX6_stands_9 : decode cX6_stands 9 = .ok (.istore_n 2, 1) := by decide +kernel
theorem dX6_stands_10 : decode cX6_stands 10 = .ok (.iload_n 2, 1) := by decide +kernel
theorem dX6_stands_11 : decode cX6_stands 11 = .ok (.iconst 1, 1) := by decide +kernel
theorem dX6_stands_12 : decode cX6_stands 12 = .ok (.if_icmp .eq 19, 3) := by decide +kernel
theorem dX6_stands_15 : decode cX6_stands 15 = .ok (.aload_n 0, 1) := by decide +kernel
theorem dX6_stands_16 : decode cX6_stands 16 = .ok (.iload_n 2, 1) := by decide +kernel
theorem dX6_stands_17 : decode cX6_stands 17 = .ok (.iconst 2, 1) := by decide +kernel
theorem dX6_stands_18 : decode cX6_stands 18 = .ok (.if_icmp .ne 8, 3) := by decide +kernel
theorem dX6_stands_21 : decode cX6_stands 21 = .ok (.bipush 24, 2) := by decide +kernel
theorem dX6_stands_23 : decode cX6_stands 23 = .ok (.goto 5, 3) := by decide +kernel
theorem dX6_stands_26 : decode cX6_stands 26 = .ok (.bipush 22, 2) := by decide +kernel
theorem dX6_stands_28 : decode cX6_stands 28 = .ok (.invokevirtual 184, 3) := by decide +kernel
theorem dX6_stands_31 : decode cX6_stands 31 = .ok (.aload_n 0, 1) := by decide +kernel
theorem dX6_stands_32 : decode cX6_stands 32 = .ok (.bipush 21, 2) := by decide +kernel
theorem dX6_stands_34 : decode cX6_stands 34 = .ok (.invokevirtual 184, 3) := by decide +kernel
theorem dX6_stands_37 : decode cX6_stands 37 = .ok (.aload_n 0, 1) := by decide +kernel
theorem dX6_stands_38 : decode cX6_stands 38 = .ok (.bipush 20, 2) := by decide +kernel
theorem dX6_stands_40 : decode cX6_stands 40 = .ok (.invokevirtual 184, 3) := by decide +kernel
theorem dX6_stands_43 : decode cX6_stands 43 = .ok (.iload_n 1, 1) := by decide +kernel
theorem dX6_stands_44 : decode cX6_stands 44 = .ok (.aload_n 0, 1) := by decide +kernel
theorem dX6_stands_45 : decode cX6_stands 45 = .ok (.getfield 25, 3) := by decide +kernel
theorem dX6_stands_48 : decode cX6_stands 48 = .ok (.bipush 9, 2) := by decide +kernel
theorem dX6_stands_50 : decode cX6_stands 50 = .ok (.iload_n 1, 1) := by decide +kernel
theorem dX6_stands_51 : decode cX6_stands 51 = .ok (.iadd, 1) := by decide +kernel
theorem dX6_stands_52 : decode cX6_stands 52 = .ok (.iaload, 1) := by decide +kernel
theorem dX6_stands_53 : decode cX6_stands 53 = .ok (.iadd, 1) := by decide +kernel
theorem dX6_stands_54 : decode cX6_stands 54 = .ok (.istore_n 3, 1) := by decide +kernel
theorem dX6_stands_55 : decode cX6_stands 55 = .ok (.iload_n 2, 1) := by decide +kernel
theorem dX6_stands_56 : decode cX6_stands 56 = .ok (.iconst 2, 1) := by decide +kernel
theorem dX6_stands_57 : decode cX6_stands 57 = .ok (.if_icmp .ne 9, 3) := by decide +kernel
theorem dX6_stands_60 : decode cX6_stands 60 = .ok (.iconst 2, 1) := by decide +kernel
theorem dX6_stands_61 : decode cX6_stands 61 = .ok (.iload_n 3, 1) := by decide +kernel
theorem dX6_stands_62 : decode cX6_stands 62 = .ok (.imul, 1) := by decide +kernel
theorem dX6_stands_63 : decode cX6_stands 63 = .ok (.goto 17, 3) := by decide +kernel
theorem dX6_stands_66 : decode cX6_stands 66 = .ok (.iload_n 2, 1) := by decide +kernel
theorem dX6_stands_67 : decode cX6_stands 67 = .ok (.iconst 3, 1) := by decide +kernel
theorem dX6_stands_68 : decode cX6_stands 68 = .ok (.if_icmp .ne 11, 3) := by decide +kernel
theorem dX6_stands_71 : decode cX6_stands 71 = .ok (.iload_n 3, 1) := by decide +kernel
theorem dX6_stands_72 : decode cX6_stands 72 = .ok (.sipush 1000, 3) := by decide +kernel
theorem dX6_stands_75 : decode cX6_stands 75 = .ok (.isub, 1) := by decide +kernel
theorem dX6_stands_76 : decode cX6_stands 76 = .ok (.goto 4, 3) := by decide +kernel
theorem dX6_stands_79 : decode cX6_stands 79 = .ok (.iload_n 3, 1) := by decide +kernel
theorem dX6_stands_80 : decode cX6_stands 80 = .ok (.ireturn, 1) := by decide +kernel
theorem dX6_ask_0 : decode cX6_ask 0 = .ok (.aload_n 0, 1) := by decide +kernel
theorem dX6_ask_1 : decode cX6_ask 1 = .ok (.iload_n 1, 1) := by decide +kernel
theorem dX6_ask_2 : decode cX6_ask 2 = .ok (.invokevirtual 148, 3) := by decide +kernel
theorem dX6_ask_5 : decode cX6_ask 5 = .ok (.ifCond .eq 12, 3) := by decide +kernel
theorem dX6_ask_8 : decode cX6_ask 8 = .ok (.iload_n 2, 1) := by decide +kernel
theorem dX6_ask_9 : decode cX6_ask 9 = .ok (.iconst 0, 1) := by decide +kernel
theorem dX6_ask_10 : decode cX6_ask 10 = .ok (.iconst 1, 1) := by decide +kernel
theorem dX6_ask_11 : decode cX6_ask 11 = .ok (.invokestatic 50, 3) := by decide +kernel
theorem dX6_ask_14 : decode cX6_ask 14 = .ok (.ifCond .ne 6, 3) := by decide +kernel
theorem dX6_ask_17 : decode cX6_ask 17 = .ok (.ldc 65, 2) := by decide +kernel
theorem dX6_ask_19 : decode cX6_ask 19 = .ok (.ireturn, 1) := by decide +kernel
theorem dX6_ask_20 : decode cX6_ask 20 = .ok (.aload_n 0, 1) := by decide +kernel
theorem dX6_ask_21 : decode cX6_ask 21 = .ok (.iconst 0, 1) := by decide +kernel
theorem dX6_ask_22 : decode cX6_ask 22 = .ok (.putfield 181, 3) := by decide +kernel
theorem dX6_ask_25 : decode cX6_ask 25 = .ok (.iload_n 2, 1) := by decide +kernel
theorem dX6_ask_26 : decode cX6_ask 26 = .ok (.ifCond .ne 9, 3) := by decide +kernel
theorem dX6_ask_29 : decode cX6_ask 29 = .ok (.aload_n 0, 1) := by decide +kernel
theorem dX6_ask_30 : decode cX6_ask 30 = .ok (.iload_n 1, 1) := by decide +kernel
theorem dX6_ask_31 : decode cX6_ask 31 = .ok (.invokevirtual 191, 3) := by decide +kernel
theorem dX6_ask_34 : decode cX6_ask 34 = .ok (.ireturn, 1) := by decide +kernel
theorem dX6_ask_35 : decode cX6_ask 35 = .ok (.aload_n 0, 1) := by decide +kernel
theorem dX6_ask_36 : decode cX6_ask 36 = .ok (.getfield 25, 3) := by decide +kernel
theorem dX6_ask_39 : decode cX6_ask 39 = .ok (.bipush 18, 2) := by decide +kernel
theorem dX6_ask_41 : decode cX6_ask 41 = .ok (.iload_n 1, 1) := by decide +kernel
theorem dX6_ask_42 : decode cX6_ask 42 = .ok (.iadd, 1) := by decide +kernel
theorem dX6_ask_43 : decode cX6_ask 43 = .ok (.iaload, 1) := by decide +kernel
theorem dX6_ask_44 : decode cX6_ask 44 = .ok (.iconst 4, 1) := by decide +kernel
theorem dX6_ask_45 : decode cX6_ask 45 = .ok (.if_icmp .ge 9, 3) := by decide +kernel
theorem dX6_ask_48 : decode cX6_ask 48 = .ok (.aload_n 0, 1) := by decide +kernel
theorem dX6_ask_49 : decode cX6_ask 49 = .ok (.iload_n 1, 1) := by decide +kernel
theorem dX6_ask_50 : decode cX6_ask 50 = .ok (.invokevirtual 188, 3) := by decide +kernel
theorem dX6_ask_53 : decode cX6_ask 53 = .ok (.ireturn, 1) := by decide +kernel
theorem dX6_ask_54 : decode cX6_ask 54 = .ok (.aload_n 0, 1) := by decide +kernel
theorem dX6_ask_55 : decode cX6_ask 55 = .ok (.bipush 23, 2) := by decide +kernel
theorem dX6_ask_57 : decode cX6_ask 57 = .ok (.invokevirtual 184, 3) := by decide +kernel
theorem dX6_ask_60 : decode cX6_ask 60 = .ok (.aload_n 0, 1) := by decide +kernel
theorem dX6_ask_61 : decode cX6_ask 61 = .ok (.bipush 20, 2) := by decide +kernel
theorem dX6_ask_63 : decode cX6_ask 63 = .ok (.invokevirtual 184, 3) := by decide +kernel
theorem dX6_ask_66 : decode cX6_ask 66 = .ok (.iload_n 1, 1) := by decide +kernel
theorem dX6_ask_67 : decode cX6_ask 67 = .ok (.aload_n 0, 1) := by decide +kernel
theorem dX6_ask_68 : decode cX6_ask 68 = .ok (.iload_n 1, 1) := by decide +kernel
theorem dX6_ask_69 : decode cX6_ask 69 = .ok (.invokevirtual 191, 3) := by decide +kernel
theorem dX6_ask_72 : decode cX6_ask 72 = .ok (.isub, 1) := by decide +kernel
theorem dX6_ask_73 : decode cX6_ask 73 = .ok (.ireturn, 1) := by decide +kernel
theorem dX6_trace_0 : decode cX6_trace 0 = .ok (.iload_n 1, 1) := by decide +kernel
theorem dX6_trace_1 : decode cX6_trace 1 = .ok (.iconst 0, 1) := by decide +kernel
theorem dX6_trace_2 : decode cX6_trace 2 = .ok (.aload_n 0, 1) := by decide +kernel
theorem dX6_trace_3 : decode cX6_trace 3 = .ok (.getfield 181, 3) := by decide +kernel
theorem dX6_trace_6 : decode cX6_trace 6 = .ok (.iconst 1, 1) := by decide +kernel
theorem dX6_trace_7 : decode cX6_trace 7 = .ok (.isub, 1) := by decide +kernel
theorem dX6_trace_8 : decode cX6_trace 8 = .ok (.invokestatic 50, 3) := by decide +kernel
theorem dX6_trace_11 : decode cX6_trace 11 = .ok (.ifCond .eq 12, 3) := by decide +kernel
theorem dX6_trace_14 : decode cX6_trace 14 = .ok (.aload_n 0, 1) := by decide +kernel
theorem dX6_trace_15 : decode cX6_trace 15 = .ok (.getfield 47, 3) := by decide +kernel
theorem dX6_trace_18 : decode cX6_trace 18 = .ok (.iload_n 1, 1) := by decide +kernel
theorem dX6_trace_19 : decode cX6_trace 19 = .ok (.iaload, 1) := by decide +kernel
theorem dX6_trace_20 : decode cX6_trace 20 = .ok (.goto 5, 3) := by decide +kernel
theorem dX6_trace_23 : decode cX6_trace 23 = .ok (.ldc 154, 2) := by decide +kernel
theorem dX6_trace_25 : decode cX6_trace 25 = .ok (.ireturn, 1) := by decide +kernel
theorem dX6_count_0 : decode cX6_count 0 = .ok (.iconst 0, 1) := by decide +kernel
theorem dX6_count_1 : decode cX6_count 1 = .ok (.istore_n 2, 1) := by decide +kernel
theorem dX6_count_2 : decode cX6_count 2 = .ok (.iload_n 1, 1) := by decide +kernel
theorem dX6_count_3 : decode cX6_count 3 = .ok (.tableswitch 218 0 9 #[53, 86, 94, 102, 109, 116, 157, 200, 208, 213], 53) := by decide +kernel
theorem dX6_count_56 : decode cX6_count 56 = .ok (.iconst 0, 1) := by decide +kernel
theorem dX6_count_57 : decode cX6_count 57 = .ok (.istore_n 3, 1) := by decide +kernel
theorem dX6_count_58 : decode cX6_count 58 = .ok (.iload_n 3, 1) := by decide +kernel
theorem dX6_count_59 : decode cX6_count 59 = .ok (.bipush 8, 2) := by decide +kernel
theorem dX6_count_61 : decode cX6_count 61 = .ok (.if_icmp .ge 26, 3) := by decide +kernel
theorem dX6_count_64 : decode cX6_count 64 = .ok (.iload_n 2, 1) := by decide +kernel
theorem dX6_count_65 : decode cX6_count 65 = .ok (.aload_n 0, 1) := by decide +kernel
theorem dX6_count_66 : decode cX6_count 66 = .ok (.getfield 7, 3) := by decide +kernel
theorem dX6_count_69 : decode cX6_count 69 = .ok (.iload_n 3, 1) := by decide +kernel
theorem dX6_count_70 : decode cX6_count 70 = .ok (.iaload, 1) := by decide +kernel
theorem dX6_count_71 : decode cX6_count 71 = .ok (.ifCond .ge 7, 3) := by decide +kernel
theorem dX6_count_74 : decode cX6_count 74 = .ok (.iconst 0, 1) := by decide +kernel
theorem dX6_count_75 : decode cX6_count 75 = .ok (.goto 4, 3) := by decide +kernel
theorem dX6_count_78 : decode cX6_count 78 = .ok (.iconst 1, 1) := by decide +kernel
theorem dX6_count_79 : decode cX6_count 79 = .ok (.iadd, 1) := by decide +kernel
theorem dX6_count_80 : decode cX6_count 80 = .ok (.istore_n 2, 1) := by decide +kernel
theorem dX6_count_81 : decode cX6_count 81 = .ok (.iinc 3 1, 3) := by decide +kernel
theorem dX6_count_84 : decode cX6_count 84 = .ok (.goto (-26), 3) := by decide +kernel
theorem dX6_count_87 : decode cX6_count 87 = .ok (.iload_n 2, 1) := by decide +kernel
theorem dX6_count_88 : decode cX6_count 88 = .ok (.ireturn, 1) := by decide +kernel
theorem dX6_count_89 : decode cX6_count 89 = .ok (.aload_n 0, 1) := by decide +kernel
theorem dX6_count_90 : decode cX6_count 90 = .ok (.getfield 25, 3) := by decide +kernel
theorem dX6_count_93 : decode cX6_count 93 = .ok (.bipush 17, 2) := by decide +kernel
theorem dX6_count_95 : decode cX6_count 95 = .ok (.iaload, 1) := by decide +kernel
theorem dX6_count_96 : decode cX6_count 96 = .ok (.ireturn, 1) := by decide +kernel
theorem dX6_count_97 : decode cX6_count 97 = .ok (.aload_n 0, 1) := by decide +kernel
theorem dX6_count_98 : decode cX6_count 98 = .ok (.getfield 25, 3) := by decide +kernel
theorem dX6_count_101 : decode cX6_count 101 = .ok (.bipush 16, 2) := by decide +kernel
theorem dX6_count_103 : decode cX6_count 103 = .ok (.iaload, 1) := by decide +kernel
theorem dX6_count_104 : decode cX6_count 104 = .ok (.ireturn, 1) := by decide +kernel
theorem dX6_count_105 : decode cX6_count 105 = .ok (.aload_n 0, 1) := by decide +kernel
theorem dX6_count_106 : decode cX6_count 106 = .ok (.getfield 25, 3) := by decide +kernel
theorem dX6_count_109 : decode cX6_count 109 = .ok (.iconst 0, 1) := by decide +kernel
theorem dX6_count_110 : decode cX6_count 110 = .ok (.iaload, 1) := by decide +kernel
theorem dX6_count_111 : decode cX6_count 111 = .ok (.ireturn, 1) := by decide +kernel
theorem dX6_count_112 : decode cX6_count 112 = .ok (.aload_n 0, 1) := by decide +kernel
theorem dX6_count_113 : decode cX6_count 113 = .ok (.getfield 25, 3) := by decide +kernel
theorem dX6_count_116 : decode cX6_count 116 = .ok (.iconst 1, 1) := by decide +kernel
theorem dX6_count_117 : decode cX6_count 117 = .ok (.iaload, 1) := by decide +kernel
theorem dX6_count_118 : decode cX6_count 118 = .ok (.ireturn, 1) := by decide +kernel
theorem dX6_count_119 : decode cX6_count 119 = .ok (.iconst 0, 1) := by decide +kernel
theorem dX6_count_120 : decode cX6_count 120 = .ok (.istore_n 3, 1) := by decide +kernel
theorem dX6_count_121 : decode cX6_count 121 = .ok (.iload_n 3, 1) := by decide +kernel
theorem dX6_count_122 : decode cX6_count 122 = .ok (.aload_n 0, 1) := by decide +kernel
theorem dX6_count_123 : decode cX6_count 123 = .ok (.getfield 25, 3) := by decide +kernel
theorem dX6_count_126 : decode cX6_count 126 = .ok (.bipush 17, 2) := by decide +kernel
theorem dX6_count_128 : decode cX6_count 128 = .ok (.iaload, 1) := by decide +kernel
theorem dX6_count_129 : decode cX6_count 129 = .ok (.if_icmp .ge 29, 3) := by decide +kernel
theorem dX6_count_132 : decode cX6_count 132 = .ok (.iload_n 2, 1) := by decide +kernel
theorem dX6_count_133 : decode cX6_count 133 = .ok (.aload_n 0, 1) := by decide +kernel
theorem dX6_count_134 : decode cX6_count 134 = .ok (.getfield 25, 3) := by decide +kernel
theorem dX6_count_137 : decode cX6_count 137 = .ok (.iconst 2, 1) := by decide +kernel
theorem dX6_count_138 : decode cX6_count 138 = .ok (.iload_n 3, 1) := by decide +kernel
theorem dX6_count_139 : decode cX6_count 139 = .ok (.iadd, 1) := by decide +kernel
theorem dX6_count_140 : decode cX6_count 140 = .ok (.iaload, 1) := by decide +kernel
theorem dX6_count_141 : decode cX6_count 141 = .ok (.iconst (-1), 1) := by decide +kernel
theorem dX6_count_142 : decode cX6_count 142 = .ok (.if_icmp .ne 7, 3) := by decide +kernel
theorem dX6_count_145 : decode cX6_count 145 = .ok (.iconst 1, 1) := by decide +kernel
theorem dX6_count_146 : decode cX6_count 146 = .ok (.goto 4, 3) := by decide +kernel
theorem dX6_count_149 : decode cX6_count 149 = .ok (.iconst 0, 1) := by decide +kernel
theorem dX6_count_150 : decode cX6_count 150 = .ok (.iadd, 1) := by decide +kernel
theorem dX6_count_151 : decode cX6_count 151 = .ok (.istore_n 2, 1) := by decide +kernel
theorem dX6_count_152 : decode cX6_count 152 = .ok (.iinc 3 1, 3) := by decide +kernel
theorem dX6_count_155 : decode cX6_count 155 = .ok (.goto (-34), 3) := by decide +kernel
theorem dX6_count_158 : decode cX6_count 158 = .ok (.iload_n 2, 1) := by decide +kernel
theorem dX6_count_159 : decode cX6_count 159 = .ok (.ireturn, 1) := by decide +kernel
theorem dX6_count_160 : decode cX6_count 160 = .ok (.iconst 0, 1) := by decide +kernel
theorem dX6_count_161 : decode cX6_count 161 = .ok (.istore_n 3, 1) := by decide +kernel
theorem dX6_count_162 : decode cX6_count 162 = .ok (.iload_n 3, 1) := by decide +kernel
theorem dX6_count_163 : decode cX6_count 163 = .ok (.aload_n 0, 1) := by decide +kernel
theorem dX6_count_164 : decode cX6_count 164 = .ok (.getfield 25, 3) := by decide +kernel
theorem dX6_count_167 : decode cX6_count 167 = .ok (.bipush 17, 2) := by decide +kernel
theorem dX6_count_169 : decode cX6_count 169 = .ok (.iaload, 1) := by decide +kernel
theorem dX6_count_170 : decode cX6_count 170 = .ok (.if_icmp .ge 31, 3) := by decide +kernel
theorem dX6_count_173 : decode cX6_count 173 = .ok (.iload_n 2, 1) := by decide +kernel
theorem dX6_count_174 : decode cX6_count 174 = .ok (.aload_n 0, 1) := by decide +kernel
theorem dX6_count_175 : decode cX6_count 175 = .ok (.getfield 25, 3) := by decide +kernel
theorem dX6_count_178 : decode cX6_count 178 = .ok (.iconst 2, 1) := by decide +kernel
theorem dX6_count_179 : decode cX6_count 179 = .ok (.iload_n 3, 1) := by decide +kernel
theorem dX6_count_180 : decode cX6_count 180 = .ok (.iadd, 1) := by decide +kernel
theorem dX6_count_181 : decode cX6_count 181 = .ok (.iaload, 1) := by decide +kernel
theorem dX6_count_182 : decode cX6_count 182 = .ok (.invokestatic 130, 3) := by decide +kernel
theorem dX6_count_185 : decode cX6_count 185 = .ok (.ifCond .eq 7, 3) := by decide +kernel
theorem dX6_count_188 : decode cX6_count 188 = .ok (.iconst 1, 1) := by decide +kernel
theorem dX6_count_189 : decode cX6_count 189 = .ok (.goto 4, 3) := by decide +kernel
theorem dX6_count_192 : decode cX6_count 192 = .ok (.iconst 0, 1) := by decide +kernel
theorem dX6_count_193 : decode cX6_count 193 = .ok (.iadd, 1) := by decide +kernel
theorem dX6_count_194 : decode cX6_count 194 = .ok (.istore_n 2, 1) := by decide +kernel
theorem dX6_count_195 : decode cX6_count 195 = .ok (.iinc 3 1, 3) := by decide +kernel
theorem dX6_count_198 : decode cX6_count 198 = .ok (.goto (-36), 3) := by decide +kernel
theorem dX6_count_201 : decode cX6_count 201 = .ok (.iload_n 2, 1) := by decide +kernel
theorem dX6_count_202 : decode cX6_count 202 = .ok (.ireturn, 1) := by decide +kernel
theorem dX6_count_203 : decode cX6_count 203 = .ok (.aload_n 0, 1) := by decide +kernel
theorem dX6_count_204 : decode cX6_count 204 = .ok (.getfield 25, 3) := by decide +kernel
theorem dX6_count_207 : decode cX6_count 207 = .ok (.invokestatic 144, 3) := by decide +kernel
theorem dX6_count_210 : decode cX6_count 210 = .ok (.ireturn, 1) := by decide +kernel
theorem dX6_count_211 : decode cX6_count 211 = .ok (.aload_n 0, 1) := by decide +kernel
theorem dX6_count_212 : decode cX6_count 212 = .ok (.getfield 115, 3) := by decide +kernel
theorem dX6_count_215 : decode cX6_count 215 = .ok (.ireturn, 1) := by decide +kernel
theorem dX6_count_216 : decode cX6_count 216 = .ok (.aload_n 0, 1) := by decide +kernel
theorem dX6_count_217 : decode cX6_count 217 = .ok (.getfield 79, 3) := by decide +kernel
theorem dX6_count_220 : decode cX6_count 220 = .ok (.ireturn, 1) := by decide +kernel
theorem dX6_count_221 : decode cX6_count 221 = .ok (.ldc 65, 2) := by decide +kernel
theorem dX6_count_223 : decode cX6_count 223 = .ok (.ireturn, 1) := by decide +kernel
theorem dX6_status_0 : decode cX6_status 0 = .ok (.aload_n 0, 1) := by decide +kernel
theorem dX6_status_1 : decode cX6_status 1 = .ok (.getfield 57, 3) := by decide +kernel
theorem dX6_status_4 : decode cX6_status 4 = .ok (.ireturn, 1) := by decide +kernel
theorem dJ6_bitCount_0f7a4_0 : decode cJ6_bitCount_0f7a4 0 = .ok (.iload_n 0, 1) := by decide +kernel
theorem dJ6_bitCount_0f7a4_1 : decode cJ6_bitCount_0f7a4 1 = .ok (.iload_n 0, 1) := by decide +kernel
theorem dJ6_bitCount_0f7a4_2 : decode cJ6_bitCount_0f7a4 2 = .ok (.iconst 1, 1) := by decide +kernel
theorem dJ6_bitCount_0f7a4_3 : decode cJ6_bitCount_0f7a4 3 = .ok (.iushr, 1) := by decide +kernel
