theorem dX4_leave_19 : decode cX4_leave 19 = .ok (.aload_n 0, 1) := by decide +kernel
theorem dX4_leave_20 : decode cX4_leave 20 = .ok (.dup, 1) := by decide +kernel
theorem dX4_leave_21 : decode cX4_leave 21 = .ok (.getfield 13, 3) := by decide +kernel
theorem dX4_leave_24 : decode cX4_leave 24 = .ok (.iconst 1, 1) := by decide +kernel
theorem dX4_leave_25 : decode cX4_leave 25 = .ok (.iadd, 1) := by decide +kernel
theorem dX4_leave_26 : decode cX4_leave 26 = .ok (.putfield 13, 3) := by decide +kernel
theorem dX4_leave_29 : decode cX4_leave 29 = .ok (.return_, 1) := by decide +kernel
theorem dX5_init_0 : decode cX5_init 0 = .ok (.aload_n 0, 1) := by decide +kernel
theorem dX5_init_1 : decode cX5_init 1 = .ok (.invokespecial 1, 3) := by decide +kernel
theorem dX5_init_4 : decode cX5_init 4 = .ok (.aload_n 0, 1) := by decide +kernel
theorem dX5_init_5 : decode cX5_init 5 = .ok (.bipush 8, 2) := by decide +kernel
theorem dX5_init_7 : decode cX5_init 7 = .ok (.anewarray 9, 3) := by decide +kernel
theorem dX5_init_10 : decode cX5_init 10 = .ok (.putfield 11, 3) := by decide +kernel
theorem dX5_init_13 : decode cX5_init 13 = .ok (.aload_n 0, 1) := by decide +kernel
theorem dX5_init_14 : decode cX5_init 14 = .ok (.new 15, 3) := by decide +kernel
theorem dX5_init_17 : decode cX5_init 17 = .ok (.dup, 1) := by decide +kernel
theorem dX5_init_18 : decode cX5_init 18 = .ok (.invokespecial 17, 3) := by decide +kernel
theorem dX5_init_21 : decode cX5_init 21 = .ok (.putfield 18, 3) := by decide +kernel
theorem dX5_init_24 : decode cX5_init 24 = .ok (.aload_n 0, 1) := by decide +kernel
theorem dX5_init_25 : decode cX5_init 25 = .ok (.new 22, 3) := by decide +kernel
theorem dX5_init_28 : decode cX5_init 28 = .ok (.dup, 1) := by decide +kernel
theorem dX5_init_29 : decode cX5_init 29 = .ok (.invokespecial 24, 3) := by decide +kernel
theorem dX5_init_32 : decode cX5_init 32 = .ok (.putfield 25, 3) := by decide +kernel
theorem dX5_init_35 : decode cX5_init 35 = .ok (.aload_n 0, 1) := by decide +kernel
theorem dX5_init_36 : decode cX5_init 36 = .ok (.new 29, 3) := by decide +kernel
theorem dX5_init_39 : decode cX5_init 39 = .ok (.dup, 1) := by decide +kernel
theorem dX5_init_40 : decode cX5_init 40 = .ok (.invokespecial 31, 3) := by decide +kernel
theorem dX5_init_43 : decode cX5_init 43 = .ok (.putfield 32, 3) := by decide +kernel
theorem dX5_init_46 : decode cX5_init 46 = .ok (.aload_n 0, 1) := by decide +kernel
theorem dX5_init_47 : decode cX5_init 47 = .ok (.iconst 2, 1) := by decide +kernel
theorem dX5_init_48 : decode cX5_init 48 = .ok (.anewarray 22, 3) := by decide +kernel
theorem dX5_init_51 : decode cX5_init 51 = .ok (.putfield 36, 3) := by decide +kernel
theorem dX5_init_54 : decode cX5_init 54 = .ok (.aload_n 0, 1) := by decide +kernel
theorem dX5_init_55 : decode cX5_init 55 = .ok (.new 40, 3) := by decide +kernel
theorem dX5_init_58 : decode cX5_init 58 = .ok (.dup, 1) := by decide +kernel
theorem dX5_init_59 : decode cX5_init 59 = .ok (.invokespecial 42, 3) := by decide +kernel
theorem dX5_init_62 : decode cX5_init 62 = .ok (.putfield 43, 3) := by decide +kernel
theorem dX5_init_65 : decode cX5_init 65 = .ok (.aload_n 0, 1) := by decide +kernel
theorem dX5_init_66 : decode cX5_init 66 = .ok (.new 22, 3) := by decide +kernel
theorem dX5_init_69 : decode cX5_init 69 = .ok (.dup, 1) := by decide +kernel
theorem dX5_init_70 : decode cX5_init 70 = .ok (.invokespecial 24, 3) := by decide +kernel
theorem dX5_init_73 : decode cX5_init 73 = .ok (.putfield 47, 3) := by decide +kernel
theorem dX5_init_76 : decode cX5_init 76 = .ok (.aload_n 0, 1) := by decide +kernel
theorem dX5_init_77 : decode cX5_init 77 = .ok (.bipush 7, 2) := by decide +kernel
theorem dX5_init_79 : decode cX5_init 79 = .ok (.anewarray 22, 3) := by decide +kernel
theorem dX5_init_82 : decode cX5_init 82 = .ok (.putfield 50, 3) := by decide +kernel
theorem dX5_init_85 : decode cX5_init 85 = .ok (.aload_n 0, 1) := by decide +kernel
theorem dX5_init_86 : decode cX5_init 86 = .ok (.bipush 6, 2) := by decide +kernel
theorem dX5_init_88 : decode cX5_init 88 = .ok (.newarray .int, 2) := by decide +kernel
theorem dX5_init_90 : decode cX5_init 90 = .ok (.putfield 53, 3) := by decide +kernel
theorem dX5_init_93 : decode cX5_init 93 = .ok (.aload_n 0, 1) := by decide +kernel
theorem dX5_init_94 : decode cX5_init 94 = .ok (.bipush 6, 2) := by decide +kernel
theorem dX5_init_96 : decode cX5_init 96 = .ok (.newarray .int, 2) := by decide +kernel
theorem dX5_init_98 : decode cX5_init 98 = .ok (.putfield 57, 3) := by decide +kernel
theorem dX5_init_101 : decode cX5_init 101 = .ok (.aload_n 0, 1) := by decide +kernel
theorem dX5_init_102 : decode cX5_init 102 = .ok (.iconst 0, 1) := by decide +kernel
theorem dX5_init_103 : decode cX5_init 103 = .ok (.putfield 60, 3) := by decide +kernel
theorem dX5_init_106 : decode cX5_init 106 = .ok (.iconst 0, 1) := by decide +kernel
theorem dX5_init_107 : decode cX5_init 107 = .ok (.istore_n 1, 1) := by decide +kernel
theorem dX5_init_108 : decode cX5_init 108 = .ok (.iload_n 1, 1) := by decide +kernel
theorem dX5_init_109 : decode cX5_init 109 = .ok (.bipush 8, 2) := by decide +kernel
theorem dX5_init_111 : decode cX5_init 111 = .ok (.if_icmp .ge 22, 3) := by decide +kernel
theorem dX5_init_114 : decode cX5_init 114 = .ok (.aload_n 0, 1) := by decide +kernel
theorem dX5_init_115 : decode cX5_init 115 = .ok (.getfield 11, 3) := by decide +kernel
theorem dX5_init_118 : decode cX5_init 118 = .ok (.iload_n 1, 1) := by decide +kernel
theorem dX5_init_119 : decode cX5_init 119 = .ok (.new 9, 3) := by decide +kernel
theorem dX5_init_122 : decode cX5_init 122 = .ok (.dup, 1) := by decide +kernel
theorem dX5_init_123 : decode cX5_init 123 = .ok (.invokespecial 64, 3) := by decide +kernel
theorem dX5_init_126 : decode cX5_init 126 = .ok (.aastore, 1) := by decide +kernel
theorem dX5_init_127 : decode cX5_init 127 = .ok (.iinc 1 1, 3) := by decide +kernel
theorem dX5_init_130 : decode cX5_init 130 = .ok (.goto (-22), 3) := by decide +kernel
theorem dX5_init_133 : decode cX5_init 133 = .ok (.iconst 0, 1) := by decide +kernel
theorem dX5_init_134 : decode cX5_init 134 = .ok (.istore_n 1, 1) := by decide +kernel
theorem dX5_init_135 : decode cX5_init 135 = .ok (.iload_n 1, 1) := by decide +kernel
theorem dX5_init_136 : decode cX5_init 136 = .ok (.iconst 2, 1) := by decide +kernel
theorem dX5_init_137 : decode cX5_init 137 = .ok (.if_icmp .ge 22, 3) := by decide +kernel
theorem dX5_init_140 : decode cX5_init 140 = .ok (.aload_n 0, 1) := by decide +kernel
theorem dX5_init_141 : decode cX5_init 141 = .ok (.getfield 36, 3) := by decide +kernel
theorem dX5_init_144 : decode cX5_init 144 = .ok (.iload_n 1, 1) := by decide +kernel
theorem dX5_init_145 : decode cX5_init 145 = .ok (.new 22, 3) := by decide +kernel
theorem dX5_init_148 : decode cX5_init 148 = .ok (.dup, 1) := by decide +kernel
theorem dX5_init_149 : decode cX5_init 149 = .ok (.invokespecial 24, 3) := by decide +kernel
theorem dX5_init_152 : decode cX5_init 152 = .ok (.aastore, 1) := by decide +kernel
theorem dX5_init_153 : decode cX5_init 153 = .ok (.iinc 1 1, 3) := by decide +kernel
theorem dX5_init_156 : decode cX5_init 156 = .ok (.goto (-21), 3) := by decide +kernel
theorem dX5_init_159 : decode cX5_init 159 = .ok (.iconst 0, 1) := by decide +kernel
theorem dX5_init_160 : decode cX5_init 160 = .ok (.istore_n 1, 1) := by decide +kernel
theorem dX5_init_161 : decode cX5_init 161 = .ok (.iload_n 1, 1) := by decide +kernel
theorem dX5_init_162 : decode cX5_init 162 = .ok (.bipush 6, 2) := by decide +kernel
theorem dX5_init_164 : decode cX5_init 164 = .ok (.if_icmp .gt 22, 3) := by decide +kernel
theorem dX5_init_167 : decode cX5_init 167 = .ok (.aload_n 0, 1) := by decide +kernel
theorem dX5_init_168 : decode cX5_init 168 = .ok (.getfield 50, 3) := by decide +kernel
theorem dX5_init_171 : decode cX5_init 171 = .ok (.iload_n 1, 1) := by decide +kernel
theorem dX5_init_172 : decode cX5_init 172 = .ok (.new 22, 3) := by decide +kernel
theorem dX5_init_175 : decode cX5_init 175 = .ok (.dup, 1) := by decide +kernel
theorem dX5_init_176 : decode cX5_init 176 = .ok (.invokespecial 24, 3) := by decide +kernel
theorem dX5_init_179 : decode cX5_init 179 = .ok (.aastore, 1) := by decide +kernel
theorem dX5_init_180 : decode cX5_init 180 = .ok (.iinc 1 1, 3) := by decide +kernel
theorem dX5_init_183 : decode cX5_init 183 = .ok (.goto (-22), 3) := by decide +kernel
theorem dX5_init_186 : decode cX5_init 186 = .ok (.return_, 1) := by decide +kernel
theorem dX5_row_0 : decode cX5_row 0 = .ok (.iload_n 1, 1) := by decide +kernel
theorem dX5_row_1 : decode cX5_row 1 = .ok (.invokestatic 65, 3) := by decide +kernel
theorem dX5_row_4 : decode cX5_row 4 = .ok (.ifCond .ne 18, 3) := by decide +kernel
theorem dX5_row_7 : decode cX5_row 7 = .ok (.iload_n 2, 1) := by decide +kernel
theorem dX5_row_8 : decode cX5_row 8 = .ok (.iconst 0, 1) := by decide +kernel
theorem dX5_row_9 : decode cX5_row 9 = .ok (.iconst 2, 1) := by decide +kernel
theorem dX5_row_10 : decode cX5_row 10 = .ok (.invokestatic 69, 3) := by decide +kernel
theorem dX5_row_13 : decode cX5_row 13 = .ok (.ifCond .ne 9, 3) := by decide +kernel
theorem dX5_row_16 : decode cX5_row 16 = .ok (.iload_n 3, 1) := by decide +kernel
theorem dX5_row_17 : decode cX5_row 17 = .ok (.bipush 40, 2) := by decide +kernel
theorem dX5_row_19 : decode cX5_row 19 = .ok (.if_icmp .le 6, 3) := by decide +kernel
theorem dX5_row_22 : decode cX5_row 22 = .ok (.ldc 73, 2) := by decide +kernel
theorem dX5_row_24 : decode cX5_row 24 = .ok (.ireturn, 1) := by decide +kernel
theorem dX5_row_25 : decode cX5_row 25 = .ok (.iload_n 3, 1) := by decide +kernel
theorem dX5_row_26 : decode cX5_row 26 = .ok (.ifCond .ge 9, 3) := by decide +kernel
theorem dX5_row_29 : decode cX5_row 29 = .ok (.aload_n 0, 1) := by decide +kernel
theorem dX5_row_30 : decode cX5_row 30 = .ok (.iconst 4, 1) := by decide +kernel
theorem dX5_row_31 : decode cX5_row 31 = .ok (.invokevirtual 74, 3) := by decide +kernel
theorem dX5_row_34 : decode cX5_row 34 = .ok (.ireturn, 1) := by decide +kernel
theorem dX5_row_35 : decode cX5_row 35 = .ok (.aload_n 0, 1) := by decide +kernel
theorem dX5_row_36 : decode cX5_row 36 = .ok (.getfield 11, 3) := by decide +kernel
theorem dX5_row_39 : decode cX5_row 39 = .ok (.iload_n 1, 1) := by decide +kernel
theorem dX5_row_40 : decode cX5_row 40 = .ok (.aaload, 1) := by decide +kernel
theorem dX5_row_41 : decode cX5_row 41 = .ok (.iload_n 2, 1) := by decide +kernel
theorem dX5_row_42 : decode cX5_row 42 = .ok (.iload_n 3, 1) := by decide +kernel
theorem dX5_row_43 : decode cX5_row 43 = .ok (.invokevirtual 78, 3) := by decide +kernel
theorem dX5_row_46 : decode cX5_row 46 = .ok (.aload_n 0, 1) := by decide +kernel
theorem dX5_row_47 : decode cX5_row 47 = .ok (.iload_n 3, 1) := by decide +kernel
theorem dX5_row_48 : decode cX5_row 48 = .ok (.invokevirtual 82, 3) := by decide +kernel
theorem dX5_row_51 : decode cX5_row 51 = .ok (.ireturn, 1) := by decide +kernel
theorem dX5_set_0 : decode cX5_set 0 = .ok (.iload_n 1, 1) := by decide +kernel
theorem dX5_set_1 : decode cX5_set 1 = .ok (.invokestatic 65, 3) := by decide +kernel
theorem dX5_set_4 : decode cX5_set 4 = .ok (.ifCond .eq 6, 3) := by decide +kernel
theorem dX5_set_7 : decode cX5_set 7 = .ok (.ldc 73, 2) := by decide +kernel
theorem dX5_set_9 : decode cX5_set 9 = .ok (.ireturn, 1) := by decide +kernel
theorem dX5_set_10 : decode cX5_set 10 = .ok (.aload_n 0, 1) := by decide +kernel
theorem dX5_set_11 : decode cX5_set 11 = .ok (.getfield 11, 3) := by decide +kernel
theorem dX5_set_14 : decode cX5_set 14 = .ok (.iload_n 1, 1) := by decide +kernel
theorem dX5_set_15 : decode cX5_set 15 = .ok (.aaload, 1) := by decide +kernel
theorem dX5_set_16 : decode cX5_set 16 = .ok (.astore 4, 2) := by decide +kernel
theorem dX5_set_18 : decode cX5_set 18 = .ok (.aload 4, 2) := by decide +kernel
theorem dX5_set_20 : decode cX5_set 20 = .ok (.getfield 85, 3) := by decide +kernel
theorem dX5_set_23 : decode cX5_set 23 = .ok (.ifCond .eq 9, 3) := by decide +kernel
theorem dX5_set_26 : decode cX5_set 26 = .ok (.aload_n 0, 1) := by decide +kernel
theorem dX5_set_27 : decode cX5_set 27 = .ok (.iconst 1, 1) := by decide +kernel
theorem dX5_set_28 : decode cX5_set 28 = .ok (.invokevirtual 74, 3) := by decide +kernel
theorem dX5_set_31 : decode cX5_set 31 = .ok (.ireturn, 1) := by decide +kernel
theorem dX5_set_32 : decode cX5_set 32 = .ok (.aload 4, 2) := by decide +kernel
theorem dX5_set_34 : decode cX5_set 34 = .ok (.iload_n 2, 1) := by decide +kernel
theorem dX5_set_35 : decode cX5_set 35 = .ok (.iconst 1, 1) := by decide +kernel
theorem dX5_set_36 : decode cX5_set 36 = .ok (.invokevirtual 89, 3) := by decide +kernel
theorem dX5_set_39 : decode cX5_set 39 = .ok (.ifCond .ne 9, 3) := by decide +kernel
theorem dX5_set_42 : decode cX5_set 42 = .ok (.aload_n 0, 1) := by decide +kernel
theorem dX5_set_43 : decode cX5_set 43 = .ok (.iconst 2, 1) := by decide +kernel
theorem dX5_set_44 : decode cX5_set 44 = .ok (.invokevirtual 74, 3) := by decide +kernel
theorem dX5_set_47 : decode cX5_set 47 = .ok (.ireturn, 1) := by decide +kernel
theorem dX5_set_48 : decode cX5_set 48 = .ok (.aload 4, 2) := by decide +kernel
theorem dX5_set_50 : decode cX5_set 50 = .ok (.getfield 93, 3) := by decide +kernel
theorem dX5_set_53 : decode cX5_set 53 = .ok (.iload_n 2, 1) := by decide +kernel
theorem dX5_set_54 : decode cX5_set 54 = .ok (.aload 4, 2) := by decide +kernel
theorem dX5_set_56 : decode cX5_set 56 = .ok (.iload_n 3, 1) := by decide +kernel
theorem dX5_set_57 : decode cX5_set 57 = .ok (.invokevirtual 96, 3) := by decide +kernel
theorem dX5_set_60 : decode cX5_set 60 = .ok (.iastore, 1) := by decide +kernel
theorem dX5_set_61 : decode cX5_set 61 = .ok (.aload_n 0, 1) := by decide +kernel
theorem dX5_set_62 : decode cX5_set 62 = .ok (.aload 4, 2) := by decide +kernel
theorem dX5_set_64 : decode cX5_set 64 = .ok (.getfield 93, 3) := by decide +kernel
theorem dX5_set_67 : decode cX5_set 67 = .ok (.iload_n 2, 1) := by decide +kernel
theorem dX5_set_68 : decode cX5_set 68 = .ok (.iaload, 1) := by decide +kernel
theorem dX5_set_69 : decode cX5_set 69 = .ok (.invokevirtual 82, 3) := by decide +kernel
theorem dX5_set_72 : decode cX5_set 72 = .ok (.ireturn, 1) := by decide +kernel
theorem dX5_copy_0 : decode cX5_copy 0 = .ok (.iload_n 1, 1) := by decide +kernel
theorem dX5_copy_1 : decode cX5_copy 1 = .ok (.invokestatic 65, 3) := by decide +kernel
theorem dX5_copy_4 : decode cX5_copy 4 = .ok (.ifCond .ne 10, 3) := by decide +kernel
theorem dX5_copy_7 : decode cX5_copy 7 = .ok (.iload_n 3, 1) := by decide +kernel
theorem dX5_copy_8 : decode cX5_copy 8 = .ok (.invokestatic 65, 3) := by decide +kernel
theorem dX5_copy_11 : decode cX5_copy 11 = .ok (.ifCond .eq 6, 3) := by decide +kernel
theorem dX5_copy_14 : decode cX5_copy 14 = .ok (.ldc 73, 2) := by decide +kernel
theorem dX5_copy_16 : decode cX5_copy 16 = .ok (.ireturn, 1) := by decide +kernel
theorem dX5_copy_17 : decode cX5_copy 17 = .ok (.aload_n 0, 1) := by decide +kernel
theorem dX5_copy_18 : decode cX5_copy 18 = .ok (.getfield 11, 3) := by decide +kernel
theorem dX5_copy_21 : decode cX5_copy 21 = .ok (.iload_n 1, 1) := by decide +kernel
theorem dX5_copy_22 : decode cX5_copy 22 = .ok (.aaload, 1) := by decide +kernel
theorem dX5_copy_23 : decode cX5_copy 23 = .ok (.astore 6, 2) := by decide +kernel
theorem dX5_copy_25 : decode cX5_copy 25 = .ok (.aload_n 0, 1) := by decide +kernel
theorem dX5_copy_26 : decode cX5_copy 26 = .ok (.getfield 11, 3) := by decide +kernel
theorem dX5_copy_29 : decode cX5_copy 29 = .ok (.iload_n 3, 1) := by decide +kernel
theorem dX5_copy_30 : decode cX5_copy 30 = .ok (.aaload, 1) := by decide +kernel
theorem dX5_copy_31 : decode cX5_copy 31 = .ok (.astore 7, 2) := by decide +kernel
theorem dX5_copy_33 : decode cX5_copy 33 = .ok (.aload 6, 2) := by decide +kernel
theorem dX5_copy_35 : decode cX5_copy 35 = .ok (.getfield 85, 3) := by decide +kernel
theorem dX5_copy_38 : decode cX5_copy 38 = .ok (.ifCond .ne 11, 3) := by decide +kernel
theorem dX5_copy_41 : decode cX5_copy 41 = .ok (.aload 7, 2) := by decide +kernel
theorem dX5_copy_43 : decode cX5_copy 43 = .ok (.getfield 85, 3) := by decide +kernel
theorem dX5_copy_46 : decode cX5_copy 46 = .ok (.ifCond .eq 9, 3) := by decide +kernel
theorem dX5_copy_49 : decode cX5_copy 49 = .ok (.aload_n 0, 1) := by decide +kernel
theorem dX5_copy_50 : decode cX5_copy 50 = .ok (.iconst 1, 1) := by decide +kernel
theorem dX5_copy_51 : decode cX5_copy 51 = .ok (.invokevirtual 74, 3) := by decide +kernel
theorem dX5_copy_54 : decode cX5_copy 54 = .ok (.ireturn, 1) := by decide +kernel
theorem dX5_copy_55 : decode cX5_copy 55 = .ok (.aload 6, 2) := by decide +kernel
theorem dX5_copy_57 : decode cX5_copy 57 = .ok (.getfield 99, 3) := by decide +kernel
theorem dX5_copy_60 : decode cX5_copy 60 = .ok (.aload 7, 2) := by decide +kernel
theorem dX5_copy_62 : decode cX5_copy 62 = .ok (.getfield 99, 3) := by decide +kernel
theorem dX5_copy_65 : decode cX5_copy 65 = .ok (.if_icmp .eq 9, 3) := by decide +kernel
theorem dX5_copy_68 : decode cX5_copy 68 = .ok (.aload_n 0, 1) := by decide +kernel
theorem dX5_copy_69 : decode cX5_copy 69 = .ok (.iconst 5, 1) := by decide +kernel
theorem dX5_copy_70 : decode cX5_copy 70 = .ok (.invokevirtual 74, 3) := by decide +kernel
theorem dX5_copy_73 : decode cX5_copy 73 = .ok (.ireturn, 1) := by decide +kernel
theorem dX5_copy_74 : decode cX5_copy 74 = .ok (.aload 6, 2) := by decide +kernel
theorem dX5_copy_76 : decode cX5_copy 76 = .ok (.iload_n 2, 1) := by decide +kernel
theorem dX5_copy_77 : decode cX5_copy 77 = .ok (.iload 5, 2) := by decide +kernel
theorem dX5_copy_79 : decode cX5_copy 79 = .ok (.invokevirtual 89, 3) := by decide +kernel
theorem dX5_copy_82 : decode cX5_copy 82 = .ok (.ifCond .eq 15, 3) := by decide +kernel
theorem dX5_copy_85 : decode cX5_copy 85 = .ok (.aload 7, 2) := by decide +kernel
theorem dX5_copy_87 : decode cX5_copy 87 = .ok (.iload 4, 2) := by decide +kernel
theorem dX5_copy_89 : decode cX5_copy 89 = .ok (.iload 5, 2) := by decide +kernel
theorem dX5_copy_91 : decode cX5_copy 91 = .ok (.invokevirtual 89, 3) := by decide +kernel
theorem dX5_copy_94 : decode cX5_copy 94 = .ok (.ifCond .ne 9, 3) := by decide +kernel
theorem dX5_copy_97 : decode cX5_copy 97 = .ok (.aload_n 0, 1) := by decide +kernel
theorem dX5_copy_98 : decode cX5_copy 98 = .ok (.iconst 2, 1) := by decide +kernel
theorem dX5_copy_99 : decode cX5_copy 99 = .ok (.invokevirtual 74, 3) := by decide +kernel
theorem dX5_copy_102 : decode cX5_copy 102 = .ok (.ireturn, 1) := by decide +kernel
theorem dX5_copy_103 : decode cX5_copy 103 = .ok (.aload 6, 2) := by decide +kernel
theorem dX5_copy_105 : decode cX5_copy 105 = .ok (.getfield 93, 3) := by decide +kernel
theorem dX5_copy_108 : decode cX5_copy 108 = .ok (.iload_n 2, 1) := by decide +kernel
theorem dX5_copy_109 : decode cX5_copy 109 = .ok (.aload 7, 2) := by decide +kernel
theorem dX5_copy_111 : decode cX5_copy 111 = .ok (.getfield 93, 3) := by decide +kernel
theorem dX5_copy_114 : decode cX5_copy 114 = .ok (.iload 4, 2) := by decide +kernel
theorem dX5_copy_116 : decode cX5_copy 116 = .ok (.iload 5, 2) := by decide +kernel
theorem dX5_copy_118 : decode cX5_copy 118 = .ok (.invokestatic 102, 3) := by decide +kernel
theorem dX5_copy_121 : decode cX5_copy 121 = .ok (.aload_n 0, 1) := by decide +kernel
theorem dX5_copy_122 : decode cX5_copy 122 = .ok (.iload 5, 2) := by decide +kernel
theorem dX5_copy_124 : decode cX5_copy 124 = .ok (.invokevirtual 82, 3) := by decide +kernel
theorem dX5_copy_127 : decode cX5_copy 127 = .ok (.ireturn, 1) := by decide +kernel
theorem dX5_drop_0 : decode cX5_drop 0 = .ok (.iload_n 1, 1) := by decide +kernel
theorem dX5_drop_1 : decode cX5_drop 1 = .ok (.invokestatic 65, 3) := by decide +kernel
theorem dX5_drop_4 : decode cX5_drop 4 = .ok (.ifCond .eq 6, 3) := by decide +kernel
theorem dX5_drop_7 : decode cX5_drop 7 = .ok (.ldc 73, 2) := by decide +kernel
theorem dX5_drop_9 : decode cX5_drop 9 = .ok (.ireturn, 1) := by decide +kernel
theorem dX5_drop_10 : decode cX5_drop 10 = .ok (.aload_n 0, 1) := by decide +kernel
theorem dX5_drop_11 : decode cX5_drop 11 = .ok (.getfield 11, 3) := by decide +kernel
theorem dX5_drop_14 : decode cX5_drop 14 = .ok (.iload_n 1, 1) := by decide +kernel
theorem dX5_drop_15 : decode cX5_drop 15 = .ok (.aaload, 1) := by decide +kernel
theorem dX5_drop_16 : decode cX5_drop 16 = .ok (.getfield 85, 3) := by decide +kernel
theorem dX5_drop_19 : decode cX5_drop 19 = .ok (.ifCond .eq 9, 3) := by decide +kernel
theorem dX5_drop_22 : decode cX5_drop 22 = .ok (.aload_n 0, 1) := by decide +kernel
theorem dX5_drop_23 : decode cX5_drop 23 = .ok (.iconst 1, 1) := by decide +kernel
theorem dX5_drop_24 : decode cX5_drop 24 = .ok (.invokevirtual 74, 3) := by decide +kernel
theorem dX5_drop_27 : decode cX5_drop 27 = .ok (.ireturn, 1) := by decide +kernel
theorem dX5_drop_28 : decode cX5_drop 28 = .ok (.aload_n 0, 1) := by decide +kernel
theorem dX5_drop_29 : decode cX5_drop 29 = .ok (.getfield 11, 3) := by decide +kernel
theorem dX5_drop_32 : decode cX5_drop 32 = .ok (.iload_n 1, 1) := by decide +kernel
theorem dX5_drop_33 : decode cX5_drop 33 = .ok (.aaload, 1) := by decide +kernel
theorem dX5_drop_34 : decode cX5_drop 34 = .ok (.iconst 1, 1) := by decide +kernel
theorem dX5_drop_35 : decode cX5_drop 35 = .ok (.putfield 85, 3) := by decide +kernel
theorem dX5_drop_38 : decode cX5_drop 38 = .ok (.aload_n 0, 1) := by decide +kernel
theorem dX5_drop_39 : decode cX5_drop 39 = .ok (.aload_n 0, 1) := by decide +kernel
theorem dX5_drop_40 : decode cX5_drop 40 = .ok (.getfield 11, 3) := by decide +kernel
theorem dX5_drop_43 : decode cX5_drop 43 = .ok (.iload_n 1, 1) := by decide +kernel
theorem dX5_drop_44 : decode cX5_drop 44 = .ok (.aaload, 1) := by decide +kernel
theorem dX5_drop_45 : decode cX5_drop 45 = .ok (.getfield 108, 3) := by decide +kernel
theorem dX5_drop_48 : decode cX5_drop 48 = .ok (.invokevirtual 82, 3) := by decide +kernel
theorem dX5_drop_51 : decode cX5_drop 51 = .ok (.ireturn, 1) := by decide +kernel
theorem dX5_feed_0 : decode cX5_feed 0 = .ok (.iload_n 1, 1) := by decide +kernel
theorem dX5_feed_1 : decode cX5_feed 1 = .ok (.iconst 0, 1) := by decide +kernel
theorem dX5_feed_2 : decode cX5_feed 2 = .ok (.sipush 255, 3) := by decide +kernel
theorem dX5_feed_5 : decode cX5_feed 5 = .ok (.invokestatic 69, 3) := by decide +kernel
theorem dX5_feed_8 : decode cX5_feed 8 = .ok (.ifCond .eq 6, 3) := by decide +kernel
theorem dX5_feed_11 : decode cX5_feed 11 = .ok (.ldc 73, 2) := by decide +kernel
theorem dX5_feed_13 : decode cX5_feed 13 = .ok (.ireturn, 1) := by decide +kernel
theorem dX5_feed_14 : decode cX5_feed 14 = .ok (.aload_n 0, 1) := by decide +kernel
theorem dX5_feed_15 : decode cX5_feed 15 = .ok (.getfield 18, 3) := by decide +kernel
theorem dX5_feed_18 : decode cX5_feed 18 = .ok (.getfield 111, 3) := by decide +kernel
theorem dX5_feed_21 : decode cX5_feed 21 = .ok (.bipush 90, 2) := by decide +kernel
theorem dX5_feed_23 : decode cX5_feed 23 = .ok (.if_icmp .lt 6, 3) := by decide +kernel
theorem dX5_feed_26 : decode cX5_feed 26 = .ok (.ldc 112, 2) := by decide +kernel
theorem dX5_feed_28 : decode cX5_feed 28 = .ok (.ireturn, 1) := by decide +kernel
theorem dX5_feed_29 : decode cX5_feed 29 = .ok (.aload_n 0, 1) := by decide +kernel
theorem dX5_feed_30 : decode cX5_feed 30 = .ok (.getfield 18, 3) := by decide +kernel
theorem dX5_feed_33 : decode cX5_feed 33 = .ok (.iload_n 1, 1) := by decide +kernel
theorem dX5_feed_34 : decode cX5_feed 34 = .ok (.invokevirtual 113, 3) := by decide +kernel
theorem dX5_feed_37 : decode cX5_feed 37 = .ok (.aload_n 0, 1) := by decide +kernel
theorem dX5_feed_38 : decode cX5_feed 38 = .ok (.getfield 18, 3) := by decide +kernel
theorem dX5_feed_41 : decode cX5_feed 41 = .ok (.getfield 111, 3) := by decide +kernel
theorem dX5_feed_44 : decode cX5_feed 44 = .ok (.ireturn, 1) := by decide +kernel
theorem dX5_stair_0 : decode cX5_stair 0 = .ok (.aload_n 0, 1) := by decide +kernel
theorem dX5_stair_1 : decode cX5_stair 1 = .ok (.getfield 18, 3) := by decide +kernel
theorem dX5_stair_4 : decode cX5_stair 4 = .ok (.aload_n 0, 1) := by decide +kernel
theorem dX5_stair_5 : decode cX5_stair 5 = .ok (.getfield 47, 3) := by decide +kernel
theorem dX5_stair_8 : decode cX5_stair 8 = .ok (.invokevirtual 117, 3) := by decide +kernel
theorem dX5_stair_11 : decode cX5_stair 11 = .ok (.istore_n 1, 1) := by decide +kernel
theorem dX5_stair_12 : decode cX5_stair 12 = .ok (.aload_n 0, 1) := by decide +kernel
theorem dX5_stair_13 : decode cX5_stair 13 = .ok (.getfield 18, 3) := by decide +kernel
theorem dX5_stair_16 : decode cX5_stair 16 = .ok (.iconst 0, 1) := by decide +kernel
theorem dX5_stair_17 : decode cX5_stair 17 = .ok (.putfield 111, 3) := by decide +kernel
theorem dX5_stair_20 : decode cX5_stair 20 = .ok (.iload_n 1, 1) := by decide +kernel
theorem dX5_stair_21 : decode cX5_stair 21 = .ok (.ldc 121, 2) := by decide +kernel
theorem dX5_stair_23 : decode cX5_stair 23 = .ok (.if_icmp .eq 8, 3) := by decide +kernel
theorem dX5_stair_26 : decode cX5_stair 26 = .ok (.ldc 122, 2) := by decide +kernel
theorem dX5_stair_28 : decode cX5_stair 28 = .ok (.iload_n 1, 1) := by decide +kernel
theorem dX5_stair_29 : decode cX5_stair 29 = .ok (.isub, 1) := by decide +kernel
theorem dX5_stair_30 : decode cX5_stair 30 = .ok (.ireturn, 1) := by decide +kernel
theorem dX5_stair_31 : decode cX5_stair 31 = .ok (.aload_n 0, 1) := by decide +kernel
theorem dX5_stair_32 : decode cX5_stair 32 = .ok (.getfield 25, 3) := by decide +kernel
theorem dX5_stair_35 : decode cX5_stair 35 = .ok (.aload_n 0, 1) := by decide +kernel
theorem dX5_stair_36 : decode cX5_stair 36 = .ok (.getfield 47, 3) := by decide +kernel
theorem dX5_stair_39 : decode cX5_stair 39 = .ok (.invokevirtual 123, 3) := by decide +kernel
theorem dX5_stair_42 : decode cX5_stair 42 = .ok (.aload_n 0, 1) := by decide +kernel
theorem dX5_stair_43 : decode cX5_stair 43 = .ok (.getfield 32, 3) := by decide +kernel
theorem dX5_stair_46 : decode cX5_stair 46 = .ok (.invokevirtual 127, 3) := by decide +kernel
theorem dX5_stair_49 : decode cX5_stair 49 = .ok (.aload_n 0, 1) := by decide +kernel
theorem dX5_stair_50 : decode cX5_stair 50 = .ok (.getfield 25, 3) := by decide +kernel
theorem dX5_stair_53 : decode cX5_stair 53 = .ok (.getfield 130, 3) := by decide +kernel
theorem dX5_stair_56 : decode cX5_stair 56 = .ok (.ireturn, 1) := by decide +kernel
theorem dX5_fault_0 : decode cX5_fault 0 = .ok (.aload_n 0, 1) := by decide +kernel
theorem dX5_fault_1 : decode cX5_fault 1 = .ok (.getfield 18, 3) := by decide +kernel
theorem dX5_fault_4 : decode cX5_fault 4 = .ok (.getfield 133, 3) := by decide +kernel
theorem dX5_fault_7 : decode cX5_fault 7 = .ok (.ireturn, 1) := by decide +kernel
theorem dX5_ticks_0 : decode cX5_ticks 0 = .ok (.aload_n 0, 1) := by decide +kernel
theorem dX5_ticks_1 : decode cX5_ticks 1 = .ok (.invokevirtual 136, 3) := by decide +kernel
theorem dX5_ticks_4 : decode cX5_ticks 4 = .ok (.ifCond .eq 6, 3) := by decide +kernel
theorem dX5_ticks_7 : decode cX5_ticks 7 = .ok (.ldc 140, 2) := by decide +kernel
theorem dX5_ticks_9 : decode cX5_ticks 9 = .ok (.ireturn, 1) := by decide +kernel
theorem dX5_ticks_10 : decode cX5_ticks 10 = .ok (.iload_n 1, 1) := by decide +kernel
theorem dX5_ticks_11 : decode cX5_ticks 11 = .ok (.iconst 1, 1) := by decide +kernel
theorem dX5_ticks_12 : decode cX5_ticks 12 = .ok (.bipush 24, 2) := by decide +kernel
theorem dX5_ticks_14 : decode cX5_ticks 14 = .ok (.invokestatic 69, 3) := by decide +kernel
theorem dX5_ticks_17 : decode cX5_ticks 17 = .ok (.ifCond .eq 6, 3) := by decide +kernel
theorem dX5_ticks_20 : decode cX5_ticks 20 = .ok (.ldc 73, 2) := by decide +kernel
theorem dX5_ticks_22 : decode cX5_ticks 22 = .ok (.ireturn, 1) := by decide +kernel
theorem dX5_ticks_23 : decode cX5_ticks 23 = .ok (.aload_n 0, 1) := by decide +kernel
theorem dX5_ticks_24 : decode cX5_ticks 24 = .ok (.getfield 25, 3) := by decide +kernel
theorem dX5_ticks_27 : decode cX5_ticks 27 = .ok (.getfield 141, 3) := by decide +kernel
theorem dX5_ticks_30 : decode cX5_ticks 30 = .ok (.iload_n 1, 1) := by decide +kernel
theorem dX5_ticks_31 : decode cX5_ticks 31 = .ok (.iadd, 1) := by decide +kernel
theorem dX5_ticks_32 : decode cX5_ticks 32 = .ok (.sipush 9999, 3) := by decide +kernel
theorem dX5_ticks_35 : decode cX5_ticks 35 = .ok (.if_icmp .le 6, 3) := by decide +kernel
theorem dX5_ticks_38 : decode cX5_ticks 38 = .ok (.ldc 112, 2) := by decide +kernel
theorem dX5_ticks_40 : decode cX5_ticks 40 = .ok (.ireturn, 1) := by decide +kernel
theorem dX5_ticks_41 : decode cX5_ticks 41 = .ok (.iconst 0, 1) := by decide +kernel
theorem dX5_ticks_42 : decode cX5_ticks 42 = .ok (.istore_n 2, 1) := by decide +kernel
theorem dX5_ticks_43 : decode cX5_ticks 43 = .ok (.iload_n 2, 1) := by decide +kernel
theorem dX5_ticks_44 : decode cX5_ticks 44 = .ok (.iload_n 1, 1) := by decide +kernel
theorem dX5_ticks_45 : decode cX5_ticks 45 = .ok (.if_icmp .ge 28, 3) := by decide +kernel
theorem dX5_ticks_48 : decode cX5_ticks 48 = .ok (.aload_n 0, 1) := by decide +kernel
theorem dX5_ticks_49 : decode cX5_ticks 49 = .ok (.getfield 32, 3) := by decide +kernel
theorem dX5_ticks_52 : decode cX5_ticks 52 = .ok (.aload_n 0, 1) := by decide +kernel
theorem dX5_ticks_53 : decode cX5_ticks 53 = .ok (.getfield 25, 3) := by decide +kernel
theorem dX5_ticks_56 : decode cX5_ticks 56 = .ok (.invokevirtual 144, 3) := by decide +kernel
theorem dX5_ticks_59 : decode cX5_ticks 59 = .ok (.aload_n 0, 1) := by decide +kernel
theorem dX5_ticks_60 : decode cX5_ticks 60 = .ok (.getfield 25, 3) := by decide +kernel
theorem dX5_ticks_63 : decode cX5_ticks 63 = .ok (.invokevirtual 147, 3) := by decide +kernel
theorem dX5_ticks_66 : decode cX5_ticks 66 = .ok (.pop, 1) := by decide +kernel
theorem dX5_ticks_67 : decode cX5_ticks 67 = .ok (.iinc 2 1, 3) := by decide +kernel
theorem dX5_ticks_70 : decode cX5_ticks 70 = .ok (.goto (-27), 3) := by decide +kernel
theorem dX5_ticks_73 : decode cX5_ticks 73 = .ok (.aload_n 0, 1) := by decide +kernel
theorem dX5_ticks_74 : decode cX5_ticks 74 = .ok (.getfield 25, 3) := by decide +kernel
theorem dX5_ticks_77 : decode cX5_ticks 77 = .ok (.bipush 99, 2) := by decide +kernel
theorem dX5_ticks_79 : decode cX5_ticks 79 = .ok (.invokevirtual 151, 3) := by decide +kernel
theorem dX5_ticks_82 : decode cX5_ticks 82 = .ok (.ireturn, 1) := by decide +kernel
theorem dX5_speed_0 : decode cX5_speed 0 = .ok (.aload_n 0, 1) := by decide +kernel
theorem dX5_speed_1 : decode cX5_speed 1 = .ok (.invokevirtual 136, 3) := by decide +kernel
theorem dX5_speed_4 : decode cX5_speed 4 = .ok (.ifCond .eq 6, 3) := by decide +kernel
theorem dX5_speed_7 : decode cX5_speed 7 = .ok (.ldc 140, 2) := by decide +kernel
theorem dX5_speed_9 : decode cX5_speed 9 = .ok (.ireturn, 1) := by decide +kernel
theorem dX5_speed_10 : decode cX5_speed 10 = .ok (.iload_n 1, 1) := by decide +kernel
theorem dX5_speed_11 : decode cX5_speed 11 = .ok (.iconst 0, 1) := by decide +kernel
theorem dX5_speed_12 : decode cX5_speed 12 = .ok (.iconst 2, 1) := by decide +kernel
theorem dX5_speed_13 : decode cX5_speed 13 = .ok (.invokestatic 69, 3) := by decide +kernel
theorem dX5_speed_16 : decode cX5_speed 16 = .ok (.ifCond .eq 6, 3) := by decide +kernel
theorem dX5_speed_19 : decode cX5_speed 19 = .ok (.ldc 73, 2) := by decide +kernel
theorem dX5_speed_21 : decode cX5_speed 21 = .ok (.ireturn, 1) := by decide +kernel
theorem dX5_speed_22 : decode cX5_speed 22 = .ok (.aload_n 0, 1) := by decide +kernel
theorem dX5_speed_23 : decode cX5_speed 23 = .ok (.getfield 25, 3) := by decide +kernel
theorem dX5_speed_26 : decode cX5_speed 26 = .ok (.getfield 154, 3) := by decide +kernel
theorem dX5_speed_29 : decode cX5_speed 29 = .ok (.istore_n 2, 1) := by decide +kernel
theorem dX5_speed_30 : decode cX5_speed 30 = .ok (.aload_n 0, 1) := by decide +kernel
theorem dX5_speed_31 : decode cX5_speed 31 = .ok (.getfield 32, 3) := by decide +kernel
theorem dX5_speed_34 : decode cX5_speed 34 = .ok (.aload_n 0, 1) := by decide +kernel
theorem dX5_speed_35 : decode cX5_speed 35 = .ok (.getfield 25, 3) := by decide +kernel
theorem dX5_speed_38 : decode cX5_speed 38 = .ok (.invokevirtual 144, 3) := by decide +kernel
theorem dX5_speed_41 : decode cX5_speed 41 = .ok (.aload_n 0, 1) := by decide +kernel
theorem dX5_speed_42 : decode cX5_speed 42 = .ok (.getfield 25, 3) := by decide +kernel
theorem dX5_speed_45 : decode cX5_speed 45 = .ok (.iload_n 1, 1) := by decide +kernel
theorem dX5_speed_46 : decode cX5_speed 46 = .ok (.putfield 154, 3) := by decide +kernel
theorem dX5_speed_49 : decode cX5_speed 49 = .ok (.iload_n 2, 1) := by decide +kernel
theorem dX5_speed_50 : decode cX5_speed 50 = .ok (.ireturn, 1) := by decide +kernel
theorem dX5_cross_0 : decode cX5_cross 0 = .ok (.aload_n 0, 1) := by decide +kernel
theorem dX5_cross_1 : decode cX5_cross 1 = .ok (.iload_n 1, 1) := by decide +kernel
theorem dX5_cross_2 : decode cX5_cross 2 = .ok (.invokevirtual 157, 3) := by decide +kernel
theorem dX5_cross_5 : decode cX5_cross 5 = .ok (.ifCond .eq 6, 3) := by decide +kernel
theorem dX5_cross_8 : decode cX5_cross 8 = .ok (.ldc 73, 2) := by decide +kernel
theorem dX5_cross_10 : decode cX5_cross 10 = .ok (.ireturn, 1) := by decide +kernel
theorem dX5_cross_11 : decode cX5_cross 11 = .ok (.aload_n 0, 1) := by decide +kernel
theorem dX5_cross_12 : decode cX5_cross 12 = .ok (.getfield 25, 3) := by decide +kernel
theorem dX5_cross_15 : decode cX5_cross 15 = .ok (.getfield 160, 3) := by decide +kernel
theorem dX5_cross_18 : decode cX5_cross 18 = .ok (.iload_n 1, 1) := by decide +kernel
theorem dX5_cross_19 : decode cX5_cross 19 = .ok (.iaload, 1) := by decide +kernel
theorem dX5_cross_20 : decode cX5_cross 20 = .ok (.bipush 99, 2) := by decide +kernel
theorem dX5_cross_22 : decode cX5_cross 22 = .ok (.if_icmp .eq 14, 3) := by decide +kernel
theorem dX5_cross_25 : decode cX5_cross 25 = .ok (.aload_n 0, 1) := by decide +kernel
theorem dX5_cross_26 : decode cX5_cross 26 = .ok (.getfield 25, 3) := by decide +kernel
theorem dX5_cross_29 : decode cX5_cross 29 = .ok (.iload_n 1, 1) := by decide +kernel
theorem dX5_cross_30 : decode cX5_cross 30 = .ok (.invokevirtual 163, 3) := by decide +kernel
theorem dX5_cross_33 : decode cX5_cross 33 = .ok (.ifCond .ne 6, 3) := by decide +kernel
theorem dX5_cross_36 : decode cX5_cross 36 = .ok (.ldc 140, 2) := by decide +kernel
theorem dX5_cross_38 : decode cX5_cross 38 = .ok (.ireturn, 1) := by decide +kernel
theorem dX5_cross_39 : decode cX5_cross 39 = .ok (.aload_n 0, 1) := by decide +kernel
theorem dX5_cross_40 : decode cX5_cross 40 = .ok (.getfield 32, 3) := by decide +kernel
theorem dX5_cross_43 : decode cX5_cross 43 = .ok (.aload_n 0, 1) := by decide +kernel
theorem dX5_cross_44 : decode cX5_cross 44 = .ok (.getfield 25, 3) := by decide +kernel
theorem dX5_cross_47 : decode cX5_cross 47 = .ok (.invokevirtual 144, 3) := by decide +kernel
theorem dX5_cross_50 : decode cX5_cross 50 = .ok (.aload_n 0, 1) := by decide +kernel
theorem dX5_cross_51 : decode cX5_cross 51 = .ok (.getfield 25, 3) := by decide +kernel
theorem dX5_cross_54 : decode cX5_cross 54 = .ok (.getfield 166, 3) := by decide +kernel
theorem dX5_cross_57 : decode cX5_cross 57 = .ok (.iload_n 1, 1) := by decide +kernel
theorem dX5_cross_58 : decode cX5_cross 58 = .ok (.iconst 1, 1) := by decide +kernel
theorem dX5_cross_59 : decode cX5_cross 59 = .ok (.aload_n 0, 1) := by decide +kernel
theorem dX5_cross_60 : decode cX5_cross 60 = .ok (.getfield 25, 3) := by decide +kernel
theorem dX5_cross_63 : decode cX5_cross 63 = .ok (.getfield 166, 3) := by decide +kernel
theorem dX5_cross_66 : decode cX5_cross 66 = .ok (.iload_n 1, 1) := by decide +kernel
theorem dX5_cross_67 : decode cX5_cross 67 = .ok (.iaload, 1) := by decide +kernel
theorem dX5_cross_68 : decode cX5_cross 68 = .ok (.isub, 1) := by decide +kernel
theorem dX5_cross_69 : decode cX5_cross 69 = .ok (.iastore, 1) := by decide +kernel
theorem dX5_cross_70 : decode cX5_cross 70 = .ok (.aload_n 0, 1) := by decide +kernel
theorem dX5_cross_71 : decode cX5_cross 71 = .ok (.getfield 25, 3) := by decide +kernel
theorem dX5_cross_74 : decode cX5_cross 74 = .ok (.getfield 166, 3) := by decide +kernel
theorem dX5_cross_77 : decode cX5_cross 77 = .ok (.iload_n 1, 1) := by decide +kernel
theorem dX5_cross_78 : decode cX5_cross 78 = .ok (.iaload, 1) := by decide +kernel
theorem dX5_cross_79 : decode cX5_cross 79 = .ok (.ireturn, 1) := by decide +kernel
theorem dX5_take_0 : decode cX5_take 0 = .ok (.aload_n 0, 1) := by decide +kernel
theorem dX5_take_1 : decode cX5_take 1 = .ok (.iload_n 1, 1) := by decide +kernel
theorem dX5_take_2 : decode cX5_take 2 = .ok (.invokevirtual 157, 3) := by decide +kernel
theorem dX5_take_5 : decode cX5_take 5 = .ok (.ifCond .eq 6, 3) := by decide +kernel
theorem dX5_take_8 : decode cX5_take 8 = .ok (.ldc 73, 2) := by decide +kernel
theorem dX5_take_10 : decode cX5_take 10 = .ok (.ireturn, 1) := by decide +kernel
theorem dX5_take_11 : decode cX5_take 11 = .ok (.aload_n 0, 1) := by decide +kernel
theorem dX5_take_12 : decode cX5_take 12 = .ok (.getfield 25, 3) := by decide +kernel
theorem dX5_take_15 : decode cX5_take 15 = .ok (.getfield 160, 3) := by decide +kernel
theorem dX5_take_18 : decode cX5_take 18 = .ok (.iload_n 1, 1) := by decide +kernel
theorem dX5_take_19 : decode cX5_take 19 = .ok (.iaload, 1) := by decide +kernel
theorem dX5_take_20 : decode cX5_take 20 = .ok (.istore_n 2, 1) := by decide +kernel
theorem dX5_take_21 : decode cX5_take 21 = .ok (.iload_n 2, 1) := by decide +kernel
theorem dX5_take_22 : decode cX5_take 22 = .ok (.bipush 99, 2) := by decide +kernel
theorem dX5_take_24 : decode cX5_take 24 = .ok (.if_icmp .ne 6, 3) := by decide +kernel
theorem dX5_take_27 : decode cX5_take 27 = .ok (.ldc 140, 2) := by decide +kernel
theorem dX5_take_29 : decode cX5_take 29 = .ok (.ireturn, 1) := by decide +kernel
theorem dX5_take_30 : decode cX5_take 30 = .ok (.aload_n 0, 1) := by decide +kernel
theorem dX5_take_31 : decode cX5_take 31 = .ok (.getfield 32, 3) := by decide +kernel
theorem dX5_take_34 : decode cX5_take 34 = .ok (.aload_n 0, 1) := by decide +kernel
theorem dX5_take_35 : decode cX5_take 35 = .ok (.getfield 25, 3) := by decide +kernel
theorem dX5_take_38 : decode cX5_take 38 = .ok (.invokevirtual 144, 3) := by decide +kernel
theorem dX5_take_41 : decode cX5_take 41 = .ok (.aload_n 0, 1) := by decide +kernel
theorem dX5_take_42 : decode cX5_take 42 = .ok (.getfield 25, 3) := by decide +kernel
theorem dX5_take_45 : decode cX5_take 45 = .ok (.getfield 160, 3) := by decide +kernel
theorem dX5_take_48 : decode cX5_take 48 = .ok (.iload_n 1, 1) := by decide +kernel
theorem dX5_take_49 : decode cX5_take 49 = .ok (.bipush 99, 2) := by decide +kernel
theorem dX5_take_51 : decode cX5_take 51 = .ok (.iastore, 1) := by decide +kernel
theorem dX5_take_52 : decode cX5_take 52 = .ok (.iload_n 2, 1) := by decide +kernel
theorem dX5_take_53 : decode cX5_take 53 = .ok (.ireturn, 1) := by decide +kernel
theorem dX5_again_0 : decode cX5_again 0 = .ok (.aload_n 0, 1) := by decide +kernel
theorem dX5_again_1 : decode cX5_again 1 = .ok (.iload_n 1, 1) := by decide +kernel
theorem dX5_again_2 : decode cX5_again 2 = .ok (.invokevirtual 157, 3) := by decide +kernel
theorem dX5_again_5 : decode cX5_again 5 = .ok (.ifCond .ne 12, 3) := by decide +kernel
theorem dX5_again_8 : decode cX5_again 8 = .ok (.iload_n 2, 1) := by decide +kernel
theorem dX5_again_9 : decode cX5_again 9 = .ok (.iconst 0, 1) := by decide +kernel
theorem dX5_again_10 : decode cX5_again 10 = .ok (.iconst 1, 1) := by decide +kernel
theorem dX5_again_11 : decode cX5_again 11 = .ok (.invokestatic 69, 3) := by decide +kernel
theorem dX5_again_14 : decode cX5_again 14 = .ok (.ifCond .eq 6, 3) := by decide +kernel
theorem dX5_again_17 : decode cX5_again 17 = .ok (.ldc 73, 2) := by decide +kernel
theorem dX5_again_19 : decode cX5_again 19 = .ok (.ireturn, 1) := by decide +kernel
theorem dX5_again_20 : decode cX5_again 20 = .ok (.aload_n 0, 1) := by decide +kernel
theorem dX5_again_21 : decode cX5_again 21 = .ok (.getfield 25, 3) := by decide +kernel
theorem dX5_again_24 : decode cX5_again 24 = .ok (.getfield 160, 3) := by decide +kernel
theorem dX5_again_27 : decode cX5_again 27 = .ok (.iload_n 1, 1) := by decide +kernel
theorem dX5_again_28 : decode cX5_again 28 = .ok (.iaload, 1) := by decide +kernel
theorem dX5_again_29 : decode cX5_again 29 = .ok (.bipush 99, 2) := by decide +kernel
theorem dX5_again_31 : decode cX5_again 31 = .ok (.if_icmp .eq 6, 3) := by decide +kernel
theorem dX5_again_34 : decode cX5_again 34 = .ok (.ldc 140, 2) := by decide +kernel
theorem dX5_again_36 : decode cX5_again 36 = .ok (.ireturn, 1) := by decide +kernel
theorem dX5_again_37 : decode cX5_again 37 = .ok (.aload_n 0, 1) := by decide +kernel
theorem dX5_again_38 : decode cX5_again 38 = .ok (.getfield 32, 3) := by decide +kernel
theorem dX5_again_41 : decode cX5_again 41 = .ok (.aload_n 0, 1) := by decide +kernel
theorem dX5_again_42 : decode cX5_again 42 = .ok (.getfield 25, 3) := by decide +kernel
theorem dX5_again_45 : decode cX5_again 45 = .ok (.invokevirtual 144, 3) := by decide +kernel
theorem dX5_again_48 : decode cX5_again 48 = .ok (.aload_n 0, 1) := by decide +kernel
theorem dX5_again_49 : decode cX5_again 49 = .ok (.getfield 25, 3) := by decide +kernel
theorem dX5_again_52 : decode cX5_again 52 = .ok (.iload_n 1, 1) := by decide +kernel
theorem dX5_again_53 : decode cX5_again 53 = .ok (.iload_n 2, 1) := by decide +kernel
theorem dX5_again_54 : decode cX5_again 54 = .ok (.invokevirtual 169, 3) := by decide +kernel
theorem dX5_again_57 : decode cX5_again 57 = .ok (.aload_n 0, 1) := by decide +kernel
theorem dX5_again_58 : decode cX5_again 58 = .ok (.getfield 25, 3) := by decide +kernel
theorem dX5_again_61 : decode cX5_again 61 = .ok (.bipush 99, 2) := by decide +kernel
theorem dX5_again_63 : decode cX5_again 63 = .ok (.invokevirtual 151, 3) := by decide +kernel
theorem dX5_again_66 : decode cX5_again 66 = .ok (.ireturn, 1) := by decide +kernel
theorem dX5_undo_0 : decode cX5_undo 0 = .ok (.aload_n 0, 1) := by decide +kernel
theorem dX5_undo_1 : decode cX5_undo 1 = .ok (.getfield 32, 3) := by decide +kernel
theorem dX5_undo_4 : decode cX5_undo 4 = .ok (.getfield 172, 3) := by decide +kernel
theorem dX5_undo_7 : decode cX5_undo 7 = .ok (.ifCond .ne 6, 3) := by decide +kernel
theorem dX5_undo_10 : decode cX5_undo 10 = .ok (.ldc 140, 2) := by decide +kernel
theorem dX5_undo_12 : decode cX5_undo 12 = .ok (.ireturn, 1) := by decide +kernel
theorem dX5_undo_13 : decode cX5_undo 13 = .ok (.aload_n 0, 1) := by decide +kernel
theorem dX5_undo_14 : decode cX5_undo 14 = .ok (.getfield 32, 3) := by decide +kernel
theorem dX5_undo_17 : decode cX5_undo 17 = .ok (.aload_n 0, 1) := by decide +kernel
theorem dX5_undo_18 : decode cX5_undo 18 = .ok (.getfield 25, 3) := by decide +kernel
theorem dX5_undo_21 : decode cX5_undo 21 = .ok (.invokevirtual 175, 3) := by decide +kernel
theorem dX5_undo_24 : decode cX5_undo 24 = .ok (.aload_n 0, 1) := by decide +kernel
theorem dX5_undo_25 : decode cX5_undo 25 = .ok (.getfield 32, 3) := by decide +kernel
theorem dX5_undo_28 : decode cX5_undo 28 = .ok (.getfield 172, 3) := by decide +kernel
theorem dX5_undo_31 : decode cX5_undo 31 = .ok (.ireturn, 1) := by decide +kernel
theorem dX5_rider_0 : decode cX5_rider 0 = .ok (.aload_n 0, 1) := by decide +kernel
theorem dX5_rider_1 : decode cX5_rider 1 = .ok (.iload_n 1, 1) := by decide +kernel
theorem dX5_rider_2 : decode cX5_rider 2 = .ok (.invokevirtual 157, 3) := by decide +kernel
theorem dX5_rider_5 : decode cX5_rider 5 = .ok (.ifCond .eq 6, 3) := by decide +kernel
theorem dX5_rider_8 : decode cX5_rider 8 = .ok (.ldc 73, 2) := by decide +kernel
theorem dX5_rider_10 : decode cX5_rider 10 = .ok (.ireturn, 1) := by decide +kernel
theorem dX5_rider_11 : decode cX5_rider 11 = .ok (.iload_n 2, 1) := by decide +kernel
theorem dX5_rider_12 : decode cX5_rider 12 = .ok (.tableswitch 106 0 3 #[32, 42, 52, 64], 32) := by decide +kernel
theorem dX5_rider_44 : decode cX5_rider 44 = .ok (.aload_n 0, 1) := by decide +kernel
theorem dX5_rider_45 : decode cX5_rider 45 = .ok (.getfield 25, 3) := by decide +kernel
theorem dX5_rider_48 : decode cX5_rider 48 = .ok (.getfield 160, 3) := by decide +kernel
theorem dX5_rider_51 : decode cX5_rider 51 = .ok (.iload_n 1, 1) := by decide +kernel
theorem dX5_rider_52 : decode cX5_rider 52 = .ok (.iaload, 1) := by decide +kernel
theorem dX5_rider_53 : decode cX5_rider 53 = .ok (.ireturn, 1) := by decide +kernel
theorem dX5_rider_54 : decode cX5_rider 54 = .ok (.aload_n 0, 1) := by decide +kernel
theorem dX5_rider_55 : decode cX5_rider 55 = .ok (.getfield 25, 3) := by decide +kernel
theorem dX5_rider_58 : decode cX5_rider 58 = .ok (.getfield 166, 3) := by decide +kernel
theorem dX5_rider_61 : decode cX5_rider 61 = .ok (.iload_n 1, 1) := by decide +kernel
theorem dX5_rider_62 : decode cX5_rider 62 = .ok (.iaload, 1) := by decide +kernel
theorem dX5_rider_63 : decode cX5_rider 63 = .ok (.ireturn, 1) := by decide +kernel
theorem dX5_rider_64 : decode cX5_rider 64 = .ok (.aload_n 0, 1) := by decide +kernel
theorem dX5_rider_65 : decode cX5_rider 65 = .ok (.getfield 25, 3) := by decide +kernel
theorem dX5_rider_68 : decode cX5_rider 68 = .ok (.iload_n 1, 1) := by decide +kernel
theorem dX5_rider_69 : decode cX5_rider 69 = .ok (.invokevirtual 178, 3) := by decide +kernel
theorem dX5_rider_72 : decode cX5_rider 72 = .ok (.invokestatic 181, 3) := by decide +kernel
theorem dX5_rider_75 : decode cX5_rider 75 = .ok (.ireturn, 1) := by decide +kernel
theorem dX5_rider_76 : decode cX5_rider 76 = .ok (.aload_n 0, 1) := by decide +kernel
theorem dX5_rider_77 : decode cX5_rider 77 = .ok (.getfield 25, 3) := by decide +kernel
theorem dX5_rider_80 : decode cX5_rider 80 = .ok (.iload_n 1, 1) := by decide +kernel
theorem dX5_rider_81 : decode cX5_rider 81 = .ok (.invokevirtual 185, 3) := by decide +kernel
theorem dX5_rider_84 : decode cX5_rider 84 = .ok (.ifCond .eq 29, 3) := by decide +kernel
theorem dX5_rider_87 : decode cX5_rider 87 = .ok (.aload_n 0, 1) := by decide +kernel
theorem dX5_rider_88 : decode cX5_rider 88 = .ok (.getfield 25, 3) := by decide +kernel
theorem dX5_rider_91 : decode cX5_rider 91 = .ok (.iload_n 1, 1) := by decide +kernel
theorem dX5_rider_92 : decode cX5_rider 92 = .ok (.aload_n 0, 1) := by decide +kernel
theorem dX5_rider_93 : decode cX5_rider 93 = .ok (.getfield 25, 3) := by decide +kernel
theorem dX5_rider_96 : decode cX5_rider 96 = .ok (.getfield 160, 3) := by decide +kernel
theorem dX5_rider_99 : decode cX5_rider 99 = .ok (.iload_n 1, 1) := by decide +kernel
theorem dX5_rider_100 : decode cX5_rider 100 = .ok (.iaload, 1) := by decide +kernel
theorem dX5_rider_101 : decode cX5_rider 101 = .ok (.iconst 1, 1) := by decide +kernel
theorem dX5_rider_102 : decode cX5_rider 102 = .ok (.iadd, 1) := by decide +kernel
theorem dX5_rider_103 : decode cX5_rider 103 = .ok (.invokevirtual 188, 3) := by decide +kernel
theorem dX5_rider_106 : decode cX5_rider 106 = .ok (.ifCond .eq 7, 3) := by decide +kernel
theorem dX5_rider_109 : decode cX5_rider 109 = .ok (.iconst 1, 1) := by decide +kernel
theorem dX5_rider_110 : decode cX5_rider 110 = .ok (.goto 4, 3) := by decide +kernel
theorem dX5_rider_113 : decode cX5_rider 113 = .ok (.iconst 0, 1) := by decide +kernel
theorem dX5_rider_114 : decode cX5_rider 114 = .ok (.invokestatic 181, 3) := by decide +kernel
theorem dX5_rider_117 : decode cX5_rider 117 = .ok (.ireturn, 1) := by decide +kernel
theorem dX5_rider_118 : decode cX5_rider 118 = .ok (.ldc 73, 2) := by decide +kernel
theorem dX5_rider_120 : decode cX5_rider 120 = .ok (.ireturn, 1) := by decide +kernel
theorem dX5_step_0 : decode cX5_step 0 = .ok (.iload_n 1, 1) := by decide +kernel
theorem dX5_step_1 : decode cX5_step 1 = .ok (.iconst 0, 1) := by decide +kernel
theorem dX5_step_2 : decode cX5_step 2 = .ok (.aload_n 0, 1) := by decide +kernel
theorem dX5_step_3 : decode cX5_step 3 = .ok (.getfield 25, 3) := by decide +kernel
theorem dX5_step_6 : decode cX5_step 6 = .ok (.getfield 191, 3) := by decide +kernel
theorem dX5_step_9 : decode cX5_step 9 = .ok (.iconst 1, 1) := by decide +kernel
theorem dX5_step_10 : decode cX5_step 10 = .ok (.isub, 1) := by decide +kernel
theorem dX5_step_11 : decode cX5_step 11 = .ok (.invokestatic 69, 3) := by decide +kernel
theorem dX5_step_14 : decode cX5_step 14 = .ok (.ifCond .ne 12, 3) := by decide +kernel
theorem dX5_step_17 : decode cX5_step 17 = .ok (.iload_n 2, 1) := by decide +kernel
theorem dX5_step_18 : decode cX5_step 18 = .ok (.iconst 0, 1) := by decide +kernel
theorem dX5_step_19 : decode cX5_step 19 = .ok (.iconst 1, 1) := by decide +kernel
theorem dX5_step_20 : decode cX5_step 20 = .ok (.invokestatic 69, 3) := by decide +kernel
theorem dX5_step_23 : decode cX5_step 23 = .ok (.ifCond .eq 6, 3) := by decide +kernel
theorem dX5_step_26 : decode cX5_step 26 = .ok (.ldc 73, 2) := by decide +kernel
theorem dX5_step_28 : decode cX5_step 28 = .ok (.ireturn, 1) := by decide +kernel
theorem dX5_step_29 : decode cX5_step 29 = .ok (.aload_n 0, 1) := by decide +kernel
theorem dX5_step_30 : decode cX5_step 30 = .ok (.getfield 25, 3) := by decide +kernel
theorem dX5_step_33 : decode cX5_step 33 = .ok (.iload_n 1, 1) := by decide +kernel
theorem dX5_step_34 : decode cX5_step 34 = .ok (.iload_n 2, 1) := by decide +kernel
theorem dX5_step_35 : decode cX5_step 35 = .ok (.invokevirtual 194, 3) := by decide +kernel
theorem dX5_step_38 : decode cX5_step 38 = .ok (.ireturn, 1) := by decide +kernel
theorem dX5_ahead_0 : decode cX5_ahead 0 = .ok (.aload_n 0, 1) := by decide +kernel
theorem dX5_ahead_1 : decode cX5_ahead 1 = .ok (.iload_n 1, 1) := by decide +kernel
theorem dX5_ahead_2 : decode cX5_ahead 2 = .ok (.invokevirtual 157, 3) := by decide +kernel
theorem dX5_ahead_5 : decode cX5_ahead 5 = .ok (.ifCond .ne 13, 3) := by decide +kernel
theorem dX5_ahead_8 : decode cX5_ahead 8 = .ok (.iload_n 2, 1) := by decide +kernel
theorem dX5_ahead_9 : decode cX5_ahead 9 = .ok (.iconst 0, 1) := by decide +kernel
theorem dX5_ahead_10 : decode cX5_ahead 10 = .ok (.bipush 60, 2) := by decide +kernel
theorem dX5_ahead_12 : decode cX5_ahead 12 = .ok (.invokestatic 69, 3) := by decide +kernel
theorem dX5_ahead_15 : decode cX5_ahead 15 = .ok (.ifCond .eq 6, 3) := by decide +kernel
theorem dX5_ahead_18 : decode cX5_ahead 18 = .ok (.ldc 73, 2) := by decide +kernel
theorem dX5_ahead_20 : decode cX5_ahead 20 = .ok (.ireturn, 1) := by decide +kernel
theorem dX5_ahead_21 : decode cX5_ahead 21 = .ok (.aload_n 0, 1) := by decide +kernel
theorem dX5_ahead_22 : decode cX5_ahead 22 = .ok (.iload_n 2, 1) := by decide +kernel
theorem dX5_ahead_23 : decode cX5_ahead 23 = .ok (.invokevirtual 198, 3) := by decide +kernel
theorem dX5_ahead_26 : decode cX5_ahead 26 = .ok (.aload_n 0, 1) := by decide +kernel
theorem dX5_ahead_27 : decode cX5_ahead 27 = .ok (.getfield 47, 3) := by decide +kernel
theorem dX5_ahead_30 : decode cX5_ahead 30 = .ok (.getfield 160, 3) := by decide +kernel
theorem dX5_ahead_33 : decode cX5_ahead 33 = .ok (.iload_n 1, 1) := by decide +kernel
theorem dX5_ahead_34 : decode cX5_ahead 34 = .ok (.iaload, 1) := by decide +kernel
theorem dX5_ahead_35 : decode cX5_ahead 35 = .ok (.ireturn, 1) := by decide +kernel
theorem dX5_later_0 : decode cX5_later 0 = .ok (.aload_n 0, 1) := by decide +kernel
theorem dX5_later_1 : decode cX5_later 1 = .ok (.invokevirtual 136, 3) := by decide +kernel
theorem dX5_later_4 : decode cX5_later 4 = .ok (.ifCond .eq 6, 3) := by decide +kernel
theorem dX5_later_7 : decode cX5_later 7 = .ok (.ldc 140, 2) := by decide +kernel
theorem dX5_later_9 : decode cX5_later 9 = .ok (.ireturn, 1) := by decide +kernel
theorem dX5_later_10 : decode cX5_later 10 = .ok (.iload_n 1, 1) := by decide +kernel
theorem dX5_later_11 : decode cX5_later 11 = .ok (.iconst 0, 1) := by decide +kernel
theorem dX5_later_12 : decode cX5_later 12 = .ok (.bipush 60, 2) := by decide +kernel
theorem dX5_later_14 : decode cX5_later 14 = .ok (.invokestatic 69, 3) := by decide +kernel
theorem dX5_later_17 : decode cX5_later 17 = .ok (.ifCond .ne 12, 3) := by decide +kernel
theorem dX5_later_20 : decode cX5_later 20 = .ok (.iload_n 2, 1) := by decide +kernel
theorem dX5_later_21 : decode cX5_later 21 = .ok (.iconst 0, 1) := by decide +kernel
theorem dX5_later_22 : decode cX5_later 22 = .ok (.iconst 1, 1) := by decide +kernel
theorem dX5_later_23 : decode cX5_later 23 = .ok (.invokestatic 69, 3) := by decide +kernel
theorem dX5_later_26 : decode cX5_later 26 = .ok (.ifCond .eq 6, 3) := by decide +kernel
theorem dX5_later_29 : decode cX5_later 29 = .ok (.ldc 73, 2) := by decide +kernel
theorem dX5_later_31 : decode cX5_later 31 = .ok (.ireturn, 1) := by decide +kernel
theorem dX5_later_32 : decode cX5_later 32 = .ok (.aload_n 0, 1) := by decide +kernel
theorem dX5_later_33 : decode cX5_later 33 = .ok (.iload_n 1, 1) := by decide +kernel
theorem dX5_later_34 : decode cX5_later 34 = .ok (.invokevirtual 198, 3) := by decide +kernel
theorem dX5_later_37 : decode cX5_later 37 = .ok (.iload_n 2, 1) := by decide +kernel
theorem dX5_later_38 : decode cX5_later 38 = .ok (.ifCond .ne 15, 3) := by decide +kernel
theorem dX5_later_41 : decode cX5_later 41 = .ok (.aload_n 0, 1) := by decide +kernel
theorem dX5_later_42 : decode cX5_later 42 = .ok (.getfield 47, 3) := by decide +kernel
theorem dX5_later_45 : decode cX5_later 45 = .ok (.bipush 99, 2) := by decide +kernel
theorem dX5_later_47 : decode cX5_later 47 = .ok (.invokevirtual 151, 3) := by decide +kernel
theorem dX5_later_50 : decode cX5_later 50 = .ok (.goto 10, 3) := by decide +kernel
theorem dX5_later_53 : decode cX5_later 53 = .ok (.aload_n 0, 1) := by decide +kernel
theorem dX5_later_54 : decode cX5_later 54 = .ok (.getfield 47, 3) := by decide +kernel
theorem dX5_later_57 : decode cX5_later 57 = .ok (.invokevirtual 201, 3) := by decide +kernel
theorem dX5_later_60 : decode cX5_later 60 = .ok (.ireturn, 1) := by decide +kernel
theorem dX5_off_0 : decode cX5_off 0 = .ok (.aload_n 0, 1) := by decide +kernel
theorem dX5_off_1 : decode cX5_off 1 = .ok (.iload_n 1, 1) := by decide +kernel
theorem dX5_off_2 : decode cX5_off 2 = .ok (.invokevirtual 157, 3) := by decide +kernel
theorem dX5_off_5 : decode cX5_off 5 = .ok (.ifCond .eq 6, 3) := by decide +kernel
theorem dX5_off_8 : decode cX5_off 8 = .ok (.ldc 73, 2) := by decide +kernel
theorem dX5_off_10 : decode cX5_off 10 = .ok (.ireturn, 1) := by decide +kernel
theorem dX5_off_11 : decode cX5_off 11 = .ok (.aload_n 0, 1) := by decide +kernel
theorem dX5_off_12 : decode cX5_off 12 = .ok (.getfield 47, 3) := by decide +kernel
theorem dX5_off_15 : decode cX5_off 15 = .ok (.aload_n 0, 1) := by decide +kernel
theorem dX5_off_16 : decode cX5_off 16 = .ok (.getfield 25, 3) := by decide +kernel
theorem dX5_off_19 : decode cX5_off 19 = .ok (.invokevirtual 123, 3) := by decide +kernel
theorem dX5_off_22 : decode cX5_off 22 = .ok (.aload_n 0, 1) := by decide +kernel
theorem dX5_off_23 : decode cX5_off 23 = .ok (.getfield 47, 3) := by decide +kernel
theorem dX5_off_26 : decode cX5_off 26 = .ok (.iload_n 1, 1) := by decide +kernel
theorem dX5_off_27 : decode cX5_off 27 = .ok (.bipush 60, 2) := by decide +kernel
theorem dX5_off_29 : decode cX5_off 29 = .ok (.invokevirtual 204, 3) := by decide +kernel
theorem dX5_off_32 : decode cX5_off 32 = .ok (.ireturn, 1) := by decide +kernel
theorem dX5_clear_0 : decode cX5_clear 0 = .ok (.aload_n 0, 1) := by decide +kernel
theorem dX5_clear_1 : decode cX5_clear 1 = .ok (.invokevirtual 136, 3) := by decide +kernel
theorem dX5_clear_4 : decode cX5_clear 4 = .ok (.ifCond .eq 6, 3) := by decide +kernel
theorem dX5_clear_7 : decode cX5_clear 7 = .ok (.ldc 140, 2) := by decide +kernel
theorem dX5_clear_9 : decode cX5_clear 9 = .ok (.ireturn, 1) := by decide +kernel
theorem dX5_clear_10 : decode cX5_clear 10 = .ok (.aload_n 0, 1) := by decide +kernel
theorem dX5_clear_11 : decode cX5_clear 11 = .ok (.getfield 47, 3) := by decide +kernel
theorem dX5_clear_14 : decode cX5_clear 14 = .ok (.aload_n 0, 1) := by decide +kernel
theorem dX5_clear_15 : decode cX5_clear 15 = .ok (.getfield 25, 3) := by decide +kernel
theorem dX5_clear_18 : decode cX5_clear 18 = .ok (.invokevirtual 123, 3) := by decide +kernel
theorem dX5_clear_21 : decode cX5_clear 21 = .ok (.aload_n 0, 1) := by decide +kernel
theorem dX5_clear_22 : decode cX5_clear 22 = .ok (.getfield 47, 3) := by decide +kernel
theorem dX5_clear_25 : decode cX5_clear 25 = .ok (.bipush 60, 2) := by decide +kernel
theorem dX5_clear_27 : decode cX5_clear 27 = .ok (.invokevirtual 207, 3) := by decide +kernel
theorem dX5_clear_30 : decode cX5_clear 30 = .ok (.ireturn, 1) := by decide +kernel
theorem dX5_sorting_0 : decode cX5_sorting 0 = .ok (.aload_n 0, 1) := by decide +kernel
theorem dX5_sorting_1 : decode cX5_sorting 1 = .ok (.invokevirtual 136, 3) := by decide +kernel
theorem dX5_sorting_4 : decode cX5_sorting 4 = .ok (.ifCond .eq 6, 3) := by decide +kernel
theorem dX5_sorting_7 : decode cX5_sorting 7 = .ok (.ldc 140, 2) := by decide +kernel
theorem dX5_sorting_9 : decode cX5_sorting 9 = .ok (.ireturn, 1) := by decide +kernel
theorem dX5_sorting_10 : decode cX5_sorting 10 = .ok (.iload_n 1, 1) := by decide +kernel
theorem dX5_sorting_11 : decode cX5_sorting 11 = .ok (.iconst 0, 1) := by decide +kernel
theorem dX5_sorting_12 : decode cX5_sorting 12 = .ok (.iconst 1, 1) := by decide +kernel
theorem dX5_sorting_13 : decode cX5_sorting 13 = .ok (.invokestatic 69, 3) := by decide +kernel
theorem dX5_sorting_16 : decode cX5_sorting 16 = .ok (.ifCond .eq 6, 3) := by decide +kernel
theorem dX5_sorting_19 : decode cX5_sorting 19 = .ok (.ldc 73, 2) := by decide +kernel
theorem dX5_sorting_21 : decode cX5_sorting 21 = .ok (.ireturn, 1) := by decide +kernel
theorem dX5_sorting_22 : decode cX5_sorting 22 = .ok (.aload_n 0, 1) := by decide +kernel
theorem dX5_sorting_23 : decode cX5_sorting 23 = .ok (.getfield 25, 3) := by decide +kernel
theorem dX5_sorting_26 : decode cX5_sorting 26 = .ok (.iconst (-1), 1) := by decide +kernel
theorem dX5_sorting_27 : decode cX5_sorting 27 = .ok (.invokevirtual 210, 3) := by decide +kernel
theorem dX5_sorting_30 : decode cX5_sorting 30 = .ok (.istore_n 2, 1) := by decide +kernel
theorem dX5_sorting_31 : decode cX5_sorting 31 = .ok (.bipush 61, 2) := by decide +kernel
theorem dX5_sorting_33 : decode cX5_sorting 33 = .ok (.istore_n 3, 1) := by decide +kernel
theorem dX5_sorting_34 : decode cX5_sorting 34 = .ok (.ldc 121, 2) := by decide +kernel
theorem dX5_sorting_36 : decode cX5_sorting 36 = .ok (.istore 4, 2) := by decide +kernel
theorem dX5_sorting_38 : decode cX5_sorting 38 = .ok (.iconst 0, 1) := by decide +kernel
theorem dX5_sorting_39 : decode cX5_sorting 39 = .ok (.istore 5, 2) := by decide +kernel
theorem dX5_sorting_41 : decode cX5_sorting 41 = .ok (.iconst 0, 1) := by decide +kernel
theorem dX5_sorting_42 : decode cX5_sorting 42 = .ok (.istore 6, 2) := by decide +kernel
theorem dX5_sorting_44 : decode cX5_sorting 44 = .ok (.iload 6, 2) := by decide +kernel
theorem dX5_sorting_46 : decode cX5_sorting 46 = .ok (.sipush 128, 3) := by decide +kernel
theorem dX5_sorting_49 : decode cX5_sorting 49 = .ok (.if_icmp .ge 72, 3) := by decide +kernel
theorem dX5_sorting_52 : decode cX5_sorting 52 = .ok (.aload_n 0, 1) := by decide +kernel
theorem dX5_sorting_53 : decode cX5_sorting 53 = .ok (.getfield 47, 3) := by decide +kernel
theorem dX5_sorting_56 : decode cX5_sorting 56 = .ok (.aload_n 0, 1) := by decide +kernel
theorem dX5_sorting_57 : decode cX5_sorting 57 = .ok (.getfield 25, 3) := by decide +kernel
theorem dX5_sorting_60 : decode cX5_sorting 60 = .ok (.invokevirtual 123, 3) := by decide +kernel
theorem dX5_sorting_63 : decode cX5_sorting 63 = .ok (.aload_n 0, 1) := by decide +kernel
theorem dX5_sorting_64 : decode cX5_sorting 64 = .ok (.getfield 47, 3) := by decide +kernel
theorem dX5_sorting_67 : decode cX5_sorting 67 = .ok (.iload_n 2, 1) := by decide +kernel
theorem dX5_sorting_68 : decode cX5_sorting 68 = .ok (.iload 5, 2) := by decide +kernel
theorem dX5_sorting_70 : decode cX5_sorting 70 = .ok (.invokevirtual 213, 3) := by decide +kernel
theorem dX5_sorting_73 : decode cX5_sorting 73 = .ok (.aload_n 0, 1) := by decide +kernel
theorem dX5_sorting_74 : decode cX5_sorting 74 = .ok (.getfield 47, 3) := by decide +kernel
theorem dX5_sorting_77 : decode cX5_sorting 77 = .ok (.iload_n 3, 1) := by decide +kernel
theorem dX5_sorting_78 : decode cX5_sorting 78 = .ok (.iconst 1, 1) := by decide +kernel
theorem dX5_sorting_79 : decode cX5_sorting 79 = .ok (.isub, 1) := by decide +kernel
theorem dX5_sorting_80 : decode cX5_sorting 80 = .ok (.invokevirtual 207, 3) := by decide +kernel
theorem dX5_sorting_83 : decode cX5_sorting 83 = .ok (.istore 7, 2) := by decide +kernel
theorem dX5_sorting_85 : decode cX5_sorting 85 = .ok (.iload 7, 2) := by decide +kernel
theorem dX5_sorting_87 : decode cX5_sorting 87 = .ok (.ldc 121, 2) := by decide +kernel
theorem dX5_sorting_89 : decode cX5_sorting 89 = .ok (.if_icmp .eq 10, 3) := by decide +kernel
theorem dX5_sorting_92 : decode cX5_sorting 92 = .ok (.iload 7, 2) := by decide +kernel
theorem dX5_sorting_94 : decode cX5_sorting 94 = .ok (.istore_n 3, 1) := by decide +kernel
theorem dX5_sorting_95 : decode cX5_sorting 95 = .ok (.iload 5, 2) := by decide +kernel
theorem dX5_sorting_97 : decode cX5_sorting 97 = .ok (.istore 4, 2) := by decide +kernel
theorem dX5_sorting_99 : decode cX5_sorting 99 = .ok (.iload 5, 2) := by decide +kernel
theorem dX5_sorting_101 : decode cX5_sorting 101 = .ok (.iload_n 2, 1) := by decide +kernel
theorem dX5_sorting_102 : decode cX5_sorting 102 = .ok (.invokestatic 216, 3) := by decide +kernel
theorem dX5_sorting_105 : decode cX5_sorting 105 = .ok (.istore 5, 2) := by decide +kernel
theorem dX5_sorting_107 : decode cX5_sorting 107 = .ok (.iload 5, 2) := by decide +kernel
theorem dX5_sorting_109 : decode cX5_sorting 109 = .ok (.ifCond .ne 6, 3) := by decide +kernel
theorem dX5_sorting_112 : decode cX5_sorting 112 = .ok (.goto 9, 3) := by decide +kernel
theorem dX5_sorting_115 : decode cX5_sorting 115 = .ok (.iinc 6 1, 3) := by decide +kernel
theorem dX5_sorting_118 : decode cX5_sorting 118 = .ok (.goto (-74), 3) := by decide +kernel
theorem dX5_sorting_121 : decode cX5_sorting 121 = .ok (.iload 4, 2) := by decide +kernel
theorem dX5_sorting_123 : decode cX5_sorting 123 = .ok (.ldc 121, 2) := by decide +kernel
theorem dX5_sorting_125 : decode cX5_sorting 125 = .ok (.if_icmp .ne 6, 3) := by decide +kernel
theorem dX5_sorting_128 : decode cX5_sorting 128 = .ok (.ldc 121, 2) := by decide +kernel
theorem dX5_sorting_130 : decode cX5_sorting 130 = .ok (.ireturn, 1) := by decide +kernel
theorem dX5_sorting_131 : decode cX5_sorting 131 = .ok (.iload_n 1, 1) := by decide +kernel
theorem dX5_sorting_132 : decode cX5_sorting 132 = .ok (.ifCond .ne 7, 3) := by decide +kernel
theorem dX5_sorting_135 : decode cX5_sorting 135 = .ok (.iload_n 3, 1) := by decide +kernel
theorem dX5_sorting_136 : decode cX5_sorting 136 = .ok (.goto 5, 3) := by decide +kernel
theorem dX5_sorting_139 : decode cX5_sorting 139 = .ok (.iload 4, 2) := by decide +kernel
theorem dX5_sorting_141 : decode cX5_sorting 141 = .ok (.ireturn, 1) := by decide +kernel
theorem dX5_taken_0 : decode cX5_taken 0 = .ok (.aload_n 0, 1) := by decide +kernel
theorem dX5_taken_1 : decode cX5_taken 1 = .ok (.invokevirtual 136, 3) := by decide +kernel
theorem dX5_taken_4 : decode cX5_taken 4 = .ok (.ifCond .eq 6, 3) := by decide +kernel
theorem dX5_taken_7 : decode cX5_taken 7 = .ok (.ldc 140, 2) := by decide +kernel
theorem dX5_taken_9 : decode cX5_taken 9 = .ok (.ireturn, 1) := by decide +kernel
theorem dX5_taken_10 : decode cX5_taken 10 = .ok (.iload_n 1, 1) := by decide +kernel
theorem dX5_taken_11 : decode cX5_taken 11 = .ok (.iconst 0, 1) := by decide +kernel
theorem dX5_taken_12 : decode cX5_taken 12 = .ok (.iconst 1, 1) := by decide +kernel
theorem dX5_taken_13 : decode cX5_taken 13 = .ok (.invokestatic 69, 3) := by decide +kernel
theorem dX5_taken_16 : decode cX5_taken 16 = .ok (.ifCond .eq 6, 3) := by decide +kernel
theorem dX5_taken_19 : decode cX5_taken 19 = .ok (.ldc 73, 2) := by decide +kernel
theorem dX5_taken_21 : decode cX5_taken 21 = .ok (.ireturn, 1) := by decide +kernel
theorem dX5_taken_22 : decode cX5_taken 22 = .ok (.aload_n 0, 1) := by decide +kernel
theorem dX5_taken_23 : decode cX5_taken 23 = .ok (.getfield 47, 3) := by decide +kernel
theorem dX5_taken_26 : decode cX5_taken 26 = .ok (.aload_n 0, 1) := by decide +kernel
theorem dX5_taken_27 : decode cX5_taken 27 = .ok (.getfield 25, 3) := by decide +kernel
theorem dX5_taken_30 : decode cX5_taken 30 = .ok (.invokevirtual 123, 3) := by decide +kernel
theorem dX5_taken_33 : decode cX5_taken 33 = .ok (.aload_n 0, 1) := by decide +kernel
theorem dX5_taken_34 : decode cX5_taken 34 = .ok (.getfield 47, 3) := by decide +kernel
theorem dX5_taken_37 : decode cX5_taken 37 = .ok (.bipush 60, 2) := by decide +kernel
theorem dX5_taken_39 : decode cX5_taken 39 = .ok (.invokevirtual 207, 3) := by decide +kernel
theorem dX5_taken_42 : decode cX5_taken 42 = .ok (.istore_n 2, 1) := by decide +kernel
theorem dX5_taken_43 : decode cX5_taken 43 = .ok (.iload_n 2, 1) := by decide +kernel
theorem dX5_taken_44 : decode cX5_taken 44 = .ok (.ldc 121, 2) := by decide +kernel
theorem dX5_taken_46 : decode cX5_taken 46 = .ok (.if_icmp .ne 8, 3) := by decide +kernel
theorem dX5_taken_49 : decode cX5_taken 49 = .ok (.bipush 61, 2) := by decide +kernel
theorem dX5_taken_51 : decode cX5_taken 51 = .ok (.goto 4, 3) := by decide +kernel
theorem dX5_taken_54 : decode cX5_taken 54 = .ok (.iload_n 2, 1) := by decide +kernel
theorem dX5_taken_55 : decode cX5_taken 55 = .ok (.istore_n 3, 1) := by decide +kernel
theorem dX5_taken_56 : decode cX5_taken 56 = .ok (.ldc 121, 2) := by decide +kernel
theorem dX5_taken_58 : decode cX5_taken 58 = .ok (.istore 4, 2) := by decide +kernel
theorem dX5_taken_60 : decode cX5_taken 60 = .ok (.iconst 0, 1) := by decide +kernel
theorem dX5_taken_61 : decode cX5_taken 61 = .ok (.istore 5, 2) := by decide +kernel
theorem dX5_taken_63 : decode cX5_taken 63 = .ok (.iload 5, 2) := by decide +kernel
theorem dX5_taken_65 : decode cX5_taken 65 = .ok (.aload_n 0, 1) := by decide +kernel
theorem dX5_taken_66 : decode cX5_taken 66 = .ok (.getfield 25, 3) := by decide +kernel
theorem dX5_taken_69 : decode cX5_taken 69 = .ok (.getfield 130, 3) := by decide +kernel
theorem dX5_taken_72 : decode cX5_taken 72 = .ok (.if_icmp .ge 58, 3) := by decide +kernel
theorem dX5_taken_75 : decode cX5_taken 75 = .ok (.aload_n 0, 1) := by decide +kernel
theorem dX5_taken_76 : decode cX5_taken 76 = .ok (.getfield 47, 3) := by decide +kernel
theorem dX5_taken_79 : decode cX5_taken 79 = .ok (.aload_n 0, 1) := by decide +kernel
theorem dX5_taken_80 : decode cX5_taken 80 = .ok (.getfield 25, 3) := by decide +kernel
theorem dX5_taken_83 : decode cX5_taken 83 = .ok (.invokevirtual 123, 3) := by decide +kernel
theorem dX5_taken_86 : decode cX5_taken 86 = .ok (.aload_n 0, 1) := by decide +kernel
theorem dX5_taken_87 : decode cX5_taken 87 = .ok (.getfield 47, 3) := by decide +kernel
theorem dX5_taken_90 : decode cX5_taken 90 = .ok (.getfield 160, 3) := by decide +kernel
theorem dX5_taken_93 : decode cX5_taken 93 = .ok (.iload 5, 2) := by decide +kernel
theorem dX5_taken_95 : decode cX5_taken 95 = .ok (.bipush 99, 2) := by decide +kernel
theorem dX5_taken_97 : decode cX5_taken 97 = .ok (.iastore, 1) := by decide +kernel
theorem dX5_taken_98 : decode cX5_taken 98 = .ok (.aload_n 0, 1) := by decide +kernel
theorem dX5_taken_99 : decode cX5_taken 99 = .ok (.getfield 47, 3) := by decide +kernel
theorem dX5_taken_102 : decode cX5_taken 102 = .ok (.iload_n 3, 1) := by decide +kernel
theorem dX5_taken_103 : decode cX5_taken 103 = .ok (.iconst 1, 1) := by decide +kernel
theorem dX5_taken_104 : decode cX5_taken 104 = .ok (.isub, 1) := by decide +kernel
theorem dX5_taken_105 : decode cX5_taken 105 = .ok (.invokevirtual 207, 3) := by decide +kernel
theorem dX5_taken_108 : decode cX5_taken 108 = .ok (.istore 6, 2) := by decide +kernel
theorem dX5_taken_110 : decode cX5_taken 110 = .ok (.iload 6, 2) := by decide +kernel
theorem dX5_taken_112 : decode cX5_taken 112 = .ok (.ldc 121, 2) := by decide +kernel
theorem dX5_taken_114 : decode cX5_taken 114 = .ok (.if_icmp .eq 10, 3) := by decide +kernel
theorem dX5_taken_117 : decode cX5_taken 117 = .ok (.iload 6, 2) := by decide +kernel
theorem dX5_taken_119 : decode cX5_taken 119 = .ok (.istore_n 3, 1) := by decide +kernel
theorem dX5_taken_120 : decode cX5_taken 120 = .ok (.iload 5, 2) := by decide +kernel
theorem dX5_taken_122 : decode cX5_taken 122 = .ok (.istore 4, 2) := by decide +kernel
theorem dX5_taken_124 : decode cX5_taken 124 = .ok (.iinc 5 1, 3) := by decide +kernel
theorem dX5_taken_127 : decode cX5_taken 127 = .ok (.goto (-64), 3) := by decide +kernel
theorem dX5_taken_130 : decode cX5_taken 130 = .ok (.iload 4, 2) := by decide +kernel
theorem dX5_taken_132 : decode cX5_taken 132 = .ok (.ldc 121, 2) := by decide +kernel
theorem dX5_taken_134 : decode cX5_taken 134 = .ok (.if_icmp .ne 6, 3) := by decide +kernel
theorem dX5_taken_137 : decode cX5_taken 137 = .ok (.ldc 121, 2) := by decide +kernel
theorem dX5_taken_139 : decode cX5_taken 139 = .ok (.ireturn, 1) := by decide +kernel
theorem dX5_taken_140 : decode cX5_taken 140 = .ok (.iload_n 1, 1) := by decide +kernel
theorem dX5_taken_141 : decode cX5_taken 141 = .ok (.ifCond .ne 8, 3) := by decide +kernel
theorem dX5_taken_144 : decode cX5_taken 144 = .ok (.iload 4, 2) := by decide +kernel
theorem dX5_taken_146 : decode cX5_taken 146 = .ok (.goto 4, 3) := by decide +kernel
theorem dX5_taken_149 : decode cX5_taken 149 = .ok (.iload_n 3, 1) := by decide +kernel
theorem dX5_taken_150 : decode cX5_taken 150 = .ok (.ireturn, 1) := by decide +kernel
theorem dX5_pace_0 : decode cX5_pace 0 = .ok (.aload_n 0, 1) := by decide +kernel
theorem dX5_pace_1 : decode cX5_pace 1 = .ok (.iload_n 1, 1) := by decide +kernel
theorem dX5_pace_2 : decode cX5_pace 2 = .ok (.invokevirtual 157, 3) := by decide +kernel
theorem dX5_pace_5 : decode cX5_pace 5 = .ok (.ifCond .ne 18, 3) := by decide +kernel
theorem dX5_pace_8 : decode cX5_pace 8 = .ok (.iload_n 2, 1) := by decide +kernel
theorem dX5_pace_9 : decode cX5_pace 9 = .ok (.iconst 1, 1) := by decide +kernel
theorem dX5_pace_10 : decode cX5_pace 10 = .ok (.bipush 6, 2) := by decide +kernel
theorem dX5_pace_12 : decode cX5_pace 12 = .ok (.invokestatic 69, 3) := by decide +kernel
theorem dX5_pace_15 : decode cX5_pace 15 = .ok (.ifCond .ne 8, 3) := by decide +kernel
theorem dX5_pace_18 : decode cX5_pace 18 = .ok (.iload_n 3, 1) := by decide +kernel
theorem dX5_pace_19 : decode cX5_pace 19 = .ok (.iconst (-1), 1) := by decide +kernel
theorem dX5_pace_20 : decode cX5_pace 20 = .ok (.if_icmp .ge 6, 3) := by decide +kernel
theorem dX5_pace_23 : decode cX5_pace 23 = .ok (.ldc 73, 2) := by decide +kernel
theorem dX5_pace_25 : decode cX5_pace 25 = .ok (.ireturn, 1) := by decide +kernel
theorem dX5_pace_26 : decode cX5_pace 26 = .ok (.aload_n 0, 1) := by decide +kernel
theorem dX5_pace_27 : decode cX5_pace 27 = .ok (.iload_n 1, 1) := by decide +kernel
theorem dX5_pace_28 : decode cX5_pace 28 = .ok (.iload_n 2, 1) := by decide +kernel
theorem dX5_pace_29 : decode cX5_pace 29 = .ok (.invokevirtual 219, 3) := by decide +kernel
theorem dX5_pace_32 : decode cX5_pace 32 = .ok (.istore 4, 2) := by decide +kernel
theorem dX5_pace_34 : decode cX5_pace 34 = .ok (.iload 4, 2) := by decide +kernel
theorem dX5_pace_36 : decode cX5_pace 36 = .ok (.ldc 121, 2) := by decide +kernel
theorem dX5_pace_38 : decode cX5_pace 38 = .ok (.if_icmp .eq 8, 3) := by decide +kernel
theorem dX5_pace_41 : decode cX5_pace 41 = .ok (.iload_n 3, 1) := by decide +kernel
theorem dX5_pace_42 : decode cX5_pace 42 = .ok (.iconst (-1), 1) := by decide +kernel
theorem dX5_pace_43 : decode cX5_pace 43 = .ok (.if_icmp .ne 6, 3) := by decide +kernel
theorem dX5_pace_46 : decode cX5_pace 46 = .ok (.iload 4, 2) := by decide +kernel
theorem dX5_pace_48 : decode cX5_pace 48 = .ok (.ireturn, 1) := by decide +kernel
theorem dX5_pace_49 : decode cX5_pace 49 = .ok (.iload_n 3, 1) := by decide +kernel
theorem dX5_pace_50 : decode cX5_pace 50 = .ok (.iload_n 2, 1) := by decide +kernel
theorem dX5_pace_51 : decode cX5_pace 51 = .ok (.if_icmp .ge 12, 3) := by decide +kernel
theorem dX5_pace_54 : decode cX5_pace 54 = .ok (.aload_n 0, 1) := by decide +kernel
theorem dX5_pace_55 : decode cX5_pace 55 = .ok (.getfield 57, 3) := by decide +kernel
theorem dX5_pace_58 : decode cX5_pace 58 = .ok (.iload_n 3, 1) := by decide +kernel
theorem dX5_pace_59 : decode cX5_pace 59 = .ok (.iaload, 1) := by decide +kernel
theorem dX5_pace_60 : decode cX5_pace 60 = .ok (.goto 5, 3) := by decide +kernel
theorem dX5_pace_63 : decode cX5_pace 63 = .ok (.ldc 121, 2) := by decide +kernel
theorem dX5_pace_65 : decode cX5_pace 65 = .ok (.ireturn, 1) := by decide +kernel
theorem dX5_fits_0 : decode cX5_fits 0 = .ok (.aload_n 0, 1) := by decide +kernel
theorem dX5_fits_1 : decode cX5_fits 1 = .ok (.iload_n 1, 1) := by decide +kernel
theorem dX5_fits_2 : decode cX5_fits 2 = .ok (.invokevirtual 157, 3) := by decide +kernel
theorem dX5_fits_5 : decode cX5_fits 5 = .ok (.ifCond .ne 31, 3) := by decide +kernel
theorem dX5_fits_8 : decode cX5_fits 8 = .ok (.iload_n 2, 1) := by decide +kernel
theorem dX5_fits_9 : decode cX5_fits 9 = .ok (.invokestatic 65, 3) := by decide +kernel
theorem dX5_fits_12 : decode cX5_fits 12 = .ok (.ifCond .ne 24, 3) := by decide +kernel
theorem dX5_fits_15 : decode cX5_fits 15 = .ok (.iload 4, 2) := by decide +kernel
theorem dX5_fits_17 : decode cX5_fits 17 = .ok (.iconst 1, 1) := by decide +kernel
theorem dX5_fits_18 : decode cX5_fits 18 = .ok (.bipush 12, 2) := by decide +kernel
theorem dX5_fits_20 : decode cX5_fits 20 = .ok (.invokestatic 69, 3) := by decide +kernel
theorem dX5_fits_23 : decode cX5_fits 23 = .ok (.ifCond .ne 13, 3) := by decide +kernel
theorem dX5_fits_26 : decode cX5_fits 26 = .ok (.iload 5, 2) := by decide +kernel
theorem dX5_fits_28 : decode cX5_fits 28 = .ok (.iconst 0, 1) := by decide +kernel
theorem dX5_fits_29 : decode cX5_fits 29 = .ok (.iconst 3, 1) := by decide +kernel
theorem dX5_fits_30 : decode cX5_fits 30 = .ok (.invokestatic 69, 3) := by decide +kernel
theorem dX5_fits_33 : decode cX5_fits 33 = .ok (.ifCond .eq 6, 3) := by decide +kernel
theorem dX5_fits_36 : decode cX5_fits 36 = .ok (.ldc 73, 2) := by decide +kernel
theorem dX5_fits_38 : decode cX5_fits 38 = .ok (.ireturn, 1) := by decide +kernel
theorem dX5_fits_39 : decode cX5_fits 39 = .ok (.aload_n 0, 1) := by decide +kernel
theorem dX5_fits_40 : decode cX5_fits 40 = .ok (.getfield 11, 3) := by decide +kernel
theorem dX5_fits_43 : decode cX5_fits 43 = .ok (.iload_n 2, 1) := by decide +kernel
theorem dX5_fits_44 : decode cX5_fits 44 = .ok (.aaload, 1) := by decide +kernel
theorem dX5_fits_45 : decode cX5_fits 45 = .ok (.astore 6, 2) := by decide +kernel
theorem dX5_fits_47 : decode cX5_fits 47 = .ok (.aload 6, 2) := by decide +kernel
theorem dX5_fits_49 : decode cX5_fits 49 = .ok (.getfield 85, 3) := by decide +kernel
theorem dX5_fits_52 : decode cX5_fits 52 = .ok (.ifCond .eq 9, 3) := by decide +kernel
theorem dX5_fits_55 : decode cX5_fits 55 = .ok (.aload_n 0, 1) := by decide +kernel
theorem dX5_fits_56 : decode cX5_fits 56 = .ok (.iconst 1, 1) := by decide +kernel
theorem dX5_fits_57 : decode cX5_fits 57 = .ok (.invokevirtual 74, 3) := by decide +kernel
theorem dX5_fits_60 : decode cX5_fits 60 = .ok (.ireturn, 1) := by decide +kernel
theorem dX5_fits_61 : decode cX5_fits 61 = .ok (.aload 6, 2) := by decide +kernel
theorem dX5_fits_63 : decode cX5_fits 63 = .ok (.iload_n 3, 1) := by decide +kernel
theorem dX5_fits_64 : decode cX5_fits 64 = .ok (.iload 4, 2) := by decide +kernel
theorem dX5_fits_66 : decode cX5_fits 66 = .ok (.invokevirtual 89, 3) := by decide +kernel
theorem dX5_fits_69 : decode cX5_fits 69 = .ok (.ifCond .ne 9, 3) := by decide +kernel
theorem dX5_fits_72 : decode cX5_fits 72 = .ok (.aload_n 0, 1) := by decide +kernel
theorem dX5_fits_73 : decode cX5_fits 73 = .ok (.iconst 2, 1) := by decide +kernel
theorem dX5_fits_74 : decode cX5_fits 74 = .ok (.invokevirtual 74, 3) := by decide +kernel
theorem dX5_fits_77 : decode cX5_fits 77 = .ok (.ireturn, 1) := by decide +kernel
theorem dX5_fits_78 : decode cX5_fits 78 = .ok (.iload 5, 2) := by decide +kernel
theorem dX5_fits_80 : decode cX5_fits 80 = .ok (.tableswitch 73 0 2 #[28, 43, 58], 28) := by decide +kernel
theorem dX5_fits_108 : decode cX5_fits 108 = .ok (.aload_n 0, 1) := by decide +kernel
theorem dX5_fits_109 : decode cX5_fits 109 = .ok (.aload_n 0, 1) := by decide +kernel
theorem dX5_fits_110 : decode cX5_fits 110 = .ok (.iload_n 1, 1) := by decide +kernel
theorem dX5_fits_111 : decode cX5_fits 111 = .ok (.aload 6, 2) := by decide +kernel
theorem dX5_fits_113 : decode cX5_fits 113 = .ok (.iload_n 3, 1) := by decide +kernel
theorem dX5_fits_114 : decode cX5_fits 114 = .ok (.iload 4, 2) := by decide +kernel
theorem dX5_fits_116 : decode cX5_fits 116 = .ok (.invokevirtual 222, 3) := by decide +kernel
theorem dX5_fits_119 : decode cX5_fits 119 = .ok (.invokevirtual 82, 3) := by decide +kernel
theorem dX5_fits_122 : decode cX5_fits 122 = .ok (.ireturn, 1) := by decide +kernel
theorem dX5_fits_123 : decode cX5_fits 123 = .ok (.aload_n 0, 1) := by decide +kernel
theorem dX5_fits_124 : decode cX5_fits 124 = .ok (.aload_n 0, 1) := by decide +kernel
theorem dX5_fits_125 : decode cX5_fits 125 = .ok (.iload_n 1, 1) := by decide +kernel
theorem dX5_fits_126 : decode cX5_fits 126 = .ok (.aload 6, 2) := by decide +kernel
theorem dX5_fits_128 : decode cX5_fits 128 = .ok (.iload_n 3, 1) := by decide +kernel
theorem dX5_fits_129 : decode cX5_fits 129 = .ok (.iload 4, 2) := by decide +kernel
theorem dX5_fits_131 : decode cX5_fits 131 = .ok (.invokevirtual 226, 3) := by decide +kernel
theorem dX5_fits_134 : decode cX5_fits 134 = .ok (.invokevirtual 82, 3) := by decide +kernel
theorem dX5_fits_137 : decode cX5_fits 137 = .ok (.ireturn, 1) := by decide +kernel
theorem dX5_fits_138 : decode cX5_fits 138 = .ok (.aload_n 0, 1) := by decide +kernel
theorem dX5_fits_139 : decode cX5_fits 139 = .ok (.aload_n 0, 1) := by decide +kernel
theorem dX5_fits_140 : decode cX5_fits 140 = .ok (.iload_n 1, 1) := by decide +kernel
theorem dX5_fits_141 : decode cX5_fits 141 = .ok (.aload 6, 2) := by decide +kernel
theorem dX5_fits_143 : decode cX5_fits 143 = .ok (.iload_n 3, 1) := by decide +kernel
theorem dX5_fits_144 : decode cX5_fits 144 = .ok (.iload 4, 2) := by decide +kernel
theorem dX5_fits_146 : decode cX5_fits 146 = .ok (.invokevirtual 229, 3) := by decide +kernel
theorem dX5_fits_149 : decode cX5_fits 149 = .ok (.invokevirtual 82, 3) := by decide +kernel
theorem dX5_fits_152 : decode cX5_fits 152 = .ok (.ireturn, 1) := by decide +kernel
theorem dX5_fits_153 : decode cX5_fits 153 = .ok (.aload_n 0, 1) := by decide +kernel
theorem dX5_fits_154 : decode cX5_fits 154 = .ok (.aload_n 0, 1) := by decide +kernel
theorem dX5_fits_155 : decode cX5_fits 155 = .ok (.iload_n 1, 1) := by decide +kernel
theorem dX5_fits_156 : decode cX5_fits 156 = .ok (.aload 6, 2) := by decide +kernel
theorem dX5_fits_158 : decode cX5_fits 158 = .ok (.iload_n 3, 1) := by decide +kernel
theorem dX5_fits_159 : decode cX5_fits 159 = .ok (.iload 4, 2) := by decide +kernel
theorem dX5_fits_161 : decode cX5_fits 161 = .ok (.invokevirtual 232, 3) := by decide +kernel
theorem dX5_fits_164 : decode cX5_fits 164 = .ok (.invokevirtual 82, 3) := by decide +kernel
theorem dX5_fits_167 : decode cX5_fits 167 = .ok (.ireturn, 1) := by decide +kernel
theorem dX5_absent_0 : decode cX5_absent 0 = .ok (.aload_n 0, 1) := by decide +kernel
theorem dX5_absent_1 : decode cX5_absent 1 = .ok (.iload_n 1, 1) := by decide +kernel
theorem dX5_absent_2 : decode cX5_absent 2 = .ok (.invokevirtual 157, 3) := by decide +kernel
theorem dX5_absent_5 : decode cX5_absent 5 = .ok (.ifCond .ne 33, 3) := by decide +kernel
theorem dX5_absent_8 : decode cX5_absent 8 = .ok (.iload_n 2, 1) := by decide +kernel
theorem dX5_absent_9 : decode cX5_absent 9 = .ok (.iconst 0, 1) := by decide +kernel
theorem dX5_absent_10 : decode cX5_absent 10 = .ok (.bipush 60, 2) := by decide +kernel
theorem dX5_absent_12 : decode cX5_absent 12 = .ok (.invokestatic 69, 3) := by decide +kernel
theorem dX5_absent_15 : decode cX5_absent 15 = .ok (.ifCond .ne 23, 3) := by decide +kernel
theorem dX5_absent_18 : decode cX5_absent 18 = .ok (.iload_n 3, 1) := by decide +kernel
theorem dX5_absent_19 : decode cX5_absent 19 = .ok (.iconst 0, 1) := by decide +kernel
theorem dX5_absent_20 : decode cX5_absent 20 = .ok (.bipush 10, 2) := by decide +kernel
theorem dX5_absent_22 : decode cX5_absent 22 = .ok (.invokestatic 69, 3) := by decide +kernel
theorem dX5_absent_25 : decode cX5_absent 25 = .ok (.ifCond .ne 13, 3) := by decide +kernel
theorem dX5_absent_28 : decode cX5_absent 28 = .ok (.iload 4, 2) := by decide +kernel
theorem dX5_absent_30 : decode cX5_absent 30 = .ok (.iconst 0, 1) := by decide +kernel
theorem dX5_absent_31 : decode cX5_absent 31 = .ok (.iconst 1, 1) := by decide +kernel
theorem dX5_absent_32 : decode cX5_absent 32 = .ok (.invokestatic 69, 3) := by decide +kernel
theorem dX5_absent_35 : decode cX5_absent 35 = .ok (.ifCond .eq 6, 3) := by decide +kernel
theorem dX5_absent_38 : decode cX5_absent 38 = .ok (.ldc 73, 2) := by decide +kernel
theorem dX5_absent_40 : decode cX5_absent 40 = .ok (.ireturn, 1) := by decide +kernel
theorem dX5_absent_41 : decode cX5_absent 41 = .ok (.aload_n 0, 1) := by decide +kernel
theorem dX5_absent_42 : decode cX5_absent 42 = .ok (.getfield 25, 3) := by decide +kernel
theorem dX5_absent_45 : decode cX5_absent 45 = .ok (.iconst (-1), 1) := by decide +kernel
theorem dX5_absent_46 : decode cX5_absent 46 = .ok (.invokevirtual 210, 3) := by decide +kernel
theorem dX5_absent_49 : decode cX5_absent 49 = .ok (.istore 5, 2) := by decide +kernel
theorem dX5_absent_51 : decode cX5_absent 51 = .ok (.iload 5, 2) := by decide +kernel
theorem dX5_absent_53 : decode cX5_absent 53 = .ok (.invokestatic 235, 3) := by decide +kernel
theorem dX5_absent_56 : decode cX5_absent 56 = .ok (.istore 6, 2) := by decide +kernel
theorem dX5_absent_58 : decode cX5_absent 58 = .ok (.iconst 0, 1) := by decide +kernel
theorem dX5_absent_59 : decode cX5_absent 59 = .ok (.istore 7, 2) := by decide +kernel
theorem dX5_absent_61 : decode cX5_absent 61 = .ok (.iconst 0, 1) := by decide +kernel
theorem dX5_absent_62 : decode cX5_absent 62 = .ok (.istore 8, 2) := by decide +kernel
theorem dX5_absent_64 : decode cX5_absent 64 = .ok (.iconst 0, 1) := by decide +kernel
theorem dX5_absent_65 : decode cX5_absent 65 = .ok (.istore 9, 2) := by decide +kernel
theorem dX5_absent_67 : decode cX5_absent 67 = .ok (.iload 9, 2) := by decide +kernel
theorem dX5_absent_69 : decode cX5_absent 69 = .ok (.sipush 128, 3) := by decide +kernel
theorem dX5_absent_72 : decode cX5_absent 72 = .ok (.if_icmp .ge 91, 3) := by decide +kernel
theorem dX5_absent_75 : decode cX5_absent 75 = .ok (.aload_n 0, 1) := by decide +kernel
theorem dX5_absent_76 : decode cX5_absent 76 = .ok (.getfield 47, 3) := by decide +kernel
theorem dX5_absent_79 : decode cX5_absent 79 = .ok (.aload_n 0, 1) := by decide +kernel
theorem dX5_absent_80 : decode cX5_absent 80 = .ok (.getfield 25, 3) := by decide +kernel
theorem dX5_absent_83 : decode cX5_absent 83 = .ok (.invokevirtual 123, 3) := by decide +kernel
theorem dX5_absent_86 : decode cX5_absent 86 = .ok (.aload_n 0, 1) := by decide +kernel
theorem dX5_absent_87 : decode cX5_absent 87 = .ok (.getfield 47, 3) := by decide +kernel
theorem dX5_absent_90 : decode cX5_absent 90 = .ok (.iload 8, 2) := by decide +kernel
theorem dX5_absent_92 : decode cX5_absent 92 = .ok (.invokevirtual 240, 3) := by decide +kernel
theorem dX5_absent_95 : decode cX5_absent 95 = .ok (.aload_n 0, 1) := by decide +kernel
theorem dX5_absent_96 : decode cX5_absent 96 = .ok (.getfield 47, 3) := by decide +kernel
theorem dX5_absent_99 : decode cX5_absent 99 = .ok (.iload_n 1, 1) := by decide +kernel
theorem dX5_absent_100 : decode cX5_absent 100 = .ok (.iload_n 2, 1) := by decide +kernel
theorem dX5_absent_101 : decode cX5_absent 101 = .ok (.invokevirtual 204, 3) := by decide +kernel
theorem dX5_absent_104 : decode cX5_absent 104 = .ok (.ldc 121, 2) := by decide +kernel
theorem dX5_absent_106 : decode cX5_absent 106 = .ok (.if_icmp .eq 34, 3) := by decide +kernel
theorem dX5_absent_109 : decode cX5_absent 109 = .ok (.iload 8, 2) := by decide +kernel
theorem dX5_absent_111 : decode cX5_absent 111 = .ok (.invokestatic 235, 3) := by decide +kernel
theorem dX5_absent_114 : decode cX5_absent 114 = .ok (.istore 10, 2) := by decide +kernel
theorem dX5_absent_116 : decode cX5_absent 116 = .ok (.iload 7, 2) := by decide +kernel
theorem dX5_absent_118 : decode cX5_absent 118 = .ok (.iload_n 3, 1) := by decide +kernel
theorem dX5_absent_119 : decode cX5_absent 119 = .ok (.iload 10, 2) := by decide +kernel
theorem dX5_absent_121 : decode cX5_absent 121 = .ok (.invokestatic 243, 3) := by decide +kernel
theorem dX5_absent_124 : decode cX5_absent 124 = .ok (.bipush 10, 2) := by decide +kernel
theorem dX5_absent_126 : decode cX5_absent 126 = .ok (.iload_n 3, 1) := by decide +kernel
theorem dX5_absent_127 : decode cX5_absent 127 = .ok (.isub, 1) := by decide +kernel
theorem dX5_absent_128 : decode cX5_absent 128 = .ok (.iload 6, 2) := by decide +kernel
theorem dX5_absent_130 : decode cX5_absent 130 = .ok (.iload 10, 2) := by decide +kernel
theorem dX5_absent_132 : decode cX5_absent 132 = .ok (.isub, 1) := by decide +kernel
theorem dX5_absent_133 : decode cX5_absent 133 = .ok (.invokestatic 243, 3) := by decide +kernel
theorem dX5_absent_136 : decode cX5_absent 136 = .ok (.imul, 1) := by decide +kernel
theorem dX5_absent_137 : decode cX5_absent 137 = .ok (.iadd, 1) := by decide +kernel
theorem dX5_absent_138 : decode cX5_absent 138 = .ok (.istore 7, 2) := by decide +kernel
theorem dX5_absent_140 : decode cX5_absent 140 = .ok (.iload 8, 2) := by decide +kernel
theorem dX5_absent_142 : decode cX5_absent 142 = .ok (.iload 5, 2) := by decide +kernel
theorem dX5_absent_144 : decode cX5_absent 144 = .ok (.invokestatic 216, 3) := by decide +kernel
theorem dX5_absent_147 : decode cX5_absent 147 = .ok (.istore 8, 2) := by decide +kernel
theorem dX5_absent_149 : decode cX5_absent 149 = .ok (.iload 8, 2) := by decide +kernel
theorem dX5_absent_151 : decode cX5_absent 151 = .ok (.ifCond .ne 6, 3) := by decide +kernel
theorem dX5_absent_154 : decode cX5_absent 154 = .ok (.goto 9, 3) := by decide +kernel
theorem dX5_absent_157 : decode cX5_absent 157 = .ok (.iinc 9 1, 3) := by decide +kernel
theorem dX5_absent_160 : decode cX5_absent 160 = .ok (.goto (-93), 3) := by decide +kernel
theorem dX5_absent_163 : decode cX5_absent 163 = .ok (.bipush 10, 2) := by decide +kernel
theorem dX5_absent_165 : decode cX5_absent 165 = .ok (.iload 6, 2) := by decide +kernel
theorem dX5_absent_167 : decode cX5_absent 167 = .ok (.invokestatic 243, 3) := by decide +kernel
theorem dX5_absent_170 : decode cX5_absent 170 = .ok (.istore 9, 2) := by decide +kernel
theorem dX5_absent_172 : decode cX5_absent 172 = .ok (.iload 7, 2) := by decide +kernel
theorem dX5_absent_174 : decode cX5_absent 174 = .ok (.iload 9, 2) := by decide +kernel
theorem dX5_absent_176 : decode cX5_absent 176 = .ok (.invokestatic 246, 3) := by decide +kernel
theorem dX5_absent_179 : decode cX5_absent 179 = .ok (.istore 10, 2) := by decide +kernel
theorem dX5_absent_181 : decode cX5_absent 181 = .ok (.iload 4, 2) := by decide +kernel
theorem dX5_absent_183 : decode cX5_absent 183 = .ok (.ifCond .ne 11, 3) := by decide +kernel
theorem dX5_absent_186 : decode cX5_absent 186 = .ok (.iload 7, 2) := by decide +kernel
theorem dX5_absent_188 : decode cX5_absent 188 = .ok (.iload 10, 2) := by decide +kernel
theorem dX5_absent_190 : decode cX5_absent 190 = .ok (.idiv, 1) := by decide +kernel
theorem dX5_absent_191 : decode cX5_absent 191 = .ok (.goto 8, 3) := by decide +kernel
theorem dX5_absent_194 : decode cX5_absent 194 = .ok (.iload 9, 2) := by decide +kernel
theorem dX5_absent_196 : decode cX5_absent 196 = .ok (.iload 10, 2) := by decide +kernel
theorem dX5_absent_198 : decode cX5_absent 198 = .ok (.idiv, 1) := by decide +kernel
theorem dX5_absent_199 : decode cX5_absent 199 = .ok (.ireturn, 1) := by decide +kernel
theorem dX5_drawn_0 : decode cX5_drawn 0 = .ok (.aload_n 0, 1) := by decide +kernel
theorem dX5_drawn_1 : decode cX5_drawn 1 = .ok (.invokevirtual 136, 3) := by decide +kernel
theorem dX5_drawn_4 : decode cX5_drawn 4 = .ok (.ifCond .eq 6, 3) := by decide +kernel
theorem dX5_drawn_7 : decode cX5_drawn 7 = .ok (.ldc 140, 2) := by decide +kernel
theorem dX5_drawn_9 : decode cX5_drawn 9 = .ok (.ireturn, 1) := by decide +kernel
theorem dX5_drawn_10 : decode cX5_drawn 10 = .ok (.iload_n 1, 1) := by decide +kernel
theorem dX5_drawn_11 : decode cX5_drawn 11 = .ok (.iconst 0, 1) := by decide +kernel
theorem dX5_drawn_12 : decode cX5_drawn 12 = .ok (.bipush 60, 2) := by decide +kernel
theorem dX5_drawn_14 : decode cX5_drawn 14 = .ok (.invokestatic 69, 3) := by decide +kernel
theorem dX5_drawn_17 : decode cX5_drawn 17 = .ok (.ifCond .ne 22, 3) := by decide +kernel
theorem dX5_drawn_20 : decode cX5_drawn 20 = .ok (.iload_n 2, 1) := by decide +kernel
theorem dX5_drawn_21 : decode cX5_drawn 21 = .ok (.iconst 1, 1) := by decide +kernel
theorem dX5_drawn_22 : decode cX5_drawn 22 = .ok (.ldc 249, 2) := by decide +kernel
theorem dX5_drawn_24 : decode cX5_drawn 24 = .ok (.invokestatic 69, 3) := by decide +kernel
theorem dX5_drawn_27 : decode cX5_drawn 27 = .ok (.ifCond .ne 12, 3) := by decide +kernel
theorem dX5_drawn_30 : decode cX5_drawn 30 = .ok (.iload_n 3, 1) := by decide +kernel
theorem dX5_drawn_31 : decode cX5_drawn 31 = .ok (.iconst 0, 1) := by decide +kernel
theorem dX5_drawn_32 : decode cX5_drawn 32 = .ok (.iconst 1, 1) := by decide +kernel
theorem dX5_drawn_33 : decode cX5_drawn 33 = .ok (.invokestatic 69, 3) := by decide +kernel
theorem dX5_drawn_36 : decode cX5_drawn 36 = .ok (.ifCond .eq 6, 3) := by decide +kernel
theorem dX5_drawn_39 : decode cX5_drawn 39 = .ok (.ldc 73, 2) := by decide +kernel
theorem dX5_drawn_41 : decode cX5_drawn 41 = .ok (.ireturn, 1) := by decide +kernel
theorem dX5_drawn_42 : decode cX5_drawn 42 = .ok (.aload_n 0, 1) := by decide +kernel
theorem dX5_drawn_43 : decode cX5_drawn 43 = .ok (.getfield 47, 3) := by decide +kernel
theorem dX5_drawn_46 : decode cX5_drawn 46 = .ok (.aload_n 0, 1) := by decide +kernel
theorem dX5_drawn_47 : decode cX5_drawn 47 = .ok (.getfield 25, 3) := by decide +kernel
theorem dX5_drawn_50 : decode cX5_drawn 50 = .ok (.invokevirtual 123, 3) := by decide +kernel
theorem dX5_drawn_53 : decode cX5_drawn 53 = .ok (.iload_n 2, 1) := by decide +kernel
theorem dX5_drawn_54 : decode cX5_drawn 54 = .ok (.i2l, 1) := by decide +kernel
theorem dX5_drawn_55 : decode cX5_drawn 55 = .ok (.lstore 4, 2) := by decide +kernel
theorem dX5_drawn_57 : decode cX5_drawn 57 = .ok (.iconst 0, 1) := by decide +kernel
theorem dX5_drawn_58 : decode cX5_drawn 58 = .ok (.istore 6, 2) := by decide +kernel
theorem dX5_drawn_60 : decode cX5_drawn 60 = .ok (.iconst 0, 1) := by decide +kernel
theorem dX5_drawn_61 : decode cX5_drawn 61 = .ok (.istore 7, 2) := by decide +kernel
theorem dX5_drawn_63 : decode cX5_drawn 63 = .ok (.iload 7, 2) := by decide +kernel
theorem dX5_drawn_65 : decode cX5_drawn 65 = .ok (.iload_n 1, 1) := by decide +kernel
theorem dX5_drawn_66 : decode cX5_drawn 66 = .ok (.if_icmp .ge 43, 3) := by decide +kernel
theorem dX5_drawn_69 : decode cX5_drawn 69 = .ok (.lload 4, 2) := by decide +kernel
theorem dX5_drawn_71 : decode cX5_drawn 71 = .ok (.ldc2_w 250, 3) := by decide +kernel
theorem dX5_drawn_74 : decode cX5_drawn 74 = .ok (.lmul, 1) := by decide +kernel
theorem dX5_drawn_75 : decode cX5_drawn 75 = .ok (.ldc2_w 252, 3) := by decide +kernel
theorem dX5_drawn_78 : decode cX5_drawn 78 = .ok (.lrem, 1) := by decide +kernel
theorem dX5_drawn_79 : decode cX5_drawn 79 = .ok (.lstore 4, 2) := by decide +kernel
theorem dX5_drawn_81 : decode cX5_drawn 81 = .ok (.aload_n 0, 1) := by decide +kernel
theorem dX5_drawn_82 : decode cX5_drawn 82 = .ok (.getfield 47, 3) := by decide +kernel
theorem dX5_drawn_85 : decode cX5_drawn 85 = .ok (.lload 4, 2) := by decide +kernel
theorem dX5_drawn_87 : decode cX5_drawn 87 = .ok (.l2i, 1) := by decide +kernel
theorem dX5_drawn_88 : decode cX5_drawn 88 = .ok (.invokevirtual 254, 3) := by decide +kernel
theorem dX5_drawn_91 : decode cX5_drawn 91 = .ok (.iload 6, 2) := by decide +kernel
theorem dX5_drawn_93 : decode cX5_drawn 93 = .ok (.aload_n 0, 1) := by decide +kernel
theorem dX5_drawn_94 : decode cX5_drawn 94 = .ok (.getfield 47, 3) := by decide +kernel
theorem dX5_drawn_97 : decode cX5_drawn 97 = .ok (.invokevirtual 147, 3) := by decide +kernel
theorem dX5_drawn_100 : decode cX5_drawn 100 = .ok (.iadd, 1) := by decide +kernel
theorem dX5_drawn_101 : decode cX5_drawn 101 = .ok (.istore 6, 2) := by decide +kernel
theorem dX5_drawn_103 : decode cX5_drawn 103 = .ok (.iinc 7 1, 3) := by decide +kernel
theorem dX5_drawn_106 : decode cX5_drawn 106 = .ok (.goto (-43), 3) := by decide +kernel
theorem dX5_drawn_109 : decode cX5_drawn 109 = .ok (.iload_n 3, 1) := by decide +kernel
theorem dX5_drawn_110 : decode cX5_drawn 110 = .ok (.ifCond .ne 8, 3) := by decide +kernel
theorem dX5_drawn_113 : decode cX5_drawn 113 = .ok (.iload 6, 2) := by decide +kernel
theorem dX5_drawn_115 : decode cX5_drawn 115 = .ok (.goto 12, 3) := by decide +kernel
theorem dX5_drawn_118 : decode cX5_drawn 118 = .ok (.aload_n 0, 1) := by decide +kernel
theorem dX5_drawn_119 : decode cX5_drawn 119 = .ok (.getfield 47, 3) := by decide +kernel
theorem dX5_drawn_122 : decode cX5_drawn 122 = .ok (.bipush 99, 2) := by decide +kernel
theorem dX5_drawn_124 : decode cX5_drawn 124 = .ok (.invokevirtual 151, 3) := by decide +kernel
theorem dX5_drawn_127 : decode cX5_drawn 127 = .ok (.ireturn, 1) := by decide +kernel
theorem dX5_image_0 : decode cX5_image 0 = .ok (.iload_n 1, 1) := by decide +kernel
theorem dX5_image_1 : decode cX5_image 1 = .ok (.iconst 0, 1) := by decide +kernel
theorem dX5_image_2 : decode cX5_image 2 = .ok (.iconst 1, 1) := by decide +kernel
theorem dX5_image_3 : decode cX5_image 3 = .ok (.invokestatic 69, 3) := by decide +kernel
theorem dX5_image_6 : decode cX5_image 6 = .ok (.ifCond .eq 6, 3) := by decide +kernel
theorem dX5_image_9 : decode cX5_image 9 = .ok (.ldc 73, 2) := by decide +kernel
theorem dX5_image_11 : decode cX5_image 11 = .ok (.ireturn, 1) := by decide +kernel
theorem dX5_image_12 : decode cX5_image 12 = .ok (.aload_n 0, 1) := by decide +kernel
theorem dX5_image_13 : decode cX5_image 13 = .ok (.invokevirtual 136, 3) := by decide +kernel
theorem dX5_image_16 : decode cX5_image 16 = .ok (.ifCond .eq 6, 3) := by decide +kernel
theorem dX5_image_19 : decode cX5_image 19 = .ok (.ldc 140, 2) := by decide +kernel
theorem dX5_image_21 : decode cX5_image 21 = .ok (.ireturn, 1) := by decide +kernel
theorem dX5_image_22 : decode cX5_image 22 = .ok (.aload_n 0, 1) := by decide +kernel
theorem dX5_image_23 : decode cX5_image 23 = .ok (.getfield 36, 3) := by decide +kernel
theorem dX5_image_26 : decode cX5_image 26 = .ok (.iload_n 1, 1) := by decide +kernel
theorem dX5_image_27 : decode cX5_image 27 = .ok (.aaload, 1) := by decide +kernel
theorem dX5_image_28 : decode cX5_image 28 = .ok (.aload_n 0, 1) := by decide +kernel
theorem dX5_image_29 : decode cX5_image 29 = .ok (.getfield 25, 3) := by decide +kernel
theorem dX5_image_32 : decode cX5_image 32 = .ok (.invokevirtual 123, 3) := by decide +kernel
theorem dX5_image_35 : decode cX5_image 35 = .ok (.iconst 1, 1) := by decide +kernel
theorem dX5_image_36 : decode cX5_image 36 = .ok (.ireturn, 1) := by decide +kernel
theorem dX5_restore_0 : decode cX5_restore 0 = .ok (.iload_n 1, 1) := by decide +kernel
theorem dX5_restore_1 : decode cX5_restore 1 = .ok (.iconst 0, 1) := by decide +kernel
theorem dX5_restore_2 : decode cX5_restore 2 = .ok (.iconst 1, 1) := by decide +kernel
theorem dX5_restore_3 : decode cX5_restore 3 = .ok (.invokestatic 69, 3) := by decide +kernel
theorem dX5_restore_6 : decode cX5_restore 6 = .ok (.ifCond .eq 6, 3) := by decide +kernel
theorem dX5_restore_9 : decode cX5_restore 9 = .ok (.ldc 73, 2) := by decide +kernel
theorem dX5_restore_11 : decode cX5_restore 11 = .ok (.ireturn, 1) := by decide +kernel
theorem dX5_restore_12 : decode cX5_restore 12 = .ok (.aload_n 0, 1) := by decide +kernel
theorem dX5_restore_13 : decode cX5_restore 13 = .ok (.getfield 36, 3) := by decide +kernel
theorem dX5_restore_16 : decode cX5_restore 16 = .ok (.iload_n 1, 1) := by decide +kernel
theorem dX5_restore_17 : decode cX5_restore 17 = .ok (.aaload, 1) := by decide +kernel
theorem dX5_restore_18 : decode cX5_restore 18 = .ok (.getfield 130, 3) := by decide +kernel
theorem dX5_restore_21 : decode cX5_restore 21 = .ok (.ifCond .ne 6, 3) := by decide +kernel
theorem dX5_restore_24 : decode cX5_restore 24 = .ok (.ldc 140, 2) := by decide +kernel
theorem dX5_restore_26 : decode cX5_restore 26 = .ok (.ireturn, 1) := by decide +kernel
theorem dX5_restore_27 : decode cX5_restore 27 = .ok (.aload_n 0, 1) := by decide +kernel
theorem dX5_restore_28 : decode cX5_restore 28 = .ok (.getfield 25, 3) := by decide +kernel
theorem dX5_restore_31 : decode cX5_restore 31 = .ok (.aload_n 0, 1) := by decide +kernel
theorem dX5_restore_32 : decode cX5_restore 32 = .ok (.getfield 36, 3) := by decide +kernel
theorem dX5_restore_35 : decode cX5_restore 35 = .ok (.iload_n 1, 1) := by decide +kernel
theorem dX5_restore_36 : decode cX5_restore 36 = .ok (.aaload, 1) := by decide +kernel
theorem dX5_restore_37 : decode cX5_restore 37 = .ok (.invokevirtual 123, 3) := by decide +kernel
theorem dX5_restore_40 : decode cX5_restore 40 = .ok (.aload_n 0, 1) := by decide +kernel
theorem dX5_restore_41 : decode cX5_restore 41 = .ok (.getfield 32, 3) := by decide +kernel
theorem dX5_restore_44 : decode cX5_restore 44 = .ok (.invokevirtual 127, 3) := by decide +kernel
theorem dX5_restore_47 : decode cX5_restore 47 = .ok (.iconst 1, 1) := by decide +kernel
theorem dX5_restore_48 : decode cX5_restore 48 = .ok (.ireturn, 1) := by decide +kernel
theorem dX5_kind_0 : decode cX5_kind 0 = .ok (.aload_n 0, 1) := by decide +kernel
theorem dX5_kind_1 : decode cX5_kind 1 = .ok (.iload_n 1, 1) := by decide +kernel
theorem dX5_kind_2 : decode cX5_kind 2 = .ok (.invokevirtual 157, 3) := by decide +kernel
theorem dX5_kind_5 : decode cX5_kind 5 = .ok (.ifCond .eq 8, 3) := by decide +kernel
theorem dX5_kind_8 : decode cX5_kind 8 = .ok (.ldc 73, 2) := by decide +kernel
theorem dX5_kind_10 : decode cX5_kind 10 = .ok (.goto 12, 3) := by decide +kernel
theorem dX5_kind_13 : decode cX5_kind 13 = .ok (.aload_n 0, 1) := by decide +kernel
theorem dX5_kind_14 : decode cX5_kind 14 = .ok (.getfield 25, 3) := by decide +kernel
theorem dX5_kind_17 : decode cX5_kind 17 = .ok (.getfield 257, 3) := by decide +kernel
theorem dX5_kind_20 : decode cX5_kind 20 = .ok (.iload_n 1, 1) := by decide +kernel
theorem dX5_kind_21 : decode cX5_kind 21 = .ok (.iaload, 1) := by decide +kernel
theorem dX5_kind_22 : decode cX5_kind 22 = .ok (.ireturn, 1) := by decide +kernel
theorem dX5_as_0 : decode cX5_as 0 = .ok (.aload_n 0, 1) := by decide +kernel
theorem dX5_as_1 : decode cX5_as 1 = .ok (.iload_n 1, 1) := by decide +kernel
theorem dX5_as_2 : decode cX5_as 2 = .ok (.invokevirtual 157, 3) := by decide +kernel
theorem dX5_as_5 : decode cX5_as 5 = .ok (.ifCond .ne 12, 3) := by decide +kernel
theorem dX5_as_8 : decode cX5_as 8 = .ok (.iload_n 2, 1) := by decide +kernel
theorem dX5_as_9 : decode cX5_as 9 = .ok (.iconst 0, 1) := by decide +kernel
theorem dX5_as_10 : decode cX5_as 10 = .ok (.iconst 5, 1) := by decide +kernel
theorem dX5_as_11 : decode cX5_as 11 = .ok (.invokestatic 69, 3) := by decide +kernel
theorem dX5_as_14 : decode cX5_as 14 = .ok (.ifCond .eq 6, 3) := by decide +kernel
theorem dX5_as_17 : decode cX5_as 17 = .ok (.ldc 73, 2) := by decide +kernel
theorem dX5_as_19 : decode cX5_as 19 = .ok (.ireturn, 1) := by decide +kernel
theorem dX5_as_20 : decode cX5_as 20 = .ok (.aload_n 0, 1) := by decide +kernel
theorem dX5_as_21 : decode cX5_as 21 = .ok (.getfield 25, 3) := by decide +kernel
theorem dX5_as_24 : decode cX5_as 24 = .ok (.getfield 257, 3) := by decide +kernel
theorem dX5_as_27 : decode cX5_as 27 = .ok (.iload_n 1, 1) := by decide +kernel
theorem dX5_as_28 : decode cX5_as 28 = .ok (.iaload, 1) := by decide +kernel
theorem dX5_as_29 : decode cX5_as 29 = .ok (.istore_n 3, 1) := by decide +kernel
theorem dX5_as_30 : decode cX5_as 30 = .ok (.iconst 0, 1) := by decide +kernel
theorem dX5_as_31 : decode cX5_as 31 = .ok (.istore 4, 2) := by decide +kernel
theorem dX5_as_33 : decode cX5_as 33 = .ok (.iload 4, 2) := by decide +kernel
theorem dX5_as_35 : decode cX5_as 35 = .ok (.iconst 5, 1) := by decide +kernel
theorem dX5_as_36 : decode cX5_as 36 = .ok (.if_icmp .gt 30, 3) := by decide +kernel
theorem dX5_as_39 : decode cX5_as 39 = .ok (.iload_n 3, 1) := by decide +kernel
theorem dX5_as_40 : decode cX5_as 40 = .ok (.ifCond .lt 26, 3) := by decide +kernel
theorem dX5_as_43 : decode cX5_as 43 = .ok (.iload_n 3, 1) := by decide +kernel
theorem dX5_as_44 : decode cX5_as 44 = .ok (.iload_n 2, 1) := by decide +kernel
theorem dX5_as_45 : decode cX5_as 45 = .ok (.if_icmp .ne 9, 3) := by decide +kernel
theorem dX5_as_48 : decode cX5_as 48 = .ok (.aload_n 0, 1) := by decide +kernel
theorem dX5_as_49 : decode cX5_as 49 = .ok (.iload_n 1, 1) := by decide +kernel
theorem dX5_as_50 : decode cX5_as 50 = .ok (.invokevirtual 82, 3) := by decide +kernel
theorem dX5_as_53 : decode cX5_as 53 = .ok (.ireturn, 1) := by decide +kernel
theorem dX5_as_54 : decode cX5_as 54 = .ok (.getstatic 260, 3) := by decide +kernel
theorem dX5_as_57 : decode cX5_as 57 = .ok (.iload_n 3, 1) := by decide +kernel
theorem dX5_as_58 : decode cX5_as 58 = .ok (.iaload, 1) := by decide +kernel
theorem dX5_as_59 : decode cX5_as 59 = .ok (.istore_n 3, 1) := by decide +kernel
theorem dX5_as_60 : decode cX5_as 60 = .ok (.iinc 4 1, 3) := by decide +kernel
theorem dX5_as_63 : decode cX5_as 63 = .ok (.goto (-30), 3) := by decide +kernel
theorem dX5_as_66 : decode cX5_as 66 = .ok (.aload_n 0, 1) := by decide +kernel
theorem dX5_as_67 : decode cX5_as 67 = .ok (.iconst 3, 1) := by decide +kernel
theorem dX5_as_68 : decode cX5_as 68 = .ok (.invokevirtual 74, 3) := by decide +kernel
theorem dX5_as_71 : decode cX5_as 71 = .ok (.ireturn, 1) := by decide +kernel
theorem dX5_ask_0 : decode cX5_ask 0 = .ok (.aload_n 0, 1) := by decide +kernel
theorem dX5_ask_1 : decode cX5_ask 1 = .ok (.iload_n 1, 1) := by decide +kernel
theorem dX5_ask_2 : decode cX5_ask 2 = .ok (.invokevirtual 157, 3) := by decide +kernel
theorem dX5_ask_5 : decode cX5_ask 5 = .ok (.ifCond .ne 12, 3) := by decide +kernel
theorem dX5_ask_8 : decode cX5_ask 8 = .ok (.iload_n 2, 1) := by decide +kernel
theorem dX5_ask_9 : decode cX5_ask 9 = .ok (.iconst 0, 1) := by decide +kernel
theorem dX5_ask_10 : decode cX5_ask 10 = .ok (.iconst 1, 1) := by decide +kernel
theorem dX5_ask_11 : decode cX5_ask 11 = .ok (.invokestatic 69, 3) := by decide +kernel
theorem dX5_ask_14 : decode cX5_ask 14 = .ok (.ifCond .eq 6, 3) := by decide +kernel
