theorem dX5_ask_17 : decode cX5_ask 17 = .ok (.ldc 73, 2) := by decide +kernel
theorem dX5_ask_19 : decode cX5_ask 19 = .ok (.ireturn, 1) := by decide +kernel
theorem dX5_ask_20 : decode cX5_ask 20 = .ok (.aload_n 0, 1) := by decide +kernel
theorem dX5_ask_21 : decode cX5_ask 21 = .ok (.getfield 43, 3) := by decide +kernel
theorem dX5_ask_24 : decode cX5_ask 24 = .ok (.iconst 0, 1) := by decide +kernel
theorem dX5_ask_25 : decode cX5_ask 25 = .ok (.putfield 263, 3) := by decide +kernel
theorem dX5_ask_28 : decode cX5_ask 28 = .ok (.aload_n 0, 1) := by decide +kernel
theorem dX5_ask_29 : decode cX5_ask 29 = .ok (.getfield 25, 3) := by decide +kernel
theorem dX5_ask_32 : decode cX5_ask 32 = .ok (.getfield 257, 3) := by decide +kernel
theorem dX5_ask_35 : decode cX5_ask 35 = .ok (.iload_n 1, 1) := by decide +kernel
theorem dX5_ask_36 : decode cX5_ask 36 = .ok (.iaload, 1) := by decide +kernel
theorem dX5_ask_37 : decode cX5_ask 37 = .ok (.iload_n 2, 1) := by decide +kernel
theorem dX5_ask_38 : decode cX5_ask 38 = .ok (.invokestatic 264, 3) := by decide +kernel
theorem dX5_ask_41 : decode cX5_ask 41 = .ok (.aload_n 0, 1) := by decide +kernel
theorem dX5_ask_42 : decode cX5_ask 42 = .ok (.getfield 25, 3) := by decide +kernel
theorem dX5_ask_45 : decode cX5_ask 45 = .ok (.iload_n 1, 1) := by decide +kernel
theorem dX5_ask_46 : decode cX5_ask 46 = .ok (.aload_n 0, 1) := by decide +kernel
theorem dX5_ask_47 : decode cX5_ask 47 = .ok (.getfield 43, 3) := by decide +kernel
theorem dX5_ask_50 : decode cX5_ask 50 = .ok (.iconst 0, 1) := by decide +kernel
theorem dX5_ask_51 : decode cX5_ask 51 = .ok (.invokestatic 267, 3) := by decide +kernel
theorem dX5_ask_54 : decode cX5_ask 54 = .ok (.ireturn, 1) := by decide +kernel
theorem dX5_trace_0 : decode cX5_trace 0 = .ok (.iload_n 1, 1) := by decide +kernel
theorem dX5_trace_1 : decode cX5_trace 1 = .ok (.iconst 0, 1) := by decide +kernel
theorem dX5_trace_2 : decode cX5_trace 2 = .ok (.aload_n 0, 1) := by decide +kernel
theorem dX5_trace_3 : decode cX5_trace 3 = .ok (.getfield 43, 3) := by decide +kernel
theorem dX5_trace_6 : decode cX5_trace 6 = .ok (.getfield 263, 3) := by decide +kernel
theorem dX5_trace_9 : decode cX5_trace 9 = .ok (.iconst 1, 1) := by decide +kernel
theorem dX5_trace_10 : decode cX5_trace 10 = .ok (.isub, 1) := by decide +kernel
theorem dX5_trace_11 : decode cX5_trace 11 = .ok (.invokestatic 69, 3) := by decide +kernel
theorem dX5_trace_14 : decode cX5_trace 14 = .ok (.ifCond .eq 8, 3) := by decide +kernel
theorem dX5_trace_17 : decode cX5_trace 17 = .ok (.ldc 121, 2) := by decide +kernel
theorem dX5_trace_19 : decode cX5_trace 19 = .ok (.goto 12, 3) := by decide +kernel
theorem dX5_trace_22 : decode cX5_trace 22 = .ok (.aload_n 0, 1) := by decide +kernel
theorem dX5_trace_23 : decode cX5_trace 23 = .ok (.getfield 43, 3) := by decide +kernel
theorem dX5_trace_26 : decode cX5_trace 26 = .ok (.getfield 271, 3) := by decide +kernel
theorem dX5_trace_29 : decode cX5_trace 29 = .ok (.iload_n 1, 1) := by decide +kernel
theorem dX5_trace_30 : decode cX5_trace 30 = .ok (.iaload, 1) := by decide +kernel
theorem dX5_trace_31 : decode cX5_trace 31 = .ok (.ireturn, 1) := by decide +kernel
theorem dX5_count_0 : decode cX5_count 0 = .ok (.iload_n 1, 1) := by decide +kernel
theorem dX5_count_1 : decode cX5_count 1 = .ok (.tableswitch 154 0 9 #[55, 60, 68, 76, 84, 92, 101, 128, 138, 146], 55) := by decide +kernel
theorem dX5_count_56 : decode cX5_count 56 = .ok (.aload_n 0, 1) := by decide +kernel
theorem dX5_count_57 : decode cX5_count 57 = .ok (.invokevirtual 274, 3) := by decide +kernel
theorem dX5_count_60 : decode cX5_count 60 = .ok (.ireturn, 1) := by decide +kernel
theorem dX5_count_61 : decode cX5_count 61 = .ok (.aload_n 0, 1) := by decide +kernel
theorem dX5_count_62 : decode cX5_count 62 = .ok (.getfield 25, 3) := by decide +kernel
theorem dX5_count_65 : decode cX5_count 65 = .ok (.getfield 130, 3) := by decide +kernel
theorem dX5_count_68 : decode cX5_count 68 = .ok (.ireturn, 1) := by decide +kernel
theorem dX5_count_69 : decode cX5_count 69 = .ok (.aload_n 0, 1) := by decide +kernel
theorem dX5_count_70 : decode cX5_count 70 = .ok (.getfield 25, 3) := by decide +kernel
theorem dX5_count_73 : decode cX5_count 73 = .ok (.getfield 191, 3) := by decide +kernel
theorem dX5_count_76 : decode cX5_count 76 = .ok (.ireturn, 1) := by decide +kernel
theorem dX5_count_77 : decode cX5_count 77 = .ok (.aload_n 0, 1) := by decide +kernel
theorem dX5_count_78 : decode cX5_count 78 = .ok (.getfield 25, 3) := by decide +kernel
theorem dX5_count_81 : decode cX5_count 81 = .ok (.getfield 141, 3) := by decide +kernel
theorem dX5_count_84 : decode cX5_count 84 = .ok (.ireturn, 1) := by decide +kernel
theorem dX5_count_85 : decode cX5_count 85 = .ok (.aload_n 0, 1) := by decide +kernel
theorem dX5_count_86 : decode cX5_count 86 = .ok (.getfield 25, 3) := by decide +kernel
theorem dX5_count_89 : decode cX5_count 89 = .ok (.getfield 154, 3) := by decide +kernel
theorem dX5_count_92 : decode cX5_count 92 = .ok (.ireturn, 1) := by decide +kernel
theorem dX5_count_93 : decode cX5_count 93 = .ok (.aload_n 0, 1) := by decide +kernel
theorem dX5_count_94 : decode cX5_count 94 = .ok (.getfield 25, 3) := by decide +kernel
theorem dX5_count_97 : decode cX5_count 97 = .ok (.iconst (-1), 1) := by decide +kernel
theorem dX5_count_98 : decode cX5_count 98 = .ok (.invokevirtual 151, 3) := by decide +kernel
theorem dX5_count_101 : decode cX5_count 101 = .ok (.ireturn, 1) := by decide +kernel
theorem dX5_count_102 : decode cX5_count 102 = .ok (.aload_n 0, 1) := by decide +kernel
theorem dX5_count_103 : decode cX5_count 103 = .ok (.getfield 25, 3) := by decide +kernel
theorem dX5_count_106 : decode cX5_count 106 = .ok (.getfield 130, 3) := by decide +kernel
theorem dX5_count_109 : decode cX5_count 109 = .ok (.aload_n 0, 1) := by decide +kernel
theorem dX5_count_110 : decode cX5_count 110 = .ok (.getfield 25, 3) := by decide +kernel
theorem dX5_count_113 : decode cX5_count 113 = .ok (.iconst (-1), 1) := by decide +kernel
theorem dX5_count_114 : decode cX5_count 114 = .ok (.invokevirtual 151, 3) := by decide +kernel
theorem dX5_count_117 : decode cX5_count 117 = .ok (.isub, 1) := by decide +kernel
theorem dX5_count_118 : decode cX5_count 118 = .ok (.aload_n 0, 1) := by decide +kernel
theorem dX5_count_119 : decode cX5_count 119 = .ok (.getfield 25, 3) := by decide +kernel
theorem dX5_count_122 : decode cX5_count 122 = .ok (.bipush 99, 2) := by decide +kernel
theorem dX5_count_124 : decode cX5_count 124 = .ok (.invokevirtual 151, 3) := by decide +kernel
theorem dX5_count_127 : decode cX5_count 127 = .ok (.isub, 1) := by decide +kernel
theorem dX5_count_128 : decode cX5_count 128 = .ok (.ireturn, 1) := by decide +kernel
theorem dX5_count_129 : decode cX5_count 129 = .ok (.aload_n 0, 1) := by decide +kernel
theorem dX5_count_130 : decode cX5_count 130 = .ok (.getfield 25, 3) := by decide +kernel
theorem dX5_count_133 : decode cX5_count 133 = .ok (.bipush 99, 2) := by decide +kernel
theorem dX5_count_135 : decode cX5_count 135 = .ok (.invokevirtual 151, 3) := by decide +kernel
theorem dX5_count_138 : decode cX5_count 138 = .ok (.ireturn, 1) := by decide +kernel
theorem dX5_count_139 : decode cX5_count 139 = .ok (.aload_n 0, 1) := by decide +kernel
theorem dX5_count_140 : decode cX5_count 140 = .ok (.getfield 32, 3) := by decide +kernel
theorem dX5_count_143 : decode cX5_count 143 = .ok (.getfield 172, 3) := by decide +kernel
theorem dX5_count_146 : decode cX5_count 146 = .ok (.ireturn, 1) := by decide +kernel
theorem dX5_count_147 : decode cX5_count 147 = .ok (.aload_n 0, 1) := by decide +kernel
theorem dX5_count_148 : decode cX5_count 148 = .ok (.getfield 18, 3) := by decide +kernel
theorem dX5_count_151 : decode cX5_count 151 = .ok (.getfield 111, 3) := by decide +kernel
theorem dX5_count_154 : decode cX5_count 154 = .ok (.ireturn, 1) := by decide +kernel
theorem dX5_count_155 : decode cX5_count 155 = .ok (.ldc 73, 2) := by decide +kernel
theorem dX5_count_157 : decode cX5_count 157 = .ok (.ireturn, 1) := by decide +kernel
theorem dX5_status_0 : decode cX5_status 0 = .ok (.aload_n 0, 1) := by decide +kernel
theorem dX5_status_1 : decode cX5_status 1 = .ok (.getfield 60, 3) := by decide +kernel
theorem dX5_status_4 : decode cX5_status 4 = .ok (.ireturn, 1) := by decide +kernel
theorem dX5_outside_0 : decode cX5_outside 0 = .ok (.iload_n 0, 1) := by decide +kernel
theorem dX5_outside_1 : decode cX5_outside 1 = .ok (.iload_n 1, 1) := by decide +kernel
theorem dX5_outside_2 : decode cX5_outside 2 = .ok (.if_icmp .lt 8, 3) := by decide +kernel
theorem dX5_outside_5 : decode cX5_outside 5 = .ok (.iload_n 0, 1) := by decide +kernel
theorem dX5_outside_6 : decode cX5_outside 6 = .ok (.iload_n 2, 1) := by decide +kernel
theorem dX5_outside_7 : decode cX5_outside 7 = .ok (.if_icmp .le 7, 3) := by decide +kernel
theorem dX5_outside_10 : decode cX5_outside 10 = .ok (.iconst 1, 1) := by decide +kernel
theorem dX5_outside_11 : decode cX5_outside 11 = .ok (.goto 4, 3) := by decide +kernel
theorem dX5_outside_14 : decode cX5_outside 14 = .ok (.iconst 0, 1) := by decide +kernel
theorem dX5_outside_15 : decode cX5_outside 15 = .ok (.ireturn, 1) := by decide +kernel
theorem dX5_oneIf_0 : decode cX5_oneIf 0 = .ok (.iload_n 0, 1) := by decide +kernel
theorem dX5_oneIf_1 : decode cX5_oneIf 1 = .ok (.ifCond .eq 7, 3) := by decide +kernel
theorem dX5_oneIf_4 : decode cX5_oneIf 4 = .ok (.iconst 1, 1) := by decide +kernel
theorem dX5_oneIf_5 : decode cX5_oneIf 5 = .ok (.goto 4, 3) := by decide +kernel
theorem dX5_oneIf_8 : decode cX5_oneIf 8 = .ok (.iconst 0, 1) := by decide +kernel
theorem dX5_oneIf_9 : decode cX5_oneIf 9 = .ok (.ireturn, 1) := by decide +kernel
theorem dX5_noRow_0 : decode cX5_noRow 0 = .ok (.iload_n 0, 1) := by decide +kernel
theorem dX5_noRow_1 : decode cX5_noRow 1 = .ok (.iconst 0, 1) := by decide +kernel
theorem dX5_noRow_2 : decode cX5_noRow 2 = .ok (.bipush 7, 2) := by decide +kernel
theorem dX5_noRow_4 : decode cX5_noRow 4 = .ok (.invokestatic 69, 3) := by decide +kernel
theorem dX5_noRow_7 : decode cX5_noRow 7 = .ok (.ireturn, 1) := by decide +kernel
theorem dX5_noStair_0 : decode cX5_noStair 0 = .ok (.aload_n 0, 1) := by decide +kernel
theorem dX5_noStair_1 : decode cX5_noStair 1 = .ok (.getfield 25, 3) := by decide +kernel
theorem dX5_noStair_4 : decode cX5_noStair 4 = .ok (.getfield 130, 3) := by decide +kernel
theorem dX5_noStair_7 : decode cX5_noStair 7 = .ok (.ifCond .ne 7, 3) := by decide +kernel
theorem dX5_noStair_10 : decode cX5_noStair 10 = .ok (.iconst 1, 1) := by decide +kernel
theorem dX5_noStair_11 : decode cX5_noStair 11 = .ok (.goto 4, 3) := by decide +kernel
theorem dX5_noStair_14 : decode cX5_noStair 14 = .ok (.iconst 0, 1) := by decide +kernel
theorem dX5_noStair_15 : decode cX5_noStair 15 = .ok (.ireturn, 1) := by decide +kernel
theorem dX5_noRider_0 : decode cX5_noRider 0 = .ok (.iload_n 1, 1) := by decide +kernel
theorem dX5_noRider_1 : decode cX5_noRider 1 = .ok (.iconst 0, 1) := by decide +kernel
theorem dX5_noRider_2 : decode cX5_noRider 2 = .ok (.aload_n 0, 1) := by decide +kernel
theorem dX5_noRider_3 : decode cX5_noRider 3 = .ok (.getfield 25, 3) := by decide +kernel
theorem dX5_noRider_6 : decode cX5_noRider 6 = .ok (.getfield 130, 3) := by decide +kernel
theorem dX5_noRider_9 : decode cX5_noRider 9 = .ok (.iconst 1, 1) := by decide +kernel
theorem dX5_noRider_10 : decode cX5_noRider 10 = .ok (.isub, 1) := by decide +kernel
theorem dX5_noRider_11 : decode cX5_noRider 11 = .ok (.invokestatic 69, 3) := by decide +kernel
theorem dX5_noRider_14 : decode cX5_noRider 14 = .ok (.ireturn, 1) := by decide +kernel
theorem dX5_found_0 : decode cX5_found 0 = .ok (.aload_n 0, 1) := by decide +kernel
theorem dX5_found_1 : decode cX5_found 1 = .ok (.iload_n 1, 1) := by decide +kernel
theorem dX5_found_2 : decode cX5_found 2 = .ok (.putfield 60, 3) := by decide +kernel
theorem dX5_found_5 : decode cX5_found 5 = .ok (.ldc_w 277, 3) := by decide +kernel
theorem dX5_found_8 : decode cX5_found 8 = .ok (.iload_n 1, 1) := by decide +kernel
theorem dX5_found_9 : decode cX5_found 9 = .ok (.isub, 1) := by decide +kernel
theorem dX5_found_10 : decode cX5_found 10 = .ok (.ireturn, 1) := by decide +kernel
theorem dX5_fine_0 : decode cX5_fine 0 = .ok (.aload_n 0, 1) := by decide +kernel
theorem dX5_fine_1 : decode cX5_fine 1 = .ok (.iconst 0, 1) := by decide +kernel
theorem dX5_fine_2 : decode cX5_fine 2 = .ok (.putfield 60, 3) := by decide +kernel
theorem dX5_fine_5 : decode cX5_fine 5 = .ok (.iload_n 1, 1) := by decide +kernel
theorem dX5_fine_6 : decode cX5_fine 6 = .ok (.ireturn, 1) := by decide +kernel
theorem dX5_howManyRows_0 : decode cX5_howManyRows 0 = .ok (.iconst 0, 1) := by decide +kernel
theorem dX5_howManyRows_1 : decode cX5_howManyRows 1 = .ok (.istore_n 1, 1) := by decide +kernel
theorem dX5_howManyRows_2 : decode cX5_howManyRows 2 = .ok (.iconst 0, 1) := by decide +kernel
theorem dX5_howManyRows_3 : decode cX5_howManyRows 3 = .ok (.istore_n 2, 1) := by decide +kernel
theorem dX5_howManyRows_4 : decode cX5_howManyRows 4 = .ok (.iload_n 2, 1) := by decide +kernel
theorem dX5_howManyRows_5 : decode cX5_howManyRows 5 = .ok (.bipush 8, 2) := by decide +kernel
theorem dX5_howManyRows_7 : decode cX5_howManyRows 7 = .ok (.if_icmp .ge 32, 3) := by decide +kernel
theorem dX5_howManyRows_10 : decode cX5_howManyRows 10 = .ok (.iload_n 1, 1) := by decide +kernel
theorem dX5_howManyRows_11 : decode cX5_howManyRows 11 = .ok (.aload_n 0, 1) := by decide +kernel
theorem dX5_howManyRows_12 : decode cX5_howManyRows 12 = .ok (.getfield 11, 3) := by decide +kernel
theorem dX5_howManyRows_15 : decode cX5_howManyRows 15 = .ok (.iload_n 2, 1) := by decide +kernel
theorem dX5_howManyRows_16 : decode cX5_howManyRows 16 = .ok (.aaload, 1) := by decide +kernel
theorem dX5_howManyRows_17 : decode cX5_howManyRows 17 = .ok (.getfield 85, 3) := by decide +kernel
theorem dX5_howManyRows_20 : decode cX5_howManyRows 20 = .ok (.ifCond .ne 7, 3) := by decide +kernel
theorem dX5_howManyRows_23 : decode cX5_howManyRows 23 = .ok (.iconst 1, 1) := by decide +kernel
theorem dX5_howManyRows_24 : decode cX5_howManyRows 24 = .ok (.goto 4, 3) := by decide +kernel
theorem dX5_howManyRows_27 : decode cX5_howManyRows 27 = .ok (.iconst 0, 1) := by decide +kernel
theorem dX5_howManyRows_28 : decode cX5_howManyRows 28 = .ok (.invokestatic 181, 3) := by decide +kernel
theorem dX5_howManyRows_31 : decode cX5_howManyRows 31 = .ok (.iadd, 1) := by decide +kernel
theorem dX5_howManyRows_32 : decode cX5_howManyRows 32 = .ok (.istore_n 1, 1) := by decide +kernel
theorem dX5_howManyRows_33 : decode cX5_howManyRows 33 = .ok (.iinc 2 1, 3) := by decide +kernel
theorem dX5_howManyRows_36 : decode cX5_howManyRows 36 = .ok (.goto (-32), 3) := by decide +kernel
theorem dX5_howManyRows_39 : decode cX5_howManyRows 39 = .ok (.iload_n 1, 1) := by decide +kernel
theorem dX5_howManyRows_40 : decode cX5_howManyRows 40 = .ok (.ireturn, 1) := by decide +kernel
theorem dX5_tryTicks_0 : decode cX5_tryTicks 0 = .ok (.aload_n 0, 1) := by decide +kernel
theorem dX5_tryTicks_1 : decode cX5_tryTicks 1 = .ok (.getfield 47, 3) := by decide +kernel
theorem dX5_tryTicks_4 : decode cX5_tryTicks 4 = .ok (.aload_n 0, 1) := by decide +kernel
theorem dX5_tryTicks_5 : decode cX5_tryTicks 5 = .ok (.getfield 25, 3) := by decide +kernel
theorem dX5_tryTicks_8 : decode cX5_tryTicks 8 = .ok (.invokevirtual 123, 3) := by decide +kernel
theorem dX5_tryTicks_11 : decode cX5_tryTicks 11 = .ok (.iconst 0, 1) := by decide +kernel
theorem dX5_tryTicks_12 : decode cX5_tryTicks 12 = .ok (.istore_n 2, 1) := by decide +kernel
theorem dX5_tryTicks_13 : decode cX5_tryTicks 13 = .ok (.iload_n 2, 1) := by decide +kernel
theorem dX5_tryTicks_14 : decode cX5_tryTicks 14 = .ok (.iload_n 1, 1) := by decide +kernel
theorem dX5_tryTicks_15 : decode cX5_tryTicks 15 = .ok (.if_icmp .ge 17, 3) := by decide +kernel
theorem dX5_tryTicks_18 : decode cX5_tryTicks 18 = .ok (.aload_n 0, 1) := by decide +kernel
theorem dX5_tryTicks_19 : decode cX5_tryTicks 19 = .ok (.getfield 47, 3) := by decide +kernel
theorem dX5_tryTicks_22 : decode cX5_tryTicks 22 = .ok (.invokevirtual 147, 3) := by decide +kernel
theorem dX5_tryTicks_25 : decode cX5_tryTicks 25 = .ok (.pop, 1) := by decide +kernel
theorem dX5_tryTicks_26 : decode cX5_tryTicks 26 = .ok (.iinc 2 1, 3) := by decide +kernel
theorem dX5_tryTicks_29 : decode cX5_tryTicks 29 = .ok (.goto (-16), 3) := by decide +kernel
theorem dX5_tryTicks_32 : decode cX5_tryTicks 32 = .ok (.return_, 1) := by decide +kernel
theorem dX5_nextSubset_0 : decode cX5_nextSubset 0 = .ok (.iload_n 0, 1) := by decide +kernel
theorem dX5_nextSubset_1 : decode cX5_nextSubset 1 = .ok (.iload_n 1, 1) := by decide +kernel
theorem dX5_nextSubset_2 : decode cX5_nextSubset 2 = .ok (.isub, 1) := by decide +kernel
theorem dX5_nextSubset_3 : decode cX5_nextSubset 3 = .ok (.iload_n 1, 1) := by decide +kernel
theorem dX5_nextSubset_4 : decode cX5_nextSubset 4 = .ok (.iand, 1) := by decide +kernel
theorem dX5_nextSubset_5 : decode cX5_nextSubset 5 = .ok (.ireturn, 1) := by decide +kernel
theorem dX5_power_0 : decode cX5_power 0 = .ok (.iconst 1, 1) := by decide +kernel
theorem dX5_power_1 : decode cX5_power 1 = .ok (.istore_n 2, 1) := by decide +kernel
theorem dX5_power_2 : decode cX5_power 2 = .ok (.iconst 0, 1) := by decide +kernel
theorem dX5_power_3 : decode cX5_power 3 = .ok (.istore_n 3, 1) := by decide +kernel
theorem dX5_power_4 : decode cX5_power 4 = .ok (.iload_n 3, 1) := by decide +kernel
theorem dX5_power_5 : decode cX5_power 5 = .ok (.iload_n 1, 1) := by decide +kernel
theorem dX5_power_6 : decode cX5_power 6 = .ok (.if_icmp .ge 13, 3) := by decide +kernel
theorem dX5_power_9 : decode cX5_power 9 = .ok (.iload_n 2, 1) := by decide +kernel
theorem dX5_power_10 : decode cX5_power 10 = .ok (.iload_n 0, 1) := by decide +kernel
theorem dX5_power_11 : decode cX5_power 11 = .ok (.imul, 1) := by decide +kernel
theorem dX5_power_12 : decode cX5_power 12 = .ok (.istore_n 2, 1) := by decide +kernel
theorem dX5_power_13 : decode cX5_power 13 = .ok (.iinc 3 1, 3) := by decide +kernel
theorem dX5_power_16 : decode cX5_power 16 = .ok (.goto (-12), 3) := by decide +kernel
theorem dX5_power_19 : decode cX5_power 19 = .ok (.iload_n 2, 1) := by decide +kernel
theorem dX5_power_20 : decode cX5_power 20 = .ok (.ireturn, 1) := by decide +kernel
theorem dX5_greatestDivisor_0 : decode cX5_greatestDivisor 0 = .ok (.iload_n 0, 1) := by decide +kernel
theorem dX5_greatestDivisor_1 : decode cX5_greatestDivisor 1 = .ok (.istore_n 2, 1) := by decide +kernel
theorem dX5_greatestDivisor_2 : decode cX5_greatestDivisor 2 = .ok (.iload_n 1, 1) := by decide +kernel
theorem dX5_greatestDivisor_3 : decode cX5_greatestDivisor 3 = .ok (.istore_n 3, 1) := by decide +kernel
theorem dX5_greatestDivisor_4 : decode cX5_greatestDivisor 4 = .ok (.iconst 0, 1) := by decide +kernel
theorem dX5_greatestDivisor_5 : decode cX5_greatestDivisor 5 = .ok (.istore 4, 2) := by decide +kernel
theorem dX5_greatestDivisor_7 : decode cX5_greatestDivisor 7 = .ok (.iload 4, 2) := by decide +kernel
theorem dX5_greatestDivisor_9 : decode cX5_greatestDivisor 9 = .ok (.bipush 100, 2) := by decide +kernel
theorem dX5_greatestDivisor_11 : decode cX5_greatestDivisor 11 = .ok (.if_icmp .ge 23, 3) := by decide +kernel
theorem dX5_greatestDivisor_14 : decode cX5_greatestDivisor 14 = .ok (.iload_n 3, 1) := by decide +kernel
theorem dX5_greatestDivisor_15 : decode cX5_greatestDivisor 15 = .ok (.ifCond .eq 19, 3) := by decide +kernel
theorem dX5_greatestDivisor_18 : decode cX5_greatestDivisor 18 = .ok (.iload_n 2, 1) := by decide +kernel
theorem dX5_greatestDivisor_19 : decode cX5_greatestDivisor 19 = .ok (.iload_n 3, 1) := by decide +kernel
theorem dX5_greatestDivisor_20 : decode cX5_greatestDivisor 20 = .ok (.irem, 1) := by decide +kernel
theorem dX5_greatestDivisor_21 : decode cX5_greatestDivisor 21 = .ok (.istore 5, 2) := by decide +kernel
theorem dX5_greatestDivisor_23 : decode cX5_greatestDivisor 23 = .ok (.iload_n 3, 1) := by decide +kernel
theorem dX5_greatestDivisor_24 : decode cX5_greatestDivisor 24 = .ok (.istore_n 2, 1) := by decide +kernel
theorem dX5_greatestDivisor_25 : decode cX5_greatestDivisor 25 = .ok (.iload 5, 2) := by decide +kernel
theorem dX5_greatestDivisor_27 : decode cX5_greatestDivisor 27 = .ok (.istore_n 3, 1) := by decide +kernel
theorem dX5_greatestDivisor_28 : decode cX5_greatestDivisor 28 = .ok (.iinc 4 1, 3) := by decide +kernel
theorem dX5_greatestDivisor_31 : decode cX5_greatestDivisor 31 = .ok (.goto (-24), 3) := by decide +kernel
theorem dX5_greatestDivisor_34 : decode cX5_greatestDivisor 34 = .ok (.iload_n 2, 1) := by decide +kernel
theorem dX5_greatestDivisor_35 : decode cX5_greatestDivisor 35 = .ok (.iconst 1, 1) := by decide +kernel
theorem dX5_greatestDivisor_36 : decode cX5_greatestDivisor 36 = .ok (.invokestatic 278, 3) := by decide +kernel
theorem dX5_greatestDivisor_39 : decode cX5_greatestDivisor 39 = .ok (.ireturn, 1) := by decide +kernel
theorem dX5_findPaces_0 : decode cX5_findPaces 0 = .ok (.ldc 121, 2) := by decide +kernel
theorem dX5_findPaces_2 : decode cX5_findPaces 2 = .ok (.istore_n 3, 1) := by decide +kernel
theorem dX5_findPaces_3 : decode cX5_findPaces 3 = .ok (.iconst 3, 1) := by decide +kernel
theorem dX5_findPaces_4 : decode cX5_findPaces 4 = .ok (.iload_n 2, 1) := by decide +kernel
theorem dX5_findPaces_5 : decode cX5_findPaces 5 = .ok (.invokestatic 243, 3) := by decide +kernel
theorem dX5_findPaces_8 : decode cX5_findPaces 8 = .ok (.istore 4, 2) := by decide +kernel
theorem dX5_findPaces_10 : decode cX5_findPaces 10 = .ok (.aload_n 0, 1) := by decide +kernel
theorem dX5_findPaces_11 : decode cX5_findPaces 11 = .ok (.getfield 50, 3) := by decide +kernel
theorem dX5_findPaces_14 : decode cX5_findPaces 14 = .ok (.iconst 0, 1) := by decide +kernel
theorem dX5_findPaces_15 : decode cX5_findPaces 15 = .ok (.aaload, 1) := by decide +kernel
theorem dX5_findPaces_16 : decode cX5_findPaces 16 = .ok (.aload_n 0, 1) := by decide +kernel
theorem dX5_findPaces_17 : decode cX5_findPaces 17 = .ok (.getfield 25, 3) := by decide +kernel
theorem dX5_findPaces_20 : decode cX5_findPaces 20 = .ok (.invokevirtual 123, 3) := by decide +kernel
theorem dX5_findPaces_23 : decode cX5_findPaces 23 = .ok (.iconst 0, 1) := by decide +kernel
theorem dX5_findPaces_24 : decode cX5_findPaces 24 = .ok (.istore 5, 2) := by decide +kernel
theorem dX5_findPaces_26 : decode cX5_findPaces 26 = .ok (.iload 5, 2) := by decide +kernel
theorem dX5_findPaces_28 : decode cX5_findPaces 28 = .ok (.iload 4, 2) := by decide +kernel
theorem dX5_findPaces_30 : decode cX5_findPaces 30 = .ok (.if_icmp .ge 73, 3) := by decide +kernel
theorem dX5_findPaces_33 : decode cX5_findPaces 33 = .ok (.aload_n 0, 1) := by decide +kernel
theorem dX5_findPaces_34 : decode cX5_findPaces 34 = .ok (.aload_n 0, 1) := by decide +kernel
theorem dX5_findPaces_35 : decode cX5_findPaces 35 = .ok (.iload 5, 2) := by decide +kernel
theorem dX5_findPaces_37 : decode cX5_findPaces 37 = .ok (.iload_n 2, 1) := by decide +kernel
theorem dX5_findPaces_38 : decode cX5_findPaces 38 = .ok (.invokevirtual 283, 3) := by decide +kernel
theorem dX5_findPaces_41 : decode cX5_findPaces 41 = .ok (.iload_n 2, 1) := by decide +kernel
theorem dX5_findPaces_42 : decode cX5_findPaces 42 = .ok (.invokevirtual 286, 3) := by decide +kernel
theorem dX5_findPaces_45 : decode cX5_findPaces 45 = .ok (.aload_n 0, 1) := by decide +kernel
theorem dX5_findPaces_46 : decode cX5_findPaces 46 = .ok (.iload_n 2, 1) := by decide +kernel
theorem dX5_findPaces_47 : decode cX5_findPaces 47 = .ok (.invokevirtual 289, 3) := by decide +kernel
theorem dX5_findPaces_50 : decode cX5_findPaces 50 = .ok (.istore 6, 2) := by decide +kernel
theorem dX5_findPaces_52 : decode cX5_findPaces 52 = .ok (.aload_n 0, 1) := by decide +kernel
theorem dX5_findPaces_53 : decode cX5_findPaces 53 = .ok (.getfield 50, 3) := by decide +kernel
theorem dX5_findPaces_56 : decode cX5_findPaces 56 = .ok (.iload_n 2, 1) := by decide +kernel
theorem dX5_findPaces_57 : decode cX5_findPaces 57 = .ok (.aaload, 1) := by decide +kernel
theorem dX5_findPaces_58 : decode cX5_findPaces 58 = .ok (.getfield 160, 3) := by decide +kernel
theorem dX5_findPaces_61 : decode cX5_findPaces 61 = .ok (.iload_n 1, 1) := by decide +kernel
theorem dX5_findPaces_62 : decode cX5_findPaces 62 = .ok (.iaload, 1) := by decide +kernel
theorem dX5_findPaces_63 : decode cX5_findPaces 63 = .ok (.bipush 99, 2) := by decide +kernel
theorem dX5_findPaces_65 : decode cX5_findPaces 65 = .ok (.if_icmp .ne 32, 3) := by decide +kernel
theorem dX5_findPaces_68 : decode cX5_findPaces 68 = .ok (.iload_n 3, 1) := by decide +kernel
theorem dX5_findPaces_69 : decode cX5_findPaces 69 = .ok (.ldc 121, 2) := by decide +kernel
theorem dX5_findPaces_71 : decode cX5_findPaces 71 = .ok (.if_icmp .eq 9, 3) := by decide +kernel
theorem dX5_findPaces_74 : decode cX5_findPaces 74 = .ok (.iload 6, 2) := by decide +kernel
theorem dX5_findPaces_76 : decode cX5_findPaces 76 = .ok (.iload_n 3, 1) := by decide +kernel
theorem dX5_findPaces_77 : decode cX5_findPaces 77 = .ok (.if_icmp .ge 20, 3) := by decide +kernel
theorem dX5_findPaces_80 : decode cX5_findPaces 80 = .ok (.iload 6, 2) := by decide +kernel
theorem dX5_findPaces_82 : decode cX5_findPaces 82 = .ok (.istore_n 3, 1) := by decide +kernel
theorem dX5_findPaces_83 : decode cX5_findPaces 83 = .ok (.aload_n 0, 1) := by decide +kernel
theorem dX5_findPaces_84 : decode cX5_findPaces 84 = .ok (.getfield 53, 3) := by decide +kernel
theorem dX5_findPaces_87 : decode cX5_findPaces 87 = .ok (.iconst 0, 1) := by decide +kernel
theorem dX5_findPaces_88 : decode cX5_findPaces 88 = .ok (.aload_n 0, 1) := by decide +kernel
theorem dX5_findPaces_89 : decode cX5_findPaces 89 = .ok (.getfield 57, 3) := by decide +kernel
theorem dX5_findPaces_92 : decode cX5_findPaces 92 = .ok (.iconst 0, 1) := by decide +kernel
theorem dX5_findPaces_93 : decode cX5_findPaces 93 = .ok (.iload_n 2, 1) := by decide +kernel
theorem dX5_findPaces_94 : decode cX5_findPaces 94 = .ok (.invokestatic 102, 3) := by decide +kernel
theorem dX5_findPaces_97 : decode cX5_findPaces 97 = .ok (.iinc 5 1, 3) := by decide +kernel
theorem dX5_findPaces_100 : decode cX5_findPaces 100 = .ok (.goto (-74), 3) := by decide +kernel
theorem dX5_findPaces_103 : decode cX5_findPaces 103 = .ok (.iload_n 3, 1) := by decide +kernel
theorem dX5_findPaces_104 : decode cX5_findPaces 104 = .ok (.ireturn, 1) := by decide +kernel
theorem dX5_writePaces_0 : decode cX5_writePaces 0 = .ok (.iload_n 2, 1) := by decide +kernel
theorem dX5_writePaces_1 : decode cX5_writePaces 1 = .ok (.istore_n 3, 1) := by decide +kernel
theorem dX5_writePaces_2 : decode cX5_writePaces 2 = .ok (.iload_n 1, 1) := by decide +kernel
theorem dX5_writePaces_3 : decode cX5_writePaces 3 = .ok (.istore 4, 2) := by decide +kernel
theorem dX5_writePaces_5 : decode cX5_writePaces 5 = .ok (.iload_n 2, 1) := by decide +kernel
theorem dX5_writePaces_6 : decode cX5_writePaces 6 = .ok (.iconst 1, 1) := by decide +kernel
theorem dX5_writePaces_7 : decode cX5_writePaces 7 = .ok (.isub, 1) := by decide +kernel
theorem dX5_writePaces_8 : decode cX5_writePaces 8 = .ok (.istore 5, 2) := by decide +kernel
theorem dX5_writePaces_10 : decode cX5_writePaces 10 = .ok (.iload 5, 2) := by decide +kernel
theorem dX5_writePaces_12 : decode cX5_writePaces 12 = .ok (.ifCond .lt 45, 3) := by decide +kernel
theorem dX5_writePaces_15 : decode cX5_writePaces 15 = .ok (.iload 4, 2) := by decide +kernel
theorem dX5_writePaces_17 : decode cX5_writePaces 17 = .ok (.iconst 3, 1) := by decide +kernel
theorem dX5_writePaces_18 : decode cX5_writePaces 18 = .ok (.irem, 1) := by decide +kernel
theorem dX5_writePaces_19 : decode cX5_writePaces 19 = .ok (.istore 6, 2) := by decide +kernel
theorem dX5_writePaces_21 : decode cX5_writePaces 21 = .ok (.iload 4, 2) := by decide +kernel
theorem dX5_writePaces_23 : decode cX5_writePaces 23 = .ok (.iconst 3, 1) := by decide +kernel
theorem dX5_writePaces_24 : decode cX5_writePaces 24 = .ok (.idiv, 1) := by decide +kernel
theorem dX5_writePaces_25 : decode cX5_writePaces 25 = .ok (.istore 4, 2) := by decide +kernel
theorem dX5_writePaces_27 : decode cX5_writePaces 27 = .ok (.iload 6, 2) := by decide +kernel
theorem dX5_writePaces_29 : decode cX5_writePaces 29 = .ok (.aload_n 0, 1) := by decide +kernel
theorem dX5_writePaces_30 : decode cX5_writePaces 30 = .ok (.getfield 53, 3) := by decide +kernel
theorem dX5_writePaces_33 : decode cX5_writePaces 33 = .ok (.iload 5, 2) := by decide +kernel
theorem dX5_writePaces_35 : decode cX5_writePaces 35 = .ok (.iaload, 1) := by decide +kernel
theorem dX5_writePaces_36 : decode cX5_writePaces 36 = .ok (.if_icmp .eq 6, 3) := by decide +kernel
theorem dX5_writePaces_39 : decode cX5_writePaces 39 = .ok (.iload 5, 2) := by decide +kernel
theorem dX5_writePaces_41 : decode cX5_writePaces 41 = .ok (.istore_n 3, 1) := by decide +kernel
theorem dX5_writePaces_42 : decode cX5_writePaces 42 = .ok (.aload_n 0, 1) := by decide +kernel
theorem dX5_writePaces_43 : decode cX5_writePaces 43 = .ok (.getfield 53, 3) := by decide +kernel
theorem dX5_writePaces_46 : decode cX5_writePaces 46 = .ok (.iload 5, 2) := by decide +kernel
theorem dX5_writePaces_48 : decode cX5_writePaces 48 = .ok (.iload 6, 2) := by decide +kernel
theorem dX5_writePaces_50 : decode cX5_writePaces 50 = .ok (.iastore, 1) := by decide +kernel
theorem dX5_writePaces_51 : decode cX5_writePaces 51 = .ok (.iinc 5 (-1), 3) := by decide +kernel
theorem dX5_writePaces_54 : decode cX5_writePaces 54 = .ok (.goto (-44), 3) := by decide +kernel
theorem dX5_writePaces_57 : decode cX5_writePaces 57 = .ok (.iload_n 1, 1) := by decide +kernel
theorem dX5_writePaces_58 : decode cX5_writePaces 58 = .ok (.ifCond .ne 7, 3) := by decide +kernel
theorem dX5_writePaces_61 : decode cX5_writePaces 61 = .ok (.iconst 0, 1) := by decide +kernel
theorem dX5_writePaces_62 : decode cX5_writePaces 62 = .ok (.goto 4, 3) := by decide +kernel
theorem dX5_writePaces_65 : decode cX5_writePaces 65 = .ok (.iload_n 3, 1) := by decide +kernel
theorem dX5_writePaces_66 : decode cX5_writePaces 66 = .ok (.ireturn, 1) := by decide +kernel
theorem dX5_passLevels_0 : decode cX5_passLevels 0 = .ok (.iload_n 1, 1) := by decide +kernel
theorem dX5_passLevels_1 : decode cX5_passLevels 1 = .ok (.istore_n 3, 1) := by decide +kernel
theorem dX5_passLevels_2 : decode cX5_passLevels 2 = .ok (.iload_n 3, 1) := by decide +kernel
theorem dX5_passLevels_3 : decode cX5_passLevels 3 = .ok (.iload_n 2, 1) := by decide +kernel
theorem dX5_passLevels_4 : decode cX5_passLevels 4 = .ok (.if_icmp .ge 47, 3) := by decide +kernel
theorem dX5_passLevels_7 : decode cX5_passLevels 7 = .ok (.aload_n 0, 1) := by decide +kernel
theorem dX5_passLevels_8 : decode cX5_passLevels 8 = .ok (.getfield 50, 3) := by decide +kernel
theorem dX5_passLevels_11 : decode cX5_passLevels 11 = .ok (.iload_n 3, 1) := by decide +kernel
theorem dX5_passLevels_12 : decode cX5_passLevels 12 = .ok (.iconst 1, 1) := by decide +kernel
theorem dX5_passLevels_13 : decode cX5_passLevels 13 = .ok (.iadd, 1) := by decide +kernel
theorem dX5_passLevels_14 : decode cX5_passLevels 14 = .ok (.aaload, 1) := by decide +kernel
theorem dX5_passLevels_15 : decode cX5_passLevels 15 = .ok (.astore 4, 2) := by decide +kernel
theorem dX5_passLevels_17 : decode cX5_passLevels 17 = .ok (.aload 4, 2) := by decide +kernel
theorem dX5_passLevels_19 : decode cX5_passLevels 19 = .ok (.aload_n 0, 1) := by decide +kernel
theorem dX5_passLevels_20 : decode cX5_passLevels 20 = .ok (.getfield 50, 3) := by decide +kernel
theorem dX5_passLevels_23 : decode cX5_passLevels 23 = .ok (.iload_n 3, 1) := by decide +kernel
theorem dX5_passLevels_24 : decode cX5_passLevels 24 = .ok (.aaload, 1) := by decide +kernel
theorem dX5_passLevels_25 : decode cX5_passLevels 25 = .ok (.invokevirtual 123, 3) := by decide +kernel
theorem dX5_passLevels_28 : decode cX5_passLevels 28 = .ok (.aload 4, 2) := by decide +kernel
theorem dX5_passLevels_30 : decode cX5_passLevels 30 = .ok (.aload_n 0, 1) := by decide +kernel
theorem dX5_passLevels_31 : decode cX5_passLevels 31 = .ok (.getfield 53, 3) := by decide +kernel
theorem dX5_passLevels_34 : decode cX5_passLevels 34 = .ok (.iload_n 3, 1) := by decide +kernel
theorem dX5_passLevels_35 : decode cX5_passLevels 35 = .ok (.iaload, 1) := by decide +kernel
theorem dX5_passLevels_36 : decode cX5_passLevels 36 = .ok (.putfield 154, 3) := by decide +kernel
theorem dX5_passLevels_39 : decode cX5_passLevels 39 = .ok (.aload 4, 2) := by decide +kernel
theorem dX5_passLevels_41 : decode cX5_passLevels 41 = .ok (.invokevirtual 147, 3) := by decide +kernel
theorem dX5_passLevels_44 : decode cX5_passLevels 44 = .ok (.pop, 1) := by decide +kernel
theorem dX5_passLevels_45 : decode cX5_passLevels 45 = .ok (.iinc 3 1, 3) := by decide +kernel
theorem dX5_passLevels_48 : decode cX5_passLevels 48 = .ok (.goto (-46), 3) := by decide +kernel
theorem dX5_passLevels_51 : decode cX5_passLevels 51 = .ok (.return_, 1) := by decide +kernel
theorem dX5_sumOfPaces_0 : decode cX5_sumOfPaces 0 = .ok (.iconst 0, 1) := by decide +kernel
theorem dX5_sumOfPaces_1 : decode cX5_sumOfPaces 1 = .ok (.istore_n 2, 1) := by decide +kernel
theorem dX5_sumOfPaces_2 : decode cX5_sumOfPaces 2 = .ok (.iconst 0, 1) := by decide +kernel
theorem dX5_sumOfPaces_3 : decode cX5_sumOfPaces 3 = .ok (.istore_n 3, 1) := by decide +kernel
theorem dX5_sumOfPaces_4 : decode cX5_sumOfPaces 4 = .ok (.iload_n 3, 1) := by decide +kernel
theorem dX5_sumOfPaces_5 : decode cX5_sumOfPaces 5 = .ok (.iload_n 1, 1) := by decide +kernel
theorem dX5_sumOfPaces_6 : decode cX5_sumOfPaces 6 = .ok (.if_icmp .ge 18, 3) := by decide +kernel
theorem dX5_sumOfPaces_9 : decode cX5_sumOfPaces 9 = .ok (.iload_n 2, 1) := by decide +kernel
theorem dX5_sumOfPaces_10 : decode cX5_sumOfPaces 10 = .ok (.aload_n 0, 1) := by decide +kernel
theorem dX5_sumOfPaces_11 : decode cX5_sumOfPaces 11 = .ok (.getfield 53, 3) := by decide +kernel
theorem dX5_sumOfPaces_14 : decode cX5_sumOfPaces 14 = .ok (.iload_n 3, 1) := by decide +kernel
theorem dX5_sumOfPaces_15 : decode cX5_sumOfPaces 15 = .ok (.iaload, 1) := by decide +kernel
theorem dX5_sumOfPaces_16 : decode cX5_sumOfPaces 16 = .ok (.iadd, 1) := by decide +kernel
theorem dX5_sumOfPaces_17 : decode cX5_sumOfPaces 17 = .ok (.istore_n 2, 1) := by decide +kernel
theorem dX5_sumOfPaces_18 : decode cX5_sumOfPaces 18 = .ok (.iinc 3 1, 3) := by decide +kernel
theorem dX5_sumOfPaces_21 : decode cX5_sumOfPaces 21 = .ok (.goto (-17), 3) := by decide +kernel
theorem dX5_sumOfPaces_24 : decode cX5_sumOfPaces 24 = .ok (.iload_n 2, 1) := by decide +kernel
theorem dX5_sumOfPaces_25 : decode cX5_sumOfPaces 25 = .ok (.ireturn, 1) := by decide +kernel
theorem dX5_kindsThatFit_0 : decode cX5_kindsThatFit 0 = .ok (.iconst 0, 1) := by decide +kernel
theorem dX5_kindsThatFit_1 : decode cX5_kindsThatFit 1 = .ok (.istore 5, 2) := by decide +kernel
theorem dX5_kindsThatFit_3 : decode cX5_kindsThatFit 3 = .ok (.iconst 1, 1) := by decide +kernel
theorem dX5_kindsThatFit_4 : decode cX5_kindsThatFit 4 = .ok (.istore 6, 2) := by decide +kernel
theorem dX5_kindsThatFit_6 : decode cX5_kindsThatFit 6 = .ok (.iload 6, 2) := by decide +kernel
theorem dX5_kindsThatFit_8 : decode cX5_kindsThatFit 8 = .ok (.iconst 5, 1) := by decide +kernel
theorem dX5_kindsThatFit_9 : decode cX5_kindsThatFit 9 = .ok (.if_icmp .gt 51, 3) := by decide +kernel
theorem dX5_kindsThatFit_12 : decode cX5_kindsThatFit 12 = .ok (.aload_n 0, 1) := by decide +kernel
theorem dX5_kindsThatFit_13 : decode cX5_kindsThatFit 13 = .ok (.getfield 47, 3) := by decide +kernel
theorem dX5_kindsThatFit_16 : decode cX5_kindsThatFit 16 = .ok (.aload_n 0, 1) := by decide +kernel
theorem dX5_kindsThatFit_17 : decode cX5_kindsThatFit 17 = .ok (.getfield 25, 3) := by decide +kernel
theorem dX5_kindsThatFit_20 : decode cX5_kindsThatFit 20 = .ok (.invokevirtual 123, 3) := by decide +kernel
theorem dX5_kindsThatFit_23 : decode cX5_kindsThatFit 23 = .ok (.aload_n 0, 1) := by decide +kernel
theorem dX5_kindsThatFit_24 : decode cX5_kindsThatFit 24 = .ok (.getfield 47, 3) := by decide +kernel
theorem dX5_kindsThatFit_27 : decode cX5_kindsThatFit 27 = .ok (.getfield 257, 3) := by decide +kernel
theorem dX5_kindsThatFit_30 : decode cX5_kindsThatFit 30 = .ok (.iload_n 1, 1) := by decide +kernel
theorem dX5_kindsThatFit_31 : decode cX5_kindsThatFit 31 = .ok (.iload 6, 2) := by decide +kernel
theorem dX5_kindsThatFit_33 : decode cX5_kindsThatFit 33 = .ok (.iastore, 1) := by decide +kernel
theorem dX5_kindsThatFit_34 : decode cX5_kindsThatFit 34 = .ok (.iload 5, 2) := by decide +kernel
theorem dX5_kindsThatFit_36 : decode cX5_kindsThatFit 36 = .ok (.aload_n 0, 1) := by decide +kernel
theorem dX5_kindsThatFit_37 : decode cX5_kindsThatFit 37 = .ok (.iload_n 1, 1) := by decide +kernel
theorem dX5_kindsThatFit_38 : decode cX5_kindsThatFit 38 = .ok (.aload_n 2, 1) := by decide +kernel
theorem dX5_kindsThatFit_39 : decode cX5_kindsThatFit 39 = .ok (.iload_n 3, 1) := by decide +kernel
theorem dX5_kindsThatFit_40 : decode cX5_kindsThatFit 40 = .ok (.iload 4, 2) := by decide +kernel
theorem dX5_kindsThatFit_42 : decode cX5_kindsThatFit 42 = .ok (.invokevirtual 292, 3) := by decide +kernel
theorem dX5_kindsThatFit_45 : decode cX5_kindsThatFit 45 = .ok (.invokestatic 181, 3) := by decide +kernel
theorem dX5_kindsThatFit_48 : decode cX5_kindsThatFit 48 = .ok (.iload 6, 2) := by decide +kernel
theorem dX5_kindsThatFit_50 : decode cX5_kindsThatFit 50 = .ok (.ishl, 1) := by decide +kernel
theorem dX5_kindsThatFit_51 : decode cX5_kindsThatFit 51 = .ok (.ior, 1) := by decide +kernel
theorem dX5_kindsThatFit_52 : decode cX5_kindsThatFit 52 = .ok (.istore 5, 2) := by decide +kernel
theorem dX5_kindsThatFit_54 : decode cX5_kindsThatFit 54 = .ok (.iinc 6 1, 3) := by decide +kernel
theorem dX5_kindsThatFit_57 : decode cX5_kindsThatFit 57 = .ok (.goto (-51), 3) := by decide +kernel
theorem dX5_kindsThatFit_60 : decode cX5_kindsThatFit 60 = .ok (.iload 5, 2) := by decide +kernel
theorem dX5_kindsThatFit_62 : decode cX5_kindsThatFit 62 = .ok (.ireturn, 1) := by decide +kernel
theorem dX5_lanesThatFit_0 : decode cX5_lanesThatFit 0 = .ok (.iconst 0, 1) := by decide +kernel
theorem dX5_lanesThatFit_1 : decode cX5_lanesThatFit 1 = .ok (.istore 5, 2) := by decide +kernel
theorem dX5_lanesThatFit_3 : decode cX5_lanesThatFit 3 = .ok (.iconst 0, 1) := by decide +kernel
theorem dX5_lanesThatFit_4 : decode cX5_lanesThatFit 4 = .ok (.istore 6, 2) := by decide +kernel
theorem dX5_lanesThatFit_6 : decode cX5_lanesThatFit 6 = .ok (.iload 6, 2) := by decide +kernel
theorem dX5_lanesThatFit_8 : decode cX5_lanesThatFit 8 = .ok (.iconst 1, 1) := by decide +kernel
theorem dX5_lanesThatFit_9 : decode cX5_lanesThatFit 9 = .ok (.if_icmp .gt 51, 3) := by decide +kernel
theorem dX5_lanesThatFit_12 : decode cX5_lanesThatFit 12 = .ok (.aload_n 0, 1) := by decide +kernel
theorem dX5_lanesThatFit_13 : decode cX5_lanesThatFit 13 = .ok (.getfield 47, 3) := by decide +kernel
theorem dX5_lanesThatFit_16 : decode cX5_lanesThatFit 16 = .ok (.aload_n 0, 1) := by decide +kernel
theorem dX5_lanesThatFit_17 : decode cX5_lanesThatFit 17 = .ok (.getfield 25, 3) := by decide +kernel
theorem dX5_lanesThatFit_20 : decode cX5_lanesThatFit 20 = .ok (.invokevirtual 123, 3) := by decide +kernel
theorem dX5_lanesThatFit_23 : decode cX5_lanesThatFit 23 = .ok (.aload_n 0, 1) := by decide +kernel
theorem dX5_lanesThatFit_24 : decode cX5_lanesThatFit 24 = .ok (.getfield 47, 3) := by decide +kernel
theorem dX5_lanesThatFit_27 : decode cX5_lanesThatFit 27 = .ok (.getfield 166, 3) := by decide +kernel
theorem dX5_lanesThatFit_30 : decode cX5_lanesThatFit 30 = .ok (.iload_n 1, 1) := by decide +kernel
theorem dX5_lanesThatFit_31 : decode cX5_lanesThatFit 31 = .ok (.iload 6, 2) := by decide +kernel
theorem dX5_lanesThatFit_33 : decode cX5_lanesThatFit 33 = .ok (.iastore, 1) := by decide +kernel
theorem dX5_lanesThatFit_34 : decode cX5_lanesThatFit 34 = .ok (.iload 5, 2) := by decide +kernel
theorem dX5_lanesThatFit_36 : decode cX5_lanesThatFit 36 = .ok (.aload_n 0, 1) := by decide +kernel
theorem dX5_lanesThatFit_37 : decode cX5_lanesThatFit 37 = .ok (.iload_n 1, 1) := by decide +kernel
theorem dX5_lanesThatFit_38 : decode cX5_lanesThatFit 38 = .ok (.aload_n 2, 1) := by decide +kernel
theorem dX5_lanesThatFit_39 : decode cX5_lanesThatFit 39 = .ok (.iload_n 3, 1) := by decide +kernel
theorem dX5_lanesThatFit_40 : decode cX5_lanesThatFit 40 = .ok (.iload 4, 2) := by decide +kernel
theorem dX5_lanesThatFit_42 : decode cX5_lanesThatFit 42 = .ok (.invokevirtual 292, 3) := by decide +kernel
theorem dX5_lanesThatFit_45 : decode cX5_lanesThatFit 45 = .ok (.invokestatic 181, 3) := by decide +kernel
theorem dX5_lanesThatFit_48 : decode cX5_lanesThatFit 48 = .ok (.iload 6, 2) := by decide +kernel
theorem dX5_lanesThatFit_50 : decode cX5_lanesThatFit 50 = .ok (.ishl, 1) := by decide +kernel
theorem dX5_lanesThatFit_51 : decode cX5_lanesThatFit 51 = .ok (.ior, 1) := by decide +kernel
theorem dX5_lanesThatFit_52 : decode cX5_lanesThatFit 52 = .ok (.istore 5, 2) := by decide +kernel
theorem dX5_lanesThatFit_54 : decode cX5_lanesThatFit 54 = .ok (.iinc 6 1, 3) := by decide +kernel
theorem dX5_lanesThatFit_57 : decode cX5_lanesThatFit 57 = .ok (.goto (-51), 3) := by decide +kernel
theorem dX5_lanesThatFit_60 : decode cX5_lanesThatFit 60 = .ok (.iload 5, 2) := by decide +kernel
theorem dX5_lanesThatFit_62 : decode cX5_lanesThatFit 62 = .ok (.ireturn, 1) := by decide +kernel
theorem dX5_speedsThatFit_0 : decode cX5_speedsThatFit 0 = .ok (.iconst 0, 1) := by decide +kernel
theorem dX5_speedsThatFit_1 : decode cX5_speedsThatFit 1 = .ok (.istore 5, 2) := by decide +kernel
theorem dX5_speedsThatFit_3 : decode cX5_speedsThatFit 3 = .ok (.iconst 0, 1) := by decide +kernel
theorem dX5_speedsThatFit_4 : decode cX5_speedsThatFit 4 = .ok (.istore 6, 2) := by decide +kernel
theorem dX5_speedsThatFit_6 : decode cX5_speedsThatFit 6 = .ok (.iload 6, 2) := by decide +kernel
theorem dX5_speedsThatFit_8 : decode cX5_speedsThatFit 8 = .ok (.iconst 2, 1) := by decide +kernel
theorem dX5_speedsThatFit_9 : decode cX5_speedsThatFit 9 = .ok (.if_icmp .gt 49, 3) := by decide +kernel
theorem dX5_speedsThatFit_12 : decode cX5_speedsThatFit 12 = .ok (.aload_n 0, 1) := by decide +kernel
theorem dX5_speedsThatFit_13 : decode cX5_speedsThatFit 13 = .ok (.getfield 47, 3) := by decide +kernel
theorem dX5_speedsThatFit_16 : decode cX5_speedsThatFit 16 = .ok (.aload_n 0, 1) := by decide +kernel
theorem dX5_speedsThatFit_17 : decode cX5_speedsThatFit 17 = .ok (.getfield 25, 3) := by decide +kernel
theorem dX5_speedsThatFit_20 : decode cX5_speedsThatFit 20 = .ok (.invokevirtual 123, 3) := by decide +kernel
theorem dX5_speedsThatFit_23 : decode cX5_speedsThatFit 23 = .ok (.aload_n 0, 1) := by decide +kernel
theorem dX5_speedsThatFit_24 : decode cX5_speedsThatFit 24 = .ok (.getfield 47, 3) := by decide +kernel
theorem dX5_speedsThatFit_27 : decode cX5_speedsThatFit 27 = .ok (.iload 6, 2) := by decide +kernel
theorem dX5_speedsThatFit_29 : decode cX5_speedsThatFit 29 = .ok (.putfield 154, 3) := by decide +kernel
theorem dX5_speedsThatFit_32 : decode cX5_speedsThatFit 32 = .ok (.iload 5, 2) := by decide +kernel
theorem dX5_speedsThatFit_34 : decode cX5_speedsThatFit 34 = .ok (.aload_n 0, 1) := by decide +kernel
theorem dX5_speedsThatFit_35 : decode cX5_speedsThatFit 35 = .ok (.iload_n 1, 1) := by decide +kernel
theorem dX5_speedsThatFit_36 : decode cX5_speedsThatFit 36 = .ok (.aload_n 2, 1) := by decide +kernel
theorem dX5_speedsThatFit_37 : decode cX5_speedsThatFit 37 = .ok (.iload_n 3, 1) := by decide +kernel
theorem dX5_speedsThatFit_38 : decode cX5_speedsThatFit 38 = .ok (.iload 4, 2) := by decide +kernel
theorem dX5_speedsThatFit_40 : decode cX5_speedsThatFit 40 = .ok (.invokevirtual 292, 3) := by decide +kernel
theorem dX5_speedsThatFit_43 : decode cX5_speedsThatFit 43 = .ok (.invokestatic 181, 3) := by decide +kernel
theorem dX5_speedsThatFit_46 : decode cX5_speedsThatFit 46 = .ok (.iload 6, 2) := by decide +kernel
theorem dX5_speedsThatFit_48 : decode cX5_speedsThatFit 48 = .ok (.ishl, 1) := by decide +kernel
theorem dX5_speedsThatFit_49 : decode cX5_speedsThatFit 49 = .ok (.ior, 1) := by decide +kernel
theorem dX5_speedsThatFit_50 : decode cX5_speedsThatFit 50 = .ok (.istore 5, 2) := by decide +kernel
theorem dX5_speedsThatFit_52 : decode cX5_speedsThatFit 52 = .ok (.iinc 6 1, 3) := by decide +kernel
theorem dX5_speedsThatFit_55 : decode cX5_speedsThatFit 55 = .ok (.goto (-49), 3) := by decide +kernel
theorem dX5_speedsThatFit_58 : decode cX5_speedsThatFit 58 = .ok (.iload 5, 2) := by decide +kernel
theorem dX5_speedsThatFit_60 : decode cX5_speedsThatFit 60 = .ok (.ireturn, 1) := by decide +kernel
theorem dX5_startsThatFit_0 : decode cX5_startsThatFit 0 = .ok (.aload_n 0, 1) := by decide +kernel
theorem dX5_startsThatFit_1 : decode cX5_startsThatFit 1 = .ok (.getfield 25, 3) := by decide +kernel
theorem dX5_startsThatFit_4 : decode cX5_startsThatFit 4 = .ok (.iload_n 1, 1) := by decide +kernel
theorem dX5_startsThatFit_5 : decode cX5_startsThatFit 5 = .ok (.invokevirtual 185, 3) := by decide +kernel
theorem dX5_startsThatFit_8 : decode cX5_startsThatFit 8 = .ok (.ifCond .ne 5, 3) := by decide +kernel
theorem dX5_startsThatFit_11 : decode cX5_startsThatFit 11 = .ok (.iconst 0, 1) := by decide +kernel
theorem dX5_startsThatFit_12 : decode cX5_startsThatFit 12 = .ok (.ireturn, 1) := by decide +kernel
theorem dX5_startsThatFit_13 : decode cX5_startsThatFit 13 = .ok (.iconst 0, 1) := by decide +kernel
theorem dX5_startsThatFit_14 : decode cX5_startsThatFit 14 = .ok (.istore 5, 2) := by decide +kernel
theorem dX5_startsThatFit_16 : decode cX5_startsThatFit 16 = .ok (.iconst 0, 1) := by decide +kernel
theorem dX5_startsThatFit_17 : decode cX5_startsThatFit 17 = .ok (.istore 6, 2) := by decide +kernel
theorem dX5_startsThatFit_19 : decode cX5_startsThatFit 19 = .ok (.iload 6, 2) := by decide +kernel
theorem dX5_startsThatFit_21 : decode cX5_startsThatFit 21 = .ok (.aload_n 0, 1) := by decide +kernel
theorem dX5_startsThatFit_22 : decode cX5_startsThatFit 22 = .ok (.getfield 25, 3) := by decide +kernel
theorem dX5_startsThatFit_25 : decode cX5_startsThatFit 25 = .ok (.getfield 191, 3) := by decide +kernel
theorem dX5_startsThatFit_28 : decode cX5_startsThatFit 28 = .ok (.if_icmp .ge 64, 3) := by decide +kernel
theorem dX5_startsThatFit_31 : decode cX5_startsThatFit 31 = .ok (.aload_n 0, 1) := by decide +kernel
theorem dX5_startsThatFit_32 : decode cX5_startsThatFit 32 = .ok (.getfield 25, 3) := by decide +kernel
theorem dX5_startsThatFit_35 : decode cX5_startsThatFit 35 = .ok (.iload_n 1, 1) := by decide +kernel
theorem dX5_startsThatFit_36 : decode cX5_startsThatFit 36 = .ok (.iload 6, 2) := by decide +kernel
theorem dX5_startsThatFit_38 : decode cX5_startsThatFit 38 = .ok (.invokevirtual 296, 3) := by decide +kernel
theorem dX5_startsThatFit_41 : decode cX5_startsThatFit 41 = .ok (.ifCond .eq 45, 3) := by decide +kernel
theorem dX5_startsThatFit_44 : decode cX5_startsThatFit 44 = .ok (.aload_n 0, 1) := by decide +kernel
theorem dX5_startsThatFit_45 : decode cX5_startsThatFit 45 = .ok (.getfield 47, 3) := by decide +kernel
theorem dX5_startsThatFit_48 : decode cX5_startsThatFit 48 = .ok (.aload_n 0, 1) := by decide +kernel
theorem dX5_startsThatFit_49 : decode cX5_startsThatFit 49 = .ok (.getfield 25, 3) := by decide +kernel
theorem dX5_startsThatFit_52 : decode cX5_startsThatFit 52 = .ok (.invokevirtual 123, 3) := by decide +kernel
theorem dX5_startsThatFit_55 : decode cX5_startsThatFit 55 = .ok (.aload_n 0, 1) := by decide +kernel
theorem dX5_startsThatFit_56 : decode cX5_startsThatFit 56 = .ok (.getfield 47, 3) := by decide +kernel
theorem dX5_startsThatFit_59 : decode cX5_startsThatFit 59 = .ok (.getfield 160, 3) := by decide +kernel
theorem dX5_startsThatFit_62 : decode cX5_startsThatFit 62 = .ok (.iload_n 1, 1) := by decide +kernel
theorem dX5_startsThatFit_63 : decode cX5_startsThatFit 63 = .ok (.iload 6, 2) := by decide +kernel
theorem dX5_startsThatFit_65 : decode cX5_startsThatFit 65 = .ok (.iastore, 1) := by decide +kernel
theorem dX5_startsThatFit_66 : decode cX5_startsThatFit 66 = .ok (.iload 5, 2) := by decide +kernel
theorem dX5_startsThatFit_68 : decode cX5_startsThatFit 68 = .ok (.aload_n 0, 1) := by decide +kernel
theorem dX5_startsThatFit_69 : decode cX5_startsThatFit 69 = .ok (.iload_n 1, 1) := by decide +kernel
theorem dX5_startsThatFit_70 : decode cX5_startsThatFit 70 = .ok (.aload_n 2, 1) := by decide +kernel
theorem dX5_startsThatFit_71 : decode cX5_startsThatFit 71 = .ok (.iload_n 3, 1) := by decide +kernel
theorem dX5_startsThatFit_72 : decode cX5_startsThatFit 72 = .ok (.iload 4, 2) := by decide +kernel
theorem dX5_startsThatFit_74 : decode cX5_startsThatFit 74 = .ok (.invokevirtual 292, 3) := by decide +kernel
theorem dX5_startsThatFit_77 : decode cX5_startsThatFit 77 = .ok (.invokestatic 181, 3) := by decide +kernel
theorem dX5_startsThatFit_80 : decode cX5_startsThatFit 80 = .ok (.iload 6, 2) := by decide +kernel
theorem dX5_startsThatFit_82 : decode cX5_startsThatFit 82 = .ok (.ishl, 1) := by decide +kernel
theorem dX5_startsThatFit_83 : decode cX5_startsThatFit 83 = .ok (.ior, 1) := by decide +kernel
theorem dX5_startsThatFit_84 : decode cX5_startsThatFit 84 = .ok (.istore 5, 2) := by decide +kernel
theorem dX5_startsThatFit_86 : decode cX5_startsThatFit 86 = .ok (.iinc 6 1, 3) := by decide +kernel
theorem dX5_startsThatFit_89 : decode cX5_startsThatFit 89 = .ok (.goto (-70), 3) := by decide +kernel
theorem dX5_startsThatFit_92 : decode cX5_startsThatFit 92 = .ok (.iload 5, 2) := by decide +kernel
theorem dX5_startsThatFit_94 : decode cX5_startsThatFit 94 = .ok (.ireturn, 1) := by decide +kernel
theorem dX5_trialFits_0 : decode cX5_trialFits 0 = .ok (.iconst 0, 1) := by decide +kernel
theorem dX5_trialFits_1 : decode cX5_trialFits 1 = .ok (.istore 5, 2) := by decide +kernel
theorem dX5_trialFits_3 : decode cX5_trialFits 3 = .ok (.iload 5, 2) := by decide +kernel
theorem dX5_trialFits_5 : decode cX5_trialFits 5 = .ok (.iload 4, 2) := by decide +kernel
theorem dX5_trialFits_7 : decode cX5_trialFits 7 = .ok (.if_icmp .ge 40, 3) := by decide +kernel
theorem dX5_trialFits_10 : decode cX5_trialFits 10 = .ok (.aload_n 0, 1) := by decide +kernel
theorem dX5_trialFits_11 : decode cX5_trialFits 11 = .ok (.getfield 47, 3) := by decide +kernel
theorem dX5_trialFits_14 : decode cX5_trialFits 14 = .ok (.invokevirtual 147, 3) := by decide +kernel
theorem dX5_trialFits_17 : decode cX5_trialFits 17 = .ok (.pop, 1) := by decide +kernel
theorem dX5_trialFits_18 : decode cX5_trialFits 18 = .ok (.aload_n 0, 1) := by decide +kernel
theorem dX5_trialFits_19 : decode cX5_trialFits 19 = .ok (.getfield 47, 3) := by decide +kernel
theorem dX5_trialFits_22 : decode cX5_trialFits 22 = .ok (.getfield 160, 3) := by decide +kernel
theorem dX5_trialFits_25 : decode cX5_trialFits 25 = .ok (.iload_n 1, 1) := by decide +kernel
theorem dX5_trialFits_26 : decode cX5_trialFits 26 = .ok (.iaload, 1) := by decide +kernel
theorem dX5_trialFits_27 : decode cX5_trialFits 27 = .ok (.aload_n 2, 1) := by decide +kernel
theorem dX5_trialFits_28 : decode cX5_trialFits 28 = .ok (.getfield 93, 3) := by decide +kernel
theorem dX5_trialFits_31 : decode cX5_trialFits 31 = .ok (.iload_n 3, 1) := by decide +kernel
theorem dX5_trialFits_32 : decode cX5_trialFits 32 = .ok (.iload 5, 2) := by decide +kernel
theorem dX5_trialFits_34 : decode cX5_trialFits 34 = .ok (.iadd, 1) := by decide +kernel
theorem dX5_trialFits_35 : decode cX5_trialFits 35 = .ok (.iaload, 1) := by decide +kernel
theorem dX5_trialFits_36 : decode cX5_trialFits 36 = .ok (.if_icmp .eq 5, 3) := by decide +kernel
theorem dX5_trialFits_39 : decode cX5_trialFits 39 = .ok (.iconst 0, 1) := by decide +kernel
theorem dX5_trialFits_40 : decode cX5_trialFits 40 = .ok (.ireturn, 1) := by decide +kernel
theorem dX5_trialFits_41 : decode cX5_trialFits 41 = .ok (.iinc 5 1, 3) := by decide +kernel
theorem dX5_trialFits_44 : decode cX5_trialFits 44 = .ok (.goto (-41), 3) := by decide +kernel
theorem dX5_trialFits_47 : decode cX5_trialFits 47 = .ok (.iconst 1, 1) := by decide +kernel
theorem dX5_trialFits_48 : decode cX5_trialFits 48 = .ok (.ireturn, 1) := by decide +kernel
theorem dX5_bodyFor_0 : decode cX5_bodyFor 0 = .ok (.iload_n 0, 1) := by decide +kernel
theorem dX5_bodyFor_1 : decode cX5_bodyFor 1 = .ok (.istore_n 2, 1) := by decide +kernel
theorem dX5_bodyFor_2 : decode cX5_bodyFor 2 = .ok (.iconst 0, 1) := by decide +kernel
theorem dX5_bodyFor_3 : decode cX5_bodyFor 3 = .ok (.istore_n 3, 1) := by decide +kernel
theorem dX5_bodyFor_4 : decode cX5_bodyFor 4 = .ok (.iload_n 3, 1) := by decide +kernel
theorem dX5_bodyFor_5 : decode cX5_bodyFor 5 = .ok (.iconst 5, 1) := by decide +kernel
theorem dX5_bodyFor_6 : decode cX5_bodyFor 6 = .ok (.if_icmp .gt 46, 3) := by decide +kernel
theorem dX5_bodyFor_9 : decode cX5_bodyFor 9 = .ok (.iload_n 2, 1) := by decide +kernel
theorem dX5_bodyFor_10 : decode cX5_bodyFor 10 = .ok (.ifCond .le 42, 3) := by decide +kernel
theorem dX5_bodyFor_13 : decode cX5_bodyFor 13 = .ok (.iload_n 1, 1) := by decide +kernel
theorem dX5_bodyFor_14 : decode cX5_bodyFor 14 = .ok (.ifCond .ne 11, 3) := by decide +kernel
theorem dX5_bodyFor_17 : decode cX5_bodyFor 17 = .ok (.getstatic 299, 3) := by decide +kernel
theorem dX5_bodyFor_20 : decode cX5_bodyFor 20 = .ok (.iload_n 2, 1) := by decide +kernel
theorem dX5_bodyFor_21 : decode cX5_bodyFor 21 = .ok (.iaload, 1) := by decide +kernel
theorem dX5_bodyFor_22 : decode cX5_bodyFor 22 = .ok (.goto 8, 3) := by decide +kernel
theorem dX5_bodyFor_25 : decode cX5_bodyFor 25 = .ok (.getstatic 302, 3) := by decide +kernel
theorem dX5_bodyFor_28 : decode cX5_bodyFor 28 = .ok (.iload_n 2, 1) := by decide +kernel
theorem dX5_bodyFor_29 : decode cX5_bodyFor 29 = .ok (.iaload, 1) := by decide +kernel
theorem dX5_bodyFor_30 : decode cX5_bodyFor 30 = .ok (.istore 4, 2) := by decide +kernel
theorem dX5_bodyFor_32 : decode cX5_bodyFor 32 = .ok (.iload 4, 2) := by decide +kernel
theorem dX5_bodyFor_34 : decode cX5_bodyFor 34 = .ok (.ifCond .eq 6, 3) := by decide +kernel
theorem dX5_bodyFor_37 : decode cX5_bodyFor 37 = .ok (.iload 4, 2) := by decide +kernel
theorem dX5_bodyFor_39 : decode cX5_bodyFor 39 = .ok (.ireturn, 1) := by decide +kernel
theorem dX5_bodyFor_40 : decode cX5_bodyFor 40 = .ok (.getstatic 260, 3) := by decide +kernel
theorem dX5_bodyFor_43 : decode cX5_bodyFor 43 = .ok (.iload_n 2, 1) := by decide +kernel
theorem dX5_bodyFor_44 : decode cX5_bodyFor 44 = .ok (.iaload, 1) := by decide +kernel
theorem dX5_bodyFor_45 : decode cX5_bodyFor 45 = .ok (.istore_n 2, 1) := by decide +kernel
theorem dX5_bodyFor_46 : decode cX5_bodyFor 46 = .ok (.iinc 3 1, 3) := by decide +kernel
theorem dX5_bodyFor_49 : decode cX5_bodyFor 49 = .ok (.goto (-45), 3) := by decide +kernel
theorem dX5_bodyFor_52 : decode cX5_bodyFor 52 = .ok (.iload_n 1, 1) := by decide +kernel
theorem dX5_bodyFor_53 : decode cX5_bodyFor 53 = .ok (.ifCond .ne 11, 3) := by decide +kernel
theorem dX5_bodyFor_56 : decode cX5_bodyFor 56 = .ok (.getstatic 299, 3) := by decide +kernel
theorem dX5_bodyFor_59 : decode cX5_bodyFor 59 = .ok (.iconst 0, 1) := by decide +kernel
theorem dX5_bodyFor_60 : decode cX5_bodyFor 60 = .ok (.iaload, 1) := by decide +kernel
theorem dX5_bodyFor_61 : decode cX5_bodyFor 61 = .ok (.goto 8, 3) := by decide +kernel
theorem dX5_bodyFor_64 : decode cX5_bodyFor 64 = .ok (.getstatic 302, 3) := by decide +kernel
theorem dX5_bodyFor_67 : decode cX5_bodyFor 67 = .ok (.iconst 0, 1) := by decide +kernel
theorem dX5_bodyFor_68 : decode cX5_bodyFor 68 = .ok (.iaload, 1) := by decide +kernel
theorem dX5_bodyFor_69 : decode cX5_bodyFor 69 = .ok (.ireturn, 1) := by decide +kernel
theorem dX5_answerOf_0 : decode cX5_answerOf 0 = .ok (.iload 4, 2) := by decide +kernel
theorem dX5_answerOf_2 : decode cX5_answerOf 2 = .ok (.bipush 16, 2) := by decide +kernel
theorem dX5_answerOf_4 : decode cX5_answerOf 4 = .ok (.if_icmp .le 5, 3) := by decide +kernel
theorem dX5_answerOf_7 : decode cX5_answerOf 7 = .ok (.iconst 0, 1) := by decide +kernel
theorem dX5_answerOf_8 : decode cX5_answerOf 8 = .ok (.ireturn, 1) := by decide +kernel
theorem dX5_answerOf_9 : decode cX5_answerOf 9 = .ok (.iload 4, 2) := by decide +kernel
theorem dX5_answerOf_11 : decode cX5_answerOf 11 = .ok (.iconst 1, 1) := by decide +kernel
theorem dX5_answerOf_12 : decode cX5_answerOf 12 = .ok (.iadd, 1) := by decide +kernel
theorem dX5_answerOf_13 : decode cX5_answerOf 13 = .ok (.istore 5, 2) := by decide +kernel
theorem dX5_answerOf_15 : decode cX5_answerOf 15 = .ok (.aload_n 3, 1) := by decide +kernel
theorem dX5_answerOf_16 : decode cX5_answerOf 16 = .ok (.iload_n 0, 1) := by decide +kernel
theorem dX5_answerOf_17 : decode cX5_answerOf 17 = .ok (.invokevirtual 305, 3) := by decide +kernel
theorem dX5_answerOf_20 : decode cX5_answerOf 20 = .ok (.iload_n 0, 1) := by decide +kernel
theorem dX5_answerOf_21 : decode cX5_answerOf 21 = .ok (.tableswitch 229 10 24 #[75, 82, 112, 124, 138, 229, 229, 229, 229, 229, 151, 153, 171, 186, 216], 75) := by decide +kernel
theorem dX5_answerOf_96 : decode cX5_answerOf 96 = .ok (.aload_n 1, 1) := by decide +kernel
theorem dX5_answerOf_97 : decode cX5_answerOf 97 = .ok (.getfield 160, 3) := by decide +kernel
theorem dX5_answerOf_100 : decode cX5_answerOf 100 = .ok (.iload_n 2, 1) := by decide +kernel
theorem dX5_answerOf_101 : decode cX5_answerOf 101 = .ok (.iaload, 1) := by decide +kernel
theorem dX5_answerOf_102 : decode cX5_answerOf 102 = .ok (.ireturn, 1) := by decide +kernel
theorem dX5_answerOf_103 : decode cX5_answerOf 103 = .ok (.bipush 10, 2) := by decide +kernel
theorem dX5_answerOf_105 : decode cX5_answerOf 105 = .ok (.aload_n 1, 1) := by decide +kernel
theorem dX5_answerOf_106 : decode cX5_answerOf 106 = .ok (.iload_n 2, 1) := by decide +kernel
theorem dX5_answerOf_107 : decode cX5_answerOf 107 = .ok (.aload_n 3, 1) := by decide +kernel
theorem dX5_answerOf_108 : decode cX5_answerOf 108 = .ok (.iload 5, 2) := by decide +kernel
theorem dX5_answerOf_110 : decode cX5_answerOf 110 = .ok (.invokestatic 267, 3) := by decide +kernel
theorem dX5_answerOf_113 : decode cX5_answerOf 113 = .ok (.aload_n 1, 1) := by decide +kernel
theorem dX5_answerOf_114 : decode cX5_answerOf 114 = .ok (.getfield 257, 3) := by decide +kernel
theorem dX5_answerOf_117 : decode cX5_answerOf 117 = .ok (.iload_n 2, 1) := by decide +kernel
theorem dX5_answerOf_118 : decode cX5_answerOf 118 = .ok (.iaload, 1) := by decide +kernel
theorem dX5_answerOf_119 : decode cX5_answerOf 119 = .ok (.iconst 1, 1) := by decide +kernel
theorem dX5_answerOf_120 : decode cX5_answerOf 120 = .ok (.invokestatic 264, 3) := by decide +kernel
theorem dX5_answerOf_123 : decode cX5_answerOf 123 = .ok (.aload_n 1, 1) := by decide +kernel
theorem dX5_answerOf_124 : decode cX5_answerOf 124 = .ok (.iload_n 2, 1) := by decide +kernel
theorem dX5_answerOf_125 : decode cX5_answerOf 125 = .ok (.aload_n 3, 1) := by decide +kernel
theorem dX5_answerOf_126 : decode cX5_answerOf 126 = .ok (.iload 5, 2) := by decide +kernel
theorem dX5_answerOf_128 : decode cX5_answerOf 128 = .ok (.invokestatic 267, 3) := by decide +kernel
theorem dX5_answerOf_131 : decode cX5_answerOf 131 = .ok (.iadd, 1) := by decide +kernel
theorem dX5_answerOf_132 : decode cX5_answerOf 132 = .ok (.ireturn, 1) := by decide +kernel
theorem dX5_answerOf_133 : decode cX5_answerOf 133 = .ok (.bipush 11, 2) := by decide +kernel
theorem dX5_answerOf_135 : decode cX5_answerOf 135 = .ok (.aload_n 1, 1) := by decide +kernel
theorem dX5_answerOf_136 : decode cX5_answerOf 136 = .ok (.iload_n 2, 1) := by decide +kernel
theorem dX5_answerOf_137 : decode cX5_answerOf 137 = .ok (.aload_n 3, 1) := by decide +kernel
theorem dX5_answerOf_138 : decode cX5_answerOf 138 = .ok (.iload 5, 2) := by decide +kernel
theorem dX5_answerOf_140 : decode cX5_answerOf 140 = .ok (.invokestatic 267, 3) := by decide +kernel
theorem dX5_answerOf_143 : decode cX5_answerOf 143 = .ok (.ineg, 1) := by decide +kernel
theorem dX5_answerOf_144 : decode cX5_answerOf 144 = .ok (.ireturn, 1) := by decide +kernel
theorem dX5_answerOf_145 : decode cX5_answerOf 145 = .ok (.bipush 10, 2) := by decide +kernel
theorem dX5_answerOf_147 : decode cX5_answerOf 147 = .ok (.aload_n 1, 1) := by decide +kernel
theorem dX5_answerOf_148 : decode cX5_answerOf 148 = .ok (.iload_n 2, 1) := by decide +kernel
theorem dX5_answerOf_149 : decode cX5_answerOf 149 = .ok (.aload_n 3, 1) := by decide +kernel
theorem dX5_answerOf_150 : decode cX5_answerOf 150 = .ok (.iload 5, 2) := by decide +kernel
theorem dX5_answerOf_152 : decode cX5_answerOf 152 = .ok (.invokestatic 267, 3) := by decide +kernel
theorem dX5_answerOf_155 : decode cX5_answerOf 155 = .ok (.bipush 100, 2) := by decide +kernel
theorem dX5_answerOf_157 : decode cX5_answerOf 157 = .ok (.isub, 1) := by decide +kernel
theorem dX5_answerOf_158 : decode cX5_answerOf 158 = .ok (.ireturn, 1) := by decide +kernel
theorem dX5_answerOf_159 : decode cX5_answerOf 159 = .ok (.bipush 13, 2) := by decide +kernel
theorem dX5_answerOf_161 : decode cX5_answerOf 161 = .ok (.aload_n 1, 1) := by decide +kernel
theorem dX5_answerOf_162 : decode cX5_answerOf 162 = .ok (.iload_n 2, 1) := by decide +kernel
theorem dX5_answerOf_163 : decode cX5_answerOf 163 = .ok (.aload_n 3, 1) := by decide +kernel
theorem dX5_answerOf_164 : decode cX5_answerOf 164 = .ok (.iload 5, 2) := by decide +kernel
theorem dX5_answerOf_166 : decode cX5_answerOf 166 = .ok (.invokestatic 267, 3) := by decide +kernel
theorem dX5_answerOf_169 : decode cX5_answerOf 169 = .ok (.iconst 2, 1) := by decide +kernel
theorem dX5_answerOf_170 : decode cX5_answerOf 170 = .ok (.imul, 1) := by decide +kernel
theorem dX5_answerOf_171 : decode cX5_answerOf 171 = .ok (.ireturn, 1) := by decide +kernel
theorem dX5_answerOf_172 : decode cX5_answerOf 172 = .ok (.iload_n 2, 1) := by decide +kernel
theorem dX5_answerOf_173 : decode cX5_answerOf 173 = .ok (.ireturn, 1) := by decide +kernel
theorem dX5_answerOf_174 : decode cX5_answerOf 174 = .ok (.bipush 20, 2) := by decide +kernel
theorem dX5_answerOf_176 : decode cX5_answerOf 176 = .ok (.aload_n 1, 1) := by decide +kernel
theorem dX5_answerOf_177 : decode cX5_answerOf 177 = .ok (.iload_n 2, 1) := by decide +kernel
theorem dX5_answerOf_178 : decode cX5_answerOf 178 = .ok (.aload_n 3, 1) := by decide +kernel
theorem dX5_answerOf_179 : decode cX5_answerOf 179 = .ok (.iload 5, 2) := by decide +kernel
theorem dX5_answerOf_181 : decode cX5_answerOf 181 = .ok (.invokestatic 267, 3) := by decide +kernel
theorem dX5_answerOf_184 : decode cX5_answerOf 184 = .ok (.aload_n 1, 1) := by decide +kernel
theorem dX5_answerOf_185 : decode cX5_answerOf 185 = .ok (.getfield 166, 3) := by decide +kernel
theorem dX5_answerOf_188 : decode cX5_answerOf 188 = .ok (.iload_n 2, 1) := by decide +kernel
theorem dX5_answerOf_189 : decode cX5_answerOf 189 = .ok (.iaload, 1) := by decide +kernel
theorem dX5_answerOf_190 : decode cX5_answerOf 190 = .ok (.iadd, 1) := by decide +kernel
theorem dX5_answerOf_191 : decode cX5_answerOf 191 = .ok (.ireturn, 1) := by decide +kernel
theorem dX5_answerOf_192 : decode cX5_answerOf 192 = .ok (.bipush 21, 2) := by decide +kernel
theorem dX5_answerOf_194 : decode cX5_answerOf 194 = .ok (.aload_n 1, 1) := by decide +kernel
theorem dX5_answerOf_195 : decode cX5_answerOf 195 = .ok (.iload_n 2, 1) := by decide +kernel
theorem dX5_answerOf_196 : decode cX5_answerOf 196 = .ok (.aload_n 3, 1) := by decide +kernel
theorem dX5_answerOf_197 : decode cX5_answerOf 197 = .ok (.iload 5, 2) := by decide +kernel
theorem dX5_answerOf_199 : decode cX5_answerOf 199 = .ok (.invokestatic 267, 3) := by decide +kernel
theorem dX5_answerOf_202 : decode cX5_answerOf 202 = .ok (.sipush 1000, 3) := by decide +kernel
theorem dX5_answerOf_205 : decode cX5_answerOf 205 = .ok (.isub, 1) := by decide +kernel
theorem dX5_answerOf_206 : decode cX5_answerOf 206 = .ok (.ireturn, 1) := by decide +kernel
theorem dX5_answerOf_207 : decode cX5_answerOf 207 = .ok (.bipush 20, 2) := by decide +kernel
theorem dX5_answerOf_209 : decode cX5_answerOf 209 = .ok (.aload_n 1, 1) := by decide +kernel
theorem dX5_answerOf_210 : decode cX5_answerOf 210 = .ok (.iload_n 2, 1) := by decide +kernel
theorem dX5_answerOf_211 : decode cX5_answerOf 211 = .ok (.aload_n 3, 1) := by decide +kernel
theorem dX5_answerOf_212 : decode cX5_answerOf 212 = .ok (.iload 5, 2) := by decide +kernel
theorem dX5_answerOf_214 : decode cX5_answerOf 214 = .ok (.invokestatic 267, 3) := by decide +kernel
theorem dX5_answerOf_217 : decode cX5_answerOf 217 = .ok (.aload_n 1, 1) := by decide +kernel
theorem dX5_answerOf_218 : decode cX5_answerOf 218 = .ok (.getfield 257, 3) := by decide +kernel
theorem dX5_answerOf_221 : decode cX5_answerOf 221 = .ok (.iload_n 2, 1) := by decide +kernel
theorem dX5_answerOf_222 : decode cX5_answerOf 222 = .ok (.iaload, 1) := by decide +kernel
theorem dX5_answerOf_223 : decode cX5_answerOf 223 = .ok (.iconst 0, 1) := by decide +kernel
theorem dX5_answerOf_224 : decode cX5_answerOf 224 = .ok (.invokestatic 264, 3) := by decide +kernel
theorem dX5_answerOf_227 : decode cX5_answerOf 227 = .ok (.aload_n 1, 1) := by decide +kernel
theorem dX5_answerOf_228 : decode cX5_answerOf 228 = .ok (.iload_n 2, 1) := by decide +kernel
theorem dX5_answerOf_229 : decode cX5_answerOf 229 = .ok (.aload_n 3, 1) := by decide +kernel
theorem dX5_answerOf_230 : decode cX5_answerOf 230 = .ok (.iload 5, 2) := by decide +kernel
theorem dX5_answerOf_232 : decode cX5_answerOf 232 = .ok (.invokestatic 267, 3) := by decide +kernel
theorem dX5_answerOf_235 : decode cX5_answerOf 235 = .ok (.isub, 1) := by decide +kernel
theorem dX5_answerOf_236 : decode cX5_answerOf 236 = .ok (.ireturn, 1) := by decide +kernel
theorem dX5_answerOf_237 : decode cX5_answerOf 237 = .ok (.bipush 21, 2) := by decide +kernel
theorem dX5_answerOf_239 : decode cX5_answerOf 239 = .ok (.aload_n 1, 1) := by decide +kernel
theorem dX5_answerOf_240 : decode cX5_answerOf 240 = .ok (.iload_n 2, 1) := by decide +kernel
theorem dX5_answerOf_241 : decode cX5_answerOf 241 = .ok (.aload_n 3, 1) := by decide +kernel
theorem dX5_answerOf_242 : decode cX5_answerOf 242 = .ok (.iload 5, 2) := by decide +kernel
theorem dX5_answerOf_244 : decode cX5_answerOf 244 = .ok (.invokestatic 267, 3) := by decide +kernel
theorem dX5_answerOf_247 : decode cX5_answerOf 247 = .ok (.iconst 2, 1) := by decide +kernel
theorem dX5_answerOf_248 : decode cX5_answerOf 248 = .ok (.imul, 1) := by decide +kernel
theorem dX5_answerOf_249 : decode cX5_answerOf 249 = .ok (.ireturn, 1) := by decide +kernel
theorem dX5_answerOf_250 : decode cX5_answerOf 250 = .ok (.iconst 0, 1) := by decide +kernel
theorem dX5_answerOf_251 : decode cX5_answerOf 251 = .ok (.ireturn, 1) := by decide +kernel
theorem dX6_init_0 : decode cX6_init 0 = .ok (.aload_n 0, 1) := by decide +kernel
theorem dX6_init_1 : decode cX6_init 1 = .ok (.invokespecial 1, 3) := by decide +kernel
theorem dX6_init_4 : decode cX6_init 4 = .ok (.aload_n 0, 1) := by decide +kernel
theorem dX6_init_5 : decode cX6_init 5 = .ok (.bipush 8, 2) := by decide +kernel
theorem dX6_init_7 : decode cX6_init 7 = .ok (.newarray .int, 2) := by decide +kernel
theorem dX6_init_9 : decode cX6_init 9 = .ok (.putfield 7, 3) := by decide +kernel
theorem dX6_init_12 : decode cX6_init 12 = .ok (.aload_n 0, 1) := by decide +kernel
theorem dX6_init_13 : decode cX6_init 13 = .ok (.bipush 8, 2) := by decide +kernel
theorem dX6_init_15 : decode cX6_init 15 = .ok (.newarray .int, 2) := by decide +kernel
theorem dX6_init_17 : decode cX6_init 17 = .ok (.putfield 13, 3) := by decide +kernel
theorem dX6_init_20 : decode cX6_init 20 = .ok (.aload_n 0, 1) := by decide +kernel
theorem dX6_init_21 : decode cX6_init 21 = .ok (.sipush 320, 3) := by decide +kernel
theorem dX6_init_24 : decode cX6_init 24 = .ok (.newarray .int, 2) := by decide +kernel
theorem dX6_init_26 : decode cX6_init 26 = .ok (.putfield 16, 3) := by decide +kernel
theorem dX6_init_29 : decode cX6_init 29 = .ok (.aload_n 0, 1) := by decide +kernel
theorem dX6_init_30 : decode cX6_init 30 = .ok (.bipush 40, 2) := by decide +kernel
theorem dX6_init_32 : decode cX6_init 32 = .ok (.newarray .int, 2) := by decide +kernel
theorem dX6_init_34 : decode cX6_init 34 = .ok (.putfield 19, 3) := by decide +kernel
theorem dX6_init_37 : decode cX6_init 37 = .ok (.aload_n 0, 1) := by decide +kernel
theorem dX6_init_38 : decode cX6_init 38 = .ok (.bipush 90, 2) := by decide +kernel
theorem dX6_init_40 : decode cX6_init 40 = .ok (.newarray .int, 2) := by decide +kernel
theorem dX6_init_42 : decode cX6_init 42 = .ok (.putfield 22, 3) := by decide +kernel
theorem dX6_init_45 : decode cX6_init 45 = .ok (.aload_n 0, 1) := by decide +kernel
theorem dX6_init_46 : decode cX6_init 46 = .ok (.bipush 25, 2) := by decide +kernel
theorem dX6_init_48 : decode cX6_init 48 = .ok (.newarray .int, 2) := by decide +kernel
theorem dX6_init_50 : decode cX6_init 50 = .ok (.putfield 25, 3) := by decide +kernel
theorem dX6_init_53 : decode cX6_init 53 = .ok (.aload_n 0, 1) := by decide +kernel
theorem dX6_init_54 : decode cX6_init 54 = .ok (.bipush 25, 2) := by decide +kernel
theorem dX6_init_56 : decode cX6_init 56 = .ok (.newarray .int, 2) := by decide +kernel
theorem dX6_init_58 : decode cX6_init 58 = .ok (.putfield 28, 3) := by decide +kernel
theorem dX6_init_61 : decode cX6_init 61 = .ok (.aload_n 0, 1) := by decide +kernel
theorem dX6_init_62 : decode cX6_init 62 = .ok (.bipush 50, 2) := by decide +kernel
theorem dX6_init_64 : decode cX6_init 64 = .ok (.newarray .int, 2) := by decide +kernel
theorem dX6_init_66 : decode cX6_init 66 = .ok (.putfield 31, 3) := by decide +kernel
theorem dX6_init_69 : decode cX6_init 69 = .ok (.aload_n 0, 1) := by decide +kernel
theorem dX6_init_70 : decode cX6_init 70 = .ok (.iconst 2, 1) := by decide +kernel
theorem dX6_init_71 : decode cX6_init 71 = .ok (.newarray .boolean, 2) := by decide +kernel
theorem dX6_init_73 : decode cX6_init 73 = .ok (.putfield 34, 3) := by decide +kernel
theorem dX6_init_76 : decode cX6_init 76 = .ok (.aload_n 0, 1) := by decide +kernel
theorem dX6_init_77 : decode cX6_init 77 = .ok (.sipush 384, 3) := by decide +kernel
theorem dX6_init_80 : decode cX6_init 80 = .ok (.newarray .int, 2) := by decide +kernel
theorem dX6_init_82 : decode cX6_init 82 = .ok (.putfield 38, 3) := by decide +kernel
theorem dX6_init_85 : decode cX6_init 85 = .ok (.aload_n 0, 1) := by decide +kernel
theorem dX6_init_86 : decode cX6_init 86 = .ok (.bipush 25, 2) := by decide +kernel
theorem dX6_init_88 : decode cX6_init 88 = .ok (.newarray .int, 2) := by decide +kernel
theorem dX6_init_90 : decode cX6_init 90 = .ok (.putfield 41, 3) := by decide +kernel
theorem dX6_init_93 : decode cX6_init 93 = .ok (.aload_n 0, 1) := by decide +kernel
theorem dX6_init_94 : decode cX6_init 94 = .ok (.bipush 25, 2) := by decide +kernel
theorem dX6_init_96 : decode cX6_init 96 = .ok (.newarray .int, 2) := by decide +kernel
theorem dX6_init_98 : decode cX6_init 98 = .ok (.putfield 44, 3) := by decide +kernel
theorem dX6_init_101 : decode cX6_init 101 = .ok (.aload_n 0, 1) := by decide +kernel
theorem dX6_init_102 : decode cX6_init 102 = .ok (.bipush 16, 2) := by decide +kernel
theorem dX6_init_104 : decode cX6_init 104 = .ok (.newarray .int, 2) := by decide +kernel
theorem dX6_init_106 : decode cX6_init 106 = .ok (.putfield 47, 3) := by decide +kernel
theorem dX6_init_109 : decode cX6_init 109 = .ok (.iconst 0, 1) := by decide +kernel
theorem dX6_init_110 : decode cX6_init 110 = .ok (.istore_n 1, 1) := by decide +kernel
theorem dX6_init_111 : decode cX6_init 111 = .ok (.iload_n 1, 1) := by decide +kernel
theorem dX6_init_112 : decode cX6_init 112 = .ok (.bipush 8, 2) := by decide +kernel
theorem dX6_init_114 : decode cX6_init 114 = .ok (.if_icmp .ge 16, 3) := by decide +kernel
theorem dX6_init_117 : decode cX6_init 117 = .ok (.aload_n 0, 1) := by decide +kernel
theorem dX6_init_118 : decode cX6_init 118 = .ok (.getfield 7, 3) := by decide +kernel
theorem dX6_init_121 : decode cX6_init 121 = .ok (.iload_n 1, 1) := by decide +kernel
theorem dX6_init_122 : decode cX6_init 122 = .ok (.iconst (-1), 1) := by decide +kernel
theorem dX6_init_123 : decode cX6_init 123 = .ok (.iastore, 1) := by decide +kernel
theorem dX6_init_124 : decode cX6_init 124 = .ok (.iinc 1 1, 3) := by decide +kernel
theorem dX6_init_127 : decode cX6_init 127 = .ok (.goto (-16), 3) := by decide +kernel
theorem dX6_init_130 : decode cX6_init 130 = .ok (.return_, 1) := by decide +kernel
theorem dX6_in_0 : decode cX6_in 0 = .ok (.iload_n 0, 1) := by decide +kernel
theorem dX6_in_1 : decode cX6_in 1 = .ok (.iload_n 1, 1) := by decide +kernel
theorem dX6_in_2 : decode cX6_in 2 = .ok (.if_icmp .lt 12, 3) := by decide +kernel
theorem dX6_in_5 : decode cX6_in 5 = .ok (.iload_n 0, 1) := by decide +kernel
theorem dX6_in_6 : decode cX6_in 6 = .ok (.iload_n 2, 1) := by decide +kernel
theorem dX6_in_7 : decode cX6_in 7 = .ok (.if_icmp .gt 7, 3) := by decide +kernel
theorem dX6_in_10 : decode cX6_in 10 = .ok (.iconst 1, 1) := by decide +kernel
theorem dX6_in_11 : decode cX6_in 11 = .ok (.goto 4, 3) := by decide +kernel
theorem dX6_in_14 : decode cX6_in 14 = .ok (.iconst 0, 1) := by decide +kernel
theorem dX6_in_15 : decode cX6_in 15 = .ok (.ireturn, 1) := by decide +kernel
theorem dX6_isRow_0 : decode cX6_isRow 0 = .ok (.iload_n 0, 1) := by decide +kernel
theorem dX6_isRow_1 : decode cX6_isRow 1 = .ok (.iconst 0, 1) := by decide +kernel
theorem dX6_isRow_2 : decode cX6_isRow 2 = .ok (.bipush 7, 2) := by decide +kernel
theorem dX6_isRow_4 : decode cX6_isRow 4 = .ok (.invokestatic 50, 3) := by decide +kernel
theorem dX6_isRow_7 : decode cX6_isRow 7 = .ok (.ireturn, 1) := by decide +kernel
theorem dX6_ends_0 : decode cX6_ends 0 = .ok (.aload_n 0, 1) := by decide +kernel
theorem dX6_ends_1 : decode cX6_ends 1 = .ok (.iload_n 1, 1) := by decide +kernel
theorem dX6_ends_2 : decode cX6_ends 2 = .ok (.ldc 54, 2) := by decide +kernel
theorem dX6_ends_4 : decode cX6_ends 4 = .ok (.ldc 55, 2) := by decide +kernel
theorem dX6_ends_6 : decode cX6_ends 6 = .ok (.invokestatic 50, 3) := by decide +kernel
theorem dX6_ends_9 : decode cX6_ends 9 = .ok (.ifCond .eq 10, 3) := by decide +kernel
theorem dX6_ends_12 : decode cX6_ends 12 = .ok (.ldc 56, 2) := by decide +kernel
theorem dX6_ends_14 : decode cX6_ends 14 = .ok (.iload_n 1, 1) := by decide +kernel
theorem dX6_ends_15 : decode cX6_ends 15 = .ok (.isub, 1) := by decide +kernel
theorem dX6_ends_16 : decode cX6_ends 16 = .ok (.goto 4, 3) := by decide +kernel
theorem dX6_ends_19 : decode cX6_ends 19 = .ok (.iconst 0, 1) := by decide +kernel
theorem dX6_ends_20 : decode cX6_ends 20 = .ok (.putfield 57, 3) := by decide +kernel
theorem dX6_ends_23 : decode cX6_ends 23 = .ok (.iload_n 1, 1) := by decide +kernel
theorem dX6_ends_24 : decode cX6_ends 24 = .ok (.ireturn, 1) := by decide +kernel
theorem dX6_cut_0 : decode cX6_cut 0 = .ok (.iload_n 0, 1) := by decide +kernel
theorem dX6_cut_1 : decode cX6_cut 1 = .ok (.ifCond .ne 8, 3) := by decide +kernel
theorem dX6_cut_4 : decode cX6_cut 4 = .ok (.iload_n 1, 1) := by decide +kernel
theorem dX6_cut_5 : decode cX6_cut 5 = .ok (.i2b, 1) := by decide +kernel
theorem dX6_cut_6 : decode cX6_cut 6 = .ok (.goto 14, 3) := by decide +kernel
theorem dX6_cut_9 : decode cX6_cut 9 = .ok (.iload_n 0, 1) := by decide +kernel
theorem dX6_cut_10 : decode cX6_cut 10 = .ok (.iconst 1, 1) := by decide +kernel
theorem dX6_cut_11 : decode cX6_cut 11 = .ok (.if_icmp .ne 8, 3) := by decide +kernel
theorem dX6_cut_14 : decode cX6_cut 14 = .ok (.iload_n 1, 1) := by decide +kernel
theorem dX6_cut_15 : decode cX6_cut 15 = .ok (.i2s, 1) := by decide +kernel
theorem dX6_cut_16 : decode cX6_cut 16 = .ok (.goto 4, 3) := by decide +kernel
theorem dX6_cut_19 : decode cX6_cut 19 = .ok (.iload_n 1, 1) := by decide +kernel
theorem dX6_cut_20 : decode cX6_cut 20 = .ok (.ireturn, 1) := by decide +kernel
theorem dX6_row_0 : decode cX6_row 0 = .ok (.iload_n 1, 1) := by decide +kernel
theorem dX6_row_1 : decode cX6_row 1 = .ok (.invokestatic 61, 3) := by decide +kernel
theorem dX6_row_4 : decode cX6_row 4 = .ok (.ifCond .eq 18, 3) := by decide +kernel
theorem dX6_row_7 : decode cX6_row 7 = .ok (.iload_n 2, 1) := by decide +kernel
theorem dX6_row_8 : decode cX6_row 8 = .ok (.iconst 0, 1) := by decide +kernel
theorem dX6_row_9 : decode cX6_row 9 = .ok (.iconst 2, 1) := by decide +kernel
theorem dX6_row_10 : decode cX6_row 10 = .ok (.invokestatic 50, 3) := by decide +kernel
theorem dX6_row_13 : decode cX6_row 13 = .ok (.ifCond .eq 9, 3) := by decide +kernel
theorem dX6_row_16 : decode cX6_row 16 = .ok (.iload_n 3, 1) := by decide +kernel
theorem dX6_row_17 : decode cX6_row 17 = .ok (.bipush 40, 2) := by decide +kernel
theorem dX6_row_19 : decode cX6_row 19 = .ok (.if_icmp .le 6, 3) := by decide +kernel
theorem dX6_row_22 : decode cX6_row 22 = .ok (.ldc 65, 2) := by decide +kernel
theorem dX6_row_24 : decode cX6_row 24 = .ok (.ireturn, 1) := by decide +kernel
theorem dX6_row_25 : decode cX6_row 25 = .ok (.iload_n 3, 1) := by decide +kernel
theorem dX6_row_26 : decode cX6_row 26 = .ok (.ifCond .ge 10, 3) := by decide +kernel
theorem dX6_row_29 : decode cX6_row 29 = .ok (.aload_n 0, 1) := by decide +kernel
theorem dX6_row_30 : decode cX6_row 30 = .ok (.ldc 66, 2) := by decide +kernel
theorem dX6_row_32 : decode cX6_row 32 = .ok (.invokevirtual 67, 3) := by decide +kernel
theorem dX6_row_35 : decode cX6_row 35 = .ok (.ireturn, 1) := by decide +kernel
theorem dX6_row_36 : decode cX6_row 36 = .ok (.aload_n 0, 1) := by decide +kernel
theorem dX6_row_37 : decode cX6_row 37 = .ok (.getfield 7, 3) := by decide +kernel
theorem dX6_row_40 : decode cX6_row 40 = .ok (.iload_n 1, 1) := by decide +kernel
theorem dX6_row_41 : decode cX6_row 41 = .ok (.iload_n 3, 1) := by decide +kernel
theorem dX6_row_42 : decode cX6_row 42 = .ok (.iastore, 1) := by decide +kernel
theorem dX6_row_43 : decode cX6_row 43 = .ok (.aload_n 0, 1) := by decide +kernel
theorem dX6_row_44 : decode cX6_row 44 = .ok (.getfield 13, 3) := by decide +kernel
theorem dX6_row_47 : decode cX6_row 47 = .ok (.iload_n 1, 1) := by decide +kernel
theorem dX6_row_48 : decode cX6_row 48 = .ok (.iload_n 2, 1) := by decide +kernel
theorem dX6_row_49 : decode cX6_row 49 = .ok (.iastore, 1) := by decide +kernel
theorem dX6_row_50 : decode cX6_row 50 = .ok (.iconst 0, 1) := by decide +kernel
theorem dX6_row_51 : decode cX6_row 51 = .ok (.istore 4, 2) := by decide +kernel
theorem dX6_row_53 : decode cX6_row 53 = .ok (.iload 4, 2) := by decide +kernel
theorem dX6_row_55 : decode cX6_row 55 = .ok (.bipush 40, 2) := by decide +kernel
theorem dX6_row_57 : decode cX6_row 57 = .ok (.if_icmp .ge 22, 3) := by decide +kernel
theorem dX6_row_60 : decode cX6_row 60 = .ok (.aload_n 0, 1) := by decide +kernel
theorem dX6_row_61 : decode cX6_row 61 = .ok (.getfield 16, 3) := by decide +kernel
theorem dX6_row_64 : decode cX6_row 64 = .ok (.bipush 40, 2) := by decide +kernel
theorem dX6_row_66 : decode cX6_row 66 = .ok (.iload_n 1, 1) := by decide +kernel
theorem dX6_row_67 : decode cX6_row 67 = .ok (.imul, 1) := by decide +kernel
theorem dX6_row_68 : decode cX6_row 68 = .ok (.iload 4, 2) := by decide +kernel
theorem dX6_row_70 : decode cX6_row 70 = .ok (.iadd, 1) := by decide +kernel
theorem dX6_row_71 : decode cX6_row 71 = .ok (.iconst 0, 1) := by decide +kernel
theorem dX6_row_72 : decode cX6_row 72 = .ok (.iastore, 1) := by decide +kernel
theorem dX6_row_73 : decode cX6_row 73 = .ok (.iinc 4 1, 3) := by decide +kernel
theorem dX6_row_76 : decode cX6_row 76 = .ok (.goto (-23), 3) := by decide +kernel
theorem dX6_row_79 : decode cX6_row 79 = .ok (.aload_n 0, 1) := by decide +kernel
theorem dX6_row_80 : decode cX6_row 80 = .ok (.iload_n 3, 1) := by decide +kernel
theorem dX6_row_81 : decode cX6_row 81 = .ok (.invokevirtual 67, 3) := by decide +kernel
theorem dX6_row_84 : decode cX6_row 84 = .ok (.ireturn, 1) := by decide +kernel
theorem dX6_lies_0 : decode cX6_lies 0 = .ok (.iload_n 2, 1) := by decide +kernel
theorem dX6_lies_1 : decode cX6_lies 1 = .ok (.ifCond .lt 33, 3) := by decide +kernel
theorem dX6_lies_4 : decode cX6_lies 4 = .ok (.iload_n 3, 1) := by decide +kernel
theorem dX6_lies_5 : decode cX6_lies 5 = .ok (.ifCond .lt 29, 3) := by decide +kernel
theorem dX6_lies_8 : decode cX6_lies 8 = .ok (.iload_n 3, 1) := by decide +kernel
theorem dX6_lies_9 : decode cX6_lies 9 = .ok (.aload_n 0, 1) := by decide +kernel
theorem dX6_lies_10 : decode cX6_lies 10 = .ok (.getfield 7, 3) := by decide +kernel
theorem dX6_lies_13 : decode cX6_lies 13 = .ok (.iload_n 1, 1) := by decide +kernel
theorem dX6_lies_14 : decode cX6_lies 14 = .ok (.iaload, 1) := by decide +kernel
theorem dX6_lies_15 : decode cX6_lies 15 = .ok (.if_icmp .gt 19, 3) := by decide +kernel
theorem dX6_lies_18 : decode cX6_lies 18 = .ok (.iload_n 2, 1) := by decide +kernel
theorem dX6_lies_19 : decode cX6_lies 19 = .ok (.aload_n 0, 1) := by decide +kernel
theorem dX6_lies_20 : decode cX6_lies 20 = .ok (.getfield 7, 3) := by decide +kernel
theorem dX6_lies_23 : decode cX6_lies 23 = .ok (.iload_n 1, 1) := by decide +kernel
theorem dX6_lies_24 : decode cX6_lies 24 = .ok (.iaload, 1) := by decide +kernel
theorem dX6_lies_25 : decode cX6_lies 25 = .ok (.iload_n 3, 1) := by decide +kernel
theorem dX6_lies_26 : decode cX6_lies 26 = .ok (.isub, 1) := by decide +kernel
theorem dX6_lies_27 : decode cX6_lies 27 = .ok (.if_icmp .gt 7, 3) := by decide +kernel
theorem dX6_lies_30 : decode cX6_lies 30 = .ok (.iconst 1, 1) := by decide +kernel
theorem dX6_lies_31 : decode cX6_lies 31 = .ok (.goto 4, 3) := by decide +kernel
theorem dX6_lies_34 : decode cX6_lies 34 = .ok (.iconst 0, 1) := by decide +kernel
theorem dX6_lies_35 : decode cX6_lies 35 = .ok (.ireturn, 1) := by decide +kernel
theorem dX6_set_0 : decode cX6_set 0 = .ok (.iload_n 1, 1) := by decide +kernel
theorem dX6_set_1 : decode cX6_set 1 = .ok (.invokestatic 61, 3) := by decide +kernel
theorem dX6_set_4 : decode cX6_set 4 = .ok (.ifCond .ne 6, 3) := by decide +kernel
theorem dX6_set_7 : decode cX6_set 7 = .ok (.ldc 65, 2) := by decide +kernel
theorem dX6_set_9 : decode cX6_set 9 = .ok (.ireturn, 1) := by decide +kernel
theorem dX6_set_10 : decode cX6_set 10 = .ok (.aload_n 0, 1) := by decide +kernel
theorem dX6_set_11 : decode cX6_set 11 = .ok (.getfield 7, 3) := by decide +kernel
theorem dX6_set_14 : decode cX6_set 14 = .ok (.iload_n 1, 1) := by decide +kernel
theorem dX6_set_15 : decode cX6_set 15 = .ok (.iaload, 1) := by decide +kernel
theorem dX6_set_16 : decode cX6_set 16 = .ok (.ifCond .ge 10, 3) := by decide +kernel
theorem dX6_set_19 : decode cX6_set 19 = .ok (.aload_n 0, 1) := by decide +kernel
theorem dX6_set_20 : decode cX6_set 20 = .ok (.ldc 55, 2) := by decide +kernel
theorem dX6_set_22 : decode cX6_set 22 = .ok (.invokevirtual 67, 3) := by decide +kernel
theorem dX6_set_25 : decode cX6_set 25 = .ok (.ireturn, 1) := by decide +kernel
theorem dX6_set_26 : decode cX6_set 26 = .ok (.aload_n 0, 1) := by decide +kernel
theorem dX6_set_27 : decode cX6_set 27 = .ok (.iload_n 1, 1) := by decide +kernel
theorem dX6_set_28 : decode cX6_set 28 = .ok (.iload_n 2, 1) := by decide +kernel
theorem dX6_set_29 : decode cX6_set 29 = .ok (.iconst 1, 1) := by decide +kernel
theorem dX6_set_30 : decode cX6_set 30 = .ok (.invokevirtual 71, 3) := by decide +kernel
theorem dX6_set_33 : decode cX6_set 33 = .ok (.ifCond .ne 10, 3) := by decide +kernel
theorem dX6_set_36 : decode cX6_set 36 = .ok (.aload_n 0, 1) := by decide +kernel
theorem dX6_set_37 : decode cX6_set 37 = .ok (.ldc 74, 2) := by decide +kernel
theorem dX6_set_39 : decode cX6_set 39 = .ok (.invokevirtual 67, 3) := by decide +kernel
theorem dX6_set_42 : decode cX6_set 42 = .ok (.ireturn, 1) := by decide +kernel
theorem dX6_set_43 : decode cX6_set 43 = .ok (.aload_n 0, 1) := by decide +kernel
theorem dX6_set_44 : decode cX6_set 44 = .ok (.getfield 13, 3) := by decide +kernel
theorem dX6_set_47 : decode cX6_set 47 = .ok (.iload_n 1, 1) := by decide +kernel
theorem dX6_set_48 : decode cX6_set 48 = .ok (.iaload, 1) := by decide +kernel
theorem dX6_set_49 : decode cX6_set 49 = .ok (.iload_n 3, 1) := by decide +kernel
theorem dX6_set_50 : decode cX6_set 50 = .ok (.invokestatic 75, 3) := by decide +kernel
theorem dX6_set_53 : decode cX6_set 53 = .ok (.istore 4, 2) := by decide +kernel
theorem dX6_set_55 : decode cX6_set 55 = .ok (.aload_n 0, 1) := by decide +kernel
theorem dX6_set_56 : decode cX6_set 56 = .ok (.getfield 16, 3) := by decide +kernel
theorem dX6_set_59 : decode cX6_set 59 = .ok (.bipush 40, 2) := by decide +kernel
theorem dX6_set_61 : decode cX6_set 61 = .ok (.iload_n 1, 1) := by decide +kernel
theorem dX6_set_62 : decode cX6_set 62 = .ok (.imul, 1) := by decide +kernel
theorem dX6_set_63 : decode cX6_set 63 = .ok (.iload_n 2, 1) := by decide +kernel
theorem dX6_set_64 : decode cX6_set 64 = .ok (.iadd, 1) := by decide +kernel
theorem dX6_set_65 : decode cX6_set 65 = .ok (.iload 4, 2) := by decide +kernel
theorem dX6_set_67 : decode cX6_set 67 = .ok (.iastore, 1) := by decide +kernel
theorem dX6_set_68 : decode cX6_set 68 = .ok (.aload_n 0, 1) := by decide +kernel
theorem dX6_set_69 : decode cX6_set 69 = .ok (.iconst 0, 1) := by decide +kernel
theorem dX6_set_70 : decode cX6_set 70 = .ok (.putfield 57, 3) := by decide +kernel
theorem dX6_set_73 : decode cX6_set 73 = .ok (.iload 4, 2) := by decide +kernel
theorem dX6_set_75 : decode cX6_set 75 = .ok (.ireturn, 1) := by decide +kernel
theorem dX6_copy_0 : decode cX6_copy 0 = .ok (.iload_n 1, 1) := by decide +kernel
theorem dX6_copy_1 : decode cX6_copy 1 = .ok (.invokestatic 61, 3) := by decide +kernel
theorem dX6_copy_4 : decode cX6_copy 4 = .ok (.ifCond .eq 10, 3) := by decide +kernel
theorem dX6_copy_7 : decode cX6_copy 7 = .ok (.iload_n 3, 1) := by decide +kernel
theorem dX6_copy_8 : decode cX6_copy 8 = .ok (.invokestatic 61, 3) := by decide +kernel
theorem dX6_copy_11 : decode cX6_copy 11 = .ok (.ifCond .ne 6, 3) := by decide +kernel
theorem dX6_copy_14 : decode cX6_copy 14 = .ok (.ldc 65, 2) := by decide +kernel
theorem dX6_copy_16 : decode cX6_copy 16 = .ok (.ireturn, 1) := by decide +kernel
theorem dX6_copy_17 : decode cX6_copy 17 = .ok (.aload_n 0, 1) := by decide +kernel
theorem dX6_copy_18 : decode cX6_copy 18 = .ok (.getfield 7, 3) := by decide +kernel
theorem dX6_copy_21 : decode cX6_copy 21 = .ok (.iload_n 1, 1) := by decide +kernel
theorem dX6_copy_22 : decode cX6_copy 22 = .ok (.iaload, 1) := by decide +kernel
theorem dX6_copy_23 : decode cX6_copy 23 = .ok (.ifCond .lt 12, 3) := by decide +kernel
theorem dX6_copy_26 : decode cX6_copy 26 = .ok (.aload_n 0, 1) := by decide +kernel
theorem dX6_copy_27 : decode cX6_copy 27 = .ok (.getfield 7, 3) := by decide +kernel
theorem dX6_copy_30 : decode cX6_copy 30 = .ok (.iload_n 3, 1) := by decide +kernel
theorem dX6_copy_31 : decode cX6_copy 31 = .ok (.iaload, 1) := by decide +kernel
theorem dX6_copy_32 : decode cX6_copy 32 = .ok (.ifCond .ge 10, 3) := by decide +kernel
theorem dX6_copy_35 : decode cX6_copy 35 = .ok (.aload_n 0, 1) := by decide +kernel
theorem dX6_copy_36 : decode cX6_copy 36 = .ok (.ldc 55, 2) := by decide +kernel
theorem dX6_copy_38 : decode cX6_copy 38 = .ok (.invokevirtual 67, 3) := by decide +kernel
theorem dX6_copy_41 : decode cX6_copy 41 = .ok (.ireturn, 1) := by decide +kernel
theorem dX6_copy_42 : decode cX6_copy 42 = .ok (.aload_n 0, 1) := by decide +kernel
theorem dX6_copy_43 : decode cX6_copy 43 = .ok (.getfield 13, 3) := by decide +kernel
theorem dX6_copy_46 : decode cX6_copy 46 = .ok (.iload_n 1, 1) := by decide +kernel
theorem dX6_copy_47 : decode cX6_copy 47 = .ok (.iaload, 1) := by decide +kernel
theorem dX6_copy_48 : decode cX6_copy 48 = .ok (.aload_n 0, 1) := by decide +kernel
theorem dX6_copy_49 : decode cX6_copy 49 = .ok (.getfield 13, 3) := by decide +kernel
theorem dX6_copy_52 : decode cX6_copy 52 = .ok (.iload_n 3, 1) := by decide +kernel
theorem dX6_copy_53 : decode cX6_copy 53 = .ok (.iaload, 1) := by decide +kernel
theorem dX6_copy_54 : decode cX6_copy 54 = .ok (.if_icmp .eq 10, 3) := by decide +kernel
theorem dX6_copy_57 : decode cX6_copy 57 = .ok (.aload_n 0, 1) := by decide +kernel
theorem dX6_copy_58 : decode cX6_copy 58 = .ok (.ldc 54, 2) := by decide +kernel
theorem dX6_copy_60 : decode cX6_copy 60 = .ok (.invokevirtual 67, 3) := by decide +kernel
theorem dX6_copy_63 : decode cX6_copy 63 = .ok (.ireturn, 1) := by decide +kernel
theorem dX6_copy_64 : decode cX6_copy 64 = .ok (.aload_n 0, 1) := by decide +kernel
theorem dX6_copy_65 : decode cX6_copy 65 = .ok (.iload_n 1, 1) := by decide +kernel
theorem dX6_copy_66 : decode cX6_copy 66 = .ok (.iload_n 2, 1) := by decide +kernel
theorem dX6_copy_67 : decode cX6_copy 67 = .ok (.iload 5, 2) := by decide +kernel
theorem dX6_copy_69 : decode cX6_copy 69 = .ok (.invokevirtual 71, 3) := by decide +kernel
theorem dX6_copy_72 : decode cX6_copy 72 = .ok (.ifCond .eq 15, 3) := by decide +kernel
theorem dX6_copy_75 : decode cX6_copy 75 = .ok (.aload_n 0, 1) := by decide +kernel
theorem dX6_copy_76 : decode cX6_copy 76 = .ok (.iload_n 3, 1) := by decide +kernel
theorem dX6_copy_77 : decode cX6_copy 77 = .ok (.iload 4, 2) := by decide +kernel
theorem dX6_copy_79 : decode cX6_copy 79 = .ok (.iload 5, 2) := by decide +kernel
theorem dX6_copy_81 : decode cX6_copy 81 = .ok (.invokevirtual 71, 3) := by decide +kernel
theorem dX6_copy_84 : decode cX6_copy 84 = .ok (.ifCond .ne 10, 3) := by decide +kernel
theorem dX6_copy_87 : decode cX6_copy 87 = .ok (.aload_n 0, 1) := by decide +kernel
theorem dX6_copy_88 : decode cX6_copy 88 = .ok (.ldc 74, 2) := by decide +kernel
theorem dX6_copy_90 : decode cX6_copy 90 = .ok (.invokevirtual 67, 3) := by decide +kernel
theorem dX6_copy_93 : decode cX6_copy 93 = .ok (.ireturn, 1) := by decide +kernel
theorem dX6_copy_94 : decode cX6_copy 94 = .ok (.iconst 0, 1) := by decide +kernel
theorem dX6_copy_95 : decode cX6_copy 95 = .ok (.istore 6, 2) := by decide +kernel
theorem dX6_copy_97 : decode cX6_copy 97 = .ok (.iload 6, 2) := by decide +kernel
theorem dX6_copy_99 : decode cX6_copy 99 = .ok (.iload 5, 2) := by decide +kernel
theorem dX6_copy_101 : decode cX6_copy 101 = .ok (.if_icmp .ge 30, 3) := by decide +kernel
theorem dX6_copy_104 : decode cX6_copy 104 = .ok (.aload_n 0, 1) := by decide +kernel
theorem dX6_copy_105 : decode cX6_copy 105 = .ok (.getfield 19, 3) := by decide +kernel
theorem dX6_copy_108 : decode cX6_copy 108 = .ok (.iload 6, 2) := by decide +kernel
theorem dX6_copy_110 : decode cX6_copy 110 = .ok (.aload_n 0, 1) := by decide +kernel
theorem dX6_copy_111 : decode cX6_copy 111 = .ok (.getfield 16, 3) := by decide +kernel
theorem dX6_copy_114 : decode cX6_copy 114 = .ok (.bipush 40, 2) := by decide +kernel
theorem dX6_copy_116 : decode cX6_copy 116 = .ok (.iload_n 1, 1) := by decide +kernel
theorem dX6_copy_117 : decode cX6_copy 117 = .ok (.imul, 1) := by decide +kernel
theorem dX6_copy_118 : decode cX6_copy 118 = .ok (.iload_n 2, 1) := by decide +kernel
theorem dX6_copy_119 : decode cX6_copy 119 = .ok (.iadd, 1) := by decide +kernel
theorem dX6_copy_120 : decode cX6_copy 120 = .ok (.iload 6, 2) := by decide +kernel
theorem dX6_copy_122 : decode cX6_copy 122 = .ok (.iadd, 1) := by decide +kernel
theorem dX6_copy_123 : decode cX6_copy 123 = .ok (.iaload, 1) := by decide +kernel
theorem dX6_copy_124 : decode cX6_copy 124 = .ok (.iastore, 1) := by decide +kernel
theorem dX6_copy_125 : decode cX6_copy 125 = .ok (.iinc 6 1, 3) := by decide +kernel
theorem dX6_copy_128 : decode cX6_copy 128 = .ok (.goto (-31), 3) := by decide +kernel
theorem dX6_copy_131 : decode cX6_copy 131 = .ok (.iconst 0, 1) := by decide +kernel
theorem dX6_copy_132 : decode cX6_copy 132 = .ok (.istore 6, 2) := by decide +kernel
theorem dX6_copy_134 : decode cX6_copy 134 = .ok (.iload 6, 2) := by decide +kernel
theorem dX6_copy_136 : decode cX6_copy 136 = .ok (.iload 5, 2) := by decide +kernel
theorem dX6_copy_138 : decode cX6_copy 138 = .ok (.if_icmp .ge 31, 3) := by decide +kernel
theorem dX6_copy_141 : decode cX6_copy 141 = .ok (.aload_n 0, 1) := by decide +kernel
theorem dX6_copy_142 : decode cX6_copy 142 = .ok (.getfield 16, 3) := by decide +kernel
theorem dX6_copy_145 : decode cX6_copy 145 = .ok (.bipush 40, 2) := by decide +kernel
theorem dX6_copy_147 : decode cX6_copy 147 = .ok (.iload_n 3, 1) := by decide +kernel
theorem dX6_copy_148 : decode cX6_copy 148 = .ok (.imul, 1) := by decide +kernel
theorem dX6_copy_149 : decode cX6_copy 149 = .ok (.iload 4, 2) := by decide +kernel
theorem dX6_copy_151 : decode cX6_copy 151 = .ok (.iadd, 1) := by decide +kernel
theorem dX6_copy_152 : decode cX6_copy 152 = .ok (.iload 6, 2) := by decide +kernel
theorem dX6_copy_154 : decode cX6_copy 154 = .ok (.iadd, 1) := by decide +kernel
theorem dX6_copy_155 : decode cX6_copy 155 = .ok (.aload_n 0, 1) := by decide +kernel
theorem dX6_copy_156 : decode cX6_copy 156 = .ok (.getfield 19, 3) := by decide +kernel
theorem dX6_copy_159 : decode cX6_copy 159 = .ok (.iload 6, 2) := by decide +kernel
theorem dX6_copy_161 : decode cX6_copy 161 = .ok (.iaload, 1) := by decide +kernel
theorem dX6_copy_162 : decode cX6_copy 162 = .ok (.iastore, 1) := by decide +kernel
theorem dX6_copy_163 : decode cX6_copy 163 = .ok (.iinc 6 1, 3) := by decide +kernel
theorem dX6_copy_166 : decode cX6_copy 166 = .ok (.goto (-32), 3) := by decide +kernel
theorem dX6_copy_169 : decode cX6_copy 169 = .ok (.aload_n 0, 1) := by decide +kernel
theorem dX6_copy_170 : decode cX6_copy 170 = .ok (.iload 5, 2) := by decide +kernel
theorem dX6_copy_172 : decode cX6_copy 172 = .ok (.invokevirtual 67, 3) := by decide +kernel
theorem dX6_copy_175 : decode cX6_copy 175 = .ok (.ireturn, 1) := by decide +kernel
theorem dX6_drop_0 : decode cX6_drop 0 = .ok (.iload_n 1, 1) := by decide +kernel
theorem dX6_drop_1 : decode cX6_drop 1 = .ok (.invokestatic 61, 3) := by decide +kernel
theorem dX6_drop_4 : decode cX6_drop 4 = .ok (.ifCond .ne 6, 3) := by decide +kernel
theorem dX6_drop_7 : decode cX6_drop 7 = .ok (.ldc 65, 2) := by decide +kernel
theorem dX6_drop_9 : decode cX6_drop 9 = .ok (.ireturn, 1) := by decide +kernel
theorem dX6_drop_10 : decode cX6_drop 10 = .ok (.aload_n 0, 1) := by decide +kernel
theorem dX6_drop_11 : decode cX6_drop 11 = .ok (.getfield 7, 3) := by decide +kernel
theorem dX6_drop_14 : decode cX6_drop 14 = .ok (.iload_n 1, 1) := by decide +kernel
theorem dX6_drop_15 : decode cX6_drop 15 = .ok (.iaload, 1) := by decide +kernel
theorem dX6_drop_16 : decode cX6_drop 16 = .ok (.ifCond .ge 10, 3) := by decide +kernel
theorem dX6_drop_19 : decode cX6_drop 19 = .ok (.aload_n 0, 1) := by decide +kernel
theorem dX6_drop_20 : decode cX6_drop 20 = .ok (.ldc 55, 2) := by decide +kernel
theorem dX6_drop_22 : decode cX6_drop 22 = .ok (.invokevirtual 67, 3) := by decide +kernel
theorem dX6_drop_25 : decode cX6_drop 25 = .ok (.ireturn, 1) := by decide +kernel
theorem dX6_drop_26 : decode cX6_drop 26 = .ok (.aload_n 0, 1) := by decide +kernel
theorem dX6_drop_27 : decode cX6_drop 27 = .ok (.getfield 7, 3) := by decide +kernel
theorem dX6_drop_30 : decode cX6_drop 30 = .ok (.iload_n 1, 1) := by decide +kernel
theorem dX6_drop_31 : decode cX6_drop 31 = .ok (.iaload, 1) := by decide +kernel
theorem dX6_drop_32 : decode cX6_drop 32 = .ok (.istore_n 2, 1) := by decide +kernel
theorem dX6_drop_33 : decode cX6_drop 33 = .ok (.aload_n 0, 1) := by decide +kernel
theorem dX6_drop_34 : decode cX6_drop 34 = .ok (.getfield 7, 3) := by decide +kernel
theorem dX6_drop_37 : decode cX6_drop 37 = .ok (.iload_n 1, 1) := by decide +kernel
theorem dX6_drop_38 : decode cX6_drop 38 = .ok (.iconst (-1), 1) := by decide +kernel
theorem dX6_drop_39 : decode cX6_drop 39 = .ok (.iastore, 1) := by decide +kernel
theorem dX6_drop_40 : decode cX6_drop 40 = .ok (.aload_n 0, 1) := by decide +kernel
theorem dX6_drop_41 : decode cX6_drop 41 = .ok (.iload_n 2, 1) := by decide +kernel
theorem dX6_drop_42 : decode cX6_drop 42 = .ok (.invokevirtual 67, 3) := by decide +kernel
theorem dX6_drop_45 : decode cX6_drop 45 = .ok (.ireturn, 1) := by decide +kernel
theorem dX6_feed_0 : decode cX6_feed 0 = .ok (.iload_n 1, 1) := by decide +kernel
theorem dX6_feed_1 : decode cX6_feed 1 = .ok (.iconst 0, 1) := by decide +kernel
theorem dX6_feed_2 : decode cX6_feed 2 = .ok (.sipush 255, 3) := by decide +kernel
theorem dX6_feed_5 : decode cX6_feed 5 = .ok (.invokestatic 50, 3) := by decide +kernel
theorem dX6_feed_8 : decode cX6_feed 8 = .ok (.ifCond .ne 6, 3) := by decide +kernel
theorem dX6_feed_11 : decode cX6_feed 11 = .ok (.ldc 65, 2) := by decide +kernel
theorem dX6_feed_13 : decode cX6_feed 13 = .ok (.ireturn, 1) := by decide +kernel
theorem dX6_feed_14 : decode cX6_feed 14 = .ok (.aload_n 0, 1) := by decide +kernel
theorem dX6_feed_15 : decode cX6_feed 15 = .ok (.getfield 79, 3) := by decide +kernel
theorem dX6_feed_18 : decode cX6_feed 18 = .ok (.bipush 90, 2) := by decide +kernel
theorem dX6_feed_20 : decode cX6_feed 20 = .ok (.if_icmp .ne 6, 3) := by decide +kernel
theorem dX6_feed_23 : decode cX6_feed 23 = .ok (.ldc 82, 2) := by decide +kernel
theorem dX6_feed_25 : decode cX6_feed 25 = .ok (.ireturn, 1) := by decide +kernel
theorem dX6_feed_26 : decode cX6_feed 26 = .ok (.aload_n 0, 1) := by decide +kernel
theorem dX6_feed_27 : decode cX6_feed 27 = .ok (.getfield 22, 3) := by decide +kernel
theorem dX6_feed_30 : decode cX6_feed 30 = .ok (.aload_n 0, 1) := by decide +kernel
theorem dX6_feed_31 : decode cX6_feed 31 = .ok (.getfield 79, 3) := by decide +kernel
theorem dX6_feed_34 : decode cX6_feed 34 = .ok (.iload_n 1, 1) := by decide +kernel
theorem dX6_feed_35 : decode cX6_feed 35 = .ok (.iastore, 1) := by decide +kernel
theorem dX6_feed_36 : decode cX6_feed 36 = .ok (.aload_n 0, 1) := by decide +kernel
theorem dX6_feed_37 : decode cX6_feed 37 = .ok (.dup, 1) := by decide +kernel
theorem dX6_feed_38 : decode cX6_feed 38 = .ok (.getfield 79, 3) := by decide +kernel
theorem dX6_feed_41 : decode cX6_feed 41 = .ok (.iconst 1, 1) := by decide +kernel
theorem dX6_feed_42 : decode cX6_feed 42 = .ok (.iadd, 1) := by decide +kernel
theorem dX6_feed_43 : decode cX6_feed 43 = .ok (.putfield 79, 3) := by decide +kernel
theorem dX6_feed_46 : decode cX6_feed 46 = .ok (.aload_n 0, 1) := by decide +kernel
theorem dX6_feed_47 : decode cX6_feed 47 = .ok (.getfield 79, 3) := by decide +kernel
theorem dX6_feed_50 : decode cX6_feed 50 = .ok (.ireturn, 1) := by decide +kernel
theorem dX6_letterAt_0 : decode cX6_letterAt 0 = .ok (.iload_n 1, 1) := by decide +kernel
theorem dX6_letterAt_1 : decode cX6_letterAt 1 = .ok (.aload_n 0, 1) := by decide +kernel
theorem dX6_letterAt_2 : decode cX6_letterAt 2 = .ok (.getfield 79, 3) := by decide +kernel
theorem dX6_letterAt_5 : decode cX6_letterAt 5 = .ok (.if_icmp .ge 12, 3) := by decide +kernel
theorem dX6_letterAt_8 : decode cX6_letterAt 8 = .ok (.aload_n 0, 1) := by decide +kernel
theorem dX6_letterAt_9 : decode cX6_letterAt 9 = .ok (.getfield 22, 3) := by decide +kernel
theorem dX6_letterAt_12 : decode cX6_letterAt 12 = .ok (.iload_n 1, 1) := by decide +kernel
theorem dX6_letterAt_13 : decode cX6_letterAt 13 = .ok (.iaload, 1) := by decide +kernel
theorem dX6_letterAt_14 : decode cX6_letterAt 14 = .ok (.goto 4, 3) := by decide +kernel
theorem dX6_letterAt_17 : decode cX6_letterAt 17 = .ok (.iconst (-1), 1) := by decide +kernel
theorem dX6_letterAt_18 : decode cX6_letterAt 18 = .ok (.ireturn, 1) := by decide +kernel
theorem dX6_isDigit_0 : decode cX6_isDigit 0 = .ok (.iload_n 0, 1) := by decide +kernel
theorem dX6_isDigit_1 : decode cX6_isDigit 1 = .ok (.bipush 48, 2) := by decide +kernel
theorem dX6_isDigit_3 : decode cX6_isDigit 3 = .ok (.bipush 57, 2) := by decide +kernel
theorem dX6_isDigit_5 : decode cX6_isDigit 5 = .ok (.invokestatic 50, 3) := by decide +kernel
theorem dX6_isDigit_8 : decode cX6_isDigit 8 = .ok (.ireturn, 1) := by decide +kernel
theorem dX6_fails_0 : decode cX6_fails 0 = .ok (.aload_n 0, 1) := by decide +kernel
theorem dX6_fails_1 : decode cX6_fails 1 = .ok (.iload_n 1, 1) := by decide +kernel
theorem dX6_fails_2 : decode cX6_fails 2 = .ok (.putfield 83, 3) := by decide +kernel
theorem dX6_fails_5 : decode cX6_fails 5 = .ok (.iconst 0, 1) := by decide +kernel
theorem dX6_fails_6 : decode cX6_fails 6 = .ok (.ireturn, 1) := by decide +kernel
theorem dX6_sign_0 : decode cX6_sign 0 = .ok (.aload_n 0, 1) := by decide +kernel
theorem dX6_sign_1 : decode cX6_sign 1 = .ok (.aload_n 0, 1) := by decide +kernel
theorem dX6_sign_2 : decode cX6_sign 2 = .ok (.getfield 86, 3) := by decide +kernel
theorem dX6_sign_5 : decode cX6_sign 5 = .ok (.invokevirtual 89, 3) := by decide +kernel
theorem dX6_sign_8 : decode cX6_sign 8 = .ok (.iload_n 1, 1) := by decide +kernel
theorem dX6_sign_9 : decode cX6_sign 9 = .ok (.if_icmp .eq 9, 3) := by decide +kernel
theorem dX6_sign_12 : decode cX6_sign 12 = .ok (.aload_n 0, 1) := by decide +kernel
theorem dX6_sign_13 : decode cX6_sign 13 = .ok (.iconst 1, 1) := by decide +kernel
theorem dX6_sign_14 : decode cX6_sign 14 = .ok (.invokevirtual 92, 3) := by decide +kernel
theorem dX6_sign_17 : decode cX6_sign 17 = .ok (.ireturn, 1) := by decide +kernel
theorem dX6_sign_18 : decode cX6_sign 18 = .ok (.aload_n 0, 1) := by decide +kernel
theorem dX6_sign_19 : decode cX6_sign 19 = .ok (.dup, 1) := by decide +kernel
theorem dX6_sign_20 : decode cX6_sign 20 = .ok (.getfield 86, 3) := by decide +kernel
theorem dX6_sign_23 : decode cX6_sign 23 = .ok (.iconst 1, 1) := by decide +kernel
theorem dX6_sign_24 : decode cX6_sign 24 = .ok (.iadd, 1) := by decide +kernel
theorem dX6_sign_25 : decode cX6_sign 25 = .ok (.putfield 86, 3) := by decide +kernel
theorem dX6_sign_28 : decode cX6_sign 28 = .ok (.iconst 1, 1) := by decide +kernel
theorem dX6_sign_29 : decode cX6_sign 29 = .ok (.ireturn, 1) := by decide +kernel
theorem dX6_number_0 : decode cX6_number 0 = .ok (.iconst 0, 1) := by decide +kernel
theorem dX6_number_1 : decode cX6_number 1 = .ok (.istore 4, 2) := by decide +kernel
theorem dX6_number_3 : decode cX6_number 3 = .ok (.iconst 0, 1) := by decide +kernel
theorem dX6_number_4 : decode cX6_number 4 = .ok (.istore 5, 2) := by decide +kernel
theorem dX6_number_6 : decode cX6_number 6 = .ok (.aload_n 0, 1) := by decide +kernel
theorem dX6_number_7 : decode cX6_number 7 = .ok (.aload_n 0, 1) := by decide +kernel
theorem dX6_number_8 : decode cX6_number 8 = .ok (.getfield 86, 3) := by decide +kernel
theorem dX6_number_11 : decode cX6_number 11 = .ok (.iload 4, 2) := by decide +kernel
theorem dX6_number_13 : decode cX6_number 13 = .ok (.iadd, 1) := by decide +kernel
theorem dX6_number_14 : decode cX6_number 14 = .ok (.invokevirtual 89, 3) := by decide +kernel
theorem dX6_number_17 : decode cX6_number 17 = .ok (.invokestatic 95, 3) := by decide +kernel
theorem dX6_number_20 : decode cX6_number 20 = .ok (.ifCond .eq 38, 3) := by decide +kernel
theorem dX6_number_23 : decode cX6_number 23 = .ok (.iload 4, 2) := by decide +kernel
theorem dX6_number_25 : decode cX6_number 25 = .ok (.iconst 3, 1) := by decide +kernel
theorem dX6_number_26 : decode cX6_number 26 = .ok (.if_icmp .ge 32, 3) := by decide +kernel
theorem dX6_number_29 : decode cX6_number 29 = .ok (.bipush 10, 2) := by decide +kernel
theorem dX6_number_31 : decode cX6_number 31 = .ok (.iload 5, 2) := by decide +kernel
theorem dX6_number_33 : decode cX6_number 33 = .ok (.imul, 1) := by decide +kernel
theorem dX6_number_34 : decode cX6_number 34 = .ok (.aload_n 0, 1) := by decide +kernel
theorem dX6_number_35 : decode cX6_number 35 = .ok (.getfield 22, 3) := by decide +kernel
theorem dX6_number_38 : decode cX6_number 38 = .ok (.aload_n 0, 1) := by decide +kernel
theorem dX6_number_39 : decode cX6_number 39 = .ok (.getfield 86, 3) := by decide +kernel
theorem dX6_number_42 : decode cX6_number 42 = .ok (.iload 4, 2) := by decide +kernel
theorem dX6_number_44 : decode cX6_number 44 = .ok (.iadd, 1) := by decide +kernel
theorem dX6_number_45 : decode cX6_number 45 = .ok (.iaload, 1) := by decide +kernel
theorem dX6_number_46 : decode cX6_number 46 = .ok (.iadd, 1) := by decide +kernel
theorem dX6_number_47 : decode cX6_number 47 = .ok (.bipush 48, 2) := by decide +kernel
theorem dX6_number_49 : decode cX6_number 49 = .ok (.isub, 1) := by decide +kernel
theorem dX6_number_50 : decode cX6_number 50 = .ok (.istore 5, 2) := by decide +kernel
theorem dX6_number_52 : decode cX6_number 52 = .ok (.iinc 4 1, 3) := by decide +kernel
theorem dX6_number_55 : decode cX6_number 55 = .ok (.goto (-49), 3) := by decide +kernel
theorem dX6_number_58 : decode cX6_number 58 = .ok (.iload 4, 2) := by decide +kernel
theorem dX6_number_60 : decode cX6_number 60 = .ok (.ifCond .eq 9, 3) := by decide +kernel
theorem dX6_number_63 : decode cX6_number 63 = .ok (.iload 4, 2) := by decide +kernel
theorem dX6_number_65 : decode cX6_number 65 = .ok (.iconst 3, 1) := by decide +kernel
theorem dX6_number_66 : decode cX6_number 66 = .ok (.if_icmp .ne 9, 3) := by decide +kernel
theorem dX6_number_69 : decode cX6_number 69 = .ok (.aload_n 0, 1) := by decide +kernel
theorem dX6_number_70 : decode cX6_number 70 = .ok (.iconst 1, 1) := by decide +kernel
theorem dX6_number_71 : decode cX6_number 71 = .ok (.invokevirtual 92, 3) := by decide +kernel
theorem dX6_number_74 : decode cX6_number 74 = .ok (.ireturn, 1) := by decide +kernel
theorem dX6_number_75 : decode cX6_number 75 = .ok (.iload 5, 2) := by decide +kernel
theorem dX6_number_77 : decode cX6_number 77 = .ok (.iload_n 2, 1) := by decide +kernel
theorem dX6_number_78 : decode cX6_number 78 = .ok (.iload_n 3, 1) := by decide +kernel
theorem dX6_number_79 : decode cX6_number 79 = .ok (.invokestatic 50, 3) := by decide +kernel
theorem dX6_number_82 : decode cX6_number 82 = .ok (.ifCond .ne 9, 3) := by decide +kernel
theorem dX6_number_85 : decode cX6_number 85 = .ok (.aload_n 0, 1) := by decide +kernel
theorem dX6_number_86 : decode cX6_number 86 = .ok (.iconst 2, 1) := by decide +kernel
theorem dX6_number_87 : decode cX6_number 87 = .ok (.invokevirtual 92, 3) := by decide +kernel
theorem dX6_number_90 : decode cX6_number 90 = .ok (.ireturn, 1) := by decide +kernel
theorem dX6_number_91 : decode cX6_number 91 = .ok (.aload_n 0, 1) := by decide +kernel
theorem dX6_number_92 : decode cX6_number 92 = .ok (.dup, 1) := by decide +kernel
theorem dX6_number_93 : decode cX6_number 93 = .ok (.getfield 86, 3) := by decide +kernel
theorem dX6_number_96 : decode cX6_number 96 = .ok (.iload 4, 2) := by decide +kernel
theorem dX6_number_98 : decode cX6_number 98 = .ok (.iadd, 1) := by decide +kernel
theorem dX6_number_99 : decode cX6_number 99 = .ok (.putfield 86, 3) := by decide +kernel
theorem dX6_number_102 : decode cX6_number 102 = .ok (.aload_n 0, 1) := by decide +kernel
theorem dX6_number_103 : decode cX6_number 103 = .ok (.getfield 28, 3) := by decide +kernel
theorem dX6_number_106 : decode cX6_number 106 = .ok (.iload_n 1, 1) := by decide +kernel
theorem dX6_number_107 : decode cX6_number 107 = .ok (.iload 5, 2) := by decide +kernel
theorem dX6_number_109 : decode cX6_number 109 = .ok (.iastore, 1) := by decide +kernel
theorem dX6_number_110 : decode cX6_number 110 = .ok (.iconst 1, 1) := by decide +kernel
theorem dX6_number_111 : decode cX6_number 111 = .ok (.ireturn, 1) := by decide +kernel
theorem dX6_kindBy_0 : decode cX6_kindBy 0 = .ok (.iload_n 0, 1) := by decide +kernel
theorem dX6_kindBy_1 : decode cX6_kindBy 1 = .ok (.bipush 115, 2) := by decide +kernel
theorem dX6_kindBy_3 : decode cX6_kindBy 3 = .ok (.if_icmp .ne 7, 3) := by decide +kernel
theorem dX6_kindBy_6 : decode cX6_kindBy 6 = .ok (.iconst 1, 1) := by decide +kernel
theorem dX6_kindBy_7 : decode cX6_kindBy 7 = .ok (.goto 44, 3) := by decide +kernel
theorem dX6_kindBy_10 : decode cX6_kindBy 10 = .ok (.iload_n 0, 1) := by decide +kernel
theorem dX6_kindBy_11 : decode cX6_kindBy 11 = .ok (.bipush 119, 2) := by decide +kernel
theorem dX6_kindBy_13 : decode cX6_kindBy 13 = .ok (.if_icmp .ne 7, 3) := by decide +kernel
theorem dX6_kindBy_16 : decode cX6_kindBy 16 = .ok (.iconst 2, 1) := by decide +kernel
theorem dX6_kindBy_17 : decode cX6_kindBy 17 = .ok (.goto 34, 3) := by decide +kernel
theorem dX6_kindBy_20 : decode cX6_kindBy 20 = .ok (.iload_n 0, 1) := by decide +kernel
