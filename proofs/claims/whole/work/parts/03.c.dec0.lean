theorem dX0_init_0 : decode cX0_init 0 = .ok (.aload_n 0, 1) := by decide +kernel
theorem dX0_init_1 : decode cX0_init 1 = .ok (.invokespecial 3, 3) := by decide +kernel
theorem dX0_init_4 : decode cX0_init 4 = .ok (.aload_n 0, 1) := by decide +kernel
theorem dX0_init_5 : decode cX0_init 5 = .ok (.bipush 24, 2) := by decide +kernel
theorem dX0_init_7 : decode cX0_init 7 = .ok (.anewarray 9, 3) := by decide +kernel
theorem dX0_init_10 : decode cX0_init 10 = .ok (.putfield 11, 3) := by decide +kernel
theorem dX0_init_13 : decode cX0_init 13 = .ok (.aload_n 0, 1) := by decide +kernel
theorem dX0_init_14 : decode cX0_init 14 = .ok (.iconst 0, 1) := by decide +kernel
theorem dX0_init_15 : decode cX0_init 15 = .ok (.putfield 17, 3) := by decide +kernel
theorem dX0_init_18 : decode cX0_init 18 = .ok (.aload_n 0, 1) := by decide +kernel
theorem dX0_init_19 : decode cX0_init 19 = .ok (.iconst 0, 1) := by decide +kernel
theorem dX0_init_20 : decode cX0_init 20 = .ok (.putfield 21, 3) := by decide +kernel
theorem dX0_init_23 : decode cX0_init 23 = .ok (.iconst 0, 1) := by decide +kernel
theorem dX0_init_24 : decode cX0_init 24 = .ok (.istore_n 1, 1) := by decide +kernel
theorem dX0_init_25 : decode cX0_init 25 = .ok (.iload_n 1, 1) := by decide +kernel
theorem dX0_init_26 : decode cX0_init 26 = .ok (.bipush 24, 2) := by decide +kernel
theorem dX0_init_28 : decode cX0_init 28 = .ok (.if_icmp .ge 22, 3) := by decide +kernel
theorem dX0_init_31 : decode cX0_init 31 = .ok (.aload_n 0, 1) := by decide +kernel
theorem dX0_init_32 : decode cX0_init 32 = .ok (.getfield 11, 3) := by decide +kernel
theorem dX0_init_35 : decode cX0_init 35 = .ok (.iload_n 1, 1) := by decide +kernel
theorem dX0_init_36 : decode cX0_init 36 = .ok (.new 9, 3) := by decide +kernel
theorem dX0_init_39 : decode cX0_init 39 = .ok (.dup, 1) := by decide +kernel
theorem dX0_init_40 : decode cX0_init 40 = .ok (.invokespecial 24, 3) := by decide +kernel
theorem dX0_init_43 : decode cX0_init 43 = .ok (.aastore, 1) := by decide +kernel
theorem dX0_init_44 : decode cX0_init 44 = .ok (.iinc 1 1, 3) := by decide +kernel
theorem dX0_init_47 : decode cX0_init 47 = .ok (.goto (-22), 3) := by decide +kernel
theorem dX0_init_50 : decode cX0_init 50 = .ok (.return_, 1) := by decide +kernel
theorem dX0_keep_0 : decode cX0_keep 0 = .ok (.aload_n 0, 1) := by decide +kernel
theorem dX0_keep_1 : decode cX0_keep 1 = .ok (.getfield 11, 3) := by decide +kernel
theorem dX0_keep_4 : decode cX0_keep 4 = .ok (.aload_n 0, 1) := by decide +kernel
theorem dX0_keep_5 : decode cX0_keep 5 = .ok (.getfield 17, 3) := by decide +kernel
theorem dX0_keep_8 : decode cX0_keep 8 = .ok (.aaload, 1) := by decide +kernel
theorem dX0_keep_9 : decode cX0_keep 9 = .ok (.aload_n 1, 1) := by decide +kernel
theorem dX0_keep_10 : decode cX0_keep 10 = .ok (.invokevirtual 25, 3) := by decide +kernel
theorem dX0_keep_13 : decode cX0_keep 13 = .ok (.aload_n 0, 1) := by decide +kernel
theorem dX0_keep_14 : decode cX0_keep 14 = .ok (.aload_n 0, 1) := by decide +kernel
theorem dX0_keep_15 : decode cX0_keep 15 = .ok (.getfield 17, 3) := by decide +kernel
theorem dX0_keep_18 : decode cX0_keep 18 = .ok (.iconst 1, 1) := by decide +kernel
theorem dX0_keep_19 : decode cX0_keep 19 = .ok (.iadd, 1) := by decide +kernel
theorem dX0_keep_20 : decode cX0_keep 20 = .ok (.bipush 24, 2) := by decide +kernel
theorem dX0_keep_22 : decode cX0_keep 22 = .ok (.irem, 1) := by decide +kernel
theorem dX0_keep_23 : decode cX0_keep 23 = .ok (.putfield 17, 3) := by decide +kernel
theorem dX0_keep_26 : decode cX0_keep 26 = .ok (.aload_n 0, 1) := by decide +kernel
theorem dX0_keep_27 : decode cX0_keep 27 = .ok (.aload_n 0, 1) := by decide +kernel
theorem dX0_keep_28 : decode cX0_keep 28 = .ok (.getfield 21, 3) := by decide +kernel
theorem dX0_keep_31 : decode cX0_keep 31 = .ok (.iconst 1, 1) := by decide +kernel
theorem dX0_keep_32 : decode cX0_keep 32 = .ok (.iadd, 1) := by decide +kernel
theorem dX0_keep_33 : decode cX0_keep 33 = .ok (.bipush 24, 2) := by decide +kernel
theorem dX0_keep_35 : decode cX0_keep 35 = .ok (.invokestatic 29, 3) := by decide +kernel
theorem dX0_keep_38 : decode cX0_keep 38 = .ok (.putfield 21, 3) := by decide +kernel
theorem dX0_keep_41 : decode cX0_keep 41 = .ok (.return_, 1) := by decide +kernel
theorem dX0_takeBack_0 : decode cX0_takeBack 0 = .ok (.aload_n 0, 1) := by decide +kernel
theorem dX0_takeBack_1 : decode cX0_takeBack 1 = .ok (.aload_n 0, 1) := by decide +kernel
theorem dX0_takeBack_2 : decode cX0_takeBack 2 = .ok (.getfield 17, 3) := by decide +kernel
theorem dX0_takeBack_5 : decode cX0_takeBack 5 = .ok (.bipush 24, 2) := by decide +kernel
theorem dX0_takeBack_7 : decode cX0_takeBack 7 = .ok (.iadd, 1) := by decide +kernel
theorem dX0_takeBack_8 : decode cX0_takeBack 8 = .ok (.iconst 1, 1) := by decide +kernel
theorem dX0_takeBack_9 : decode cX0_takeBack 9 = .ok (.isub, 1) := by decide +kernel
theorem dX0_takeBack_10 : decode cX0_takeBack 10 = .ok (.bipush 24, 2) := by decide +kernel
theorem dX0_takeBack_12 : decode cX0_takeBack 12 = .ok (.irem, 1) := by decide +kernel
theorem dX0_takeBack_13 : decode cX0_takeBack 13 = .ok (.putfield 17, 3) := by decide +kernel
theorem dX0_takeBack_16 : decode cX0_takeBack 16 = .ok (.aload_n 1, 1) := by decide +kernel
theorem dX0_takeBack_17 : decode cX0_takeBack 17 = .ok (.aload_n 0, 1) := by decide +kernel
theorem dX0_takeBack_18 : decode cX0_takeBack 18 = .ok (.getfield 11, 3) := by decide +kernel
theorem dX0_takeBack_21 : decode cX0_takeBack 21 = .ok (.aload_n 0, 1) := by decide +kernel
theorem dX0_takeBack_22 : decode cX0_takeBack 22 = .ok (.getfield 17, 3) := by decide +kernel
theorem dX0_takeBack_25 : decode cX0_takeBack 25 = .ok (.aaload, 1) := by decide +kernel
theorem dX0_takeBack_26 : decode cX0_takeBack 26 = .ok (.invokevirtual 25, 3) := by decide +kernel
theorem dX0_takeBack_29 : decode cX0_takeBack 29 = .ok (.aload_n 0, 1) := by decide +kernel
theorem dX0_takeBack_30 : decode cX0_takeBack 30 = .ok (.aload_n 0, 1) := by decide +kernel
theorem dX0_takeBack_31 : decode cX0_takeBack 31 = .ok (.getfield 21, 3) := by decide +kernel
theorem dX0_takeBack_34 : decode cX0_takeBack 34 = .ok (.iconst 1, 1) := by decide +kernel
theorem dX0_takeBack_35 : decode cX0_takeBack 35 = .ok (.isub, 1) := by decide +kernel
theorem dX0_takeBack_36 : decode cX0_takeBack 36 = .ok (.iconst 0, 1) := by decide +kernel
theorem dX0_takeBack_37 : decode cX0_takeBack 37 = .ok (.invokestatic 35, 3) := by decide +kernel
theorem dX0_takeBack_40 : decode cX0_takeBack 40 = .ok (.putfield 21, 3) := by decide +kernel
theorem dX0_takeBack_43 : decode cX0_takeBack 43 = .ok (.return_, 1) := by decide +kernel
theorem dX0_forgetAll_0 : decode cX0_forgetAll 0 = .ok (.aload_n 0, 1) := by decide +kernel
theorem dX0_forgetAll_1 : decode cX0_forgetAll 1 = .ok (.iconst 0, 1) := by decide +kernel
theorem dX0_forgetAll_2 : decode cX0_forgetAll 2 = .ok (.putfield 21, 3) := by decide +kernel
theorem dX0_forgetAll_5 : decode cX0_forgetAll 5 = .ok (.return_, 1) := by decide +kernel
theorem dX1_init_0 : decode cX1_init 0 = .ok (.aload_n 0, 1) := by decide +kernel
theorem dX1_init_1 : decode cX1_init 1 = .ok (.invokespecial 3, 3) := by decide +kernel
theorem dX1_init_4 : decode cX1_init 4 = .ok (.aload_n 0, 1) := by decide +kernel
theorem dX1_init_5 : decode cX1_init 5 = .ok (.bipush 40, 2) := by decide +kernel
theorem dX1_init_7 : decode cX1_init 7 = .ok (.newarray .int, 2) := by decide +kernel
theorem dX1_init_9 : decode cX1_init 9 = .ok (.putfield 9, 3) := by decide +kernel
theorem dX1_init_12 : decode cX1_init 12 = .ok (.aload_n 0, 1) := by decide +kernel
theorem dX1_init_13 : decode cX1_init 13 = .ok (.iconst 1, 1) := by decide +kernel
theorem dX1_init_14 : decode cX1_init 14 = .ok (.putfield 15, 3) := by decide +kernel
theorem dX1_init_17 : decode cX1_init 17 = .ok (.aload_n 0, 1) := by decide +kernel
theorem dX1_init_18 : decode cX1_init 18 = .ok (.iconst 0, 1) := by decide +kernel
theorem dX1_init_19 : decode cX1_init 19 = .ok (.putfield 19, 3) := by decide +kernel
theorem dX1_init_22 : decode cX1_init 22 = .ok (.aload_n 0, 1) := by decide +kernel
theorem dX1_init_23 : decode cX1_init 23 = .ok (.iconst 0, 1) := by decide +kernel
theorem dX1_init_24 : decode cX1_init 24 = .ok (.putfield 23, 3) := by decide +kernel
theorem dX1_init_27 : decode cX1_init 27 = .ok (.return_, 1) := by decide +kernel
theorem dX1_begin_0 : decode cX1_begin 0 = .ok (.aload_n 0, 1) := by decide +kernel
theorem dX1_begin_1 : decode cX1_begin 1 = .ok (.iconst 0, 1) := by decide +kernel
theorem dX1_begin_2 : decode cX1_begin 2 = .ok (.putfield 15, 3) := by decide +kernel
theorem dX1_begin_5 : decode cX1_begin 5 = .ok (.aload_n 0, 1) := by decide +kernel
theorem dX1_begin_6 : decode cX1_begin 6 = .ok (.iload_n 1, 1) := by decide +kernel
theorem dX1_begin_7 : decode cX1_begin 7 = .ok (.putfield 19, 3) := by decide +kernel
theorem dX1_begin_10 : decode cX1_begin 10 = .ok (.aload_n 0, 1) := by decide +kernel
theorem dX1_begin_11 : decode cX1_begin 11 = .ok (.iload_n 2, 1) := by decide +kernel
theorem dX1_begin_12 : decode cX1_begin 12 = .ok (.putfield 23, 3) := by decide +kernel
theorem dX1_begin_15 : decode cX1_begin 15 = .ok (.iconst 0, 1) := by decide +kernel
theorem dX1_begin_16 : decode cX1_begin 16 = .ok (.istore_n 3, 1) := by decide +kernel
theorem dX1_begin_17 : decode cX1_begin 17 = .ok (.iload_n 3, 1) := by decide +kernel
theorem dX1_begin_18 : decode cX1_begin 18 = .ok (.bipush 40, 2) := by decide +kernel
theorem dX1_begin_20 : decode cX1_begin 20 = .ok (.if_icmp .ge 16, 3) := by decide +kernel
theorem dX1_begin_23 : decode cX1_begin 23 = .ok (.aload_n 0, 1) := by decide +kernel
theorem dX1_begin_24 : decode cX1_begin 24 = .ok (.getfield 9, 3) := by decide +kernel
theorem dX1_begin_27 : decode cX1_begin 27 = .ok (.iload_n 3, 1) := by decide +kernel
theorem dX1_begin_28 : decode cX1_begin 28 = .ok (.iconst 0, 1) := by decide +kernel
theorem dX1_begin_29 : decode cX1_begin 29 = .ok (.iastore, 1) := by decide +kernel
theorem dX1_begin_30 : decode cX1_begin 30 = .ok (.iinc 3 1, 3) := by decide +kernel
theorem dX1_begin_33 : decode cX1_begin 33 = .ok (.goto (-16), 3) := by decide +kernel
theorem dX1_begin_36 : decode cX1_begin 36 = .ok (.return_, 1) := by decide +kernel
theorem dX1_holds_0 : decode cX1_holds 0 = .ok (.iload_n 1, 1) := by decide +kernel
theorem dX1_holds_1 : decode cX1_holds 1 = .ok (.ifCond .lt 29, 3) := by decide +kernel
theorem dX1_holds_4 : decode cX1_holds 4 = .ok (.iload_n 2, 1) := by decide +kernel
theorem dX1_holds_5 : decode cX1_holds 5 = .ok (.ifCond .lt 25, 3) := by decide +kernel
theorem dX1_holds_8 : decode cX1_holds 8 = .ok (.iload_n 1, 1) := by decide +kernel
theorem dX1_holds_9 : decode cX1_holds 9 = .ok (.aload_n 0, 1) := by decide +kernel
theorem dX1_holds_10 : decode cX1_holds 10 = .ok (.getfield 23, 3) := by decide +kernel
theorem dX1_holds_13 : decode cX1_holds 13 = .ok (.if_icmp .gt 17, 3) := by decide +kernel
theorem dX1_holds_16 : decode cX1_holds 16 = .ok (.iload_n 2, 1) := by decide +kernel
theorem dX1_holds_17 : decode cX1_holds 17 = .ok (.aload_n 0, 1) := by decide +kernel
theorem dX1_holds_18 : decode cX1_holds 18 = .ok (.getfield 23, 3) := by decide +kernel
theorem dX1_holds_21 : decode cX1_holds 21 = .ok (.iload_n 1, 1) := by decide +kernel
theorem dX1_holds_22 : decode cX1_holds 22 = .ok (.isub, 1) := by decide +kernel
theorem dX1_holds_23 : decode cX1_holds 23 = .ok (.if_icmp .gt 7, 3) := by decide +kernel
theorem dX1_holds_26 : decode cX1_holds 26 = .ok (.iconst 1, 1) := by decide +kernel
theorem dX1_holds_27 : decode cX1_holds 27 = .ok (.goto 4, 3) := by decide +kernel
theorem dX1_holds_30 : decode cX1_holds 30 = .ok (.iconst 0, 1) := by decide +kernel
theorem dX1_holds_31 : decode cX1_holds 31 = .ok (.ireturn, 1) := by decide +kernel
theorem dX1_cut_0 : decode cX1_cut 0 = .ok (.aload_n 0, 1) := by decide +kernel
theorem dX1_cut_1 : decode cX1_cut 1 = .ok (.getfield 19, 3) := by decide +kernel
theorem dX1_cut_4 : decode cX1_cut 4 = .ok (.lookupswitch 34 #[(0, 28), (1, 31)], 28) := by decide +kernel
theorem dX1_cut_32 : decode cX1_cut 32 = .ok (.iload_n 1, 1) := by decide +kernel
theorem dX1_cut_33 : decode cX1_cut 33 = .ok (.i2b, 1) := by decide +kernel
theorem dX1_cut_34 : decode cX1_cut 34 = .ok (.ireturn, 1) := by decide +kernel
theorem dX1_cut_35 : decode cX1_cut 35 = .ok (.iload_n 1, 1) := by decide +kernel
theorem dX1_cut_36 : decode cX1_cut 36 = .ok (.i2s, 1) := by decide +kernel
theorem dX1_cut_37 : decode cX1_cut 37 = .ok (.ireturn, 1) := by decide +kernel
theorem dX1_cut_38 : decode cX1_cut 38 = .ok (.iload_n 1, 1) := by decide +kernel
theorem dX1_cut_39 : decode cX1_cut 39 = .ok (.ireturn, 1) := by decide +kernel
theorem dX2_init_0 : decode cX2_init 0 = .ok (.aload_n 0, 1) := by decide +kernel
theorem dX2_init_1 : decode cX2_init 1 = .ok (.invokespecial 3, 3) := by decide +kernel
theorem dX2_init_4 : decode cX2_init 4 = .ok (.aload_n 0, 1) := by decide +kernel
theorem dX2_init_5 : decode cX2_init 5 = .ok (.iconst 0, 1) := by decide +kernel
theorem dX2_init_6 : decode cX2_init 6 = .ok (.putfield 9, 3) := by decide +kernel
theorem dX2_init_9 : decode cX2_init 9 = .ok (.aload_n 0, 1) := by decide +kernel
theorem dX2_init_10 : decode cX2_init 10 = .ok (.iconst 0, 1) := by decide +kernel
theorem dX2_init_11 : decode cX2_init 11 = .ok (.putfield 15, 3) := by decide +kernel
theorem dX2_init_14 : decode cX2_init 14 = .ok (.aload_n 0, 1) := by decide +kernel
theorem dX2_init_15 : decode cX2_init 15 = .ok (.iconst 0, 1) := by decide +kernel
theorem dX2_init_16 : decode cX2_init 16 = .ok (.putfield 18, 3) := by decide +kernel
theorem dX2_init_19 : decode cX2_init 19 = .ok (.aload_n 0, 1) := by decide +kernel
theorem dX2_init_20 : decode cX2_init 20 = .ok (.iconst 0, 1) := by decide +kernel
theorem dX2_init_21 : decode cX2_init 21 = .ok (.putfield 21, 3) := by decide +kernel
theorem dX2_init_24 : decode cX2_init 24 = .ok (.aload_n 0, 1) := by decide +kernel
theorem dX2_init_25 : decode cX2_init 25 = .ok (.bipush 7, 2) := by decide +kernel
theorem dX2_init_27 : decode cX2_init 27 = .ok (.newarray .int, 2) := by decide +kernel
theorem dX2_init_29 : decode cX2_init 29 = .ok (.putfield 24, 3) := by decide +kernel
theorem dX2_init_32 : decode cX2_init 32 = .ok (.aload_n 0, 1) := by decide +kernel
theorem dX2_init_33 : decode cX2_init 33 = .ok (.bipush 7, 2) := by decide +kernel
theorem dX2_init_35 : decode cX2_init 35 = .ok (.newarray .int, 2) := by decide +kernel
theorem dX2_init_37 : decode cX2_init 37 = .ok (.putfield 28, 3) := by decide +kernel
theorem dX2_init_40 : decode cX2_init 40 = .ok (.aload_n 0, 1) := by decide +kernel
theorem dX2_init_41 : decode cX2_init 41 = .ok (.bipush 7, 2) := by decide +kernel
theorem dX2_init_43 : decode cX2_init 43 = .ok (.newarray .int, 2) := by decide +kernel
theorem dX2_init_45 : decode cX2_init 45 = .ok (.putfield 31, 3) := by decide +kernel
theorem dX2_init_48 : decode cX2_init 48 = .ok (.aload_n 0, 1) := by decide +kernel
theorem dX2_init_49 : decode cX2_init 49 = .ok (.bipush 7, 2) := by decide +kernel
theorem dX2_init_51 : decode cX2_init 51 = .ok (.newarray .int, 2) := by decide +kernel
theorem dX2_init_53 : decode cX2_init 53 = .ok (.putfield 34, 3) := by decide +kernel
theorem dX2_init_56 : decode cX2_init 56 = .ok (.return_, 1) := by decide +kernel
theorem dX2_empty_0 : decode cX2_empty 0 = .ok (.aload_n 0, 1) := by decide +kernel
theorem dX2_empty_1 : decode cX2_empty 1 = .ok (.iconst 0, 1) := by decide +kernel
theorem dX2_empty_2 : decode cX2_empty 2 = .ok (.putfield 9, 3) := by decide +kernel
theorem dX2_empty_5 : decode cX2_empty 5 = .ok (.aload_n 0, 1) := by decide +kernel
theorem dX2_empty_6 : decode cX2_empty 6 = .ok (.iconst 0, 1) := by decide +kernel
theorem dX2_empty_7 : decode cX2_empty 7 = .ok (.putfield 15, 3) := by decide +kernel
theorem dX2_empty_10 : decode cX2_empty 10 = .ok (.aload_n 0, 1) := by decide +kernel
theorem dX2_empty_11 : decode cX2_empty 11 = .ok (.iconst 0, 1) := by decide +kernel
theorem dX2_empty_12 : decode cX2_empty 12 = .ok (.putfield 18, 3) := by decide +kernel
theorem dX2_empty_15 : decode cX2_empty 15 = .ok (.aload_n 0, 1) := by decide +kernel
theorem dX2_empty_16 : decode cX2_empty 16 = .ok (.iconst 0, 1) := by decide +kernel
theorem dX2_empty_17 : decode cX2_empty 17 = .ok (.putfield 21, 3) := by decide +kernel
theorem dX2_empty_20 : decode cX2_empty 20 = .ok (.iconst 0, 1) := by decide +kernel
theorem dX2_empty_21 : decode cX2_empty 21 = .ok (.istore_n 1, 1) := by decide +kernel
theorem dX2_empty_22 : decode cX2_empty 22 = .ok (.iload_n 1, 1) := by decide +kernel
theorem dX2_empty_23 : decode cX2_empty 23 = .ok (.bipush 7, 2) := by decide +kernel
theorem dX2_empty_25 : decode cX2_empty 25 = .ok (.if_icmp .ge 16, 3) := by decide +kernel
theorem dX2_empty_28 : decode cX2_empty 28 = .ok (.aload_n 0, 1) := by decide +kernel
theorem dX2_empty_29 : decode cX2_empty 29 = .ok (.getfield 31, 3) := by decide +kernel
theorem dX2_empty_32 : decode cX2_empty 32 = .ok (.iload_n 1, 1) := by decide +kernel
theorem dX2_empty_33 : decode cX2_empty 33 = .ok (.iconst (-1), 1) := by decide +kernel
theorem dX2_empty_34 : decode cX2_empty 34 = .ok (.iastore, 1) := by decide +kernel
theorem dX2_empty_35 : decode cX2_empty 35 = .ok (.iinc 1 1, 3) := by decide +kernel
theorem dX2_empty_38 : decode cX2_empty 38 = .ok (.goto (-16), 3) := by decide +kernel
theorem dX2_empty_41 : decode cX2_empty 41 = .ok (.return_, 1) := by decide +kernel
theorem dX2_become_0 : decode cX2_become 0 = .ok (.aload_n 0, 1) := by decide +kernel
theorem dX2_become_1 : decode cX2_become 1 = .ok (.aload_n 1, 1) := by decide +kernel
theorem dX2_become_2 : decode cX2_become 2 = .ok (.getfield 9, 3) := by decide +kernel
theorem dX2_become_5 : decode cX2_become 5 = .ok (.putfield 9, 3) := by decide +kernel
theorem dX2_become_8 : decode cX2_become 8 = .ok (.aload_n 0, 1) := by decide +kernel
theorem dX2_become_9 : decode cX2_become 9 = .ok (.aload_n 1, 1) := by decide +kernel
theorem dX2_become_10 : decode cX2_become 10 = .ok (.getfield 15, 3) := by decide +kernel
theorem dX2_become_13 : decode cX2_become 13 = .ok (.putfield 15, 3) := by decide +kernel
theorem dX2_become_16 : decode cX2_become 16 = .ok (.aload_n 0, 1) := by decide +kernel
theorem dX2_become_17 : decode cX2_become 17 = .ok (.aload_n 1, 1) := by decide +kernel
theorem dX2_become_18 : decode cX2_become 18 = .ok (.getfield 18, 3) := by decide +kernel
theorem dX2_become_21 : decode cX2_become 21 = .ok (.putfield 18, 3) := by decide +kernel
theorem dX2_become_24 : decode cX2_become 24 = .ok (.aload_n 0, 1) := by decide +kernel
theorem dX2_become_25 : decode cX2_become 25 = .ok (.aload_n 1, 1) := by decide +kernel
theorem dX2_become_26 : decode cX2_become 26 = .ok (.getfield 21, 3) := by decide +kernel
theorem dX2_become_29 : decode cX2_become 29 = .ok (.putfield 21, 3) := by decide +kernel
theorem dX2_become_32 : decode cX2_become 32 = .ok (.aload_n 1, 1) := by decide +kernel
theorem dX2_become_33 : decode cX2_become 33 = .ok (.getfield 24, 3) := by decide +kernel
theorem dX2_become_36 : decode cX2_become 36 = .ok (.iconst 0, 1) := by decide +kernel
theorem dX2_become_37 : decode cX2_become 37 = .ok (.aload_n 0, 1) := by decide +kernel
theorem dX2_become_38 : decode cX2_become 38 = .ok (.getfield 24, 3) := by decide +kernel
theorem dX2_become_41 : decode cX2_become 41 = .ok (.iconst 0, 1) := by decide +kernel
theorem dX2_become_42 : decode cX2_become 42 = .ok (.bipush 7, 2) := by decide +kernel
theorem dX2_become_44 : decode cX2_become 44 = .ok (.invokestatic 37, 3) := by decide +kernel
theorem dX2_become_47 : decode cX2_become 47 = .ok (.aload_n 1, 1) := by decide +kernel
theorem dX2_become_48 : decode cX2_become 48 = .ok (.getfield 28, 3) := by decide +kernel
theorem dX2_become_51 : decode cX2_become 51 = .ok (.iconst 0, 1) := by decide +kernel
theorem dX2_become_52 : decode cX2_become 52 = .ok (.aload_n 0, 1) := by decide +kernel
theorem dX2_become_53 : decode cX2_become 53 = .ok (.getfield 28, 3) := by decide +kernel
theorem dX2_become_56 : decode cX2_become 56 = .ok (.iconst 0, 1) := by decide +kernel
theorem dX2_become_57 : decode cX2_become 57 = .ok (.bipush 7, 2) := by decide +kernel
theorem dX2_become_59 : decode cX2_become 59 = .ok (.invokestatic 37, 3) := by decide +kernel
theorem dX2_become_62 : decode cX2_become 62 = .ok (.aload_n 1, 1) := by decide +kernel
theorem dX2_become_63 : decode cX2_become 63 = .ok (.getfield 31, 3) := by decide +kernel
theorem dX2_become_66 : decode cX2_become 66 = .ok (.iconst 0, 1) := by decide +kernel
theorem dX2_become_67 : decode cX2_become 67 = .ok (.aload_n 0, 1) := by decide +kernel
theorem dX2_become_68 : decode cX2_become 68 = .ok (.getfield 31, 3) := by decide +kernel
theorem dX2_become_71 : decode cX2_become 71 = .ok (.iconst 0, 1) := by decide +kernel
theorem dX2_become_72 : decode cX2_become 72 = .ok (.bipush 7, 2) := by decide +kernel
theorem dX2_become_74 : decode cX2_become 74 = .ok (.invokestatic 37, 3) := by decide +kernel
theorem dX2_become_77 : decode cX2_become 77 = .ok (.return_, 1) := by decide +kernel
theorem dX2_isOn_0 : decode cX2_isOn 0 = .ok (.aload_n 0, 1) := by decide +kernel
theorem dX2_isOn_1 : decode cX2_isOn 1 = .ok (.getfield 31, 3) := by decide +kernel
theorem dX2_isOn_4 : decode cX2_isOn 4 = .ok (.iload_n 1, 1) := by decide +kernel
theorem dX2_isOn_5 : decode cX2_isOn 5 = .ok (.iaload, 1) := by decide +kernel
theorem dX2_isOn_6 : decode cX2_isOn 6 = .ok (.ifCond .lt 20, 3) := by decide +kernel
theorem dX2_isOn_9 : decode cX2_isOn 9 = .ok (.aload_n 0, 1) := by decide +kernel
theorem dX2_isOn_10 : decode cX2_isOn 10 = .ok (.getfield 31, 3) := by decide +kernel
theorem dX2_isOn_13 : decode cX2_isOn 13 = .ok (.iload_n 1, 1) := by decide +kernel
theorem dX2_isOn_14 : decode cX2_isOn 14 = .ok (.iaload, 1) := by decide +kernel
theorem dX2_isOn_15 : decode cX2_isOn 15 = .ok (.aload_n 0, 1) := by decide +kernel
theorem dX2_isOn_16 : decode cX2_isOn 16 = .ok (.getfield 9, 3) := by decide +kernel
theorem dX2_isOn_19 : decode cX2_isOn 19 = .ok (.if_icmp .ge 7, 3) := by decide +kernel
theorem dX2_isOn_22 : decode cX2_isOn 22 = .ok (.iconst 1, 1) := by decide +kernel
theorem dX2_isOn_23 : decode cX2_isOn 23 = .ok (.goto 4, 3) := by decide +kernel
theorem dX2_isOn_26 : decode cX2_isOn 26 = .ok (.iconst 0, 1) := by decide +kernel
theorem dX2_isOn_27 : decode cX2_isOn 27 = .ok (.ireturn, 1) := by decide +kernel
theorem dX2_takesBoth_0 : decode cX2_takesBoth 0 = .ok (.aload_n 0, 1) := by decide +kernel
theorem dX2_takesBoth_1 : decode cX2_takesBoth 1 = .ok (.getfield 24, 3) := by decide +kernel
theorem dX2_takesBoth_4 : decode cX2_takesBoth 4 = .ok (.iload_n 1, 1) := by decide +kernel
theorem dX2_takesBoth_5 : decode cX2_takesBoth 5 = .ok (.iaload, 1) := by decide +kernel
theorem dX2_takesBoth_6 : decode cX2_takesBoth 6 = .ok (.iconst 4, 1) := by decide +kernel
theorem dX2_takesBoth_7 : decode cX2_takesBoth 7 = .ok (.if_icmp .lt 7, 3) := by decide +kernel
theorem dX2_takesBoth_10 : decode cX2_takesBoth 10 = .ok (.iconst 1, 1) := by decide +kernel
theorem dX2_takesBoth_11 : decode cX2_takesBoth 11 = .ok (.goto 4, 3) := by decide +kernel
theorem dX2_takesBoth_14 : decode cX2_takesBoth 14 = .ok (.iconst 0, 1) := by decide +kernel
theorem dX2_takesBoth_15 : decode cX2_takesBoth 15 = .ok (.ireturn, 1) := by decide +kernel
theorem dX2_isFree_0 : decode cX2_isFree 0 = .ok (.aload_n 0, 1) := by decide +kernel
theorem dX2_isFree_1 : decode cX2_isFree 1 = .ok (.getfield 24, 3) := by decide +kernel
theorem dX2_isFree_4 : decode cX2_isFree 4 = .ok (.iload_n 1, 1) := by decide +kernel
theorem dX2_isFree_5 : decode cX2_isFree 5 = .ok (.iaload, 1) := by decide +kernel
theorem dX2_isFree_6 : decode cX2_isFree 6 = .ok (.iconst 4, 1) := by decide +kernel
theorem dX2_isFree_7 : decode cX2_isFree 7 = .ok (.if_icmp .lt 7, 3) := by decide +kernel
theorem dX2_isFree_10 : decode cX2_isFree 10 = .ok (.iconst 1, 1) := by decide +kernel
theorem dX2_isFree_11 : decode cX2_isFree 11 = .ok (.goto 4, 3) := by decide +kernel
theorem dX2_isFree_14 : decode cX2_isFree 14 = .ok (.iconst 0, 1) := by decide +kernel
theorem dX2_isFree_15 : decode cX2_isFree 15 = .ok (.istore_n 3, 1) := by decide +kernel
theorem dX2_isFree_16 : decode cX2_isFree 16 = .ok (.iconst 0, 1) := by decide +kernel
theorem dX2_isFree_17 : decode cX2_isFree 17 = .ok (.istore 4, 2) := by decide +kernel
theorem dX2_isFree_19 : decode cX2_isFree 19 = .ok (.iload 4, 2) := by decide +kernel
theorem dX2_isFree_21 : decode cX2_isFree 21 = .ok (.aload_n 0, 1) := by decide +kernel
theorem dX2_isFree_22 : decode cX2_isFree 22 = .ok (.getfield 21, 3) := by decide +kernel
theorem dX2_isFree_25 : decode cX2_isFree 25 = .ok (.if_icmp .ge 59, 3) := by decide +kernel
theorem dX2_isFree_28 : decode cX2_isFree 28 = .ok (.iload 4, 2) := by decide +kernel
theorem dX2_isFree_30 : decode cX2_isFree 30 = .ok (.iload_n 1, 1) := by decide +kernel
theorem dX2_isFree_31 : decode cX2_isFree 31 = .ok (.if_icmp .eq 47, 3) := by decide +kernel
theorem dX2_isFree_34 : decode cX2_isFree 34 = .ok (.aload_n 0, 1) := by decide +kernel
theorem dX2_isFree_35 : decode cX2_isFree 35 = .ok (.getfield 31, 3) := by decide +kernel
theorem dX2_isFree_38 : decode cX2_isFree 38 = .ok (.iload 4, 2) := by decide +kernel
theorem dX2_isFree_40 : decode cX2_isFree 40 = .ok (.iaload, 1) := by decide +kernel
theorem dX2_isFree_41 : decode cX2_isFree 41 = .ok (.iload_n 2, 1) := by decide +kernel
theorem dX2_isFree_42 : decode cX2_isFree 42 = .ok (.if_icmp .ne 36, 3) := by decide +kernel
theorem dX2_isFree_45 : decode cX2_isFree 45 = .ok (.iload_n 3, 1) := by decide +kernel
theorem dX2_isFree_46 : decode cX2_isFree 46 = .ok (.ifCond .ne 30, 3) := by decide +kernel
theorem dX2_isFree_49 : decode cX2_isFree 49 = .ok (.aload_n 0, 1) := by decide +kernel
theorem dX2_isFree_50 : decode cX2_isFree 50 = .ok (.getfield 24, 3) := by decide +kernel
theorem dX2_isFree_53 : decode cX2_isFree 53 = .ok (.iload 4, 2) := by decide +kernel
theorem dX2_isFree_55 : decode cX2_isFree 55 = .ok (.iaload, 1) := by decide +kernel
theorem dX2_isFree_56 : decode cX2_isFree 56 = .ok (.iconst 4, 1) := by decide +kernel
theorem dX2_isFree_57 : decode cX2_isFree 57 = .ok (.if_icmp .ge 19, 3) := by decide +kernel
theorem dX2_isFree_60 : decode cX2_isFree 60 = .ok (.aload_n 0, 1) := by decide +kernel
theorem dX2_isFree_61 : decode cX2_isFree 61 = .ok (.getfield 28, 3) := by decide +kernel
theorem dX2_isFree_64 : decode cX2_isFree 64 = .ok (.iload 4, 2) := by decide +kernel
theorem dX2_isFree_66 : decode cX2_isFree 66 = .ok (.iaload, 1) := by decide +kernel
theorem dX2_isFree_67 : decode cX2_isFree 67 = .ok (.aload_n 0, 1) := by decide +kernel
theorem dX2_isFree_68 : decode cX2_isFree 68 = .ok (.getfield 28, 3) := by decide +kernel
theorem dX2_isFree_71 : decode cX2_isFree 71 = .ok (.iload_n 1, 1) := by decide +kernel
theorem dX2_isFree_72 : decode cX2_isFree 72 = .ok (.iaload, 1) := by decide +kernel
theorem dX2_isFree_73 : decode cX2_isFree 73 = .ok (.if_icmp .ne 5, 3) := by decide +kernel
theorem dX2_isFree_76 : decode cX2_isFree 76 = .ok (.iconst 0, 1) := by decide +kernel
theorem dX2_isFree_77 : decode cX2_isFree 77 = .ok (.ireturn, 1) := by decide +kernel
theorem dX2_isFree_78 : decode cX2_isFree 78 = .ok (.iinc 4 1, 3) := by decide +kernel
theorem dX2_isFree_81 : decode cX2_isFree 81 = .ok (.goto (-62), 3) := by decide +kernel
theorem dX2_isFree_84 : decode cX2_isFree 84 = .ok (.iconst 1, 1) := by decide +kernel
theorem dX2_isFree_85 : decode cX2_isFree 85 = .ok (.ireturn, 1) := by decide +kernel
theorem dX2_mayGo_0 : decode cX2_mayGo 0 = .ok (.iload_n 2, 1) := by decide +kernel
theorem dX2_mayGo_1 : decode cX2_mayGo 1 = .ok (.ifCond .lt 24, 3) := by decide +kernel
theorem dX2_mayGo_4 : decode cX2_mayGo 4 = .ok (.iload_n 2, 1) := by decide +kernel
theorem dX2_mayGo_5 : decode cX2_mayGo 5 = .ok (.aload_n 0, 1) := by decide +kernel
theorem dX2_mayGo_6 : decode cX2_mayGo 6 = .ok (.getfield 9, 3) := by decide +kernel
theorem dX2_mayGo_9 : decode cX2_mayGo 9 = .ok (.if_icmp .ge 16, 3) := by decide +kernel
theorem dX2_mayGo_12 : decode cX2_mayGo 12 = .ok (.aload_n 0, 1) := by decide +kernel
theorem dX2_mayGo_13 : decode cX2_mayGo 13 = .ok (.iload_n 1, 1) := by decide +kernel
theorem dX2_mayGo_14 : decode cX2_mayGo 14 = .ok (.iload_n 2, 1) := by decide +kernel
theorem dX2_mayGo_15 : decode cX2_mayGo 15 = .ok (.invokevirtual 43, 3) := by decide +kernel
theorem dX2_mayGo_18 : decode cX2_mayGo 18 = .ok (.ifCond .eq 7, 3) := by decide +kernel
theorem dX2_mayGo_21 : decode cX2_mayGo 21 = .ok (.iconst 1, 1) := by decide +kernel
theorem dX2_mayGo_22 : decode cX2_mayGo 22 = .ok (.goto 4, 3) := by decide +kernel
theorem dX2_mayGo_25 : decode cX2_mayGo 25 = .ok (.iconst 0, 1) := by decide +kernel
theorem dX2_mayGo_26 : decode cX2_mayGo 26 = .ok (.ireturn, 1) := by decide +kernel
theorem dX2_mayCross_0 : decode cX2_mayCross 0 = .ok (.aload_n 0, 1) := by decide +kernel
theorem dX2_mayCross_1 : decode cX2_mayCross 1 = .ok (.iload_n 1, 1) := by decide +kernel
theorem dX2_mayCross_2 : decode cX2_mayCross 2 = .ok (.invokevirtual 47, 3) := by decide +kernel
theorem dX2_mayCross_5 : decode cX2_mayCross 5 = .ok (.ifCond .eq 32, 3) := by decide +kernel
theorem dX2_mayCross_8 : decode cX2_mayCross 8 = .ok (.aload_n 0, 1) := by decide +kernel
theorem dX2_mayCross_9 : decode cX2_mayCross 9 = .ok (.iload_n 1, 1) := by decide +kernel
theorem dX2_mayCross_10 : decode cX2_mayCross 10 = .ok (.invokevirtual 51, 3) := by decide +kernel
theorem dX2_mayCross_13 : decode cX2_mayCross 13 = .ok (.ifCond .ne 24, 3) := by decide +kernel
theorem dX2_mayCross_16 : decode cX2_mayCross 16 = .ok (.aload_n 0, 1) := by decide +kernel
theorem dX2_mayCross_17 : decode cX2_mayCross 17 = .ok (.aload_n 0, 1) := by decide +kernel
theorem dX2_mayCross_18 : decode cX2_mayCross 18 = .ok (.getfield 31, 3) := by decide +kernel
theorem dX2_mayCross_21 : decode cX2_mayCross 21 = .ok (.iload_n 1, 1) := by decide +kernel
theorem dX2_mayCross_22 : decode cX2_mayCross 22 = .ok (.iaload, 1) := by decide +kernel
theorem dX2_mayCross_23 : decode cX2_mayCross 23 = .ok (.iconst 1, 1) := by decide +kernel
theorem dX2_mayCross_24 : decode cX2_mayCross 24 = .ok (.aload_n 0, 1) := by decide +kernel
theorem dX2_mayCross_25 : decode cX2_mayCross 25 = .ok (.getfield 28, 3) := by decide +kernel
theorem dX2_mayCross_28 : decode cX2_mayCross 28 = .ok (.iload_n 1, 1) := by decide +kernel
theorem dX2_mayCross_29 : decode cX2_mayCross 29 = .ok (.iaload, 1) := by decide +kernel
theorem dX2_mayCross_30 : decode cX2_mayCross 30 = .ok (.isub, 1) := by decide +kernel
theorem dX2_mayCross_31 : decode cX2_mayCross 31 = .ok (.invokevirtual 54, 3) := by decide +kernel
theorem dX2_mayCross_34 : decode cX2_mayCross 34 = .ok (.ifCond .ne 7, 3) := by decide +kernel
theorem dX2_mayCross_37 : decode cX2_mayCross 37 = .ok (.iconst 1, 1) := by decide +kernel
theorem dX2_mayCross_38 : decode cX2_mayCross 38 = .ok (.goto 4, 3) := by decide +kernel
theorem dX2_mayCross_41 : decode cX2_mayCross 41 = .ok (.iconst 0, 1) := by decide +kernel
theorem dX2_mayCross_42 : decode cX2_mayCross 42 = .ok (.ireturn, 1) := by decide +kernel
theorem dX2_whoTakes_0 : decode cX2_whoTakes 0 = .ok (.iconst 0, 1) := by decide +kernel
theorem dX2_whoTakes_1 : decode cX2_whoTakes 1 = .ok (.istore_n 3, 1) := by decide +kernel
theorem dX2_whoTakes_2 : decode cX2_whoTakes 2 = .ok (.iconst 0, 1) := by decide +kernel
theorem dX2_whoTakes_3 : decode cX2_whoTakes 3 = .ok (.istore 4, 2) := by decide +kernel
theorem dX2_whoTakes_5 : decode cX2_whoTakes 5 = .ok (.iload 4, 2) := by decide +kernel
theorem dX2_whoTakes_7 : decode cX2_whoTakes 7 = .ok (.aload_n 0, 1) := by decide +kernel
theorem dX2_whoTakes_8 : decode cX2_whoTakes 8 = .ok (.getfield 21, 3) := by decide +kernel
theorem dX2_whoTakes_11 : decode cX2_whoTakes 11 = .ok (.if_icmp .ge 47, 3) := by decide +kernel
theorem dX2_whoTakes_14 : decode cX2_whoTakes 14 = .ok (.aload_n 0, 1) := by decide +kernel
theorem dX2_whoTakes_15 : decode cX2_whoTakes 15 = .ok (.getfield 31, 3) := by decide +kernel
theorem dX2_whoTakes_18 : decode cX2_whoTakes 18 = .ok (.iload 4, 2) := by decide +kernel
theorem dX2_whoTakes_20 : decode cX2_whoTakes 20 = .ok (.iaload, 1) := by decide +kernel
theorem dX2_whoTakes_21 : decode cX2_whoTakes 21 = .ok (.iload_n 1, 1) := by decide +kernel
theorem dX2_whoTakes_22 : decode cX2_whoTakes 22 = .ok (.if_icmp .ne 30, 3) := by decide +kernel
theorem dX2_whoTakes_25 : decode cX2_whoTakes 25 = .ok (.aload_n 0, 1) := by decide +kernel
theorem dX2_whoTakes_26 : decode cX2_whoTakes 26 = .ok (.getfield 28, 3) := by decide +kernel
theorem dX2_whoTakes_29 : decode cX2_whoTakes 29 = .ok (.iload 4, 2) := by decide +kernel
theorem dX2_whoTakes_31 : decode cX2_whoTakes 31 = .ok (.iaload, 1) := by decide +kernel
theorem dX2_whoTakes_32 : decode cX2_whoTakes 32 = .ok (.iload_n 2, 1) := by decide +kernel
theorem dX2_whoTakes_33 : decode cX2_whoTakes 33 = .ok (.if_icmp .eq 12, 3) := by decide +kernel
theorem dX2_whoTakes_36 : decode cX2_whoTakes 36 = .ok (.aload_n 0, 1) := by decide +kernel
theorem dX2_whoTakes_37 : decode cX2_whoTakes 37 = .ok (.iload 4, 2) := by decide +kernel
theorem dX2_whoTakes_39 : decode cX2_whoTakes 39 = .ok (.invokevirtual 51, 3) := by decide +kernel
theorem dX2_whoTakes_42 : decode cX2_whoTakes 42 = .ok (.ifCond .eq 10, 3) := by decide +kernel
theorem dX2_whoTakes_45 : decode cX2_whoTakes 45 = .ok (.iload_n 3, 1) := by decide +kernel
theorem dX2_whoTakes_46 : decode cX2_whoTakes 46 = .ok (.iconst 1, 1) := by decide +kernel
theorem dX2_whoTakes_47 : decode cX2_whoTakes 47 = .ok (.iload 4, 2) := by decide +kernel
theorem dX2_whoTakes_49 : decode cX2_whoTakes 49 = .ok (.ishl, 1) := by decide +kernel
theorem dX2_whoTakes_50 : decode cX2_whoTakes 50 = .ok (.ior, 1) := by decide +kernel
theorem dX2_whoTakes_51 : decode cX2_whoTakes 51 = .ok (.istore_n 3, 1) := by decide +kernel
theorem dX2_whoTakes_52 : decode cX2_whoTakes 52 = .ok (.iinc 4 1, 3) := by decide +kernel
theorem dX2_whoTakes_55 : decode cX2_whoTakes 55 = .ok (.goto (-50), 3) := by decide +kernel
theorem dX2_whoTakes_58 : decode cX2_whoTakes 58 = .ok (.iload_n 3, 1) := by decide +kernel
theorem dX2_whoTakes_59 : decode cX2_whoTakes 59 = .ok (.ireturn, 1) := by decide +kernel
theorem dX2_whoIsAt_0 : decode cX2_whoIsAt 0 = .ok (.iconst 0, 1) := by decide +kernel
theorem dX2_whoIsAt_1 : decode cX2_whoIsAt 1 = .ok (.istore_n 2, 1) := by decide +kernel
theorem dX2_whoIsAt_2 : decode cX2_whoIsAt 2 = .ok (.iconst 0, 1) := by decide +kernel
theorem dX2_whoIsAt_3 : decode cX2_whoIsAt 3 = .ok (.istore_n 3, 1) := by decide +kernel
theorem dX2_whoIsAt_4 : decode cX2_whoIsAt 4 = .ok (.iload_n 3, 1) := by decide +kernel
theorem dX2_whoIsAt_5 : decode cX2_whoIsAt 5 = .ok (.aload_n 0, 1) := by decide +kernel
theorem dX2_whoIsAt_6 : decode cX2_whoIsAt 6 = .ok (.getfield 21, 3) := by decide +kernel
theorem dX2_whoIsAt_9 : decode cX2_whoIsAt 9 = .ok (.if_icmp .ge 25, 3) := by decide +kernel
theorem dX2_whoIsAt_12 : decode cX2_whoIsAt 12 = .ok (.aload_n 0, 1) := by decide +kernel
theorem dX2_whoIsAt_13 : decode cX2_whoIsAt 13 = .ok (.getfield 31, 3) := by decide +kernel
theorem dX2_whoIsAt_16 : decode cX2_whoIsAt 16 = .ok (.iload_n 3, 1) := by decide +kernel
theorem dX2_whoIsAt_17 : decode cX2_whoIsAt 17 = .ok (.iaload, 1) := by decide +kernel
theorem dX2_whoIsAt_18 : decode cX2_whoIsAt 18 = .ok (.iload_n 1, 1) := by decide +kernel
theorem dX2_whoIsAt_19 : decode cX2_whoIsAt 19 = .ok (.if_icmp .ne 9, 3) := by decide +kernel
theorem dX2_whoIsAt_22 : decode cX2_whoIsAt 22 = .ok (.iload_n 2, 1) := by decide +kernel
theorem dX2_whoIsAt_23 : decode cX2_whoIsAt 23 = .ok (.iconst 1, 1) := by decide +kernel
theorem dX2_whoIsAt_24 : decode cX2_whoIsAt 24 = .ok (.iload_n 3, 1) := by decide +kernel
theorem dX2_whoIsAt_25 : decode cX2_whoIsAt 25 = .ok (.ishl, 1) := by decide +kernel
theorem dX2_whoIsAt_26 : decode cX2_whoIsAt 26 = .ok (.ior, 1) := by decide +kernel
theorem dX2_whoIsAt_27 : decode cX2_whoIsAt 27 = .ok (.istore_n 2, 1) := by decide +kernel
theorem dX2_whoIsAt_28 : decode cX2_whoIsAt 28 = .ok (.iinc 3 1, 3) := by decide +kernel
theorem dX2_whoIsAt_31 : decode cX2_whoIsAt 31 = .ok (.goto (-27), 3) := by decide +kernel
theorem dX2_whoIsAt_34 : decode cX2_whoIsAt 34 = .ok (.iload_n 2, 1) := by decide +kernel
theorem dX2_whoIsAt_35 : decode cX2_whoIsAt 35 = .ok (.ireturn, 1) := by decide +kernel
theorem dX2_howManyAt_0 : decode cX2_howManyAt 0 = .ok (.aload_n 0, 1) := by decide +kernel
theorem dX2_howManyAt_1 : decode cX2_howManyAt 1 = .ok (.iload_n 1, 1) := by decide +kernel
theorem dX2_howManyAt_2 : decode cX2_howManyAt 2 = .ok (.invokevirtual 58, 3) := by decide +kernel
theorem dX2_howManyAt_5 : decode cX2_howManyAt 5 = .ok (.invokestatic 62, 3) := by decide +kernel
theorem dX2_howManyAt_8 : decode cX2_howManyAt 8 = .ok (.ireturn, 1) := by decide +kernel
theorem dX2_stepsTaken_0 : decode cX2_stepsTaken 0 = .ok (.iconst 0, 1) := by decide +kernel
theorem dX2_stepsTaken_1 : decode cX2_stepsTaken 1 = .ok (.istore_n 1, 1) := by decide +kernel
theorem dX2_stepsTaken_2 : decode cX2_stepsTaken 2 = .ok (.iconst 0, 1) := by decide +kernel
theorem dX2_stepsTaken_3 : decode cX2_stepsTaken 3 = .ok (.istore_n 2, 1) := by decide +kernel
theorem dX2_stepsTaken_4 : decode cX2_stepsTaken 4 = .ok (.iload_n 2, 1) := by decide +kernel
theorem dX2_stepsTaken_5 : decode cX2_stepsTaken 5 = .ok (.aload_n 0, 1) := by decide +kernel
theorem dX2_stepsTaken_6 : decode cX2_stepsTaken 6 = .ok (.getfield 21, 3) := by decide +kernel
theorem dX2_stepsTaken_9 : decode cX2_stepsTaken 9 = .ok (.if_icmp .ge 28, 3) := by decide +kernel
theorem dX2_stepsTaken_12 : decode cX2_stepsTaken 12 = .ok (.aload_n 0, 1) := by decide +kernel
theorem dX2_stepsTaken_13 : decode cX2_stepsTaken 13 = .ok (.iload_n 2, 1) := by decide +kernel
theorem dX2_stepsTaken_14 : decode cX2_stepsTaken 14 = .ok (.invokevirtual 47, 3) := by decide +kernel
theorem dX2_stepsTaken_17 : decode cX2_stepsTaken 17 = .ok (.ifCond .eq 14, 3) := by decide +kernel
theorem dX2_stepsTaken_20 : decode cX2_stepsTaken 20 = .ok (.iload_n 1, 1) := by decide +kernel
theorem dX2_stepsTaken_21 : decode cX2_stepsTaken 21 = .ok (.iconst 1, 1) := by decide +kernel
theorem dX2_stepsTaken_22 : decode cX2_stepsTaken 22 = .ok (.aload_n 0, 1) := by decide +kernel
theorem dX2_stepsTaken_23 : decode cX2_stepsTaken 23 = .ok (.getfield 31, 3) := by decide +kernel
theorem dX2_stepsTaken_26 : decode cX2_stepsTaken 26 = .ok (.iload_n 2, 1) := by decide +kernel
theorem dX2_stepsTaken_27 : decode cX2_stepsTaken 27 = .ok (.iaload, 1) := by decide +kernel
theorem dX2_stepsTaken_28 : decode cX2_stepsTaken 28 = .ok (.ishl, 1) := by decide +kernel
theorem dX2_stepsTaken_29 : decode cX2_stepsTaken 29 = .ok (.ior, 1) := by decide +kernel
theorem dX2_stepsTaken_30 : decode cX2_stepsTaken 30 = .ok (.istore_n 1, 1) := by decide +kernel
theorem dX2_stepsTaken_31 : decode cX2_stepsTaken 31 = .ok (.iinc 2 1, 3) := by decide +kernel
theorem dX2_stepsTaken_34 : decode cX2_stepsTaken 34 = .ok (.goto (-30), 3) := by decide +kernel
theorem dX2_stepsTaken_37 : decode cX2_stepsTaken 37 = .ok (.iload_n 1, 1) := by decide +kernel
theorem dX2_stepsTaken_38 : decode cX2_stepsTaken 38 = .ok (.ireturn, 1) := by decide +kernel
theorem dX2_isClear_0 : decode cX2_isClear 0 = .ok (.aload_n 0, 1) := by decide +kernel
theorem dX2_isClear_1 : decode cX2_isClear 1 = .ok (.bipush 99, 2) := by decide +kernel
theorem dX2_isClear_3 : decode cX2_isClear 3 = .ok (.invokevirtual 67, 3) := by decide +kernel
theorem dX2_isClear_6 : decode cX2_isClear 6 = .ok (.aload_n 0, 1) := by decide +kernel
theorem dX2_isClear_7 : decode cX2_isClear 7 = .ok (.getfield 21, 3) := by decide +kernel
theorem dX2_isClear_10 : decode cX2_isClear 10 = .ok (.if_icmp .ne 7, 3) := by decide +kernel
theorem dX2_isClear_13 : decode cX2_isClear 13 = .ok (.iconst 1, 1) := by decide +kernel
theorem dX2_isClear_14 : decode cX2_isClear 14 = .ok (.goto 4, 3) := by decide +kernel
theorem dX2_isClear_17 : decode cX2_isClear 17 = .ok (.iconst 0, 1) := by decide +kernel
theorem dX2_isClear_18 : decode cX2_isClear 18 = .ok (.ireturn, 1) := by decide +kernel
theorem dX2_sendBack_0 : decode cX2_sendBack 0 = .ok (.aload_n 0, 1) := by decide +kernel
theorem dX2_sendBack_1 : decode cX2_sendBack 1 = .ok (.getfield 31, 3) := by decide +kernel
theorem dX2_sendBack_4 : decode cX2_sendBack 4 = .ok (.iload_n 1, 1) := by decide +kernel
theorem dX2_sendBack_5 : decode cX2_sendBack 5 = .ok (.iconst (-1), 1) := by decide +kernel
theorem dX2_sendBack_6 : decode cX2_sendBack 6 = .ok (.iastore, 1) := by decide +kernel
theorem dX2_sendBack_7 : decode cX2_sendBack 7 = .ok (.aload_n 0, 1) := by decide +kernel
theorem dX2_sendBack_8 : decode cX2_sendBack 8 = .ok (.getfield 28, 3) := by decide +kernel
theorem dX2_sendBack_11 : decode cX2_sendBack 11 = .ok (.iload_n 1, 1) := by decide +kernel
theorem dX2_sendBack_12 : decode cX2_sendBack 12 = .ok (.iload_n 2, 1) := by decide +kernel
theorem dX2_sendBack_13 : decode cX2_sendBack 13 = .ok (.iastore, 1) := by decide +kernel
theorem dX2_sendBack_14 : decode cX2_sendBack 14 = .ok (.return_, 1) := by decide +kernel
theorem dX2_putInLanes_0 : decode cX2_putInLanes 0 = .ok (.iconst 0, 1) := by decide +kernel
theorem dX2_putInLanes_1 : decode cX2_putInLanes 1 = .ok (.istore_n 3, 1) := by decide +kernel
theorem dX2_putInLanes_2 : decode cX2_putInLanes 2 = .ok (.iload_n 3, 1) := by decide +kernel
theorem dX2_putInLanes_3 : decode cX2_putInLanes 3 = .ok (.aload_n 0, 1) := by decide +kernel
theorem dX2_putInLanes_4 : decode cX2_putInLanes 4 = .ok (.getfield 21, 3) := by decide +kernel
theorem dX2_putInLanes_7 : decode cX2_putInLanes 7 = .ok (.if_icmp .ge 29, 3) := by decide +kernel
theorem dX2_putInLanes_10 : decode cX2_putInLanes 10 = .ok (.iload_n 1, 1) := by decide +kernel
theorem dX2_putInLanes_11 : decode cX2_putInLanes 11 = .ok (.iload_n 3, 1) := by decide +kernel
theorem dX2_putInLanes_12 : decode cX2_putInLanes 12 = .ok (.ishr, 1) := by decide +kernel
theorem dX2_putInLanes_13 : decode cX2_putInLanes 13 = .ok (.iconst 1, 1) := by decide +kernel
theorem dX2_putInLanes_14 : decode cX2_putInLanes 14 = .ok (.iand, 1) := by decide +kernel
theorem dX2_putInLanes_15 : decode cX2_putInLanes 15 = .ok (.iconst 1, 1) := by decide +kernel
theorem dX2_putInLanes_16 : decode cX2_putInLanes 16 = .ok (.if_icmp .ne 14, 3) := by decide +kernel
theorem dX2_putInLanes_19 : decode cX2_putInLanes 19 = .ok (.aload_n 0, 1) := by decide +kernel
theorem dX2_putInLanes_20 : decode cX2_putInLanes 20 = .ok (.getfield 28, 3) := by decide +kernel
theorem dX2_putInLanes_23 : decode cX2_putInLanes 23 = .ok (.iload_n 3, 1) := by decide +kernel
theorem dX2_putInLanes_24 : decode cX2_putInLanes 24 = .ok (.iload_n 2, 1) := by decide +kernel
theorem dX2_putInLanes_25 : decode cX2_putInLanes 25 = .ok (.iload_n 3, 1) := by decide +kernel
theorem dX2_putInLanes_26 : decode cX2_putInLanes 26 = .ok (.ishr, 1) := by decide +kernel
theorem dX2_putInLanes_27 : decode cX2_putInLanes 27 = .ok (.iconst 1, 1) := by decide +kernel
theorem dX2_putInLanes_28 : decode cX2_putInLanes 28 = .ok (.iand, 1) := by decide +kernel
theorem dX2_putInLanes_29 : decode cX2_putInLanes 29 = .ok (.iastore, 1) := by decide +kernel
theorem dX2_putInLanes_30 : decode cX2_putInLanes 30 = .ok (.iinc 3 1, 3) := by decide +kernel
theorem dX2_putInLanes_33 : decode cX2_putInLanes 33 = .ok (.goto (-31), 3) := by decide +kernel
theorem dX2_putInLanes_36 : decode cX2_putInLanes 36 = .ok (.return_, 1) := by decide +kernel
theorem dX2_takeOff_0 : decode cX2_takeOff 0 = .ok (.iconst 0, 1) := by decide +kernel
theorem dX2_takeOff_1 : decode cX2_takeOff 1 = .ok (.istore_n 2, 1) := by decide +kernel
theorem dX2_takeOff_2 : decode cX2_takeOff 2 = .ok (.iload_n 2, 1) := by decide +kernel
theorem dX2_takeOff_3 : decode cX2_takeOff 3 = .ok (.aload_n 0, 1) := by decide +kernel
theorem dX2_takeOff_4 : decode cX2_takeOff 4 = .ok (.getfield 21, 3) := by decide +kernel
theorem dX2_takeOff_7 : decode cX2_takeOff 7 = .ok (.if_icmp .ge 26, 3) := by decide +kernel
theorem dX2_takeOff_10 : decode cX2_takeOff 10 = .ok (.iload_n 1, 1) := by decide +kernel
theorem dX2_takeOff_11 : decode cX2_takeOff 11 = .ok (.iload_n 2, 1) := by decide +kernel
theorem dX2_takeOff_12 : decode cX2_takeOff 12 = .ok (.ishr, 1) := by decide +kernel
theorem dX2_takeOff_13 : decode cX2_takeOff 13 = .ok (.iconst 1, 1) := by decide +kernel
theorem dX2_takeOff_14 : decode cX2_takeOff 14 = .ok (.iand, 1) := by decide +kernel
theorem dX2_takeOff_15 : decode cX2_takeOff 15 = .ok (.iconst 1, 1) := by decide +kernel
theorem dX2_takeOff_16 : decode cX2_takeOff 16 = .ok (.if_icmp .ne 11, 3) := by decide +kernel
theorem dX2_takeOff_19 : decode cX2_takeOff 19 = .ok (.aload_n 0, 1) := by decide +kernel
theorem dX2_takeOff_20 : decode cX2_takeOff 20 = .ok (.getfield 31, 3) := by decide +kernel
theorem dX2_takeOff_23 : decode cX2_takeOff 23 = .ok (.iload_n 2, 1) := by decide +kernel
theorem dX2_takeOff_24 : decode cX2_takeOff 24 = .ok (.bipush 99, 2) := by decide +kernel
theorem dX2_takeOff_26 : decode cX2_takeOff 26 = .ok (.iastore, 1) := by decide +kernel
theorem dX2_takeOff_27 : decode cX2_takeOff 27 = .ok (.iinc 2 1, 3) := by decide +kernel
theorem dX2_takeOff_30 : decode cX2_takeOff 30 = .ok (.goto (-28), 3) := by decide +kernel
theorem dX2_takeOff_33 : decode cX2_takeOff 33 = .ok (.return_, 1) := by decide +kernel
theorem dX2_draw_0 : decode cX2_draw 0 = .ok (.aload_n 0, 1) := by decide +kernel
theorem dX2_draw_1 : decode cX2_draw 1 = .ok (.getfield 21, 3) := by decide +kernel
theorem dX2_draw_4 : decode cX2_draw 4 = .ok (.ifCond .ne 4, 3) := by decide +kernel
theorem dX2_draw_7 : decode cX2_draw 7 = .ok (.return_, 1) := by decide +kernel
theorem dX2_draw_8 : decode cX2_draw 8 = .ok (.iload_n 1, 1) := by decide +kernel
theorem dX2_draw_9 : decode cX2_draw 9 = .ok (.iconst 4, 1) := by decide +kernel
theorem dX2_draw_10 : decode cX2_draw 10 = .ok (.irem, 1) := by decide +kernel
theorem dX2_draw_11 : decode cX2_draw 11 = .ok (.ifCond .ne 10, 3) := by decide +kernel
theorem dX2_draw_14 : decode cX2_draw 14 = .ok (.aload_n 0, 1) := by decide +kernel
theorem dX2_draw_15 : decode cX2_draw 15 = .ok (.iload_n 1, 1) := by decide +kernel
theorem dX2_draw_16 : decode cX2_draw 16 = .ok (.iconst 3, 1) := by decide +kernel
theorem dX2_draw_17 : decode cX2_draw 17 = .ok (.irem, 1) := by decide +kernel
theorem dX2_draw_18 : decode cX2_draw 18 = .ok (.putfield 15, 3) := by decide +kernel
theorem dX2_draw_21 : decode cX2_draw 21 = .ok (.aload_n 0, 1) := by decide +kernel
theorem dX2_draw_22 : decode cX2_draw 22 = .ok (.getfield 31, 3) := by decide +kernel
theorem dX2_draw_25 : decode cX2_draw 25 = .ok (.iload_n 1, 1) := by decide +kernel
theorem dX2_draw_26 : decode cX2_draw 26 = .ok (.aload_n 0, 1) := by decide +kernel
theorem dX2_draw_27 : decode cX2_draw 27 = .ok (.getfield 21, 3) := by decide +kernel
theorem dX2_draw_30 : decode cX2_draw 30 = .ok (.irem, 1) := by decide +kernel
theorem dX2_draw_31 : decode cX2_draw 31 = .ok (.iaload, 1) := by decide +kernel
theorem dX2_draw_32 : decode cX2_draw 32 = .ok (.bipush 99, 2) := by decide +kernel
theorem dX2_draw_34 : decode cX2_draw 34 = .ok (.if_icmp .ne 16, 3) := by decide +kernel
theorem dX2_draw_37 : decode cX2_draw 37 = .ok (.aload_n 0, 1) := by decide +kernel
theorem dX2_draw_38 : decode cX2_draw 38 = .ok (.iload_n 1, 1) := by decide +kernel
theorem dX2_draw_39 : decode cX2_draw 39 = .ok (.aload_n 0, 1) := by decide +kernel
theorem dX2_draw_40 : decode cX2_draw 40 = .ok (.getfield 21, 3) := by decide +kernel
theorem dX2_draw_43 : decode cX2_draw 43 = .ok (.irem, 1) := by decide +kernel
theorem dX2_draw_44 : decode cX2_draw 44 = .ok (.iload_n 1, 1) := by decide +kernel
theorem dX2_draw_45 : decode cX2_draw 45 = .ok (.iconst 2, 1) := by decide +kernel
theorem dX2_draw_46 : decode cX2_draw 46 = .ok (.irem, 1) := by decide +kernel
theorem dX2_draw_47 : decode cX2_draw 47 = .ok (.invokevirtual 70, 3) := by decide +kernel
theorem dX2_draw_50 : decode cX2_draw 50 = .ok (.return_, 1) := by decide +kernel
theorem dX2_pass_0 : decode cX2_pass 0 = .ok (.aload_n 0, 1) := by decide +kernel
theorem dX2_pass_1 : decode cX2_pass 1 = .ok (.invokevirtual 74, 3) := by decide +kernel
theorem dX2_pass_4 : decode cX2_pass 4 = .ok (.iconst 0, 1) := by decide +kernel
theorem dX2_pass_5 : decode cX2_pass 5 = .ok (.istore_n 1, 1) := by decide +kernel
theorem dX2_pass_6 : decode cX2_pass 6 = .ok (.iload_n 1, 1) := by decide +kernel
theorem dX2_pass_7 : decode cX2_pass 7 = .ok (.aload_n 0, 1) := by decide +kernel
theorem dX2_pass_8 : decode cX2_pass 8 = .ok (.getfield 21, 3) := by decide +kernel
theorem dX2_pass_11 : decode cX2_pass 11 = .ok (.if_icmp .ge 35, 3) := by decide +kernel
theorem dX2_pass_14 : decode cX2_pass 14 = .ok (.aload_n 0, 1) := by decide +kernel
theorem dX2_pass_15 : decode cX2_pass 15 = .ok (.invokevirtual 77, 3) := by decide +kernel
theorem dX2_pass_18 : decode cX2_pass 18 = .ok (.istore_n 2, 1) := by decide +kernel
theorem dX2_pass_19 : decode cX2_pass 19 = .ok (.iload_n 2, 1) := by decide +kernel
theorem dX2_pass_20 : decode cX2_pass 20 = .ok (.ldc 81, 2) := by decide +kernel
theorem dX2_pass_22 : decode cX2_pass 22 = .ok (.if_icmp .ne 6, 3) := by decide +kernel
theorem dX2_pass_25 : decode cX2_pass 25 = .ok (.goto 21, 3) := by decide +kernel
theorem dX2_pass_28 : decode cX2_pass 28 = .ok (.aload_n 0, 1) := by decide +kernel
theorem dX2_pass_29 : decode cX2_pass 29 = .ok (.getfield 34, 3) := by decide +kernel
theorem dX2_pass_32 : decode cX2_pass 32 = .ok (.iload_n 2, 1) := by decide +kernel
theorem dX2_pass_33 : decode cX2_pass 33 = .ok (.iconst (-1), 1) := by decide +kernel
theorem dX2_pass_34 : decode cX2_pass 34 = .ok (.iastore, 1) := by decide +kernel
theorem dX2_pass_35 : decode cX2_pass 35 = .ok (.aload_n 0, 1) := by decide +kernel
theorem dX2_pass_36 : decode cX2_pass 36 = .ok (.iload_n 2, 1) := by decide +kernel
theorem dX2_pass_37 : decode cX2_pass 37 = .ok (.invokevirtual 82, 3) := by decide +kernel
theorem dX2_pass_40 : decode cX2_pass 40 = .ok (.iinc 1 1, 3) := by decide +kernel
theorem dX2_pass_43 : decode cX2_pass 43 = .ok (.goto (-37), 3) := by decide +kernel
theorem dX2_pass_46 : decode cX2_pass 46 = .ok (.aload_n 0, 1) := by decide +kernel
theorem dX2_pass_47 : decode cX2_pass 47 = .ok (.invokevirtual 86, 3) := by decide +kernel
theorem dX2_pass_50 : decode cX2_pass 50 = .ok (.istore_n 1, 1) := by decide +kernel
theorem dX2_pass_51 : decode cX2_pass 51 = .ok (.aload_n 0, 1) := by decide +kernel
theorem dX2_pass_52 : decode cX2_pass 52 = .ok (.invokevirtual 89, 3) := by decide +kernel
theorem dX2_pass_55 : decode cX2_pass 55 = .ok (.aload_n 0, 1) := by decide +kernel
theorem dX2_pass_56 : decode cX2_pass 56 = .ok (.dup, 1) := by decide +kernel
theorem dX2_pass_57 : decode cX2_pass 57 = .ok (.getfield 18, 3) := by decide +kernel
theorem dX2_pass_60 : decode cX2_pass 60 = .ok (.iconst 1, 1) := by decide +kernel
theorem dX2_pass_61 : decode cX2_pass 61 = .ok (.iadd, 1) := by decide +kernel
theorem dX2_pass_62 : decode cX2_pass 62 = .ok (.putfield 18, 3) := by decide +kernel
theorem dX2_pass_65 : decode cX2_pass 65 = .ok (.iload_n 1, 1) := by decide +kernel
theorem dX2_pass_66 : decode cX2_pass 66 = .ok (.ireturn, 1) := by decide +kernel
theorem dX2_giveTurns_0 : decode cX2_giveTurns 0 = .ok (.iconst 0, 1) := by decide +kernel
theorem dX2_giveTurns_1 : decode cX2_giveTurns 1 = .ok (.istore_n 1, 1) := by decide +kernel
theorem dX2_giveTurns_2 : decode cX2_giveTurns 2 = .ok (.iload_n 1, 1) := by decide +kernel
theorem dX2_giveTurns_3 : decode cX2_giveTurns 3 = .ok (.aload_n 0, 1) := by decide +kernel
theorem dX2_giveTurns_4 : decode cX2_giveTurns 4 = .ok (.getfield 21, 3) := by decide +kernel
theorem dX2_giveTurns_7 : decode cX2_giveTurns 7 = .ok (.if_icmp .ge 53, 3) := by decide +kernel
theorem dX2_giveTurns_10 : decode cX2_giveTurns 10 = .ok (.aload_n 0, 1) := by decide +kernel
theorem dX2_giveTurns_11 : decode cX2_giveTurns 11 = .ok (.getfield 34, 3) := by decide +kernel
theorem dX2_giveTurns_14 : decode cX2_giveTurns 14 = .ok (.iload_n 1, 1) := by decide +kernel
theorem dX2_giveTurns_15 : decode cX2_giveTurns 15 = .ok (.aload_n 0, 1) := by decide +kernel
theorem dX2_giveTurns_16 : decode cX2_giveTurns 16 = .ok (.iload_n 1, 1) := by decide +kernel
theorem dX2_giveTurns_17 : decode cX2_giveTurns 17 = .ok (.invokevirtual 92, 3) := by decide +kernel
theorem dX2_giveTurns_20 : decode cX2_giveTurns 20 = .ok (.ifCond .eq 32, 3) := by decide +kernel
theorem dX2_giveTurns_23 : decode cX2_giveTurns 23 = .ok (.aload_n 0, 1) := by decide +kernel
theorem dX2_giveTurns_24 : decode cX2_giveTurns 24 = .ok (.getfield 31, 3) := by decide +kernel
theorem dX2_giveTurns_27 : decode cX2_giveTurns 27 = .ok (.iload_n 1, 1) := by decide +kernel
theorem dX2_giveTurns_28 : decode cX2_giveTurns 28 = .ok (.iaload, 1) := by decide +kernel
theorem dX2_giveTurns_29 : decode cX2_giveTurns 29 = .ok (.bipush 16, 2) := by decide +kernel
theorem dX2_giveTurns_31 : decode cX2_giveTurns 31 = .ok (.imul, 1) := by decide +kernel
theorem dX2_giveTurns_32 : decode cX2_giveTurns 32 = .ok (.iconst 1, 1) := by decide +kernel
theorem dX2_giveTurns_33 : decode cX2_giveTurns 33 = .ok (.aload_n 0, 1) := by decide +kernel
theorem dX2_giveTurns_34 : decode cX2_giveTurns 34 = .ok (.getfield 28, 3) := by decide +kernel
theorem dX2_giveTurns_37 : decode cX2_giveTurns 37 = .ok (.iload_n 1, 1) := by decide +kernel
theorem dX2_giveTurns_38 : decode cX2_giveTurns 38 = .ok (.iaload, 1) := by decide +kernel
theorem dX2_giveTurns_39 : decode cX2_giveTurns 39 = .ok (.isub, 1) := by decide +kernel
theorem dX2_giveTurns_40 : decode cX2_giveTurns 40 = .ok (.bipush 8, 2) := by decide +kernel
theorem dX2_giveTurns_42 : decode cX2_giveTurns 42 = .ok (.imul, 1) := by decide +kernel
theorem dX2_giveTurns_43 : decode cX2_giveTurns 43 = .ok (.iadd, 1) := by decide +kernel
theorem dX2_giveTurns_44 : decode cX2_giveTurns 44 = .ok (.bipush 7, 2) := by decide +kernel
theorem dX2_giveTurns_46 : decode cX2_giveTurns 46 = .ok (.iadd, 1) := by decide +kernel
theorem dX2_giveTurns_47 : decode cX2_giveTurns 47 = .ok (.iload_n 1, 1) := by decide +kernel
theorem dX2_giveTurns_48 : decode cX2_giveTurns 48 = .ok (.isub, 1) := by decide +kernel
theorem dX2_giveTurns_49 : decode cX2_giveTurns 49 = .ok (.goto 4, 3) := by decide +kernel
theorem dX2_giveTurns_52 : decode cX2_giveTurns 52 = .ok (.iconst (-1), 1) := by decide +kernel
theorem dX2_giveTurns_53 : decode cX2_giveTurns 53 = .ok (.iastore, 1) := by decide +kernel
theorem dX2_giveTurns_54 : decode cX2_giveTurns 54 = .ok (.iinc 1 1, 3) := by decide +kernel
theorem dX2_giveTurns_57 : decode cX2_giveTurns 57 = .ok (.goto (-55), 3) := by decide +kernel
theorem dX2_giveTurns_60 : decode cX2_giveTurns 60 = .ok (.return_, 1) := by decide +kernel
theorem dX2_goes_0 : decode cX2_goes 0 = .ok (.aload_n 0, 1) := by decide +kernel
theorem dX2_goes_1 : decode cX2_goes 1 = .ok (.iload_n 1, 1) := by decide +kernel
theorem dX2_goes_2 : decode cX2_goes 2 = .ok (.invokevirtual 47, 3) := by decide +kernel
theorem dX2_goes_5 : decode cX2_goes 5 = .ok (.ifCond .ne 5, 3) := by decide +kernel
theorem dX2_goes_8 : decode cX2_goes 8 = .ok (.iconst 0, 1) := by decide +kernel
theorem dX2_goes_9 : decode cX2_goes 9 = .ok (.ireturn, 1) := by decide +kernel
theorem dX2_goes_10 : decode cX2_goes 10 = .ok (.aload_n 0, 1) := by decide +kernel
theorem dX2_goes_11 : decode cX2_goes 11 = .ok (.getfield 24, 3) := by decide +kernel
theorem dX2_goes_14 : decode cX2_goes 14 = .ok (.iload_n 1, 1) := by decide +kernel
theorem dX2_goes_15 : decode cX2_goes 15 = .ok (.iaload, 1) := by decide +kernel
theorem dX2_goes_16 : decode cX2_goes 16 = .ok (.istore_n 2, 1) := by decide +kernel
theorem dX2_goes_17 : decode cX2_goes 17 = .ok (.iload_n 2, 1) := by decide +kernel
theorem dX2_goes_18 : decode cX2_goes 18 = .ok (.iconst 2, 1) := by decide +kernel
theorem dX2_goes_19 : decode cX2_goes 19 = .ok (.if_icmp .eq 23, 3) := by decide +kernel
theorem dX2_goes_22 : decode cX2_goes 22 = .ok (.iload_n 2, 1) := by decide +kernel
theorem dX2_goes_23 : decode cX2_goes 23 = .ok (.iconst 3, 1) := by decide +kernel
theorem dX2_goes_24 : decode cX2_goes 24 = .ok (.if_icmp .eq 18, 3) := by decide +kernel
theorem dX2_goes_27 : decode cX2_goes 27 = .ok (.iload_n 2, 1) := by decide +kernel
theorem dX2_goes_28 : decode cX2_goes 28 = .ok (.iconst 5, 1) := by decide +kernel
theorem dX2_goes_29 : decode cX2_goes 29 = .ok (.if_icmp .ne 17, 3) := by decide +kernel
theorem dX2_goes_32 : decode cX2_goes 32 = .ok (.aload_n 0, 1) := by decide +kernel
theorem dX2_goes_33 : decode cX2_goes 33 = .ok (.getfield 18, 3) := by decide +kernel
theorem dX2_goes_36 : decode cX2_goes 36 = .ok (.iconst 2, 1) := by decide +kernel
theorem dX2_goes_37 : decode cX2_goes 37 = .ok (.irem, 1) := by decide +kernel
theorem dX2_goes_38 : decode cX2_goes 38 = .ok (.iconst 1, 1) := by decide +kernel
theorem dX2_goes_39 : decode cX2_goes 39 = .ok (.if_icmp .ne 7, 3) := by decide +kernel
theorem dX2_goes_42 : decode cX2_goes 42 = .ok (.iconst 1, 1) := by decide +kernel
theorem dX2_goes_43 : decode cX2_goes 43 = .ok (.goto 4, 3) := by decide +kernel
theorem dX2_goes_46 : decode cX2_goes 46 = .ok (.iconst 0, 1) := by decide +kernel
theorem dX2_goes_47 : decode cX2_goes 47 = .ok (.ireturn, 1) := by decide +kernel
theorem dX2_nextInTurn_0 : decode cX2_nextInTurn 0 = .ok (.ldc 81, 2) := by decide +kernel
theorem dX2_nextInTurn_2 : decode cX2_nextInTurn 2 = .ok (.istore_n 1, 1) := by decide +kernel
theorem dX2_nextInTurn_3 : decode cX2_nextInTurn 3 = .ok (.iconst (-1), 1) := by decide +kernel
theorem dX2_nextInTurn_4 : decode cX2_nextInTurn 4 = .ok (.istore_n 2, 1) := by decide +kernel
theorem dX2_nextInTurn_5 : decode cX2_nextInTurn 5 = .ok (.iconst 0, 1) := by decide +kernel
theorem dX2_nextInTurn_6 : decode cX2_nextInTurn 6 = .ok (.istore_n 3, 1) := by decide +kernel
theorem dX2_nextInTurn_7 : decode cX2_nextInTurn 7 = .ok (.iload_n 3, 1) := by decide +kernel
theorem dX2_nextInTurn_8 : decode cX2_nextInTurn 8 = .ok (.aload_n 0, 1) := by decide +kernel
theorem dX2_nextInTurn_9 : decode cX2_nextInTurn 9 = .ok (.getfield 21, 3) := by decide +kernel
theorem dX2_nextInTurn_12 : decode cX2_nextInTurn 12 = .ok (.if_icmp .ge 28, 3) := by decide +kernel
theorem dX2_nextInTurn_15 : decode cX2_nextInTurn 15 = .ok (.aload_n 0, 1) := by decide +kernel
theorem dX2_nextInTurn_16 : decode cX2_nextInTurn 16 = .ok (.getfield 34, 3) := by decide +kernel
theorem dX2_nextInTurn_19 : decode cX2_nextInTurn 19 = .ok (.iload_n 3, 1) := by decide +kernel
theorem dX2_nextInTurn_20 : decode cX2_nextInTurn 20 = .ok (.iaload, 1) := by decide +kernel
theorem dX2_nextInTurn_21 : decode cX2_nextInTurn 21 = .ok (.iload_n 2, 1) := by decide +kernel
theorem dX2_nextInTurn_22 : decode cX2_nextInTurn 22 = .ok (.if_icmp .le 12, 3) := by decide +kernel
theorem dX2_nextInTurn_25 : decode cX2_nextInTurn 25 = .ok (.aload_n 0, 1) := by decide +kernel
theorem dX2_nextInTurn_26 : decode cX2_nextInTurn 26 = .ok (.getfield 34, 3) := by decide +kernel
theorem dX2_nextInTurn_29 : decode cX2_nextInTurn 29 = .ok (.iload_n 3, 1) := by decide +kernel
theorem dX2_nextInTurn_30 : decode cX2_nextInTurn 30 = .ok (.iaload, 1) := by decide +kernel
theorem dX2_nextInTurn_31 : decode cX2_nextInTurn 31 = .ok (.istore_n 2, 1) := by decide +kernel
theorem dX2_nextInTurn_32 : decode cX2_nextInTurn 32 = .ok (.iload_n 3, 1) := by decide +kernel
theorem dX2_nextInTurn_33 : decode cX2_nextInTurn 33 = .ok (.istore_n 1, 1) := by decide +kernel
theorem dX2_nextInTurn_34 : decode cX2_nextInTurn 34 = .ok (.iinc 3 1, 3) := by decide +kernel
theorem dX2_nextInTurn_37 : decode cX2_nextInTurn 37 = .ok (.goto (-30), 3) := by decide +kernel
theorem dX2_nextInTurn_40 : decode cX2_nextInTurn 40 = .ok (.iload_n 1, 1) := by decide +kernel
theorem dX2_nextInTurn_41 : decode cX2_nextInTurn 41 = .ok (.ireturn, 1) := by decide +kernel
theorem dX2_go_0 : decode cX2_go 0 = .ok (.aload_n 0, 1) := by decide +kernel
theorem dX2_go_1 : decode cX2_go 1 = .ok (.getfield 24, 3) := by decide +kernel
theorem dX2_go_4 : decode cX2_go 4 = .ok (.iload_n 1, 1) := by decide +kernel
theorem dX2_go_5 : decode cX2_go 5 = .ok (.iaload, 1) := by decide +kernel
theorem dX2_go_6 : decode cX2_go 6 = .ok (.iconst 5, 1) := by decide +kernel
theorem dX2_go_7 : decode cX2_go 7 = .ok (.if_icmp .ne 7, 3) := by decide +kernel
theorem dX2_go_10 : decode cX2_go 10 = .ok (.iconst (-1), 1) := by decide +kernel
theorem dX2_go_11 : decode cX2_go 11 = .ok (.goto 4, 3) := by decide +kernel
theorem dX2_go_14 : decode cX2_go 14 = .ok (.iconst 1, 1) := by decide +kernel
theorem dX2_go_15 : decode cX2_go 15 = .ok (.istore_n 2, 1) := by decide +kernel
theorem dX2_go_16 : decode cX2_go 16 = .ok (.aload_n 0, 1) := by decide +kernel
theorem dX2_go_17 : decode cX2_go 17 = .ok (.getfield 24, 3) := by decide +kernel
theorem dX2_go_20 : decode cX2_go 20 = .ok (.iload_n 1, 1) := by decide +kernel
theorem dX2_go_21 : decode cX2_go 21 = .ok (.iaload, 1) := by decide +kernel
theorem dX2_go_22 : decode cX2_go 22 = .ok (.iconst 3, 1) := by decide +kernel
theorem dX2_go_23 : decode cX2_go 23 = .ok (.if_icmp .ne 7, 3) := by decide +kernel
theorem dX2_go_26 : decode cX2_go 26 = .ok (.iconst 2, 1) := by decide +kernel
theorem dX2_go_27 : decode cX2_go 27 = .ok (.goto 4, 3) := by decide +kernel
theorem dX2_go_30 : decode cX2_go 30 = .ok (.iconst 1, 1) := by decide +kernel
theorem dX2_go_31 : decode cX2_go 31 = .ok (.istore_n 3, 1) := by decide +kernel
theorem dX2_go_32 : decode cX2_go 32 = .ok (.iconst 0, 1) := by decide +kernel
theorem dX2_go_33 : decode cX2_go 33 = .ok (.istore 4, 2) := by decide +kernel
theorem dX2_go_35 : decode cX2_go 35 = .ok (.iload 4, 2) := by decide +kernel
theorem dX2_go_37 : decode cX2_go 37 = .ok (.iload_n 3, 1) := by decide +kernel
theorem dX2_go_38 : decode cX2_go 38 = .ok (.if_icmp .ge 38, 3) := by decide +kernel
theorem dX2_go_41 : decode cX2_go 41 = .ok (.aload_n 0, 1) := by decide +kernel
theorem dX2_go_42 : decode cX2_go 42 = .ok (.iload_n 1, 1) := by decide +kernel
theorem dX2_go_43 : decode cX2_go 43 = .ok (.aload_n 0, 1) := by decide +kernel
theorem dX2_go_44 : decode cX2_go 44 = .ok (.getfield 31, 3) := by decide +kernel
theorem dX2_go_47 : decode cX2_go 47 = .ok (.iload_n 1, 1) := by decide +kernel
theorem dX2_go_48 : decode cX2_go 48 = .ok (.iaload, 1) := by decide +kernel
theorem dX2_go_49 : decode cX2_go 49 = .ok (.iload_n 2, 1) := by decide +kernel
theorem dX2_go_50 : decode cX2_go 50 = .ok (.iadd, 1) := by decide +kernel
theorem dX2_go_51 : decode cX2_go 51 = .ok (.invokevirtual 95, 3) := by decide +kernel
theorem dX2_go_54 : decode cX2_go 54 = .ok (.ifCond .ne 6, 3) := by decide +kernel
theorem dX2_go_57 : decode cX2_go 57 = .ok (.goto 19, 3) := by decide +kernel
theorem dX2_go_60 : decode cX2_go 60 = .ok (.aload_n 0, 1) := by decide +kernel
theorem dX2_go_61 : decode cX2_go 61 = .ok (.getfield 31, 3) := by decide +kernel
theorem dX2_go_64 : decode cX2_go 64 = .ok (.iload_n 1, 1) := by decide +kernel
theorem dX2_go_65 : decode cX2_go 65 = .ok (.dup2, 1) := by decide +kernel
theorem dX2_go_66 : decode cX2_go 66 = .ok (.iaload, 1) := by decide +kernel
theorem dX2_go_67 : decode cX2_go 67 = .ok (.iload_n 2, 1) := by decide +kernel
theorem dX2_go_68 : decode cX2_go 68 = .ok (.iadd, 1) := by decide +kernel
theorem dX2_go_69 : decode cX2_go 69 = .ok (.iastore, 1) := by decide +kernel
theorem dX2_go_70 : decode cX2_go 70 = .ok (.iinc 4 1, 3) := by decide +kernel
theorem dX2_go_73 : decode cX2_go 73 = .ok (.goto (-38), 3) := by decide +kernel
theorem dX2_go_76 : decode cX2_go 76 = .ok (.return_, 1) := by decide +kernel
theorem dX2_carry_0 : decode cX2_carry 0 = .ok (.iconst 0, 1) := by decide +kernel
theorem dX2_carry_1 : decode cX2_carry 1 = .ok (.istore_n 1, 1) := by decide +kernel
theorem dX2_carry_2 : decode cX2_carry 2 = .ok (.iconst 0, 1) := by decide +kernel
theorem dX2_carry_3 : decode cX2_carry 3 = .ok (.istore_n 2, 1) := by decide +kernel
theorem dX2_carry_4 : decode cX2_carry 4 = .ok (.iload_n 2, 1) := by decide +kernel
theorem dX2_carry_5 : decode cX2_carry 5 = .ok (.aload_n 0, 1) := by decide +kernel
theorem dX2_carry_6 : decode cX2_carry 6 = .ok (.getfield 21, 3) := by decide +kernel
theorem dX2_carry_9 : decode cX2_carry 9 = .ok (.if_icmp .ge 54, 3) := by decide +kernel
theorem dX2_carry_12 : decode cX2_carry 12 = .ok (.aload_n 0, 1) := by decide +kernel
theorem dX2_carry_13 : decode cX2_carry 13 = .ok (.iload_n 2, 1) := by decide +kernel
theorem dX2_carry_14 : decode cX2_carry 14 = .ok (.invokevirtual 47, 3) := by decide +kernel
theorem dX2_carry_17 : decode cX2_carry 17 = .ok (.ifCond .eq 40, 3) := by decide +kernel
theorem dX2_carry_20 : decode cX2_carry 20 = .ok (.aload_n 0, 1) := by decide +kernel
theorem dX2_carry_21 : decode cX2_carry 21 = .ok (.getfield 31, 3) := by decide +kernel
theorem dX2_carry_24 : decode cX2_carry 24 = .ok (.iload_n 2, 1) := by decide +kernel
theorem dX2_carry_25 : decode cX2_carry 25 = .ok (.dup2, 1) := by decide +kernel
theorem dX2_carry_26 : decode cX2_carry 26 = .ok (.iaload, 1) := by decide +kernel
theorem dX2_carry_27 : decode cX2_carry 27 = .ok (.aload_n 0, 1) := by decide +kernel
theorem dX2_carry_28 : decode cX2_carry 28 = .ok (.getfield 15, 3) := by decide +kernel
theorem dX2_carry_31 : decode cX2_carry 31 = .ok (.iadd, 1) := by decide +kernel
theorem dX2_carry_32 : decode cX2_carry 32 = .ok (.iastore, 1) := by decide +kernel
theorem dX2_carry_33 : decode cX2_carry 33 = .ok (.aload_n 0, 1) := by decide +kernel
theorem dX2_carry_34 : decode cX2_carry 34 = .ok (.getfield 31, 3) := by decide +kernel
theorem dX2_carry_37 : decode cX2_carry 37 = .ok (.iload_n 2, 1) := by decide +kernel
theorem dX2_carry_38 : decode cX2_carry 38 = .ok (.iaload, 1) := by decide +kernel
theorem dX2_carry_39 : decode cX2_carry 39 = .ok (.aload_n 0, 1) := by decide +kernel
theorem dX2_carry_40 : decode cX2_carry 40 = .ok (.getfield 9, 3) := by decide +kernel
theorem dX2_carry_43 : decode cX2_carry 43 = .ok (.if_icmp .lt 14, 3) := by decide +kernel
theorem dX2_carry_46 : decode cX2_carry 46 = .ok (.aload_n 0, 1) := by decide +kernel
theorem dX2_carry_47 : decode cX2_carry 47 = .ok (.getfield 31, 3) := by decide +kernel
theorem dX2_carry_50 : decode cX2_carry 50 = .ok (.iload_n 2, 1) := by decide +kernel
theorem dX2_carry_51 : decode cX2_carry 51 = .ok (.bipush 99, 2) := by decide +kernel
theorem dX2_carry_53 : decode cX2_carry 53 = .ok (.iastore, 1) := by decide +kernel
theorem dX2_carry_54 : decode cX2_carry 54 = .ok (.iinc 1 1, 3) := by decide +kernel
theorem dX2_carry_57 : decode cX2_carry 57 = .ok (.iinc 2 1, 3) := by decide +kernel
theorem dX2_carry_60 : decode cX2_carry 60 = .ok (.goto (-56), 3) := by decide +kernel
theorem dX2_carry_63 : decode cX2_carry 63 = .ok (.iload_n 1, 1) := by decide +kernel
theorem dX2_carry_64 : decode cX2_carry 64 = .ok (.ireturn, 1) := by decide +kernel
theorem dX2_letOneOn_0 : decode cX2_letOneOn 0 = .ok (.iconst 0, 1) := by decide +kernel
theorem dX2_letOneOn_1 : decode cX2_letOneOn 1 = .ok (.istore_n 1, 1) := by decide +kernel
theorem dX2_letOneOn_2 : decode cX2_letOneOn 2 = .ok (.iload_n 1, 1) := by decide +kernel
theorem dX2_letOneOn_3 : decode cX2_letOneOn 3 = .ok (.aload_n 0, 1) := by decide +kernel
theorem dX2_letOneOn_4 : decode cX2_letOneOn 4 = .ok (.getfield 21, 3) := by decide +kernel
theorem dX2_letOneOn_7 : decode cX2_letOneOn 7 = .ok (.if_icmp .ge 38, 3) := by decide +kernel
theorem dX2_letOneOn_10 : decode cX2_letOneOn 10 = .ok (.aload_n 0, 1) := by decide +kernel
theorem dX2_letOneOn_11 : decode cX2_letOneOn 11 = .ok (.getfield 31, 3) := by decide +kernel
theorem dX2_letOneOn_14 : decode cX2_letOneOn 14 = .ok (.iload_n 1, 1) := by decide +kernel
theorem dX2_letOneOn_15 : decode cX2_letOneOn 15 = .ok (.iaload, 1) := by decide +kernel
theorem dX2_letOneOn_16 : decode cX2_letOneOn 16 = .ok (.iconst (-1), 1) := by decide +kernel
theorem dX2_letOneOn_17 : decode cX2_letOneOn 17 = .ok (.if_icmp .ne 22, 3) := by decide +kernel
theorem dX2_letOneOn_20 : decode cX2_letOneOn 20 = .ok (.aload_n 0, 1) := by decide +kernel
theorem dX2_letOneOn_21 : decode cX2_letOneOn 21 = .ok (.iload_n 1, 1) := by decide +kernel
theorem dX2_letOneOn_22 : decode cX2_letOneOn 22 = .ok (.iconst 0, 1) := by decide +kernel
theorem dX2_letOneOn_23 : decode cX2_letOneOn 23 = .ok (.invokevirtual 43, 3) := by decide +kernel
theorem dX2_letOneOn_26 : decode cX2_letOneOn 26 = .ok (.ifCond .eq 13, 3) := by decide +kernel
theorem dX2_letOneOn_29 : decode cX2_letOneOn 29 = .ok (.aload_n 0, 1) := by decide +kernel
theorem dX2_letOneOn_30 : decode cX2_letOneOn 30 = .ok (.getfield 31, 3) := by decide +kernel
theorem dX2_letOneOn_33 : decode cX2_letOneOn 33 = .ok (.iload_n 1, 1) := by decide +kernel
theorem dX2_letOneOn_34 : decode cX2_letOneOn 34 = .ok (.iconst 0, 1) := by decide +kernel
theorem dX2_letOneOn_35 : decode cX2_letOneOn 35 = .ok (.iastore, 1) := by decide +kernel
theorem dX2_letOneOn_36 : decode cX2_letOneOn 36 = .ok (.goto 9, 3) := by decide +kernel
theorem dX2_letOneOn_39 : decode cX2_letOneOn 39 = .ok (.iinc 1 1, 3) := by decide +kernel
theorem dX2_letOneOn_42 : decode cX2_letOneOn 42 = .ok (.goto (-40), 3) := by decide +kernel
theorem dX2_letOneOn_45 : decode cX2_letOneOn 45 = .ok (.return_, 1) := by decide +kernel
theorem dX2_passUntilOff_0 : decode cX2_passUntilOff 0 = .ok (.iconst 0, 1) := by decide +kernel
theorem dX2_passUntilOff_1 : decode cX2_passUntilOff 1 = .ok (.istore_n 3, 1) := by decide +kernel
theorem dX2_passUntilOff_2 : decode cX2_passUntilOff 2 = .ok (.iload_n 3, 1) := by decide +kernel
theorem dX2_passUntilOff_3 : decode cX2_passUntilOff 3 = .ok (.iload_n 2, 1) := by decide +kernel
theorem dX2_passUntilOff_4 : decode cX2_passUntilOff 4 = .ok (.if_icmp .gt 37, 3) := by decide +kernel
theorem dX2_passUntilOff_7 : decode cX2_passUntilOff 7 = .ok (.aload_n 0, 1) := by decide +kernel
theorem dX2_passUntilOff_8 : decode cX2_passUntilOff 8 = .ok (.getfield 31, 3) := by decide +kernel
theorem dX2_passUntilOff_11 : decode cX2_passUntilOff 11 = .ok (.iload_n 1, 1) := by decide +kernel
theorem dX2_passUntilOff_12 : decode cX2_passUntilOff 12 = .ok (.iaload, 1) := by decide +kernel
theorem dX2_passUntilOff_13 : decode cX2_passUntilOff 13 = .ok (.bipush 99, 2) := by decide +kernel
theorem dX2_passUntilOff_15 : decode cX2_passUntilOff 15 = .ok (.if_icmp .ne 5, 3) := by decide +kernel
theorem dX2_passUntilOff_18 : decode cX2_passUntilOff 18 = .ok (.iload_n 3, 1) := by decide +kernel
theorem dX2_passUntilOff_19 : decode cX2_passUntilOff 19 = .ok (.ireturn, 1) := by decide +kernel
theorem dX2_passUntilOff_20 : decode cX2_passUntilOff 20 = .ok (.aload_n 0, 1) := by decide +kernel
theorem dX2_passUntilOff_21 : decode cX2_passUntilOff 21 = .ok (.invokevirtual 98, 3) := by decide +kernel
theorem dX2_passUntilOff_24 : decode cX2_passUntilOff 24 = .ok (.ifCond .eq 6, 3) := by decide +kernel
theorem dX2_passUntilOff_27 : decode cX2_passUntilOff 27 = .ok (.goto 14, 3) := by decide +kernel
theorem dX2_passUntilOff_30 : decode cX2_passUntilOff 30 = .ok (.aload_n 0, 1) := by decide +kernel
theorem dX2_passUntilOff_31 : decode cX2_passUntilOff 31 = .ok (.invokevirtual 102, 3) := by decide +kernel
theorem dX2_passUntilOff_34 : decode cX2_passUntilOff 34 = .ok (.pop, 1) := by decide +kernel
theorem dX2_passUntilOff_35 : decode cX2_passUntilOff 35 = .ok (.iinc 3 1, 3) := by decide +kernel
theorem dX2_passUntilOff_38 : decode cX2_passUntilOff 38 = .ok (.goto (-36), 3) := by decide +kernel
theorem dX2_passUntilOff_41 : decode cX2_passUntilOff 41 = .ok (.ldc 81, 2) := by decide +kernel
theorem dX2_passUntilOff_43 : decode cX2_passUntilOff 43 = .ok (.ireturn, 1) := by decide +kernel
theorem dX2_passUntilClear_0 : decode cX2_passUntilClear 0 = .ok (.iconst 0, 1) := by decide +kernel
theorem dX2_passUntilClear_1 : decode cX2_passUntilClear 1 = .ok (.istore_n 2, 1) := by decide +kernel
theorem dX2_passUntilClear_2 : decode cX2_passUntilClear 2 = .ok (.iload_n 2, 1) := by decide +kernel
theorem dX2_passUntilClear_3 : decode cX2_passUntilClear 3 = .ok (.iload_n 1, 1) := by decide +kernel
theorem dX2_passUntilClear_4 : decode cX2_passUntilClear 4 = .ok (.if_icmp .gt 33, 3) := by decide +kernel
theorem dX2_passUntilClear_7 : decode cX2_passUntilClear 7 = .ok (.aload_n 0, 1) := by decide +kernel
theorem dX2_passUntilClear_8 : decode cX2_passUntilClear 8 = .ok (.invokevirtual 105, 3) := by decide +kernel
theorem dX2_passUntilClear_11 : decode cX2_passUntilClear 11 = .ok (.ifCond .eq 5, 3) := by decide +kernel
theorem dX2_passUntilClear_14 : decode cX2_passUntilClear 14 = .ok (.iload_n 2, 1) := by decide +kernel
theorem dX2_passUntilClear_15 : decode cX2_passUntilClear 15 = .ok (.ireturn, 1) := by decide +kernel
theorem dX2_passUntilClear_16 : decode cX2_passUntilClear 16 = .ok (.aload_n 0, 1) := by decide +kernel
theorem dX2_passUntilClear_17 : decode cX2_passUntilClear 17 = .ok (.invokevirtual 98, 3) := by decide +kernel
theorem dX2_passUntilClear_20 : decode cX2_passUntilClear 20 = .ok (.ifCond .eq 6, 3) := by decide +kernel
theorem dX2_passUntilClear_23 : decode cX2_passUntilClear 23 = .ok (.goto 14, 3) := by decide +kernel
theorem dX2_passUntilClear_26 : decode cX2_passUntilClear 26 = .ok (.aload_n 0, 1) := by decide +kernel
theorem dX2_passUntilClear_27 : decode cX2_passUntilClear 27 = .ok (.invokevirtual 102, 3) := by decide +kernel
theorem dX2_passUntilClear_30 : decode cX2_passUntilClear 30 = .ok (.pop, 1) := by decide +kernel
theorem dX2_passUntilClear_31 : decode cX2_passUntilClear 31 = .ok (.iinc 2 1, 3) := by decide +kernel
theorem dX2_passUntilClear_34 : decode cX2_passUntilClear 34 = .ok (.goto (-32), 3) := by decide +kernel
theorem dX2_passUntilClear_37 : decode cX2_passUntilClear 37 = .ok (.ldc 81, 2) := by decide +kernel
theorem dX2_passUntilClear_39 : decode cX2_passUntilClear 39 = .ok (.ireturn, 1) := by decide +kernel
theorem dX2_nobodyGoesOff_0 : decode cX2_nobodyGoesOff 0 = .ok (.aload_n 0, 1) := by decide +kernel
theorem dX2_nobodyGoesOff_1 : decode cX2_nobodyGoesOff 1 = .ok (.getfield 15, 3) := by decide +kernel
theorem dX2_nobodyGoesOff_4 : decode cX2_nobodyGoesOff 4 = .ok (.ifCond .ne 7, 3) := by decide +kernel
theorem dX2_nobodyGoesOff_7 : decode cX2_nobodyGoesOff 7 = .ok (.iconst 1, 1) := by decide +kernel
theorem dX2_nobodyGoesOff_8 : decode cX2_nobodyGoesOff 8 = .ok (.goto 4, 3) := by decide +kernel
theorem dX2_nobodyGoesOff_11 : decode cX2_nobodyGoesOff 11 = .ok (.iconst 0, 1) := by decide +kernel
theorem dX2_nobodyGoesOff_12 : decode cX2_nobodyGoesOff 12 = .ok (.ireturn, 1) := by decide +kernel
theorem dX3_init_0 : decode cX3_init 0 = .ok (.aload_n 0, 1) := by decide +kernel
theorem dX3_init_1 : decode cX3_init 1 = .ok (.invokespecial 3, 3) := by decide +kernel
theorem dX3_init_4 : decode cX3_init 4 = .ok (.aload_n 0, 1) := by decide +kernel
theorem dX3_init_5 : decode cX3_init 5 = .ok (.bipush 90, 2) := by decide +kernel
theorem dX3_init_7 : decode cX3_init 7 = .ok (.newarray .int, 2) := by decide +kernel
theorem dX3_init_9 : decode cX3_init 9 = .ok (.putfield 9, 3) := by decide +kernel
theorem dX3_init_12 : decode cX3_init 12 = .ok (.aload_n 0, 1) := by decide +kernel
theorem dX3_init_13 : decode cX3_init 13 = .ok (.iconst 0, 1) := by decide +kernel
theorem dX3_init_14 : decode cX3_init 14 = .ok (.putfield 15, 3) := by decide +kernel
theorem dX3_init_17 : decode cX3_init 17 = .ok (.aload_n 0, 1) := by decide +kernel
theorem dX3_init_18 : decode cX3_init 18 = .ok (.iconst 0, 1) := by decide +kernel
theorem dX3_init_19 : decode cX3_init 19 = .ok (.putfield 19, 3) := by decide +kernel
theorem dX3_init_22 : decode cX3_init 22 = .ok (.return_, 1) := by decide +kernel
theorem dX3_append_0 : decode cX3_append 0 = .ok (.aload_n 0, 1) := by decide +kernel
theorem dX3_append_1 : decode cX3_append 1 = .ok (.getfield 15, 3) := by decide +kernel
theorem dX3_append_4 : decode cX3_append 4 = .ok (.bipush 90, 2) := by decide +kernel
theorem dX3_append_6 : decode cX3_append 6 = .ok (.if_icmp .ge 23, 3) := by decide +kernel
theorem dX3_append_9 : decode cX3_append 9 = .ok (.aload_n 0, 1) := by decide +kernel
theorem dX3_append_10 : decode cX3_append 10 = .ok (.getfield 9, 3) := by decide +kernel
theorem dX3_append_13 : decode cX3_append 13 = .ok (.aload_n 0, 1) := by decide +kernel
theorem dX3_append_14 : decode cX3_append 14 = .ok (.getfield 15, 3) := by decide +kernel
theorem dX3_append_17 : decode cX3_append 17 = .ok (.iload_n 1, 1) := by decide +kernel
theorem dX3_append_18 : decode cX3_append 18 = .ok (.iastore, 1) := by decide +kernel
theorem dX3_append_19 : decode cX3_append 19 = .ok (.aload_n 0, 1) := by decide +kernel
theorem dX3_append_20 : decode cX3_append 20 = .ok (.dup, 1) := by decide +kernel
theorem dX3_append_21 : decode cX3_append 21 = .ok (.getfield 15, 3) := by decide +kernel
theorem dX3_append_24 : decode cX3_append 24 = .ok (.iconst 1, 1) := by decide +kernel
theorem dX3_append_25 : decode cX3_append 25 = .ok (.iadd, 1) := by decide +kernel
theorem dX3_append_26 : decode cX3_append 26 = .ok (.putfield 15, 3) := by decide +kernel
theorem dX3_append_29 : decode cX3_append 29 = .ok (.return_, 1) := by decide +kernel
theorem dX3_readInto_0 : decode cX3_readInto 0 = .ok (.aload_n 1, 1) := by decide +kernel
theorem dX3_readInto_1 : decode cX3_readInto 1 = .ok (.invokevirtual 22, 3) := by decide +kernel
theorem dX3_readInto_4 : decode cX3_readInto 4 = .ok (.iconst 0, 1) := by decide +kernel
theorem dX3_readInto_5 : decode cX3_readInto 5 = .ok (.istore_n 2, 1) := by decide +kernel
theorem dX3_readInto_6 : decode cX3_readInto 6 = .ok (.iconst 0, 1) := by decide +kernel
theorem dX3_readInto_7 : decode cX3_readInto 7 = .ok (.istore_n 3, 1) := by decide +kernel
theorem dX3_readInto_8 : decode cX3_readInto 8 = .ok (.iconst 0, 1) := by decide +kernel
theorem dX3_readInto_9 : decode cX3_readInto 9 = .ok (.istore 4, 2) := by decide +kernel
theorem dX3_readInto_11 : decode cX3_readInto 11 = .ok (.iload 4, 2) := by decide +kernel
theorem dX3_readInto_13 : decode cX3_readInto 13 = .ok (.bipush 90, 2) := by decide +kernel
theorem dX3_readInto_15 : decode cX3_readInto 15 = .ok (.if_icmp .ge 76, 3) := by decide +kernel
theorem dX3_readInto_18 : decode cX3_readInto 18 = .ok (.iload_n 3, 1) := by decide +kernel
theorem dX3_readInto_19 : decode cX3_readInto 19 = .ok (.aload_n 0, 1) := by decide +kernel
theorem dX3_readInto_20 : decode cX3_readInto 20 = .ok (.getfield 15, 3) := by decide +kernel
theorem dX3_readInto_23 : decode cX3_readInto 23 = .ok (.if_icmp .ge 68, 3) := by decide +kernel
theorem dX3_readInto_26 : decode cX3_readInto 26 = .ok (.aload_n 0, 1) := by decide +kernel
theorem dX3_readInto_27 : decode cX3_readInto 27 = .ok (.iload_n 3, 1) := by decide +kernel
theorem dX3_readInto_28 : decode cX3_readInto 28 = .ok (.invokevirtual 27, 3) := by decide +kernel
theorem dX3_readInto_31 : decode cX3_readInto 31 = .ok (.istore 5, 2) := by decide +kernel
theorem dX3_readInto_33 : decode cX3_readInto 33 = .ok (.iload 5, 2) := by decide +kernel
theorem dX3_readInto_35 : decode cX3_readInto 35 = .ok (.ifCond .ne 7, 3) := by decide +kernel
theorem dX3_readInto_38 : decode cX3_readInto 38 = .ok (.iconst 1, 1) := by decide +kernel
theorem dX3_readInto_39 : decode cX3_readInto 39 = .ok (.goto 12, 3) := by decide +kernel
theorem dX3_readInto_42 : decode cX3_readInto 42 = .ok (.aload_n 0, 1) := by decide +kernel
theorem dX3_readInto_43 : decode cX3_readInto 43 = .ok (.iload_n 2, 1) := by decide +kernel
theorem dX3_readInto_44 : decode cX3_readInto 44 = .ok (.iload_n 3, 1) := by decide +kernel
theorem dX3_readInto_45 : decode cX3_readInto 45 = .ok (.iload 5, 2) := by decide +kernel
theorem dX3_readInto_47 : decode cX3_readInto 47 = .ok (.aload_n 1, 1) := by decide +kernel
theorem dX3_readInto_48 : decode cX3_readInto 48 = .ok (.invokevirtual 31, 3) := by decide +kernel
theorem dX3_readInto_51 : decode cX3_readInto 51 = .ok (.istore 6, 2) := by decide +kernel
theorem dX3_readInto_53 : decode cX3_readInto 53 = .ok (.iload 6, 2) := by decide +kernel
theorem dX3_readInto_55 : decode cX3_readInto 55 = .ok (.ifCond .eq 11, 3) := by decide +kernel
theorem dX3_readInto_58 : decode cX3_readInto 58 = .ok (.aload_n 0, 1) := by decide +kernel
theorem dX3_readInto_59 : decode cX3_readInto 59 = .ok (.iload 6, 2) := by decide +kernel
theorem dX3_readInto_61 : decode cX3_readInto 61 = .ok (.putfield 19, 3) := by decide +kernel
theorem dX3_readInto_64 : decode cX3_readInto 64 = .ok (.iload_n 3, 1) := by decide +kernel
theorem dX3_readInto_65 : decode cX3_readInto 65 = .ok (.ireturn, 1) := by decide +kernel
theorem dX3_readInto_66 : decode cX3_readInto 66 = .ok (.iload_n 2, 1) := by decide +kernel
theorem dX3_readInto_67 : decode cX3_readInto 67 = .ok (.bipush 7, 2) := by decide +kernel
theorem dX3_readInto_69 : decode cX3_readInto 69 = .ok (.if_icmp .ne 7, 3) := by decide +kernel
theorem dX3_readInto_72 : decode cX3_readInto 72 = .ok (.iconst 5, 1) := by decide +kernel
theorem dX3_readInto_73 : decode cX3_readInto 73 = .ok (.goto 6, 3) := by decide +kernel
theorem dX3_readInto_76 : decode cX3_readInto 76 = .ok (.iload_n 2, 1) := by decide +kernel
theorem dX3_readInto_77 : decode cX3_readInto 77 = .ok (.iconst 1, 1) := by decide +kernel
theorem dX3_readInto_78 : decode cX3_readInto 78 = .ok (.iadd, 1) := by decide +kernel
theorem dX3_readInto_79 : decode cX3_readInto 79 = .ok (.istore_n 2, 1) := by decide +kernel
theorem dX3_readInto_80 : decode cX3_readInto 80 = .ok (.iload_n 3, 1) := by decide +kernel
theorem dX3_readInto_81 : decode cX3_readInto 81 = .ok (.iload 5, 2) := by decide +kernel
theorem dX3_readInto_83 : decode cX3_readInto 83 = .ok (.iadd, 1) := by decide +kernel
theorem dX3_readInto_84 : decode cX3_readInto 84 = .ok (.istore_n 3, 1) := by decide +kernel
theorem dX3_readInto_85 : decode cX3_readInto 85 = .ok (.iinc 4 1, 3) := by decide +kernel
theorem dX3_readInto_88 : decode cX3_readInto 88 = .ok (.goto (-77), 3) := by decide +kernel
theorem dX3_readInto_91 : decode cX3_readInto 91 = .ok (.iload_n 2, 1) := by decide +kernel
theorem dX3_readInto_92 : decode cX3_readInto 92 = .ok (.iconst 5, 1) := by decide +kernel
theorem dX3_readInto_93 : decode cX3_readInto 93 = .ok (.if_icmp .ne 10, 3) := by decide +kernel
theorem dX3_readInto_96 : decode cX3_readInto 96 = .ok (.aload_n 1, 1) := by decide +kernel
theorem dX3_readInto_97 : decode cX3_readInto 97 = .ok (.getfield 35, 3) := by decide +kernel
theorem dX3_readInto_100 : decode cX3_readInto 100 = .ok (.ifCond .ne 13, 3) := by decide +kernel
theorem dX3_readInto_103 : decode cX3_readInto 103 = .ok (.aload_n 0, 1) := by decide +kernel
theorem dX3_readInto_104 : decode cX3_readInto 104 = .ok (.iconst 1, 1) := by decide +kernel
theorem dX3_readInto_105 : decode cX3_readInto 105 = .ok (.putfield 19, 3) := by decide +kernel
theorem dX3_readInto_108 : decode cX3_readInto 108 = .ok (.aload_n 0, 1) := by decide +kernel
theorem dX3_readInto_109 : decode cX3_readInto 109 = .ok (.getfield 15, 3) := by decide +kernel
theorem dX3_readInto_112 : decode cX3_readInto 112 = .ok (.ireturn, 1) := by decide +kernel
theorem dX3_readInto_113 : decode cX3_readInto 113 = .ok (.ldc 38, 2) := by decide +kernel
theorem dX3_readInto_115 : decode cX3_readInto 115 = .ok (.ireturn, 1) := by decide +kernel
theorem dX3_widthOfToken_0 : decode cX3_widthOfToken 0 = .ok (.aload_n 0, 1) := by decide +kernel
theorem dX3_widthOfToken_1 : decode cX3_widthOfToken 1 = .ok (.getfield 9, 3) := by decide +kernel
theorem dX3_widthOfToken_4 : decode cX3_widthOfToken 4 = .ok (.iload_n 1, 1) := by decide +kernel
theorem dX3_widthOfToken_5 : decode cX3_widthOfToken 5 = .ok (.iaload, 1) := by decide +kernel
theorem dX3_widthOfToken_6 : decode cX3_widthOfToken 6 = .ok (.istore_n 2, 1) := by decide +kernel
theorem dX3_widthOfToken_7 : decode cX3_widthOfToken 7 = .ok (.iload_n 2, 1) := by decide +kernel
theorem dX3_widthOfToken_8 : decode cX3_widthOfToken 8 = .ok (.bipush 97, 2) := by decide +kernel
theorem dX3_widthOfToken_10 : decode cX3_widthOfToken 10 = .ok (.if_icmp .lt 9, 3) := by decide +kernel
theorem dX3_widthOfToken_13 : decode cX3_widthOfToken 13 = .ok (.iload_n 2, 1) := by decide +kernel
theorem dX3_widthOfToken_14 : decode cX3_widthOfToken 14 = .ok (.bipush 122, 2) := by decide +kernel
theorem dX3_widthOfToken_16 : decode cX3_widthOfToken 16 = .ok (.if_icmp .le 15, 3) := by decide +kernel
theorem dX3_widthOfToken_19 : decode cX3_widthOfToken 19 = .ok (.iload_n 2, 1) := by decide +kernel
theorem dX3_widthOfToken_20 : decode cX3_widthOfToken 20 = .ok (.bipush 44, 2) := by decide +kernel
theorem dX3_widthOfToken_22 : decode cX3_widthOfToken 22 = .ok (.if_icmp .eq 9, 3) := by decide +kernel
theorem dX3_widthOfToken_25 : decode cX3_widthOfToken 25 = .ok (.iload_n 2, 1) := by decide +kernel
theorem dX3_widthOfToken_26 : decode cX3_widthOfToken 26 = .ok (.bipush 59, 2) := by decide +kernel
theorem dX3_widthOfToken_28 : decode cX3_widthOfToken 28 = .ok (.if_icmp .ne 5, 3) := by decide +kernel
theorem dX3_widthOfToken_31 : decode cX3_widthOfToken 31 = .ok (.iconst 1, 1) := by decide +kernel
theorem dX3_widthOfToken_32 : decode cX3_widthOfToken 32 = .ok (.ireturn, 1) := by decide +kernel
theorem dX3_widthOfToken_33 : decode cX3_widthOfToken 33 = .ok (.iconst 0, 1) := by decide +kernel
theorem dX3_widthOfToken_34 : decode cX3_widthOfToken 34 = .ok (.istore_n 3, 1) := by decide +kernel
theorem dX3_widthOfToken_35 : decode cX3_widthOfToken 35 = .ok (.iload_n 3, 1) := by decide +kernel
theorem dX3_widthOfToken_36 : decode cX3_widthOfToken 36 = .ok (.iconst 3, 1) := by decide +kernel
theorem dX3_widthOfToken_37 : decode cX3_widthOfToken 37 = .ok (.if_icmp .ge 19, 3) := by decide +kernel
theorem dX3_widthOfToken_40 : decode cX3_widthOfToken 40 = .ok (.aload_n 0, 1) := by decide +kernel
theorem dX3_widthOfToken_41 : decode cX3_widthOfToken 41 = .ok (.iload_n 1, 1) := by decide +kernel
theorem dX3_widthOfToken_42 : decode cX3_widthOfToken 42 = .ok (.iload_n 3, 1) := by decide +kernel
theorem dX3_widthOfToken_43 : decode cX3_widthOfToken 43 = .ok (.iadd, 1) := by decide +kernel
theorem dX3_widthOfToken_44 : decode cX3_widthOfToken 44 = .ok (.invokevirtual 39, 3) := by decide +kernel
theorem dX3_widthOfToken_47 : decode cX3_widthOfToken 47 = .ok (.ifCond .eq 9, 3) := by decide +kernel
theorem dX3_widthOfToken_50 : decode cX3_widthOfToken 50 = .ok (.iinc 3 1, 3) := by decide +kernel
theorem dX3_widthOfToken_53 : decode cX3_widthOfToken 53 = .ok (.goto (-18), 3) := by decide +kernel
theorem dX3_widthOfToken_56 : decode cX3_widthOfToken 56 = .ok (.iload_n 3, 1) := by decide +kernel
theorem dX3_widthOfToken_57 : decode cX3_widthOfToken 57 = .ok (.iconst 3, 1) := by decide +kernel
theorem dX3_widthOfToken_58 : decode cX3_widthOfToken 58 = .ok (.if_icmp .ge 7, 3) := by decide +kernel
theorem dX3_widthOfToken_61 : decode cX3_widthOfToken 61 = .ok (.iload_n 3, 1) := by decide +kernel
theorem dX3_widthOfToken_62 : decode cX3_widthOfToken 62 = .ok (.goto 4, 3) := by decide +kernel
theorem dX3_widthOfToken_65 : decode cX3_widthOfToken 65 = .ok (.iconst 0, 1) := by decide +kernel
theorem dX3_widthOfToken_66 : decode cX3_widthOfToken 66 = .ok (.ireturn, 1) := by decide +kernel
theorem dX3_isFigure_0 : decode cX3_isFigure 0 = .ok (.iload_n 1, 1) := by decide +kernel
theorem dX3_isFigure_1 : decode cX3_isFigure 1 = .ok (.aload_n 0, 1) := by decide +kernel
theorem dX3_isFigure_2 : decode cX3_isFigure 2 = .ok (.getfield 15, 3) := by decide +kernel
theorem dX3_isFigure_5 : decode cX3_isFigure 5 = .ok (.if_icmp .ge 29, 3) := by decide +kernel
theorem dX3_isFigure_8 : decode cX3_isFigure 8 = .ok (.aload_n 0, 1) := by decide +kernel
theorem dX3_isFigure_9 : decode cX3_isFigure 9 = .ok (.getfield 9, 3) := by decide +kernel
theorem dX3_isFigure_12 : decode cX3_isFigure 12 = .ok (.iload_n 1, 1) := by decide +kernel
theorem dX3_isFigure_13 : decode cX3_isFigure 13 = .ok (.iaload, 1) := by decide +kernel
theorem dX3_isFigure_14 : decode cX3_isFigure 14 = .ok (.bipush 48, 2) := by decide +kernel
theorem dX3_isFigure_16 : decode cX3_isFigure 16 = .ok (.if_icmp .lt 18, 3) := by decide +kernel
theorem dX3_isFigure_19 : decode cX3_isFigure 19 = .ok (.aload_n 0, 1) := by decide +kernel
theorem dX3_isFigure_20 : decode cX3_isFigure 20 = .ok (.getfield 9, 3) := by decide +kernel
theorem dX3_isFigure_23 : decode cX3_isFigure 23 = .ok (.iload_n 1, 1) := by decide +kernel
theorem dX3_isFigure_24 : decode cX3_isFigure 24 = .ok (.iaload, 1) := by decide +kernel
theorem dX3_isFigure_25 : decode cX3_isFigure 25 = .ok (.bipush 57, 2) := by decide +kernel
theorem dX3_isFigure_27 : decode cX3_isFigure 27 = .ok (.if_icmp .gt 7, 3) := by decide +kernel
theorem dX3_isFigure_30 : decode cX3_isFigure 30 = .ok (.iconst 1, 1) := by decide +kernel
theorem dX3_isFigure_31 : decode cX3_isFigure 31 = .ok (.goto 4, 3) := by decide +kernel
theorem dX3_isFigure_34 : decode cX3_isFigure 34 = .ok (.iconst 0, 1) := by decide +kernel
theorem dX3_isFigure_35 : decode cX3_isFigure 35 = .ok (.ireturn, 1) := by decide +kernel
theorem dX3_accept_0 : decode cX3_accept 0 = .ok (.iload_n 1, 1) := by decide +kernel
theorem dX3_accept_1 : decode cX3_accept 1 = .ok (.tableswitch 127 0 6 #[43, 51, 75, 83, 127, 106, 114], 43) := by decide +kernel
theorem dX3_accept_44 : decode cX3_accept 44 = .ok (.aload_n 0, 1) := by decide +kernel
theorem dX3_accept_45 : decode cX3_accept 45 = .ok (.bipush 109, 2) := by decide +kernel
theorem dX3_accept_47 : decode cX3_accept 47 = .ok (.iload_n 2, 1) := by decide +kernel
theorem dX3_accept_48 : decode cX3_accept 48 = .ok (.invokevirtual 43, 3) := by decide +kernel
theorem dX3_accept_51 : decode cX3_accept 51 = .ok (.ireturn, 1) := by decide +kernel
theorem dX3_accept_52 : decode cX3_accept 52 = .ok (.aload 4, 2) := by decide +kernel
theorem dX3_accept_54 : decode cX3_accept 54 = .ok (.aload_n 0, 1) := by decide +kernel
theorem dX3_accept_55 : decode cX3_accept 55 = .ok (.iload_n 2, 1) := by decide +kernel
theorem dX3_accept_56 : decode cX3_accept 56 = .ok (.iload_n 3, 1) := by decide +kernel
theorem dX3_accept_57 : decode cX3_accept 57 = .ok (.invokevirtual 47, 3) := by decide +kernel
theorem dX3_accept_60 : decode cX3_accept 60 = .ok (.putfield 50, 3) := by decide +kernel
theorem dX3_accept_63 : decode cX3_accept 63 = .ok (.aload_n 0, 1) := by decide +kernel
theorem dX3_accept_64 : decode cX3_accept 64 = .ok (.aload 4, 2) := by decide +kernel
theorem dX3_accept_66 : decode cX3_accept 66 = .ok (.getfield 50, 3) := by decide +kernel
theorem dX3_accept_69 : decode cX3_accept 69 = .ok (.iconst 4, 1) := by decide +kernel
theorem dX3_accept_70 : decode cX3_accept 70 = .ok (.bipush 12, 2) := by decide +kernel
theorem dX3_accept_72 : decode cX3_accept 72 = .ok (.invokevirtual 53, 3) := by decide +kernel
theorem dX3_accept_75 : decode cX3_accept 75 = .ok (.ireturn, 1) := by decide +kernel
theorem dX3_accept_76 : decode cX3_accept 76 = .ok (.aload_n 0, 1) := by decide +kernel
theorem dX3_accept_77 : decode cX3_accept 77 = .ok (.bipush 44, 2) := by decide +kernel
theorem dX3_accept_79 : decode cX3_accept 79 = .ok (.iload_n 2, 1) := by decide +kernel
theorem dX3_accept_80 : decode cX3_accept 80 = .ok (.invokevirtual 43, 3) := by decide +kernel
theorem dX3_accept_83 : decode cX3_accept 83 = .ok (.ireturn, 1) := by decide +kernel
theorem dX3_accept_84 : decode cX3_accept 84 = .ok (.aload 4, 2) := by decide +kernel
theorem dX3_accept_86 : decode cX3_accept 86 = .ok (.aload_n 0, 1) := by decide +kernel
theorem dX3_accept_87 : decode cX3_accept 87 = .ok (.iload_n 2, 1) := by decide +kernel
theorem dX3_accept_88 : decode cX3_accept 88 = .ok (.iload_n 3, 1) := by decide +kernel
theorem dX3_accept_89 : decode cX3_accept 89 = .ok (.invokevirtual 47, 3) := by decide +kernel
theorem dX3_accept_92 : decode cX3_accept 92 = .ok (.putfield 57, 3) := by decide +kernel
theorem dX3_accept_95 : decode cX3_accept 95 = .ok (.aload_n 0, 1) := by decide +kernel
theorem dX3_accept_96 : decode cX3_accept 96 = .ok (.aload 4, 2) := by decide +kernel
theorem dX3_accept_98 : decode cX3_accept 98 = .ok (.getfield 57, 3) := by decide +kernel
theorem dX3_accept_101 : decode cX3_accept 101 = .ok (.iconst 0, 1) := by decide +kernel
theorem dX3_accept_102 : decode cX3_accept 102 = .ok (.iconst 2, 1) := by decide +kernel
theorem dX3_accept_103 : decode cX3_accept 103 = .ok (.invokevirtual 53, 3) := by decide +kernel
theorem dX3_accept_106 : decode cX3_accept 106 = .ok (.ireturn, 1) := by decide +kernel
theorem dX3_accept_107 : decode cX3_accept 107 = .ok (.aload_n 0, 1) := by decide +kernel
theorem dX3_accept_108 : decode cX3_accept 108 = .ok (.iload_n 2, 1) := by decide +kernel
theorem dX3_accept_109 : decode cX3_accept 109 = .ok (.aload 4, 2) := by decide +kernel
theorem dX3_accept_111 : decode cX3_accept 111 = .ok (.invokevirtual 60, 3) := by decide +kernel
theorem dX3_accept_114 : decode cX3_accept 114 = .ok (.ireturn, 1) := by decide +kernel
theorem dX3_accept_115 : decode cX3_accept 115 = .ok (.aload_n 0, 1) := by decide +kernel
theorem dX3_accept_116 : decode cX3_accept 116 = .ok (.aload_n 0, 1) := by decide +kernel
theorem dX3_accept_117 : decode cX3_accept 117 = .ok (.iload_n 2, 1) := by decide +kernel
theorem dX3_accept_118 : decode cX3_accept 118 = .ok (.iload_n 3, 1) := by decide +kernel
theorem dX3_accept_119 : decode cX3_accept 119 = .ok (.invokevirtual 47, 3) := by decide +kernel
theorem dX3_accept_122 : decode cX3_accept 122 = .ok (.aload 4, 2) := by decide +kernel
theorem dX3_accept_124 : decode cX3_accept 124 = .ok (.invokevirtual 64, 3) := by decide +kernel
theorem dX3_accept_127 : decode cX3_accept 127 = .ok (.ireturn, 1) := by decide +kernel
theorem dX3_accept_128 : decode cX3_accept 128 = .ok (.aload_n 0, 1) := by decide +kernel
theorem dX3_accept_129 : decode cX3_accept 129 = .ok (.bipush 59, 2) := by decide +kernel
theorem dX3_accept_131 : decode cX3_accept 131 = .ok (.iload_n 2, 1) := by decide +kernel
theorem dX3_accept_132 : decode cX3_accept 132 = .ok (.invokevirtual 43, 3) := by decide +kernel
theorem dX3_accept_135 : decode cX3_accept 135 = .ok (.ireturn, 1) := by decide +kernel
theorem dX3_acceptSign_0 : decode cX3_acceptSign 0 = .ok (.aload_n 0, 1) := by decide +kernel
theorem dX3_acceptSign_1 : decode cX3_acceptSign 1 = .ok (.getfield 9, 3) := by decide +kernel
theorem dX3_acceptSign_4 : decode cX3_acceptSign 4 = .ok (.iload_n 2, 1) := by decide +kernel
theorem dX3_acceptSign_5 : decode cX3_acceptSign 5 = .ok (.iaload, 1) := by decide +kernel
theorem dX3_acceptSign_6 : decode cX3_acceptSign 6 = .ok (.iload_n 1, 1) := by decide +kernel
theorem dX3_acceptSign_7 : decode cX3_acceptSign 7 = .ok (.if_icmp .ne 7, 3) := by decide +kernel
theorem dX3_acceptSign_10 : decode cX3_acceptSign 10 = .ok (.iconst 0, 1) := by decide +kernel
theorem dX3_acceptSign_11 : decode cX3_acceptSign 11 = .ok (.goto 4, 3) := by decide +kernel
theorem dX3_acceptSign_14 : decode cX3_acceptSign 14 = .ok (.iconst 1, 1) := by decide +kernel
theorem dX3_acceptSign_15 : decode cX3_acceptSign 15 = .ok (.ireturn, 1) := by decide +kernel
theorem dX3_acceptSort_0 : decode cX3_acceptSort 0 = .ok (.aload_n 0, 1) := by decide +kernel
theorem dX3_acceptSort_1 : decode cX3_acceptSort 1 = .ok (.aload_n 0, 1) := by decide +kernel
theorem dX3_acceptSort_2 : decode cX3_acceptSort 2 = .ok (.getfield 9, 3) := by decide +kernel
theorem dX3_acceptSort_5 : decode cX3_acceptSort 5 = .ok (.iload_n 1, 1) := by decide +kernel
theorem dX3_acceptSort_6 : decode cX3_acceptSort 6 = .ok (.iaload, 1) := by decide +kernel
theorem dX3_acceptSort_7 : decode cX3_acceptSort 7 = .ok (.invokevirtual 67, 3) := by decide +kernel
theorem dX3_acceptSort_10 : decode cX3_acceptSort 10 = .ok (.istore_n 3, 1) := by decide +kernel
theorem dX3_acceptSort_11 : decode cX3_acceptSort 11 = .ok (.iload_n 3, 1) := by decide +kernel
theorem dX3_acceptSort_12 : decode cX3_acceptSort 12 = .ok (.ldc 38, 2) := by decide +kernel
theorem dX3_acceptSort_14 : decode cX3_acceptSort 14 = .ok (.if_icmp .ne 5, 3) := by decide +kernel
theorem dX3_acceptSort_17 : decode cX3_acceptSort 17 = .ok (.iconst 1, 1) := by decide +kernel
theorem dX3_acceptSort_18 : decode cX3_acceptSort 18 = .ok (.ireturn, 1) := by decide +kernel
theorem dX3_acceptSort_19 : decode cX3_acceptSort 19 = .ok (.aload_n 2, 1) := by decide +kernel
theorem dX3_acceptSort_20 : decode cX3_acceptSort 20 = .ok (.getfield 35, 3) := by decide +kernel
theorem dX3_acceptSort_23 : decode cX3_acceptSort 23 = .ok (.bipush 7, 2) := by decide +kernel
theorem dX3_acceptSort_25 : decode cX3_acceptSort 25 = .ok (.if_icmp .lt 5, 3) := by decide +kernel
theorem dX3_acceptSort_28 : decode cX3_acceptSort 28 = .ok (.iconst 3, 1) := by decide +kernel
theorem dX3_acceptSort_29 : decode cX3_acceptSort 29 = .ok (.ireturn, 1) := by decide +kernel
theorem dX3_acceptSort_30 : decode cX3_acceptSort 30 = .ok (.aload_n 2, 1) := by decide +kernel
theorem dX3_acceptSort_31 : decode cX3_acceptSort 31 = .ok (.getfield 70, 3) := by decide +kernel
theorem dX3_acceptSort_34 : decode cX3_acceptSort 34 = .ok (.aload_n 2, 1) := by decide +kernel
theorem dX3_acceptSort_35 : decode cX3_acceptSort 35 = .ok (.getfield 35, 3) := by decide +kernel
theorem dX3_acceptSort_38 : decode cX3_acceptSort 38 = .ok (.iload_n 3, 1) := by decide +kernel
theorem dX3_acceptSort_39 : decode cX3_acceptSort 39 = .ok (.iastore, 1) := by decide +kernel
theorem dX3_acceptSort_40 : decode cX3_acceptSort 40 = .ok (.iconst 0, 1) := by decide +kernel
theorem dX3_acceptSort_41 : decode cX3_acceptSort 41 = .ok (.ireturn, 1) := by decide +kernel
theorem dX3_acceptLane_0 : decode cX3_acceptLane 0 = .ok (.aload_n 0, 1) := by decide +kernel
theorem dX3_acceptLane_1 : decode cX3_acceptLane 1 = .ok (.iload_n 1, 1) := by decide +kernel
theorem dX3_acceptLane_2 : decode cX3_acceptLane 2 = .ok (.iconst 0, 1) := by decide +kernel
theorem dX3_acceptLane_3 : decode cX3_acceptLane 3 = .ok (.iconst 1, 1) := by decide +kernel
theorem dX3_acceptLane_4 : decode cX3_acceptLane 4 = .ok (.invokevirtual 53, 3) := by decide +kernel
theorem dX3_acceptLane_7 : decode cX3_acceptLane 7 = .ok (.istore_n 3, 1) := by decide +kernel
theorem dX3_acceptLane_8 : decode cX3_acceptLane 8 = .ok (.iload_n 3, 1) := by decide +kernel
theorem dX3_acceptLane_9 : decode cX3_acceptLane 9 = .ok (.ifCond .ne 32, 3) := by decide +kernel
theorem dX3_acceptLane_12 : decode cX3_acceptLane 12 = .ok (.aload_n 2, 1) := by decide +kernel
theorem dX3_acceptLane_13 : decode cX3_acceptLane 13 = .ok (.getfield 35, 3) := by decide +kernel
theorem dX3_acceptLane_16 : decode cX3_acceptLane 16 = .ok (.bipush 7, 2) := by decide +kernel
theorem dX3_acceptLane_18 : decode cX3_acceptLane 18 = .ok (.if_icmp .ge 23, 3) := by decide +kernel
theorem dX3_acceptLane_21 : decode cX3_acceptLane 21 = .ok (.aload_n 2, 1) := by decide +kernel
theorem dX3_acceptLane_22 : decode cX3_acceptLane 22 = .ok (.getfield 73, 3) := by decide +kernel
theorem dX3_acceptLane_25 : decode cX3_acceptLane 25 = .ok (.aload_n 2, 1) := by decide +kernel
theorem dX3_acceptLane_26 : decode cX3_acceptLane 26 = .ok (.getfield 35, 3) := by decide +kernel
theorem dX3_acceptLane_29 : decode cX3_acceptLane 29 = .ok (.iload_n 1, 1) := by decide +kernel
theorem dX3_acceptLane_30 : decode cX3_acceptLane 30 = .ok (.iastore, 1) := by decide +kernel
theorem dX3_acceptLane_31 : decode cX3_acceptLane 31 = .ok (.aload_n 2, 1) := by decide +kernel
theorem dX3_acceptLane_32 : decode cX3_acceptLane 32 = .ok (.dup, 1) := by decide +kernel
theorem dX3_acceptLane_33 : decode cX3_acceptLane 33 = .ok (.getfield 35, 3) := by decide +kernel
theorem dX3_acceptLane_36 : decode cX3_acceptLane 36 = .ok (.iconst 1, 1) := by decide +kernel
theorem dX3_acceptLane_37 : decode cX3_acceptLane 37 = .ok (.iadd, 1) := by decide +kernel
theorem dX3_acceptLane_38 : decode cX3_acceptLane 38 = .ok (.putfield 35, 3) := by decide +kernel
theorem dX3_acceptLane_41 : decode cX3_acceptLane 41 = .ok (.iload_n 3, 1) := by decide +kernel
theorem dX3_acceptLane_42 : decode cX3_acceptLane 42 = .ok (.ireturn, 1) := by decide +kernel
theorem dX3_kindOf_0 : decode cX3_kindOf 0 = .ok (.iload_n 1, 1) := by decide +kernel
theorem dX3_kindOf_1 : decode cX3_kindOf 1 = .ok (.lookupswitch 61 #[(99, 59), (114, 55), (115, 51), (116, 57), (119, 53)], 51) := by decide +kernel
theorem dX3_kindOf_52 : decode cX3_kindOf 52 = .ok (.iconst 1, 1) := by decide +kernel
theorem dX3_kindOf_53 : decode cX3_kindOf 53 = .ok (.ireturn, 1) := by decide +kernel
theorem dX3_kindOf_54 : decode cX3_kindOf 54 = .ok (.iconst 2, 1) := by decide +kernel
theorem dX3_kindOf_55 : decode cX3_kindOf 55 = .ok (.ireturn, 1) := by decide +kernel
theorem dX3_kindOf_56 : decode cX3_kindOf 56 = .ok (.iconst 3, 1) := by decide +kernel
theorem dX3_kindOf_57 : decode cX3_kindOf 57 = .ok (.ireturn, 1) := by decide +kernel
theorem dX3_kindOf_58 : decode cX3_kindOf 58 = .ok (.iconst 4, 1) := by decide +kernel
theorem dX3_kindOf_59 : decode cX3_kindOf 59 = .ok (.ireturn, 1) := by decide +kernel
theorem dX3_kindOf_60 : decode cX3_kindOf 60 = .ok (.iconst 5, 1) := by decide +kernel
theorem dX3_kindOf_61 : decode cX3_kindOf 61 = .ok (.ireturn, 1) := by decide +kernel
theorem dX3_kindOf_62 : decode cX3_kindOf 62 = .ok (.ldc 38, 2) := by decide +kernel
theorem dX3_kindOf_64 : decode cX3_kindOf 64 = .ok (.ireturn, 1) := by decide +kernel
theorem dX3_numberAt_0 : decode cX3_numberAt 0 = .ok (.aload_n 0, 1) := by decide +kernel
theorem dX3_numberAt_1 : decode cX3_numberAt 1 = .ok (.iload_n 1, 1) := by decide +kernel
theorem dX3_numberAt_2 : decode cX3_numberAt 2 = .ok (.invokevirtual 39, 3) := by decide +kernel
theorem dX3_numberAt_5 : decode cX3_numberAt 5 = .ok (.ifCond .ne 6, 3) := by decide +kernel
theorem dX3_numberAt_8 : decode cX3_numberAt 8 = .ok (.ldc 38, 2) := by decide +kernel
theorem dX3_numberAt_10 : decode cX3_numberAt 10 = .ok (.ireturn, 1) := by decide +kernel
theorem dX3_numberAt_11 : decode cX3_numberAt 11 = .ok (.aload_n 0, 1) := by decide +kernel
theorem dX3_numberAt_12 : decode cX3_numberAt 12 = .ok (.getfield 9, 3) := by decide +kernel
theorem dX3_numberAt_15 : decode cX3_numberAt 15 = .ok (.iload_n 1, 1) := by decide +kernel
theorem dX3_numberAt_16 : decode cX3_numberAt 16 = .ok (.iaload, 1) := by decide +kernel
theorem dX3_numberAt_17 : decode cX3_numberAt 17 = .ok (.bipush 48, 2) := by decide +kernel
theorem dX3_numberAt_19 : decode cX3_numberAt 19 = .ok (.isub, 1) := by decide +kernel
theorem dX3_numberAt_20 : decode cX3_numberAt 20 = .ok (.istore_n 3, 1) := by decide +kernel
theorem dX3_numberAt_21 : decode cX3_numberAt 21 = .ok (.iload_n 2, 1) := by decide +kernel
theorem dX3_numberAt_22 : decode cX3_numberAt 22 = .ok (.iconst 2, 1) := by decide +kernel
theorem dX3_numberAt_23 : decode cX3_numberAt 23 = .ok (.if_icmp .ne 32, 3) := by decide +kernel
theorem dX3_numberAt_26 : decode cX3_numberAt 26 = .ok (.aload_n 0, 1) := by decide +kernel
theorem dX3_numberAt_27 : decode cX3_numberAt 27 = .ok (.iload_n 1, 1) := by decide +kernel
theorem dX3_numberAt_28 : decode cX3_numberAt 28 = .ok (.iconst 1, 1) := by decide +kernel
theorem dX3_numberAt_29 : decode cX3_numberAt 29 = .ok (.iadd, 1) := by decide +kernel
theorem dX3_numberAt_30 : decode cX3_numberAt 30 = .ok (.invokevirtual 39, 3) := by decide +kernel
theorem dX3_numberAt_33 : decode cX3_numberAt 33 = .ok (.ifCond .eq 22, 3) := by decide +kernel
theorem dX3_numberAt_36 : decode cX3_numberAt 36 = .ok (.iload_n 3, 1) := by decide +kernel
theorem dX3_numberAt_37 : decode cX3_numberAt 37 = .ok (.bipush 10, 2) := by decide +kernel
theorem dX3_numberAt_39 : decode cX3_numberAt 39 = .ok (.imul, 1) := by decide +kernel
theorem dX3_numberAt_40 : decode cX3_numberAt 40 = .ok (.aload_n 0, 1) := by decide +kernel
theorem dX3_numberAt_41 : decode cX3_numberAt 41 = .ok (.getfield 9, 3) := by decide +kernel
theorem dX3_numberAt_44 : decode cX3_numberAt 44 = .ok (.iload_n 1, 1) := by decide +kernel
theorem dX3_numberAt_45 : decode cX3_numberAt 45 = .ok (.iconst 1, 1) := by decide +kernel
theorem dX3_numberAt_46 : decode cX3_numberAt 46 = .ok (.iadd, 1) := by decide +kernel
theorem dX3_numberAt_47 : decode cX3_numberAt 47 = .ok (.iaload, 1) := by decide +kernel
theorem dX3_numberAt_48 : decode cX3_numberAt 48 = .ok (.iadd, 1) := by decide +kernel
theorem dX3_numberAt_49 : decode cX3_numberAt 49 = .ok (.bipush 48, 2) := by decide +kernel
theorem dX3_numberAt_51 : decode cX3_numberAt 51 = .ok (.isub, 1) := by decide +kernel
theorem dX3_numberAt_52 : decode cX3_numberAt 52 = .ok (.goto 4, 3) := by decide +kernel
theorem dX3_numberAt_55 : decode cX3_numberAt 55 = .ok (.iload_n 3, 1) := by decide +kernel
theorem dX3_numberAt_56 : decode cX3_numberAt 56 = .ok (.ireturn, 1) := by decide +kernel
theorem dX3_faultOfNumber_0 : decode cX3_faultOfNumber 0 = .ok (.iload_n 1, 1) := by decide +kernel
theorem dX3_faultOfNumber_1 : decode cX3_faultOfNumber 1 = .ok (.ldc 38, 2) := by decide +kernel
theorem dX3_faultOfNumber_3 : decode cX3_faultOfNumber 3 = .ok (.if_icmp .ne 5, 3) := by decide +kernel
theorem dX3_faultOfNumber_6 : decode cX3_faultOfNumber 6 = .ok (.iconst 1, 1) := by decide +kernel
theorem dX3_faultOfNumber_7 : decode cX3_faultOfNumber 7 = .ok (.ireturn, 1) := by decide +kernel
theorem dX3_faultOfNumber_8 : decode cX3_faultOfNumber 8 = .ok (.iload_n 1, 1) := by decide +kernel
theorem dX3_faultOfNumber_9 : decode cX3_faultOfNumber 9 = .ok (.iload_n 2, 1) := by decide +kernel
theorem dX3_faultOfNumber_10 : decode cX3_faultOfNumber 10 = .ok (.iload_n 3, 1) := by decide +kernel
theorem dX3_faultOfNumber_11 : decode cX3_faultOfNumber 11 = .ok (.invokestatic 76, 3) := by decide +kernel
theorem dX3_faultOfNumber_14 : decode cX3_faultOfNumber 14 = .ok (.ifCond .eq 7, 3) := by decide +kernel
theorem dX3_faultOfNumber_17 : decode cX3_faultOfNumber 17 = .ok (.iconst 2, 1) := by decide +kernel
theorem dX3_faultOfNumber_18 : decode cX3_faultOfNumber 18 = .ok (.goto 4, 3) := by decide +kernel
theorem dX3_faultOfNumber_21 : decode cX3_faultOfNumber 21 = .ok (.iconst 0, 1) := by decide +kernel
theorem dX3_faultOfNumber_22 : decode cX3_faultOfNumber 22 = .ok (.ireturn, 1) := by decide +kernel
theorem dX4_init_0 : decode cX4_init 0 = .ok (.aload_n 0, 1) := by decide +kernel
theorem dX4_init_1 : decode cX4_init 1 = .ok (.invokespecial 1, 3) := by decide +kernel
theorem dX4_init_4 : decode cX4_init 4 = .ok (.aload_n 0, 1) := by decide +kernel
theorem dX4_init_5 : decode cX4_init 5 = .ok (.bipush 16, 2) := by decide +kernel
theorem dX4_init_7 : decode cX4_init 7 = .ok (.newarray .int, 2) := by decide +kernel
theorem dX4_init_9 : decode cX4_init 9 = .ok (.putfield 9, 3) := by decide +kernel
theorem dX4_init_12 : decode cX4_init 12 = .ok (.aload_n 0, 1) := by decide +kernel
theorem dX4_init_13 : decode cX4_init 13 = .ok (.iconst 0, 1) := by decide +kernel
theorem dX4_init_14 : decode cX4_init 14 = .ok (.putfield 13, 3) := by decide +kernel
theorem dX4_init_17 : decode cX4_init 17 = .ok (.return_, 1) := by decide +kernel
theorem dX4_leave_0 : decode cX4_leave 0 = .ok (.aload_n 0, 1) := by decide +kernel
theorem dX4_leave_1 : decode cX4_leave 1 = .ok (.getfield 13, 3) := by decide +kernel
theorem dX4_leave_4 : decode cX4_leave 4 = .ok (.bipush 16, 2) := by decide +kernel
theorem dX4_leave_6 : decode cX4_leave 6 = .ok (.if_icmp .ge 23, 3) := by decide +kernel
theorem dX4_leave_9 : decode cX4_leave 9 = .ok (.aload_n 0, 1) := by decide +kernel
theorem dX4_leave_10 : decode cX4_leave 10 = .ok (.getfield 9, 3) := by decide +kernel
theorem dX4_leave_13 : decode cX4_leave 13 = .ok (.aload_n 0, 1) := by decide +kernel
theorem dX4_leave_14 : decode cX4_leave 14 = .ok (.getfield 13, 3) := by decide +kernel
theorem dX4_leave_17 : decode cX4_leave 17 = .ok (.iload_n 1, 1) := by decide +kernel
theorem dX4_leave_18 : decode cX4_leave 18 = .ok (.iastore, 1) := by decide +kernel
