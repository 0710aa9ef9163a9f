theorem dX5_init_0 : decode cX5_init 0 = .ok (.aload_n 0, 1) := by decide +kernel
theorem dX5_init_1 : decode cX5_init 1 = .ok (.invokespecial 3, 3) := by decide +kernel
theorem dX5_init_4 : decode cX5_init 4 = .ok (.aload_n 0, 1) := by decide +kernel
theorem dX5_init_5 : decode cX5_init 5 = .ok (.bipush 16, 2) := by decide +kernel
theorem dX5_init_7 : decode cX5_init 7 = .ok (.anewarray 9, 3) := by decide +kernel
theorem dX5_init_10 : decode cX5_init 10 = .ok (.putfield 11, 3) := by decide +kernel
theorem dX5_init_13 : decode cX5_init 13 = .ok (.aload_n 0, 1) := by decide +kernel
theorem dX5_init_14 : decode cX5_init 14 = .ok (.iconst 3, 1) := by decide +kernel
theorem dX5_init_15 : decode cX5_init 15 = .ok (.anewarray 9, 3) := by decide +kernel
theorem dX5_init_18 : decode cX5_init 18 = .ok (.putfield 17, 3) := by decide +kernel
theorem dX5_init_21 : decode cX5_init 21 = .ok (.iconst 0, 1) := by decide +kernel
theorem dX5_init_22 : decode cX5_init 22 = .ok (.istore_n 1, 1) := by decide +kernel
theorem dX5_init_23 : decode cX5_init 23 = .ok (.iload_n 1, 1) := by decide +kernel
theorem dX5_init_24 : decode cX5_init 24 = .ok (.bipush 16, 2) := by decide +kernel
theorem dX5_init_26 : decode cX5_init 26 = .ok (.if_icmp .ge 22, 3) := by decide +kernel
theorem dX5_init_29 : decode cX5_init 29 = .ok (.aload_n 0, 1) := by decide +kernel
theorem dX5_init_30 : decode cX5_init 30 = .ok (.getfield 11, 3) := by decide +kernel
theorem dX5_init_33 : decode cX5_init 33 = .ok (.iload_n 1, 1) := by decide +kernel
theorem dX5_init_34 : decode cX5_init 34 = .ok (.new 9, 3) := by decide +kernel
theorem dX5_init_37 : decode cX5_init 37 = .ok (.dup, 1) := by decide +kernel
theorem dX5_init_38 : decode cX5_init 38 = .ok (.invokespecial 20, 3) := by decide +kernel
theorem dX5_init_41 : decode cX5_init 41 = .ok (.aastore, 1) := by decide +kernel
theorem dX5_init_42 : decode cX5_init 42 = .ok (.iinc 1 1, 3) := by decide +kernel
theorem dX5_init_45 : decode cX5_init 45 = .ok (.goto (-22), 3) := by decide +kernel
theorem dX5_init_48 : decode cX5_init 48 = .ok (.iconst 0, 1) := by decide +kernel
theorem dX5_init_49 : decode cX5_init 49 = .ok (.istore_n 1, 1) := by decide +kernel
theorem dX5_init_50 : decode cX5_init 50 = .ok (.iload_n 1, 1) := by decide +kernel
theorem dX5_init_51 : decode cX5_init 51 = .ok (.iconst 3, 1) := by decide +kernel
theorem dX5_init_52 : decode cX5_init 52 = .ok (.if_icmp .ge 22, 3) := by decide +kernel
theorem dX5_init_55 : decode cX5_init 55 = .ok (.aload_n 0, 1) := by decide +kernel
theorem dX5_init_56 : decode cX5_init 56 = .ok (.getfield 17, 3) := by decide +kernel
theorem dX5_init_59 : decode cX5_init 59 = .ok (.iload_n 1, 1) := by decide +kernel
theorem dX5_init_60 : decode cX5_init 60 = .ok (.new 9, 3) := by decide +kernel
theorem dX5_init_63 : decode cX5_init 63 = .ok (.dup, 1) := by decide +kernel
theorem dX5_init_64 : decode cX5_init 64 = .ok (.invokespecial 20, 3) := by decide +kernel
theorem dX5_init_67 : decode cX5_init 67 = .ok (.aastore, 1) := by decide +kernel
theorem dX5_init_68 : decode cX5_init 68 = .ok (.iinc 1 1, 3) := by decide +kernel
theorem dX5_init_71 : decode cX5_init 71 = .ok (.goto (-21), 3) := by decide +kernel
theorem dX5_init_74 : decode cX5_init 74 = .ok (.return_, 1) := by decide +kernel
theorem dX5_forget_0 : decode cX5_forget 0 = .ok (.aload_n 0, 1) := by decide +kernel
theorem dX5_forget_1 : decode cX5_forget 1 = .ok (.iconst 0, 1) := by decide +kernel
theorem dX5_forget_2 : decode cX5_forget 2 = .ok (.putfield 21, 3) := by decide +kernel
theorem dX5_forget_5 : decode cX5_forget 5 = .ok (.aload_n 0, 1) := by decide +kernel
theorem dX5_forget_6 : decode cX5_forget 6 = .ok (.iconst 0, 1) := by decide +kernel
theorem dX5_forget_7 : decode cX5_forget 7 = .ok (.putfield 25, 3) := by decide +kernel
theorem dX5_forget_10 : decode cX5_forget 10 = .ok (.return_, 1) := by decide +kernel
theorem dX5_keep_0 : decode cX5_keep 0 = .ok (.aload_n 0, 1) := by decide +kernel
theorem dX5_keep_1 : decode cX5_keep 1 = .ok (.aload_n 0, 1) := by decide +kernel
theorem dX5_keep_2 : decode cX5_keep 2 = .ok (.getfield 28, 3) := by decide +kernel
theorem dX5_keep_5 : decode cX5_keep 5 = .ok (.iconst 1, 1) := by decide +kernel
theorem dX5_keep_6 : decode cX5_keep 6 = .ok (.iadd, 1) := by decide +kernel
theorem dX5_keep_7 : decode cX5_keep 7 = .ok (.bipush 16, 2) := by decide +kernel
theorem dX5_keep_9 : decode cX5_keep 9 = .ok (.if_icmp .ge 12, 3) := by decide +kernel
theorem dX5_keep_12 : decode cX5_keep 12 = .ok (.aload_n 0, 1) := by decide +kernel
theorem dX5_keep_13 : decode cX5_keep 13 = .ok (.getfield 28, 3) := by decide +kernel
theorem dX5_keep_16 : decode cX5_keep 16 = .ok (.iconst 1, 1) := by decide +kernel
theorem dX5_keep_17 : decode cX5_keep 17 = .ok (.iadd, 1) := by decide +kernel
theorem dX5_keep_18 : decode cX5_keep 18 = .ok (.goto 4, 3) := by decide +kernel
theorem dX5_keep_21 : decode cX5_keep 21 = .ok (.iconst 0, 1) := by decide +kernel
theorem dX5_keep_22 : decode cX5_keep 22 = .ok (.putfield 28, 3) := by decide +kernel
theorem dX5_keep_25 : decode cX5_keep 25 = .ok (.aload_n 0, 1) := by decide +kernel
theorem dX5_keep_26 : decode cX5_keep 26 = .ok (.getfield 11, 3) := by decide +kernel
theorem dX5_keep_29 : decode cX5_keep 29 = .ok (.aload_n 0, 1) := by decide +kernel
theorem dX5_keep_30 : decode cX5_keep 30 = .ok (.getfield 28, 3) := by decide +kernel
theorem dX5_keep_33 : decode cX5_keep 33 = .ok (.aaload, 1) := by decide +kernel
theorem dX5_keep_34 : decode cX5_keep 34 = .ok (.aload_n 1, 1) := by decide +kernel
theorem dX5_keep_35 : decode cX5_keep 35 = .ok (.invokevirtual 31, 3) := by decide +kernel
theorem dX5_keep_38 : decode cX5_keep 38 = .ok (.aload_n 0, 1) := by decide +kernel
theorem dX5_keep_39 : decode cX5_keep 39 = .ok (.bipush 16, 2) := by decide +kernel
theorem dX5_keep_41 : decode cX5_keep 41 = .ok (.aload_n 0, 1) := by decide +kernel
theorem dX5_keep_42 : decode cX5_keep 42 = .ok (.getfield 21, 3) := by decide +kernel
theorem dX5_keep_45 : decode cX5_keep 45 = .ok (.iconst 1, 1) := by decide +kernel
theorem dX5_keep_46 : decode cX5_keep 46 = .ok (.iadd, 1) := by decide +kernel
theorem dX5_keep_47 : decode cX5_keep 47 = .ok (.invokestatic 35, 3) := by decide +kernel
theorem dX5_keep_50 : decode cX5_keep 50 = .ok (.putfield 21, 3) := by decide +kernel
theorem dX5_keep_53 : decode cX5_keep 53 = .ok (.return_, 1) := by decide +kernel
theorem dX5_takeBack_0 : decode cX5_takeBack 0 = .ok (.aload_n 0, 1) := by decide +kernel
theorem dX5_takeBack_1 : decode cX5_takeBack 1 = .ok (.getfield 21, 3) := by decide +kernel
theorem dX5_takeBack_4 : decode cX5_takeBack 4 = .ok (.ifCond .ne 5, 3) := by decide +kernel
theorem dX5_takeBack_7 : decode cX5_takeBack 7 = .ok (.iconst 0, 1) := by decide +kernel
theorem dX5_takeBack_8 : decode cX5_takeBack 8 = .ok (.ireturn, 1) := by decide +kernel
theorem dX5_takeBack_9 : decode cX5_takeBack 9 = .ok (.aload_n 1, 1) := by decide +kernel
theorem dX5_takeBack_10 : decode cX5_takeBack 10 = .ok (.aload_n 0, 1) := by decide +kernel
theorem dX5_takeBack_11 : decode cX5_takeBack 11 = .ok (.getfield 11, 3) := by decide +kernel
theorem dX5_takeBack_14 : decode cX5_takeBack 14 = .ok (.aload_n 0, 1) := by decide +kernel
theorem dX5_takeBack_15 : decode cX5_takeBack 15 = .ok (.getfield 28, 3) := by decide +kernel
theorem dX5_takeBack_18 : decode cX5_takeBack 18 = .ok (.aaload, 1) := by decide +kernel
theorem dX5_takeBack_19 : decode cX5_takeBack 19 = .ok (.invokevirtual 31, 3) := by decide +kernel
theorem dX5_takeBack_22 : decode cX5_takeBack 22 = .ok (.aload_n 0, 1) := by decide +kernel
theorem dX5_takeBack_23 : decode cX5_takeBack 23 = .ok (.aload_n 0, 1) := by decide +kernel
theorem dX5_takeBack_24 : decode cX5_takeBack 24 = .ok (.getfield 28, 3) := by decide +kernel
theorem dX5_takeBack_27 : decode cX5_takeBack 27 = .ok (.ifCond .le 12, 3) := by decide +kernel
theorem dX5_takeBack_30 : decode cX5_takeBack 30 = .ok (.aload_n 0, 1) := by decide +kernel
theorem dX5_takeBack_31 : decode cX5_takeBack 31 = .ok (.getfield 28, 3) := by decide +kernel
theorem dX5_takeBack_34 : decode cX5_takeBack 34 = .ok (.iconst 1, 1) := by decide +kernel
theorem dX5_takeBack_35 : decode cX5_takeBack 35 = .ok (.isub, 1) := by decide +kernel
theorem dX5_takeBack_36 : decode cX5_takeBack 36 = .ok (.goto 5, 3) := by decide +kernel
theorem dX5_takeBack_39 : decode cX5_takeBack 39 = .ok (.bipush 15, 2) := by decide +kernel
theorem dX5_takeBack_41 : decode cX5_takeBack 41 = .ok (.putfield 28, 3) := by decide +kernel
theorem dX5_takeBack_44 : decode cX5_takeBack 44 = .ok (.aload_n 0, 1) := by decide +kernel
theorem dX5_takeBack_45 : decode cX5_takeBack 45 = .ok (.dup, 1) := by decide +kernel
theorem dX5_takeBack_46 : decode cX5_takeBack 46 = .ok (.getfield 21, 3) := by decide +kernel
theorem dX5_takeBack_49 : decode cX5_takeBack 49 = .ok (.iconst 1, 1) := by decide +kernel
theorem dX5_takeBack_50 : decode cX5_takeBack 50 = .ok (.isub, 1) := by decide +kernel
theorem dX5_takeBack_51 : decode cX5_takeBack 51 = .ok (.putfield 21, 3) := by decide +kernel
theorem dX5_takeBack_54 : decode cX5_takeBack 54 = .ok (.iconst 1, 1) := by decide +kernel
theorem dX5_takeBack_55 : decode cX5_takeBack 55 = .ok (.ireturn, 1) := by decide +kernel
theorem dX5_addMark_0 : decode cX5_addMark 0 = .ok (.aload_n 0, 1) := by decide +kernel
theorem dX5_addMark_1 : decode cX5_addMark 1 = .ok (.getfield 25, 3) := by decide +kernel
theorem dX5_addMark_4 : decode cX5_addMark 4 = .ok (.iconst 3, 1) := by decide +kernel
theorem dX5_addMark_5 : decode cX5_addMark 5 = .ok (.if_icmp .lt 5, 3) := by decide +kernel
theorem dX5_addMark_8 : decode cX5_addMark 8 = .ok (.iconst (-1), 1) := by decide +kernel
theorem dX5_addMark_9 : decode cX5_addMark 9 = .ok (.ireturn, 1) := by decide +kernel
theorem dX5_addMark_10 : decode cX5_addMark 10 = .ok (.aload_n 0, 1) := by decide +kernel
theorem dX5_addMark_11 : decode cX5_addMark 11 = .ok (.getfield 17, 3) := by decide +kernel
theorem dX5_addMark_14 : decode cX5_addMark 14 = .ok (.aload_n 0, 1) := by decide +kernel
theorem dX5_addMark_15 : decode cX5_addMark 15 = .ok (.getfield 25, 3) := by decide +kernel
theorem dX5_addMark_18 : decode cX5_addMark 18 = .ok (.aaload, 1) := by decide +kernel
theorem dX5_addMark_19 : decode cX5_addMark 19 = .ok (.aload_n 1, 1) := by decide +kernel
theorem dX5_addMark_20 : decode cX5_addMark 20 = .ok (.invokevirtual 31, 3) := by decide +kernel
theorem dX5_addMark_23 : decode cX5_addMark 23 = .ok (.aload_n 0, 1) := by decide +kernel
theorem dX5_addMark_24 : decode cX5_addMark 24 = .ok (.dup, 1) := by decide +kernel
theorem dX5_addMark_25 : decode cX5_addMark 25 = .ok (.getfield 25, 3) := by decide +kernel
theorem dX5_addMark_28 : decode cX5_addMark 28 = .ok (.iconst 1, 1) := by decide +kernel
theorem dX5_addMark_29 : decode cX5_addMark 29 = .ok (.iadd, 1) := by decide +kernel
theorem dX5_addMark_30 : decode cX5_addMark 30 = .ok (.putfield 25, 3) := by decide +kernel
theorem dX5_addMark_33 : decode cX5_addMark 33 = .ok (.aload_n 0, 1) := by decide +kernel
theorem dX5_addMark_34 : decode cX5_addMark 34 = .ok (.getfield 25, 3) := by decide +kernel
theorem dX5_addMark_37 : decode cX5_addMark 37 = .ok (.iconst 1, 1) := by decide +kernel
theorem dX5_addMark_38 : decode cX5_addMark 38 = .ok (.isub, 1) := by decide +kernel
theorem dX5_addMark_39 : decode cX5_addMark 39 = .ok (.ireturn, 1) := by decide +kernel
theorem dX5_goBack_0 : decode cX5_goBack 0 = .ok (.iload_n 1, 1) := by decide +kernel
theorem dX5_goBack_1 : decode cX5_goBack 1 = .ok (.ifCond .lt 16, 3) := by decide +kernel
theorem dX5_goBack_4 : decode cX5_goBack 4 = .ok (.iload_n 1, 1) := by decide +kernel
theorem dX5_goBack_5 : decode cX5_goBack 5 = .ok (.aload_n 0, 1) := by decide +kernel
theorem dX5_goBack_6 : decode cX5_goBack 6 = .ok (.getfield 25, 3) := by decide +kernel
theorem dX5_goBack_9 : decode cX5_goBack 9 = .ok (.if_icmp .ge 8, 3) := by decide +kernel
theorem dX5_goBack_12 : decode cX5_goBack 12 = .ok (.iload_n 1, 1) := by decide +kernel
theorem dX5_goBack_13 : decode cX5_goBack 13 = .ok (.iconst 3, 1) := by decide +kernel
theorem dX5_goBack_14 : decode cX5_goBack 14 = .ok (.if_icmp .lt 5, 3) := by decide +kernel
theorem dX5_goBack_17 : decode cX5_goBack 17 = .ok (.iconst 0, 1) := by decide +kernel
theorem dX5_goBack_18 : decode cX5_goBack 18 = .ok (.ireturn, 1) := by decide +kernel
theorem dX5_goBack_19 : decode cX5_goBack 19 = .ok (.aload_n 2, 1) := by decide +kernel
theorem dX5_goBack_20 : decode cX5_goBack 20 = .ok (.aload_n 0, 1) := by decide +kernel
theorem dX5_goBack_21 : decode cX5_goBack 21 = .ok (.getfield 17, 3) := by decide +kernel
theorem dX5_goBack_24 : decode cX5_goBack 24 = .ok (.iload_n 1, 1) := by decide +kernel
theorem dX5_goBack_25 : decode cX5_goBack 25 = .ok (.aaload, 1) := by decide +kernel
theorem dX5_goBack_26 : decode cX5_goBack 26 = .ok (.invokevirtual 31, 3) := by decide +kernel
theorem dX5_goBack_29 : decode cX5_goBack 29 = .ok (.aload_n 0, 1) := by decide +kernel
theorem dX5_goBack_30 : decode cX5_goBack 30 = .ok (.iconst 0, 1) := by decide +kernel
theorem dX5_goBack_31 : decode cX5_goBack 31 = .ok (.putfield 21, 3) := by decide +kernel
theorem dX5_goBack_34 : decode cX5_goBack 34 = .ok (.iconst 1, 1) := by decide +kernel
theorem dX5_goBack_35 : decode cX5_goBack 35 = .ok (.ireturn, 1) := by decide +kernel
theorem dX9_init_0 : decode cX9_init 0 = .ok (.aload_n 0, 1) := by decide +kernel
theorem dX9_init_1 : decode cX9_init 1 = .ok (.invokespecial 1, 3) := by decide +kernel
theorem dX9_init_4 : decode cX9_init 4 = .ok (.aload_n 0, 1) := by decide +kernel
theorem dX9_init_5 : decode cX9_init 5 = .ok (.aload_n 1, 1) := by decide +kernel
theorem dX9_init_6 : decode cX9_init 6 = .ok (.putfield 7, 3) := by decide +kernel
theorem dX9_init_9 : decode cX9_init 9 = .ok (.return_, 1) := by decide +kernel
theorem dX9_begin_0 : decode cX9_begin 0 = .ok (.aload_n 0, 1) := by decide +kernel
theorem dX9_begin_1 : decode cX9_begin 1 = .ok (.iload_n 1, 1) := by decide +kernel
theorem dX9_begin_2 : decode cX9_begin 2 = .ok (.aload_n 0, 1) := by decide +kernel
theorem dX9_begin_3 : decode cX9_begin 3 = .ok (.getfield 7, 3) := by decide +kernel
theorem dX9_begin_6 : decode cX9_begin 6 = .ok (.arraylength, 1) := by decide +kernel
theorem dX9_begin_7 : decode cX9_begin 7 = .ok (.invokestatic 13, 3) := by decide +kernel
theorem dX9_begin_10 : decode cX9_begin 10 = .ok (.putfield 19, 3) := by decide +kernel
theorem dX9_begin_13 : decode cX9_begin 13 = .ok (.aload_n 0, 1) := by decide +kernel
theorem dX9_begin_14 : decode cX9_begin 14 = .ok (.iconst 0, 1) := by decide +kernel
theorem dX9_begin_15 : decode cX9_begin 15 = .ok (.putfield 23, 3) := by decide +kernel
theorem dX9_begin_18 : decode cX9_begin 18 = .ok (.aload_n 0, 1) := by decide +kernel
theorem dX9_begin_19 : decode cX9_begin 19 = .ok (.iconst 0, 1) := by decide +kernel
theorem dX9_begin_20 : decode cX9_begin 20 = .ok (.putfield 26, 3) := by decide +kernel
theorem dX9_begin_23 : decode cX9_begin 23 = .ok (.aload_n 0, 1) := by decide +kernel
theorem dX9_begin_24 : decode cX9_begin 24 = .ok (.iconst 0, 1) := by decide +kernel
theorem dX9_begin_25 : decode cX9_begin 25 = .ok (.putfield 29, 3) := by decide +kernel
theorem dX9_begin_28 : decode cX9_begin 28 = .ok (.return_, 1) := by decide +kernel
theorem dX9_step_0 : decode cX9_step 0 = .ok (.aload_n 0, 1) := by decide +kernel
theorem dX9_step_1 : decode cX9_step 1 = .ok (.aload_n 0, 1) := by decide +kernel
theorem dX9_step_2 : decode cX9_step 2 = .ok (.getfield 26, 3) := by decide +kernel
theorem dX9_step_5 : decode cX9_step 5 = .ok (.putfield 23, 3) := by decide +kernel
theorem dX9_step_8 : decode cX9_step 8 = .ok (.aload_n 0, 1) := by decide +kernel
theorem dX9_step_9 : decode cX9_step 9 = .ok (.getfield 23, 3) := by decide +kernel
theorem dX9_step_12 : decode cX9_step 12 = .ok (.aload_n 0, 1) := by decide +kernel
theorem dX9_step_13 : decode cX9_step 13 = .ok (.getfield 19, 3) := by decide +kernel
theorem dX9_step_16 : decode cX9_step 16 = .ok (.if_icmp .ge 30, 3) := by decide +kernel
theorem dX9_step_19 : decode cX9_step 19 = .ok (.aload_n 0, 1) := by decide +kernel
theorem dX9_step_20 : decode cX9_step 20 = .ok (.getfield 7, 3) := by decide +kernel
theorem dX9_step_23 : decode cX9_step 23 = .ok (.aload_n 0, 1) := by decide +kernel
theorem dX9_step_24 : decode cX9_step 24 = .ok (.getfield 23, 3) := by decide +kernel
theorem dX9_step_27 : decode cX9_step 27 = .ok (.baload, 1) := by decide +kernel
theorem dX9_step_28 : decode cX9_step 28 = .ok (.bipush 32, 2) := by decide +kernel
theorem dX9_step_30 : decode cX9_step 30 = .ok (.if_icmp .ne 16, 3) := by decide +kernel
theorem dX9_step_33 : decode cX9_step 33 = .ok (.aload_n 0, 1) := by decide +kernel
theorem dX9_step_34 : decode cX9_step 34 = .ok (.dup, 1) := by decide +kernel
theorem dX9_step_35 : decode cX9_step 35 = .ok (.getfield 23, 3) := by decide +kernel
theorem dX9_step_38 : decode cX9_step 38 = .ok (.iconst 1, 1) := by decide +kernel
theorem dX9_step_39 : decode cX9_step 39 = .ok (.iadd, 1) := by decide +kernel
theorem dX9_step_40 : decode cX9_step 40 = .ok (.putfield 23, 3) := by decide +kernel
theorem dX9_step_43 : decode cX9_step 43 = .ok (.goto (-35), 3) := by decide +kernel
theorem dX9_step_46 : decode cX9_step 46 = .ok (.aload_n 0, 1) := by decide +kernel
theorem dX9_step_47 : decode cX9_step 47 = .ok (.aload_n 0, 1) := by decide +kernel
theorem dX9_step_48 : decode cX9_step 48 = .ok (.getfield 23, 3) := by decide +kernel
theorem dX9_step_51 : decode cX9_step 51 = .ok (.putfield 26, 3) := by decide +kernel
theorem dX9_step_54 : decode cX9_step 54 = .ok (.aload_n 0, 1) := by decide +kernel
theorem dX9_step_55 : decode cX9_step 55 = .ok (.getfield 23, 3) := by decide +kernel
theorem dX9_step_58 : decode cX9_step 58 = .ok (.aload_n 0, 1) := by decide +kernel
theorem dX9_step_59 : decode cX9_step 59 = .ok (.getfield 19, 3) := by decide +kernel
theorem dX9_step_62 : decode cX9_step 62 = .ok (.if_icmp .lt 11, 3) := by decide +kernel
theorem dX9_step_65 : decode cX9_step 65 = .ok (.aload_n 0, 1) := by decide +kernel
theorem dX9_step_66 : decode cX9_step 66 = .ok (.iconst 0, 1) := by decide +kernel
theorem dX9_step_67 : decode cX9_step 67 = .ok (.putfield 29, 3) := by decide +kernel
theorem dX9_step_70 : decode cX9_step 70 = .ok (.goto 113, 3) := by decide +kernel
theorem dX9_step_73 : decode cX9_step 73 = .ok (.aload_n 0, 1) := by decide +kernel
theorem dX9_step_74 : decode cX9_step 74 = .ok (.getfield 7, 3) := by decide +kernel
theorem dX9_step_77 : decode cX9_step 77 = .ok (.aload_n 0, 1) := by decide +kernel
theorem dX9_step_78 : decode cX9_step 78 = .ok (.getfield 23, 3) := by decide +kernel
theorem dX9_step_81 : decode cX9_step 81 = .ok (.baload, 1) := by decide +kernel
theorem dX9_step_82 : decode cX9_step 82 = .ok (.bipush 59, 2) := by decide +kernel
theorem dX9_step_84 : decode cX9_step 84 = .ok (.if_icmp .ne 21, 3) := by decide +kernel
theorem dX9_step_87 : decode cX9_step 87 = .ok (.aload_n 0, 1) := by decide +kernel
theorem dX9_step_88 : decode cX9_step 88 = .ok (.aload_n 0, 1) := by decide +kernel
theorem dX9_step_89 : decode cX9_step 89 = .ok (.getfield 23, 3) := by decide +kernel
theorem dX9_step_92 : decode cX9_step 92 = .ok (.iconst 1, 1) := by decide +kernel
theorem dX9_step_93 : decode cX9_step 93 = .ok (.iadd, 1) := by decide +kernel
theorem dX9_step_94 : decode cX9_step 94 = .ok (.putfield 26, 3) := by decide +kernel
theorem dX9_step_97 : decode cX9_step 97 = .ok (.aload_n 0, 1) := by decide +kernel
theorem dX9_step_98 : decode cX9_step 98 = .ok (.iconst 3, 1) := by decide +kernel
theorem dX9_step_99 : decode cX9_step 99 = .ok (.putfield 29, 3) := by decide +kernel
theorem dX9_step_102 : decode cX9_step 102 = .ok (.goto 81, 3) := by decide +kernel
theorem dX9_step_105 : decode cX9_step 105 = .ok (.aload_n 0, 1) := by decide +kernel
theorem dX9_step_106 : decode cX9_step 106 = .ok (.bipush 97, 2) := by decide +kernel
theorem dX9_step_108 : decode cX9_step 108 = .ok (.bipush 122, 2) := by decide +kernel
theorem dX9_step_110 : decode cX9_step 110 = .ok (.invokevirtual 32, 3) := by decide +kernel
theorem dX9_step_113 : decode cX9_step 113 = .ok (.ifCond .eq 29, 3) := by decide +kernel
theorem dX9_step_116 : decode cX9_step 116 = .ok (.aload_n 0, 1) := by decide +kernel
theorem dX9_step_117 : decode cX9_step 117 = .ok (.aload_n 0, 1) := by decide +kernel
theorem dX9_step_118 : decode cX9_step 118 = .ok (.getfield 26, 3) := by decide +kernel
theorem dX9_step_121 : decode cX9_step 121 = .ok (.aload_n 0, 1) := by decide +kernel
theorem dX9_step_122 : decode cX9_step 122 = .ok (.getfield 23, 3) := by decide +kernel
theorem dX9_step_125 : decode cX9_step 125 = .ok (.isub, 1) := by decide +kernel
theorem dX9_step_126 : decode cX9_step 126 = .ok (.bipush 8, 2) := by decide +kernel
theorem dX9_step_128 : decode cX9_step 128 = .ok (.if_icmp .gt 7, 3) := by decide +kernel
theorem dX9_step_131 : decode cX9_step 131 = .ok (.iconst 1, 1) := by decide +kernel
theorem dX9_step_132 : decode cX9_step 132 = .ok (.goto 4, 3) := by decide +kernel
theorem dX9_step_135 : decode cX9_step 135 = .ok (.iconst 4, 1) := by decide +kernel
theorem dX9_step_136 : decode cX9_step 136 = .ok (.putfield 29, 3) := by decide +kernel
theorem dX9_step_139 : decode cX9_step 139 = .ok (.goto 44, 3) := by decide +kernel
theorem dX9_step_142 : decode cX9_step 142 = .ok (.aload_n 0, 1) := by decide +kernel
theorem dX9_step_143 : decode cX9_step 143 = .ok (.bipush 48, 2) := by decide +kernel
theorem dX9_step_145 : decode cX9_step 145 = .ok (.bipush 57, 2) := by decide +kernel
theorem dX9_step_147 : decode cX9_step 147 = .ok (.invokevirtual 32, 3) := by decide +kernel
theorem dX9_step_150 : decode cX9_step 150 = .ok (.ifCond .eq 28, 3) := by decide +kernel
theorem dX9_step_153 : decode cX9_step 153 = .ok (.aload_n 0, 1) := by decide +kernel
theorem dX9_step_154 : decode cX9_step 154 = .ok (.aload_n 0, 1) := by decide +kernel
theorem dX9_step_155 : decode cX9_step 155 = .ok (.getfield 26, 3) := by decide +kernel
theorem dX9_step_158 : decode cX9_step 158 = .ok (.aload_n 0, 1) := by decide +kernel
theorem dX9_step_159 : decode cX9_step 159 = .ok (.getfield 23, 3) := by decide +kernel
theorem dX9_step_162 : decode cX9_step 162 = .ok (.isub, 1) := by decide +kernel
theorem dX9_step_163 : decode cX9_step 163 = .ok (.iconst 3, 1) := by decide +kernel
theorem dX9_step_164 : decode cX9_step 164 = .ok (.if_icmp .gt 7, 3) := by decide +kernel
theorem dX9_step_167 : decode cX9_step 167 = .ok (.iconst 2, 1) := by decide +kernel
theorem dX9_step_168 : decode cX9_step 168 = .ok (.goto 4, 3) := by decide +kernel
theorem dX9_step_171 : decode cX9_step 171 = .ok (.iconst 4, 1) := by decide +kernel
theorem dX9_step_172 : decode cX9_step 172 = .ok (.putfield 29, 3) := by decide +kernel
theorem dX9_step_175 : decode cX9_step 175 = .ok (.goto 8, 3) := by decide +kernel
theorem dX9_step_178 : decode cX9_step 178 = .ok (.aload_n 0, 1) := by decide +kernel
theorem dX9_step_179 : decode cX9_step 179 = .ok (.iconst 4, 1) := by decide +kernel
theorem dX9_step_180 : decode cX9_step 180 = .ok (.putfield 29, 3) := by decide +kernel
theorem dX9_step_183 : decode cX9_step 183 = .ok (.return_, 1) := by decide +kernel
theorem dX9_runOn_0 : decode cX9_runOn 0 = .ok (.aload_n 0, 1) := by decide +kernel
theorem dX9_runOn_1 : decode cX9_runOn 1 = .ok (.getfield 26, 3) := by decide +kernel
theorem dX9_runOn_4 : decode cX9_runOn 4 = .ok (.aload_n 0, 1) := by decide +kernel
theorem dX9_runOn_5 : decode cX9_runOn 5 = .ok (.getfield 19, 3) := by decide +kernel
theorem dX9_runOn_8 : decode cX9_runOn 8 = .ok (.if_icmp .ge 42, 3) := by decide +kernel
theorem dX9_runOn_11 : decode cX9_runOn 11 = .ok (.aload_n 0, 1) := by decide +kernel
theorem dX9_runOn_12 : decode cX9_runOn 12 = .ok (.getfield 7, 3) := by decide +kernel
theorem dX9_runOn_15 : decode cX9_runOn 15 = .ok (.aload_n 0, 1) := by decide +kernel
theorem dX9_runOn_16 : decode cX9_runOn 16 = .ok (.getfield 26, 3) := by decide +kernel
theorem dX9_runOn_19 : decode cX9_runOn 19 = .ok (.baload, 1) := by decide +kernel
theorem dX9_runOn_20 : decode cX9_runOn 20 = .ok (.iload_n 1, 1) := by decide +kernel
theorem dX9_runOn_21 : decode cX9_runOn 21 = .ok (.if_icmp .lt 29, 3) := by decide +kernel
theorem dX9_runOn_24 : decode cX9_runOn 24 = .ok (.aload_n 0, 1) := by decide +kernel
theorem dX9_runOn_25 : decode cX9_runOn 25 = .ok (.getfield 7, 3) := by decide +kernel
theorem dX9_runOn_28 : decode cX9_runOn 28 = .ok (.aload_n 0, 1) := by decide +kernel
theorem dX9_runOn_29 : decode cX9_runOn 29 = .ok (.getfield 26, 3) := by decide +kernel
theorem dX9_runOn_32 : decode cX9_runOn 32 = .ok (.baload, 1) := by decide +kernel
theorem dX9_runOn_33 : decode cX9_runOn 33 = .ok (.iload_n 2, 1) := by decide +kernel
theorem dX9_runOn_34 : decode cX9_runOn 34 = .ok (.if_icmp .gt 16, 3) := by decide +kernel
theorem dX9_runOn_37 : decode cX9_runOn 37 = .ok (.aload_n 0, 1) := by decide +kernel
theorem dX9_runOn_38 : decode cX9_runOn 38 = .ok (.dup, 1) := by decide +kernel
theorem dX9_runOn_39 : decode cX9_runOn 39 = .ok (.getfield 26, 3) := by decide +kernel
theorem dX9_runOn_42 : decode cX9_runOn 42 = .ok (.iconst 1, 1) := by decide +kernel
theorem dX9_runOn_43 : decode cX9_runOn 43 = .ok (.iadd, 1) := by decide +kernel
theorem dX9_runOn_44 : decode cX9_runOn 44 = .ok (.putfield 26, 3) := by decide +kernel
theorem dX9_runOn_47 : decode cX9_runOn 47 = .ok (.goto (-47), 3) := by decide +kernel
theorem dX9_runOn_50 : decode cX9_runOn 50 = .ok (.aload_n 0, 1) := by decide +kernel
theorem dX9_runOn_51 : decode cX9_runOn 51 = .ok (.getfield 26, 3) := by decide +kernel
theorem dX9_runOn_54 : decode cX9_runOn 54 = .ok (.aload_n 0, 1) := by decide +kernel
theorem dX9_runOn_55 : decode cX9_runOn 55 = .ok (.getfield 23, 3) := by decide +kernel
theorem dX9_runOn_58 : decode cX9_runOn 58 = .ok (.if_icmp .le 7, 3) := by decide +kernel
theorem dX9_runOn_61 : decode cX9_runOn 61 = .ok (.iconst 1, 1) := by decide +kernel
theorem dX9_runOn_62 : decode cX9_runOn 62 = .ok (.goto 4, 3) := by decide +kernel
theorem dX9_runOn_65 : decode cX9_runOn 65 = .ok (.iconst 0, 1) := by decide +kernel
theorem dX9_runOn_66 : decode cX9_runOn 66 = .ok (.ireturn, 1) := by decide +kernel
theorem dX9_isWord_0 : decode cX9_isWord 0 = .ok (.aload_n 0, 1) := by decide +kernel
theorem dX9_isWord_1 : decode cX9_isWord 1 = .ok (.getfield 29, 3) := by decide +kernel
theorem dX9_isWord_4 : decode cX9_isWord 4 = .ok (.iconst 1, 1) := by decide +kernel
theorem dX9_isWord_5 : decode cX9_isWord 5 = .ok (.if_icmp .ne 19, 3) := by decide +kernel
theorem dX9_isWord_8 : decode cX9_isWord 8 = .ok (.aload_n 0, 1) := by decide +kernel
theorem dX9_isWord_9 : decode cX9_isWord 9 = .ok (.getfield 26, 3) := by decide +kernel
theorem dX9_isWord_12 : decode cX9_isWord 12 = .ok (.aload_n 0, 1) := by decide +kernel
theorem dX9_isWord_13 : decode cX9_isWord 13 = .ok (.getfield 23, 3) := by decide +kernel
theorem dX9_isWord_16 : decode cX9_isWord 16 = .ok (.isub, 1) := by decide +kernel
theorem dX9_isWord_17 : decode cX9_isWord 17 = .ok (.aload_n 1, 1) := by decide +kernel
theorem dX9_isWord_18 : decode cX9_isWord 18 = .ok (.invokevirtual 36, 3) := by decide +kernel
theorem dX9_isWord_21 : decode cX9_isWord 21 = .ok (.if_icmp .eq 5, 3) := by decide +kernel
theorem dX9_isWord_24 : decode cX9_isWord 24 = .ok (.iconst 0, 1) := by decide +kernel
theorem dX9_isWord_25 : decode cX9_isWord 25 = .ok (.ireturn, 1) := by decide +kernel
theorem dX9_isWord_26 : decode cX9_isWord 26 = .ok (.iconst 0, 1) := by decide +kernel
theorem dX9_isWord_27 : decode cX9_isWord 27 = .ok (.istore_n 2, 1) := by decide +kernel
theorem dX9_isWord_28 : decode cX9_isWord 28 = .ok (.iload_n 2, 1) := by decide +kernel
theorem dX9_isWord_29 : decode cX9_isWord 29 = .ok (.aload_n 1, 1) := by decide +kernel
theorem dX9_isWord_30 : decode cX9_isWord 30 = .ok (.invokevirtual 36, 3) := by decide +kernel
theorem dX9_isWord_33 : decode cX9_isWord 33 = .ok (.if_icmp .ge 30, 3) := by decide +kernel
theorem dX9_isWord_36 : decode cX9_isWord 36 = .ok (.aload_n 0, 1) := by decide +kernel
theorem dX9_isWord_37 : decode cX9_isWord 37 = .ok (.getfield 7, 3) := by decide +kernel
theorem dX9_isWord_40 : decode cX9_isWord 40 = .ok (.aload_n 0, 1) := by decide +kernel
theorem dX9_isWord_41 : decode cX9_isWord 41 = .ok (.getfield 23, 3) := by decide +kernel
theorem dX9_isWord_44 : decode cX9_isWord 44 = .ok (.iload_n 2, 1) := by decide +kernel
theorem dX9_isWord_45 : decode cX9_isWord 45 = .ok (.iadd, 1) := by decide +kernel
theorem dX9_isWord_46 : decode cX9_isWord 46 = .ok (.baload, 1) := by decide +kernel
theorem dX9_isWord_47 : decode cX9_isWord 47 = .ok (.aload_n 1, 1) := by decide +kernel
theorem dX9_isWord_48 : decode cX9_isWord 48 = .ok (.iload_n 2, 1) := by decide +kernel
theorem dX9_isWord_49 : decode cX9_isWord 49 = .ok (.invokevirtual 42, 3) := by decide +kernel
theorem dX9_isWord_52 : decode cX9_isWord 52 = .ok (.if_icmp .eq 5, 3) := by decide +kernel
theorem dX9_isWord_55 : decode cX9_isWord 55 = .ok (.iconst 0, 1) := by decide +kernel
theorem dX9_isWord_56 : decode cX9_isWord 56 = .ok (.ireturn, 1) := by decide +kernel
theorem dX9_isWord_57 : decode cX9_isWord 57 = .ok (.iinc 2 1, 3) := by decide +kernel
theorem dX9_isWord_60 : decode cX9_isWord 60 = .ok (.goto (-32), 3) := by decide +kernel
theorem dX9_isWord_63 : decode cX9_isWord 63 = .ok (.iconst 1, 1) := by decide +kernel
theorem dX9_isWord_64 : decode cX9_isWord 64 = .ok (.ireturn, 1) := by decide +kernel
theorem dX9_value_0 : decode cX9_value 0 = .ok (.iconst 0, 1) := by decide +kernel
theorem dX9_value_1 : decode cX9_value 1 = .ok (.istore_n 1, 1) := by decide +kernel
theorem dX9_value_2 : decode cX9_value 2 = .ok (.aload_n 0, 1) := by decide +kernel
theorem dX9_value_3 : decode cX9_value 3 = .ok (.getfield 23, 3) := by decide +kernel
theorem dX9_value_6 : decode cX9_value 6 = .ok (.istore_n 2, 1) := by decide +kernel
theorem dX9_value_7 : decode cX9_value 7 = .ok (.iload_n 2, 1) := by decide +kernel
theorem dX9_value_8 : decode cX9_value 8 = .ok (.aload_n 0, 1) := by decide +kernel
theorem dX9_value_9 : decode cX9_value 9 = .ok (.getfield 26, 3) := by decide +kernel
theorem dX9_value_12 : decode cX9_value 12 = .ok (.if_icmp .ge 24, 3) := by decide +kernel
theorem dX9_value_15 : decode cX9_value 15 = .ok (.bipush 10, 2) := by decide +kernel
theorem dX9_value_17 : decode cX9_value 17 = .ok (.iload_n 1, 1) := by decide +kernel
theorem dX9_value_18 : decode cX9_value 18 = .ok (.imul, 1) := by decide +kernel
theorem dX9_value_19 : decode cX9_value 19 = .ok (.aload_n 0, 1) := by decide +kernel
theorem dX9_value_20 : decode cX9_value 20 = .ok (.getfield 7, 3) := by decide +kernel
theorem dX9_value_23 : decode cX9_value 23 = .ok (.iload_n 2, 1) := by decide +kernel
theorem dX9_value_24 : decode cX9_value 24 = .ok (.baload, 1) := by decide +kernel
theorem dX9_value_25 : decode cX9_value 25 = .ok (.iadd, 1) := by decide +kernel
theorem dX9_value_26 : decode cX9_value 26 = .ok (.bipush 48, 2) := by decide +kernel
theorem dX9_value_28 : decode cX9_value 28 = .ok (.isub, 1) := by decide +kernel
theorem dX9_value_29 : decode cX9_value 29 = .ok (.istore_n 1, 1) := by decide +kernel
theorem dX9_value_30 : decode cX9_value 30 = .ok (.iinc 2 1, 3) := by decide +kernel
theorem dX9_value_33 : decode cX9_value 33 = .ok (.goto (-26), 3) := by decide +kernel
theorem dX9_value_36 : decode cX9_value 36 = .ok (.iload_n 1, 1) := by decide +kernel
theorem dX9_value_37 : decode cX9_value 37 = .ok (.ireturn, 1) := by decide +kernel
theorem dX9_beginsLine_0 : decode cX9_beginsLine 0 = .ok (.aload_n 0, 1) := by decide +kernel
theorem dX9_beginsLine_1 : decode cX9_beginsLine 1 = .ok (.ldc 46, 2) := by decide +kernel
theorem dX9_beginsLine_3 : decode cX9_beginsLine 3 = .ok (.invokevirtual 48, 3) := by decide +kernel
theorem dX9_beginsLine_6 : decode cX9_beginsLine 6 = .ok (.ifCond .ne 48, 3) := by decide +kernel
theorem dX9_beginsLine_9 : decode cX9_beginsLine 9 = .ok (.aload_n 0, 1) := by decide +kernel
theorem dX9_beginsLine_10 : decode cX9_beginsLine 10 = .ok (.ldc 52, 2) := by decide +kernel
theorem dX9_beginsLine_12 : decode cX9_beginsLine 12 = .ok (.invokevirtual 48, 3) := by decide +kernel
theorem dX9_beginsLine_15 : decode cX9_beginsLine 15 = .ok (.ifCond .ne 39, 3) := by decide +kernel
theorem dX9_beginsLine_18 : decode cX9_beginsLine 18 = .ok (.aload_n 0, 1) := by decide +kernel
theorem dX9_beginsLine_19 : decode cX9_beginsLine 19 = .ok (.ldc 54, 2) := by decide +kernel
theorem dX9_beginsLine_21 : decode cX9_beginsLine 21 = .ok (.invokevirtual 48, 3) := by decide +kernel
theorem dX9_beginsLine_24 : decode cX9_beginsLine 24 = .ok (.ifCond .ne 30, 3) := by decide +kernel
theorem dX9_beginsLine_27 : decode cX9_beginsLine 27 = .ok (.aload_n 0, 1) := by decide +kernel
theorem dX9_beginsLine_28 : decode cX9_beginsLine 28 = .ok (.ldc 56, 2) := by decide +kernel
theorem dX9_beginsLine_30 : decode cX9_beginsLine 30 = .ok (.invokevirtual 48, 3) := by decide +kernel
theorem dX9_beginsLine_33 : decode cX9_beginsLine 33 = .ok (.ifCond .ne 21, 3) := by decide +kernel
theorem dX9_beginsLine_36 : decode cX9_beginsLine 36 = .ok (.aload_n 0, 1) := by decide +kernel
theorem dX9_beginsLine_37 : decode cX9_beginsLine 37 = .ok (.ldc 58, 2) := by decide +kernel
theorem dX9_beginsLine_39 : decode cX9_beginsLine 39 = .ok (.invokevirtual 48, 3) := by decide +kernel
theorem dX9_beginsLine_42 : decode cX9_beginsLine 42 = .ok (.ifCond .ne 12, 3) := by decide +kernel
theorem dX9_beginsLine_45 : decode cX9_beginsLine 45 = .ok (.aload_n 0, 1) := by decide +kernel
theorem dX9_beginsLine_46 : decode cX9_beginsLine 46 = .ok (.ldc 60, 2) := by decide +kernel
theorem dX9_beginsLine_48 : decode cX9_beginsLine 48 = .ok (.invokevirtual 48, 3) := by decide +kernel
theorem dX9_beginsLine_51 : decode cX9_beginsLine 51 = .ok (.ifCond .eq 7, 3) := by decide +kernel
theorem dX9_beginsLine_54 : decode cX9_beginsLine 54 = .ok (.iconst 1, 1) := by decide +kernel
theorem dX9_beginsLine_55 : decode cX9_beginsLine 55 = .ok (.goto 4, 3) := by decide +kernel
theorem dX9_beginsLine_58 : decode cX9_beginsLine 58 = .ok (.iconst 0, 1) := by decide +kernel
theorem dX9_beginsLine_59 : decode cX9_beginsLine 59 = .ok (.ireturn, 1) := by decide +kernel
theorem dX9_isSameAs_0 : decode cX9_isSameAs 0 = .ok (.aload_n 0, 1) := by decide +kernel
theorem dX9_isSameAs_1 : decode cX9_isSameAs 1 = .ok (.getfield 26, 3) := by decide +kernel
theorem dX9_isSameAs_4 : decode cX9_isSameAs 4 = .ok (.aload_n 0, 1) := by decide +kernel
theorem dX9_isSameAs_5 : decode cX9_isSameAs 5 = .ok (.getfield 23, 3) := by decide +kernel
theorem dX9_isSameAs_8 : decode cX9_isSameAs 8 = .ok (.isub, 1) := by decide +kernel
theorem dX9_isSameAs_9 : decode cX9_isSameAs 9 = .ok (.iload_n 2, 1) := by decide +kernel
theorem dX9_isSameAs_10 : decode cX9_isSameAs 10 = .ok (.iload_n 1, 1) := by decide +kernel
theorem dX9_isSameAs_11 : decode cX9_isSameAs 11 = .ok (.isub, 1) := by decide +kernel
theorem dX9_isSameAs_12 : decode cX9_isSameAs 12 = .ok (.if_icmp .ne 15, 3) := by decide +kernel
theorem dX9_isSameAs_15 : decode cX9_isSameAs 15 = .ok (.iload_n 1, 1) := by decide +kernel
theorem dX9_isSameAs_16 : decode cX9_isSameAs 16 = .ok (.ifCond .lt 11, 3) := by decide +kernel
theorem dX9_isSameAs_19 : decode cX9_isSameAs 19 = .ok (.iload_n 2, 1) := by decide +kernel
theorem dX9_isSameAs_20 : decode cX9_isSameAs 20 = .ok (.aload_n 0, 1) := by decide +kernel
theorem dX9_isSameAs_21 : decode cX9_isSameAs 21 = .ok (.getfield 19, 3) := by decide +kernel
theorem dX9_isSameAs_24 : decode cX9_isSameAs 24 = .ok (.if_icmp .le 5, 3) := by decide +kernel
theorem dX9_isSameAs_27 : decode cX9_isSameAs 27 = .ok (.iconst 0, 1) := by decide +kernel
theorem dX9_isSameAs_28 : decode cX9_isSameAs 28 = .ok (.ireturn, 1) := by decide +kernel
theorem dX9_isSameAs_29 : decode cX9_isSameAs 29 = .ok (.iconst 0, 1) := by decide +kernel
theorem dX9_isSameAs_30 : decode cX9_isSameAs 30 = .ok (.istore_n 3, 1) := by decide +kernel
theorem dX9_isSameAs_31 : decode cX9_isSameAs 31 = .ok (.iload_n 3, 1) := by decide +kernel
theorem dX9_isSameAs_32 : decode cX9_isSameAs 32 = .ok (.aload_n 0, 1) := by decide +kernel
theorem dX9_isSameAs_33 : decode cX9_isSameAs 33 = .ok (.getfield 26, 3) := by decide +kernel
theorem dX9_isSameAs_36 : decode cX9_isSameAs 36 = .ok (.aload_n 0, 1) := by decide +kernel
theorem dX9_isSameAs_37 : decode cX9_isSameAs 37 = .ok (.getfield 23, 3) := by decide +kernel
theorem dX9_isSameAs_40 : decode cX9_isSameAs 40 = .ok (.isub, 1) := by decide +kernel
theorem dX9_isSameAs_41 : decode cX9_isSameAs 41 = .ok (.if_icmp .ge 33, 3) := by decide +kernel
theorem dX9_isSameAs_44 : decode cX9_isSameAs 44 = .ok (.aload_n 0, 1) := by decide +kernel
theorem dX9_isSameAs_45 : decode cX9_isSameAs 45 = .ok (.getfield 7, 3) := by decide +kernel
theorem dX9_isSameAs_48 : decode cX9_isSameAs 48 = .ok (.aload_n 0, 1) := by decide +kernel
theorem dX9_isSameAs_49 : decode cX9_isSameAs 49 = .ok (.getfield 23, 3) := by decide +kernel
theorem dX9_isSameAs_52 : decode cX9_isSameAs 52 = .ok (.iload_n 3, 1) := by decide +kernel
theorem dX9_isSameAs_53 : decode cX9_isSameAs 53 = .ok (.iadd, 1) := by decide +kernel
theorem dX9_isSameAs_54 : decode cX9_isSameAs 54 = .ok (.baload, 1) := by decide +kernel
theorem dX9_isSameAs_55 : decode cX9_isSameAs 55 = .ok (.aload_n 0, 1) := by decide +kernel
theorem dX9_isSameAs_56 : decode cX9_isSameAs 56 = .ok (.getfield 7, 3) := by decide +kernel
theorem dX9_isSameAs_59 : decode cX9_isSameAs 59 = .ok (.iload_n 1, 1) := by decide +kernel
theorem dX9_isSameAs_60 : decode cX9_isSameAs 60 = .ok (.iload_n 3, 1) := by decide +kernel
theorem dX9_isSameAs_61 : decode cX9_isSameAs 61 = .ok (.iadd, 1) := by decide +kernel
theorem dX9_isSameAs_62 : decode cX9_isSameAs 62 = .ok (.baload, 1) := by decide +kernel
theorem dX9_isSameAs_63 : decode cX9_isSameAs 63 = .ok (.if_icmp .eq 5, 3) := by decide +kernel
theorem dX9_isSameAs_66 : decode cX9_isSameAs 66 = .ok (.iconst 0, 1) := by decide +kernel
theorem dX9_isSameAs_67 : decode cX9_isSameAs 67 = .ok (.ireturn, 1) := by decide +kernel
theorem dX9_isSameAs_68 : decode cX9_isSameAs 68 = .ok (.iinc 3 1, 3) := by decide +kernel
theorem dX9_isSameAs_71 : decode cX9_isSameAs 71 = .ok (.goto (-40), 3) := by decide +kernel
theorem dX9_isSameAs_74 : decode cX9_isSameAs 74 = .ok (.iconst 1, 1) := by decide +kernel
theorem dX9_isSameAs_75 : decode cX9_isSameAs 75 = .ok (.ireturn, 1) := by decide +kernel
theorem dX7_init_0 : decode cX7_init 0 = .ok (.aload_n 0, 1) := by decide +kernel
theorem dX7_init_1 : decode cX7_init 1 = .ok (.invokespecial 3, 3) := by decide +kernel
theorem dX7_init_4 : decode cX7_init 4 = .ok (.aload_n 0, 1) := by decide +kernel
theorem dX7_init_5 : decode cX7_init 5 = .ok (.new 9, 3) := by decide +kernel
theorem dX7_init_8 : decode cX7_init 8 = .ok (.dup, 1) := by decide +kernel
theorem dX7_init_9 : decode cX7_init 9 = .ok (.invokespecial 11, 3) := by decide +kernel
theorem dX7_init_12 : decode cX7_init 12 = .ok (.putfield 12, 3) := by decide +kernel
theorem dX7_init_15 : decode cX7_init 15 = .ok (.aload_n 0, 1) := by decide +kernel
theorem dX7_init_16 : decode cX7_init 16 = .ok (.bipush 11, 2) := by decide +kernel
theorem dX7_init_18 : decode cX7_init 18 = .ok (.newarray .int, 2) := by decide +kernel
theorem dX7_init_20 : decode cX7_init 20 = .ok (.putfield 18, 3) := by decide +kernel
theorem dX7_init_23 : decode cX7_init 23 = .ok (.aload_n 0, 1) := by decide +kernel
theorem dX7_init_24 : decode cX7_init 24 = .ok (.bipush 11, 2) := by decide +kernel
theorem dX7_init_26 : decode cX7_init 26 = .ok (.newarray .int, 2) := by decide +kernel
theorem dX7_init_28 : decode cX7_init 28 = .ok (.putfield 22, 3) := by decide +kernel
theorem dX7_init_31 : decode cX7_init 31 = .ok (.aload_n 0, 1) := by decide +kernel
theorem dX7_init_32 : decode cX7_init 32 = .ok (.bipush 11, 2) := by decide +kernel
theorem dX7_init_34 : decode cX7_init 34 = .ok (.newarray .int, 2) := by decide +kernel
theorem dX7_init_36 : decode cX7_init 36 = .ok (.putfield 25, 3) := by decide +kernel
theorem dX7_init_39 : decode cX7_init 39 = .ok (.aload_n 0, 1) := by decide +kernel
theorem dX7_init_40 : decode cX7_init 40 = .ok (.bipush 11, 2) := by decide +kernel
theorem dX7_init_42 : decode cX7_init 42 = .ok (.newarray .boolean, 2) := by decide +kernel
theorem dX7_init_44 : decode cX7_init 44 = .ok (.putfield 28, 3) := by decide +kernel
theorem dX7_init_47 : decode cX7_init 47 = .ok (.aload_n 0, 1) := by decide +kernel
theorem dX7_init_48 : decode cX7_init 48 = .ok (.new 32, 3) := by decide +kernel
theorem dX7_init_51 : decode cX7_init 51 = .ok (.dup, 1) := by decide +kernel
theorem dX7_init_52 : decode cX7_init 52 = .ok (.aload_n 1, 1) := by decide +kernel
theorem dX7_init_53 : decode cX7_init 53 = .ok (.invokespecial 34, 3) := by decide +kernel
theorem dX7_init_56 : decode cX7_init 56 = .ok (.putfield 37, 3) := by decide +kernel
theorem dX7_init_59 : decode cX7_init 59 = .ok (.return_, 1) := by decide +kernel
theorem dX7_readText_0 : decode cX7_readText 0 = .ok (.aload_n 0, 1) := by decide +kernel
theorem dX7_readText_1 : decode cX7_readText 1 = .ok (.iconst 0, 1) := by decide +kernel
theorem dX7_readText_2 : decode cX7_readText 2 = .ok (.putfield 41, 3) := by decide +kernel
theorem dX7_readText_5 : decode cX7_readText 5 = .ok (.aload_n 0, 1) := by decide +kernel
theorem dX7_readText_6 : decode cX7_readText 6 = .ok (.iconst (-1), 1) := by decide +kernel
theorem dX7_readText_7 : decode cX7_readText 7 = .ok (.putfield 45, 3) := by decide +kernel
theorem dX7_readText_10 : decode cX7_readText 10 = .ok (.aload_n 0, 1) := by decide +kernel
theorem dX7_readText_11 : decode cX7_readText 11 = .ok (.iconst 0, 1) := by decide +kernel
theorem dX7_readText_12 : decode cX7_readText 12 = .ok (.putfield 48, 3) := by decide +kernel
theorem dX7_readText_15 : decode cX7_readText 15 = .ok (.aload_n 0, 1) := by decide +kernel
theorem dX7_readText_16 : decode cX7_readText 16 = .ok (.getfield 12, 3) := by decide +kernel
theorem dX7_readText_19 : decode cX7_readText 19 = .ok (.invokevirtual 51, 3) := by decide +kernel
theorem dX7_readText_22 : decode cX7_readText 22 = .ok (.aload_n 0, 1) := by decide +kernel
theorem dX7_readText_23 : decode cX7_readText 23 = .ok (.getfield 37, 3) := by decide +kernel
theorem dX7_readText_26 : decode cX7_readText 26 = .ok (.iload_n 1, 1) := by decide +kernel
theorem dX7_readText_27 : decode cX7_readText 27 = .ok (.invokevirtual 54, 3) := by decide +kernel
theorem dX7_readText_30 : decode cX7_readText 30 = .ok (.aload_n 0, 1) := by decide +kernel
theorem dX7_readText_31 : decode cX7_readText 31 = .ok (.invokevirtual 58, 3) := by decide +kernel
theorem dX7_readText_34 : decode cX7_readText 34 = .ok (.istore_n 2, 1) := by decide +kernel
theorem dX7_readText_35 : decode cX7_readText 35 = .ok (.iconst 0, 1) := by decide +kernel
theorem dX7_readText_36 : decode cX7_readText 36 = .ok (.istore_n 3, 1) := by decide +kernel
theorem dX7_readText_37 : decode cX7_readText 37 = .ok (.iload_n 2, 1) := by decide +kernel
theorem dX7_readText_38 : decode cX7_readText 38 = .ok (.ifCond .eq 60, 3) := by decide +kernel
theorem dX7_readText_41 : decode cX7_readText 41 = .ok (.iload_n 3, 1) := by decide +kernel
theorem dX7_readText_42 : decode cX7_readText 42 = .ok (.sipush 900, 3) := by decide +kernel
theorem dX7_readText_45 : decode cX7_readText 45 = .ok (.if_icmp .ge 53, 3) := by decide +kernel
theorem dX7_readText_48 : decode cX7_readText 48 = .ok (.aload_n 0, 1) := by decide +kernel
theorem dX7_readText_49 : decode cX7_readText 49 = .ok (.getfield 37, 3) := by decide +kernel
theorem dX7_readText_52 : decode cX7_readText 52 = .ok (.invokevirtual 62, 3) := by decide +kernel
theorem dX7_readText_55 : decode cX7_readText 55 = .ok (.aload_n 0, 1) := by decide +kernel
theorem dX7_readText_56 : decode cX7_readText 56 = .ok (.getfield 37, 3) := by decide +kernel
theorem dX7_readText_59 : decode cX7_readText 59 = .ok (.getfield 65, 3) := by decide +kernel
theorem dX7_readText_62 : decode cX7_readText 62 = .ok (.ifCond .ne 6, 3) := by decide +kernel
theorem dX7_readText_65 : decode cX7_readText 65 = .ok (.goto 33, 3) := by decide +kernel
theorem dX7_readText_68 : decode cX7_readText 68 = .ok (.aload_n 0, 1) := by decide +kernel
theorem dX7_readText_69 : decode cX7_readText 69 = .ok (.getfield 37, 3) := by decide +kernel
theorem dX7_readText_72 : decode cX7_readText 72 = .ok (.getfield 65, 3) := by decide +kernel
theorem dX7_readText_75 : decode cX7_readText 75 = .ok (.iconst 3, 1) := by decide +kernel
theorem dX7_readText_76 : decode cX7_readText 76 = .ok (.if_icmp .ne 10, 3) := by decide +kernel
theorem dX7_readText_79 : decode cX7_readText 79 = .ok (.aload_n 0, 1) := by decide +kernel
theorem dX7_readText_80 : decode cX7_readText 80 = .ok (.invokevirtual 68, 3) := by decide +kernel
theorem dX7_readText_83 : decode cX7_readText 83 = .ok (.goto 8, 3) := by decide +kernel
theorem dX7_readText_86 : decode cX7_readText 86 = .ok (.aload_n 0, 1) := by decide +kernel
theorem dX7_readText_87 : decode cX7_readText 87 = .ok (.iconst 1, 1) := by decide +kernel
theorem dX7_readText_88 : decode cX7_readText 88 = .ok (.invokevirtual 71, 3) := by decide +kernel
theorem dX7_readText_91 : decode cX7_readText 91 = .ok (.istore_n 2, 1) := by decide +kernel
theorem dX7_readText_92 : decode cX7_readText 92 = .ok (.iinc 3 1, 3) := by decide +kernel
theorem dX7_readText_95 : decode cX7_readText 95 = .ok (.goto (-58), 3) := by decide +kernel
theorem dX7_readText_98 : decode cX7_readText 98 = .ok (.iload_n 2, 1) := by decide +kernel
theorem dX7_readText_99 : decode cX7_readText 99 = .ok (.ifCond .eq 20, 3) := by decide +kernel
theorem dX7_readText_102 : decode cX7_readText 102 = .ok (.aload_n 0, 1) := by decide +kernel
theorem dX7_readText_103 : decode cX7_readText 103 = .ok (.getfield 12, 3) := by decide +kernel
theorem dX7_readText_106 : decode cX7_readText 106 = .ok (.getfield 75, 3) := by decide +kernel
theorem dX7_readText_109 : decode cX7_readText 109 = .ok (.ifCond .ne 10, 3) := by decide +kernel
theorem dX7_readText_112 : decode cX7_readText 112 = .ok (.aload_n 0, 1) := by decide +kernel
theorem dX7_readText_113 : decode cX7_readText 113 = .ok (.bipush 6, 2) := by decide +kernel
theorem dX7_readText_115 : decode cX7_readText 115 = .ok (.invokevirtual 71, 3) := by decide +kernel
theorem dX7_readText_118 : decode cX7_readText 118 = .ok (.pop, 1) := by decide +kernel
theorem dX7_readText_119 : decode cX7_readText 119 = .ok (.aload_n 0, 1) := by decide +kernel
theorem dX7_readText_120 : decode cX7_readText 120 = .ok (.getfield 41, 3) := by decide +kernel
theorem dX7_readText_123 : decode cX7_readText 123 = .ok (.ireturn, 1) := by decide +kernel
theorem dX7_fail_0 : decode cX7_fail 0 = .ok (.aload_n 0, 1) := by decide +kernel
theorem dX7_fail_1 : decode cX7_fail 1 = .ok (.iload_n 1, 1) := by decide +kernel
theorem dX7_fail_2 : decode cX7_fail 2 = .ok (.putfield 41, 3) := by decide +kernel
theorem dX7_fail_5 : decode cX7_fail 5 = .ok (.aload_n 0, 1) := by decide +kernel
theorem dX7_fail_6 : decode cX7_fail 6 = .ok (.aload_n 0, 1) := by decide +kernel
theorem dX7_fail_7 : decode cX7_fail 7 = .ok (.getfield 37, 3) := by decide +kernel
theorem dX7_fail_10 : decode cX7_fail 10 = .ok (.getfield 78, 3) := by decide +kernel
theorem dX7_fail_13 : decode cX7_fail 13 = .ok (.putfield 45, 3) := by decide +kernel
theorem dX7_fail_16 : decode cX7_fail 16 = .ok (.iconst 0, 1) := by decide +kernel
theorem dX7_fail_17 : decode cX7_fail 17 = .ok (.ireturn, 1) := by decide +kernel
theorem dX7_readFirstLine_0 : decode cX7_readFirstLine 0 = .ok (.aload_n 0, 1) := by decide +kernel
theorem dX7_readFirstLine_1 : decode cX7_readFirstLine 1 = .ok (.getfield 37, 3) := by decide +kernel
theorem dX7_readFirstLine_4 : decode cX7_readFirstLine 4 = .ok (.invokevirtual 62, 3) := by decide +kernel
theorem dX7_readFirstLine_7 : decode cX7_readFirstLine 7 = .ok (.aload_n 0, 1) := by decide +kernel
theorem dX7_readFirstLine_8 : decode cX7_readFirstLine 8 = .ok (.getfield 37, 3) := by decide +kernel
theorem dX7_readFirstLine_11 : decode cX7_readFirstLine 11 = .ok (.ldc 81, 2) := by decide +kernel
theorem dX7_readFirstLine_13 : decode cX7_readFirstLine 13 = .ok (.invokevirtual 83, 3) := by decide +kernel
theorem dX7_readFirstLine_16 : decode cX7_readFirstLine 16 = .ok (.ifCond .ne 24, 3) := by decide +kernel
theorem dX7_readFirstLine_19 : decode cX7_readFirstLine 19 = .ok (.aload_n 0, 1) := by decide +kernel
theorem dX7_readFirstLine_20 : decode cX7_readFirstLine 20 = .ok (.aload_n 0, 1) := by decide +kernel
theorem dX7_readFirstLine_21 : decode cX7_readFirstLine 21 = .ok (.getfield 37, 3) := by decide +kernel
theorem dX7_readFirstLine_24 : decode cX7_readFirstLine 24 = .ok (.invokevirtual 87, 3) := by decide +kernel
theorem dX7_readFirstLine_27 : decode cX7_readFirstLine 27 = .ok (.ifCond .eq 8, 3) := by decide +kernel
theorem dX7_readFirstLine_30 : decode cX7_readFirstLine 30 = .ok (.bipush 6, 2) := by decide +kernel
theorem dX7_readFirstLine_32 : decode cX7_readFirstLine 32 = .ok (.goto 4, 3) := by decide +kernel
theorem dX7_readFirstLine_35 : decode cX7_readFirstLine 35 = .ok (.iconst 1, 1) := by decide +kernel
theorem dX7_readFirstLine_36 : decode cX7_readFirstLine 36 = .ok (.invokevirtual 71, 3) := by decide +kernel
theorem dX7_readFirstLine_39 : decode cX7_readFirstLine 39 = .ok (.ireturn, 1) := by decide +kernel
theorem dX7_readFirstLine_40 : decode cX7_readFirstLine 40 = .ok (.aload_n 0, 1) := by decide +kernel
theorem dX7_readFirstLine_41 : decode cX7_readFirstLine 41 = .ok (.ldc 90, 2) := by decide +kernel
theorem dX7_readFirstLine_43 : decode cX7_readFirstLine 43 = .ok (.invokevirtual 92, 3) := by decide +kernel
theorem dX7_readFirstLine_46 : decode cX7_readFirstLine 46 = .ok (.ifCond .eq 13, 3) := by decide +kernel
theorem dX7_readFirstLine_49 : decode cX7_readFirstLine 49 = .ok (.aload_n 0, 1) := by decide +kernel
theorem dX7_readFirstLine_50 : decode cX7_readFirstLine 50 = .ok (.iconst 2, 1) := by decide +kernel
theorem dX7_readFirstLine_51 : decode cX7_readFirstLine 51 = .ok (.bipush 6, 2) := by decide +kernel
theorem dX7_readFirstLine_53 : decode cX7_readFirstLine 53 = .ok (.invokevirtual 95, 3) := by decide +kernel
theorem dX7_readFirstLine_56 : decode cX7_readFirstLine 56 = .ok (.goto 4, 3) := by decide +kernel
theorem dX7_readFirstLine_59 : decode cX7_readFirstLine 59 = .ok (.iconst (-1), 1) := by decide +kernel
theorem dX7_readFirstLine_60 : decode cX7_readFirstLine 60 = .ok (.istore_n 1, 1) := by decide +kernel
theorem dX7_readFirstLine_61 : decode cX7_readFirstLine 61 = .ok (.iload_n 1, 1) := by decide +kernel
theorem dX7_readFirstLine_62 : decode cX7_readFirstLine 62 = .ok (.iconst (-1), 1) := by decide +kernel
theorem dX7_readFirstLine_63 : decode cX7_readFirstLine 63 = .ok (.if_icmp .ne 5, 3) := by decide +kernel
theorem dX7_readFirstLine_66 : decode cX7_readFirstLine 66 = .ok (.iconst 0, 1) := by decide +kernel
theorem dX7_readFirstLine_67 : decode cX7_readFirstLine 67 = .ok (.ireturn, 1) := by decide +kernel
theorem dX7_readFirstLine_68 : decode cX7_readFirstLine 68 = .ok (.aload_n 0, 1) := by decide +kernel
theorem dX7_readFirstLine_69 : decode cX7_readFirstLine 69 = .ok (.ldc 99, 2) := by decide +kernel
theorem dX7_readFirstLine_71 : decode cX7_readFirstLine 71 = .ok (.invokevirtual 92, 3) := by decide +kernel
theorem dX7_readFirstLine_74 : decode cX7_readFirstLine 74 = .ok (.ifCond .eq 12, 3) := by decide +kernel
theorem dX7_readFirstLine_77 : decode cX7_readFirstLine 77 = .ok (.aload_n 0, 1) := by decide +kernel
theorem dX7_readFirstLine_78 : decode cX7_readFirstLine 78 = .ok (.iconst 1, 1) := by decide +kernel
theorem dX7_readFirstLine_79 : decode cX7_readFirstLine 79 = .ok (.iconst 5, 1) := by decide +kernel
theorem dX7_readFirstLine_80 : decode cX7_readFirstLine 80 = .ok (.invokevirtual 95, 3) := by decide +kernel
theorem dX7_readFirstLine_83 : decode cX7_readFirstLine 83 = .ok (.goto 4, 3) := by decide +kernel
theorem dX7_readFirstLine_86 : decode cX7_readFirstLine 86 = .ok (.iconst (-1), 1) := by decide +kernel
theorem dX7_readFirstLine_87 : decode cX7_readFirstLine 87 = .ok (.istore_n 2, 1) := by decide +kernel
theorem dX7_readFirstLine_88 : decode cX7_readFirstLine 88 = .ok (.iload_n 2, 1) := by decide +kernel
theorem dX7_readFirstLine_89 : decode cX7_readFirstLine 89 = .ok (.iconst (-1), 1) := by decide +kernel
theorem dX7_readFirstLine_90 : decode cX7_readFirstLine 90 = .ok (.if_icmp .ne 5, 3) := by decide +kernel
theorem dX7_readFirstLine_93 : decode cX7_readFirstLine 93 = .ok (.iconst 0, 1) := by decide +kernel
theorem dX7_readFirstLine_94 : decode cX7_readFirstLine 94 = .ok (.ireturn, 1) := by decide +kernel
theorem dX7_readFirstLine_95 : decode cX7_readFirstLine 95 = .ok (.aload_n 0, 1) := by decide +kernel
theorem dX7_readFirstLine_96 : decode cX7_readFirstLine 96 = .ok (.getfield 12, 3) := by decide +kernel
theorem dX7_readFirstLine_99 : decode cX7_readFirstLine 99 = .ok (.iload_n 1, 1) := by decide +kernel
theorem dX7_readFirstLine_100 : decode cX7_readFirstLine 100 = .ok (.putfield 101, 3) := by decide +kernel
theorem dX7_readFirstLine_103 : decode cX7_readFirstLine 103 = .ok (.aload_n 0, 1) := by decide +kernel
theorem dX7_readFirstLine_104 : decode cX7_readFirstLine 104 = .ok (.getfield 12, 3) := by decide +kernel
theorem dX7_readFirstLine_107 : decode cX7_readFirstLine 107 = .ok (.iload_n 2, 1) := by decide +kernel
theorem dX7_readFirstLine_108 : decode cX7_readFirstLine 108 = .ok (.putfield 103, 3) := by decide +kernel
theorem dX7_readFirstLine_111 : decode cX7_readFirstLine 111 = .ok (.iconst 1, 1) := by decide +kernel
theorem dX7_readFirstLine_112 : decode cX7_readFirstLine 112 = .ok (.ireturn, 1) := by decide +kernel
theorem dX7_readLine_0 : decode cX7_readLine 0 = .ok (.aload_n 0, 1) := by decide +kernel
theorem dX7_readLine_1 : decode cX7_readLine 1 = .ok (.getfield 37, 3) := by decide +kernel
theorem dX7_readLine_4 : decode cX7_readLine 4 = .ok (.invokevirtual 62, 3) := by decide +kernel
theorem dX7_readLine_7 : decode cX7_readLine 7 = .ok (.aload_n 0, 1) := by decide +kernel
theorem dX7_readLine_8 : decode cX7_readLine 8 = .ok (.getfield 37, 3) := by decide +kernel
theorem dX7_readLine_11 : decode cX7_readLine 11 = .ok (.ldc 81, 2) := by decide +kernel
theorem dX7_readLine_13 : decode cX7_readLine 13 = .ok (.invokevirtual 83, 3) := by decide +kernel
theorem dX7_readLine_16 : decode cX7_readLine 16 = .ok (.ifCond .eq 9, 3) := by decide +kernel
theorem dX7_readLine_19 : decode cX7_readLine 19 = .ok (.aload_n 0, 1) := by decide +kernel
theorem dX7_readLine_20 : decode cX7_readLine 20 = .ok (.iconst 3, 1) := by decide +kernel
theorem dX7_readLine_21 : decode cX7_readLine 21 = .ok (.invokevirtual 71, 3) := by decide +kernel
theorem dX7_readLine_24 : decode cX7_readLine 24 = .ok (.ireturn, 1) := by decide +kernel
theorem dX7_readLine_25 : decode cX7_readLine 25 = .ok (.aload_n 0, 1) := by decide +kernel
theorem dX7_readLine_26 : decode cX7_readLine 26 = .ok (.getfield 37, 3) := by decide +kernel
theorem dX7_readLine_29 : decode cX7_readLine 29 = .ok (.ldc 105, 2) := by decide +kernel
theorem dX7_readLine_31 : decode cX7_readLine 31 = .ok (.invokevirtual 83, 3) := by decide +kernel
theorem dX7_readLine_34 : decode cX7_readLine 34 = .ok (.ifCond .eq 8, 3) := by decide +kernel
theorem dX7_readLine_37 : decode cX7_readLine 37 = .ok (.aload_n 0, 1) := by decide +kernel
theorem dX7_readLine_38 : decode cX7_readLine 38 = .ok (.invokevirtual 107, 3) := by decide +kernel
theorem dX7_readLine_41 : decode cX7_readLine 41 = .ok (.ireturn, 1) := by decide +kernel
theorem dX7_readLine_42 : decode cX7_readLine 42 = .ok (.aload_n 0, 1) := by decide +kernel
theorem dX7_readLine_43 : decode cX7_readLine 43 = .ok (.getfield 37, 3) := by decide +kernel
theorem dX7_readLine_46 : decode cX7_readLine 46 = .ok (.ldc 110, 2) := by decide +kernel
theorem dX7_readLine_48 : decode cX7_readLine 48 = .ok (.invokevirtual 83, 3) := by decide +kernel
theorem dX7_readLine_51 : decode cX7_readLine 51 = .ok (.ifCond .eq 27, 3) := by decide +kernel
theorem dX7_readLine_54 : decode cX7_readLine 54 = .ok (.aload_n 0, 1) := by decide +kernel
theorem dX7_readLine_55 : decode cX7_readLine 55 = .ok (.getfield 12, 3) := by decide +kernel
theorem dX7_readLine_58 : decode cX7_readLine 58 = .ok (.getfield 75, 3) := by decide +kernel
theorem dX7_readLine_61 : decode cX7_readLine 61 = .ok (.iconst 5, 1) := by decide +kernel
theorem dX7_readLine_62 : decode cX7_readLine 62 = .ok (.if_icmp .ge 10, 3) := by decide +kernel
theorem dX7_readLine_65 : decode cX7_readLine 65 = .ok (.aload_n 0, 1) := by decide +kernel
theorem dX7_readLine_66 : decode cX7_readLine 66 = .ok (.invokevirtual 112, 3) := by decide +kernel
theorem dX7_readLine_69 : decode cX7_readLine 69 = .ok (.goto 8, 3) := by decide +kernel
theorem dX7_readLine_72 : decode cX7_readLine 72 = .ok (.aload_n 0, 1) := by decide +kernel
theorem dX7_readLine_73 : decode cX7_readLine 73 = .ok (.iconst 5, 1) := by decide +kernel
theorem dX7_readLine_74 : decode cX7_readLine 74 = .ok (.invokevirtual 71, 3) := by decide +kernel
theorem dX7_readLine_77 : decode cX7_readLine 77 = .ok (.ireturn, 1) := by decide +kernel
theorem dX7_readLine_78 : decode cX7_readLine 78 = .ok (.aload_n 0, 1) := by decide +kernel
theorem dX7_readLine_79 : decode cX7_readLine 79 = .ok (.getfield 37, 3) := by decide +kernel
theorem dX7_readLine_82 : decode cX7_readLine 82 = .ok (.ldc 115, 2) := by decide +kernel
theorem dX7_readLine_84 : decode cX7_readLine 84 = .ok (.invokevirtual 83, 3) := by decide +kernel
theorem dX7_readLine_87 : decode cX7_readLine 87 = .ok (.ifCond .eq 28, 3) := by decide +kernel
theorem dX7_readLine_90 : decode cX7_readLine 90 = .ok (.aload_n 0, 1) := by decide +kernel
theorem dX7_readLine_91 : decode cX7_readLine 91 = .ok (.getfield 12, 3) := by decide +kernel
theorem dX7_readLine_94 : decode cX7_readLine 94 = .ok (.getfield 117, 3) := by decide +kernel
theorem dX7_readLine_97 : decode cX7_readLine 97 = .ok (.bipush 6, 2) := by decide +kernel
theorem dX7_readLine_99 : decode cX7_readLine 99 = .ok (.if_icmp .ge 10, 3) := by decide +kernel
theorem dX7_readLine_102 : decode cX7_readLine 102 = .ok (.aload_n 0, 1) := by decide +kernel
theorem dX7_readLine_103 : decode cX7_readLine 103 = .ok (.invokevirtual 120, 3) := by decide +kernel
theorem dX7_readLine_106 : decode cX7_readLine 106 = .ok (.goto 8, 3) := by decide +kernel
theorem dX7_readLine_109 : decode cX7_readLine 109 = .ok (.aload_n 0, 1) := by decide +kernel
theorem dX7_readLine_110 : decode cX7_readLine 110 = .ok (.iconst 5, 1) := by decide +kernel
theorem dX7_readLine_111 : decode cX7_readLine 111 = .ok (.invokevirtual 71, 3) := by decide +kernel
theorem dX7_readLine_114 : decode cX7_readLine 114 = .ok (.ireturn, 1) := by decide +kernel
theorem dX7_readLine_115 : decode cX7_readLine 115 = .ok (.aload_n 0, 1) := by decide +kernel
theorem dX7_readLine_116 : decode cX7_readLine 116 = .ok (.getfield 37, 3) := by decide +kernel
theorem dX7_readLine_119 : decode cX7_readLine 119 = .ok (.ldc 123, 2) := by decide +kernel
theorem dX7_readLine_121 : decode cX7_readLine 121 = .ok (.invokevirtual 83, 3) := by decide +kernel
theorem dX7_readLine_124 : decode cX7_readLine 124 = .ok (.ifCond .eq 28, 3) := by decide +kernel
theorem dX7_readLine_127 : decode cX7_readLine 127 = .ok (.aload_n 0, 1) := by decide +kernel
theorem dX7_readLine_128 : decode cX7_readLine 128 = .ok (.getfield 12, 3) := by decide +kernel
theorem dX7_readLine_131 : decode cX7_readLine 131 = .ok (.getfield 125, 3) := by decide +kernel
theorem dX7_readLine_134 : decode cX7_readLine 134 = .ok (.bipush 9, 2) := by decide +kernel
theorem dX7_readLine_136 : decode cX7_readLine 136 = .ok (.if_icmp .ge 10, 3) := by decide +kernel
theorem dX7_readLine_139 : decode cX7_readLine 139 = .ok (.aload_n 0, 1) := by decide +kernel
theorem dX7_readLine_140 : decode cX7_readLine 140 = .ok (.invokevirtual 128, 3) := by decide +kernel
theorem dX7_readLine_143 : decode cX7_readLine 143 = .ok (.goto 8, 3) := by decide +kernel
theorem dX7_readLine_146 : decode cX7_readLine 146 = .ok (.aload_n 0, 1) := by decide +kernel
theorem dX7_readLine_147 : decode cX7_readLine 147 = .ok (.iconst 5, 1) := by decide +kernel
theorem dX7_readLine_148 : decode cX7_readLine 148 = .ok (.invokevirtual 71, 3) := by decide +kernel
theorem dX7_readLine_151 : decode cX7_readLine 151 = .ok (.ireturn, 1) := by decide +kernel
theorem dX7_readLine_152 : decode cX7_readLine 152 = .ok (.aload_n 0, 1) := by decide +kernel
theorem dX7_readLine_153 : decode cX7_readLine 153 = .ok (.getfield 37, 3) := by decide +kernel
theorem dX7_readLine_156 : decode cX7_readLine 156 = .ok (.ldc 131, 2) := by decide +kernel
theorem dX7_readLine_158 : decode cX7_readLine 158 = .ok (.invokevirtual 83, 3) := by decide +kernel
theorem dX7_readLine_161 : decode cX7_readLine 161 = .ok (.ifCond .eq 10, 3) := by decide +kernel
theorem dX7_readLine_164 : decode cX7_readLine 164 = .ok (.aload_n 0, 1) := by decide +kernel
theorem dX7_readLine_165 : decode cX7_readLine 165 = .ok (.invokevirtual 133, 3) := by decide +kernel
theorem dX7_readLine_168 : decode cX7_readLine 168 = .ok (.goto 8, 3) := by decide +kernel
theorem dX7_readLine_171 : decode cX7_readLine 171 = .ok (.aload_n 0, 1) := by decide +kernel
theorem dX7_readLine_172 : decode cX7_readLine 172 = .ok (.iconst 1, 1) := by decide +kernel
theorem dX7_readLine_173 : decode cX7_readLine 173 = .ok (.invokevirtual 71, 3) := by decide +kernel
theorem dX7_readLine_176 : decode cX7_readLine 176 = .ok (.ireturn, 1) := by decide +kernel
theorem dX7_readLane_0 : decode cX7_readLane 0 = .ok (.aload_n 0, 1) := by decide +kernel
theorem dX7_readLane_1 : decode cX7_readLane 1 = .ok (.iconst 0, 1) := by decide +kernel
theorem dX7_readLane_2 : decode cX7_readLane 2 = .ok (.aload_n 0, 1) := by decide +kernel
theorem dX7_readLane_3 : decode cX7_readLane 3 = .ok (.getfield 12, 3) := by decide +kernel
theorem dX7_readLane_6 : decode cX7_readLane 6 = .ok (.getfield 101, 3) := by decide +kernel
theorem dX7_readLane_9 : decode cX7_readLane 9 = .ok (.iconst 1, 1) := by decide +kernel
theorem dX7_readLane_10 : decode cX7_readLane 10 = .ok (.isub, 1) := by decide +kernel
theorem dX7_readLane_11 : decode cX7_readLane 11 = .ok (.invokevirtual 95, 3) := by decide +kernel
theorem dX7_readLane_14 : decode cX7_readLane 14 = .ok (.istore_n 1, 1) := by decide +kernel
theorem dX7_readLane_15 : decode cX7_readLane 15 = .ok (.iload_n 1, 1) := by decide +kernel
theorem dX7_readLane_16 : decode cX7_readLane 16 = .ok (.iconst (-1), 1) := by decide +kernel
theorem dX7_readLane_17 : decode cX7_readLane 17 = .ok (.if_icmp .ne 5, 3) := by decide +kernel
theorem dX7_readLane_20 : decode cX7_readLane 20 = .ok (.iconst 0, 1) := by decide +kernel
theorem dX7_readLane_21 : decode cX7_readLane 21 = .ok (.ireturn, 1) := by decide +kernel
theorem dX7_readLane_22 : decode cX7_readLane 22 = .ok (.aload_n 0, 1) := by decide +kernel
theorem dX7_readLane_23 : decode cX7_readLane 23 = .ok (.getfield 12, 3) := by decide +kernel
theorem dX7_readLane_26 : decode cX7_readLane 26 = .ok (.iload_n 1, 1) := by decide +kernel
theorem dX7_readLane_27 : decode cX7_readLane 27 = .ok (.invokevirtual 136, 3) := by decide +kernel
theorem dX7_readLane_30 : decode cX7_readLane 30 = .ok (.ifCond .eq 9, 3) := by decide +kernel
theorem dX7_readLane_33 : decode cX7_readLane 33 = .ok (.aload_n 0, 1) := by decide +kernel
theorem dX7_readLane_34 : decode cX7_readLane 34 = .ok (.iconst 3, 1) := by decide +kernel
theorem dX7_readLane_35 : decode cX7_readLane 35 = .ok (.invokevirtual 71, 3) := by decide +kernel
theorem dX7_readLane_38 : decode cX7_readLane 38 = .ok (.ireturn, 1) := by decide +kernel
theorem dX7_readLane_39 : decode cX7_readLane 39 = .ok (.aload_n 0, 1) := by decide +kernel
theorem dX7_readLane_40 : decode cX7_readLane 40 = .ok (.getfield 37, 3) := by decide +kernel
theorem dX7_readLane_43 : decode cX7_readLane 43 = .ok (.invokevirtual 62, 3) := by decide +kernel
theorem dX7_readLane_46 : decode cX7_readLane 46 = .ok (.aload_n 0, 1) := by decide +kernel
theorem dX7_readLane_47 : decode cX7_readLane 47 = .ok (.invokevirtual 139, 3) := by decide +kernel
theorem dX7_readLane_50 : decode cX7_readLane 50 = .ok (.istore_n 2, 1) := by decide +kernel
theorem dX7_readLane_51 : decode cX7_readLane 51 = .ok (.iload_n 2, 1) := by decide +kernel
theorem dX7_readLane_52 : decode cX7_readLane 52 = .ok (.iconst (-1), 1) := by decide +kernel
theorem dX7_readLane_53 : decode cX7_readLane 53 = .ok (.if_icmp .ne 9, 3) := by decide +kernel
theorem dX7_readLane_56 : decode cX7_readLane 56 = .ok (.aload_n 0, 1) := by decide +kernel
theorem dX7_readLane_57 : decode cX7_readLane 57 = .ok (.iconst 1, 1) := by decide +kernel
theorem dX7_readLane_58 : decode cX7_readLane 58 = .ok (.invokevirtual 71, 3) := by decide +kernel
theorem dX7_readLane_61 : decode cX7_readLane 61 = .ok (.ireturn, 1) := by decide +kernel
theorem dX7_readLane_62 : decode cX7_readLane 62 = .ok (.iload_n 2, 1) := by decide +kernel
theorem dX7_readLane_63 : decode cX7_readLane 63 = .ok (.iconst 2, 1) := by decide +kernel
theorem dX7_readLane_64 : decode cX7_readLane 64 = .ok (.if_icmp .ne 13, 3) := by decide +kernel
theorem dX7_readLane_67 : decode cX7_readLane 67 = .ok (.aload_n 0, 1) := by decide +kernel
theorem dX7_readLane_68 : decode cX7_readLane 68 = .ok (.iconst 0, 1) := by decide +kernel
theorem dX7_readLane_69 : decode cX7_readLane 69 = .ok (.bipush 60, 2) := by decide +kernel
theorem dX7_readLane_71 : decode cX7_readLane 71 = .ok (.invokevirtual 95, 3) := by decide +kernel
theorem dX7_readLane_74 : decode cX7_readLane 74 = .ok (.goto 19, 3) := by decide +kernel
theorem dX7_readLane_77 : decode cX7_readLane 77 = .ok (.iload_n 2, 1) := by decide +kernel
theorem dX7_readLane_78 : decode cX7_readLane 78 = .ok (.iconst 3, 1) := by decide +kernel
theorem dX7_readLane_79 : decode cX7_readLane 79 = .ok (.if_icmp .ne 13, 3) := by decide +kernel
theorem dX7_readLane_82 : decode cX7_readLane 82 = .ok (.aload_n 0, 1) := by decide +kernel
theorem dX7_readLane_83 : decode cX7_readLane 83 = .ok (.iconst 0, 1) := by decide +kernel
theorem dX7_readLane_84 : decode cX7_readLane 84 = .ok (.bipush 30, 2) := by decide +kernel
theorem dX7_readLane_86 : decode cX7_readLane 86 = .ok (.invokevirtual 95, 3) := by decide +kernel
theorem dX7_readLane_89 : decode cX7_readLane 89 = .ok (.goto 4, 3) := by decide +kernel
theorem dX7_readLane_92 : decode cX7_readLane 92 = .ok (.iconst 0, 1) := by decide +kernel
theorem dX7_readLane_93 : decode cX7_readLane 93 = .ok (.istore_n 3, 1) := by decide +kernel
theorem dX7_readLane_94 : decode cX7_readLane 94 = .ok (.iload_n 3, 1) := by decide +kernel
theorem dX7_readLane_95 : decode cX7_readLane 95 = .ok (.iconst (-1), 1) := by decide +kernel
theorem dX7_readLane_96 : decode cX7_readLane 96 = .ok (.if_icmp .ne 5, 3) := by decide +kernel
theorem dX7_readLane_99 : decode cX7_readLane 99 = .ok (.iconst 0, 1) := by decide +kernel
theorem dX7_readLane_100 : decode cX7_readLane 100 = .ok (.ireturn, 1) := by decide +kernel
theorem dX7_readLane_101 : decode cX7_readLane 101 = .ok (.aload_n 0, 1) := by decide +kernel
theorem dX7_readLane_102 : decode cX7_readLane 102 = .ok (.getfield 12, 3) := by decide +kernel
theorem dX7_readLane_105 : decode cX7_readLane 105 = .ok (.iload_n 1, 1) := by decide +kernel
theorem dX7_readLane_106 : decode cX7_readLane 106 = .ok (.iload_n 2, 1) := by decide +kernel
theorem dX7_readLane_107 : decode cX7_readLane 107 = .ok (.iload_n 3, 1) := by decide +kernel
theorem dX7_readLane_108 : decode cX7_readLane 108 = .ok (.invokevirtual 143, 3) := by decide +kernel
theorem dX7_readLane_111 : decode cX7_readLane 111 = .ok (.iconst 1, 1) := by decide +kernel
theorem dX7_readLane_112 : decode cX7_readLane 112 = .ok (.ireturn, 1) := by decide +kernel
theorem dX7_whoIsTold_0 : decode cX7_whoIsTold 0 = .ok (.aload_n 0, 1) := by decide +kernel
theorem dX7_whoIsTold_1 : decode cX7_whoIsTold 1 = .ok (.getfield 37, 3) := by decide +kernel
theorem dX7_whoIsTold_4 : decode cX7_whoIsTold 4 = .ok (.ldc 147, 2) := by decide +kernel
theorem dX7_whoIsTold_6 : decode cX7_whoIsTold 6 = .ok (.invokevirtual 83, 3) := by decide +kernel
theorem dX7_whoIsTold_9 : decode cX7_whoIsTold 9 = .ok (.ifCond .eq 7, 3) := by decide +kernel
theorem dX7_whoIsTold_12 : decode cX7_whoIsTold 12 = .ok (.iconst 0, 1) := by decide +kernel
theorem dX7_whoIsTold_13 : decode cX7_whoIsTold 13 = .ok (.goto 52, 3) := by decide +kernel
theorem dX7_whoIsTold_16 : decode cX7_whoIsTold 16 = .ok (.aload_n 0, 1) := by decide +kernel
theorem dX7_whoIsTold_17 : decode cX7_whoIsTold 17 = .ok (.getfield 37, 3) := by decide +kernel
theorem dX7_whoIsTold_20 : decode cX7_whoIsTold 20 = .ok (.ldc 149, 2) := by decide +kernel
theorem dX7_whoIsTold_22 : decode cX7_whoIsTold 22 = .ok (.invokevirtual 83, 3) := by decide +kernel
theorem dX7_whoIsTold_25 : decode cX7_whoIsTold 25 = .ok (.ifCond .eq 7, 3) := by decide +kernel
theorem dX7_whoIsTold_28 : decode cX7_whoIsTold 28 = .ok (.iconst 1, 1) := by decide +kernel
theorem dX7_whoIsTold_29 : decode cX7_whoIsTold 29 = .ok (.goto 36, 3) := by decide +kernel
theorem dX7_whoIsTold_32 : decode cX7_whoIsTold 32 = .ok (.aload_n 0, 1) := by decide +kernel
theorem dX7_whoIsTold_33 : decode cX7_whoIsTold 33 = .ok (.getfield 37, 3) := by decide +kernel
theorem dX7_whoIsTold_36 : decode cX7_whoIsTold 36 = .ok (.ldc 151, 2) := by decide +kernel
theorem dX7_whoIsTold_38 : decode cX7_whoIsTold 38 = .ok (.invokevirtual 83, 3) := by decide +kernel
theorem dX7_whoIsTold_41 : decode cX7_whoIsTold 41 = .ok (.ifCond .eq 7, 3) := by decide +kernel
theorem dX7_whoIsTold_44 : decode cX7_whoIsTold 44 = .ok (.iconst 2, 1) := by decide +kernel
theorem dX7_whoIsTold_45 : decode cX7_whoIsTold 45 = .ok (.goto 20, 3) := by decide +kernel
theorem dX7_whoIsTold_48 : decode cX7_whoIsTold 48 = .ok (.aload_n 0, 1) := by decide +kernel
theorem dX7_whoIsTold_49 : decode cX7_whoIsTold 49 = .ok (.getfield 37, 3) := by decide +kernel
theorem dX7_whoIsTold_52 : decode cX7_whoIsTold 52 = .ok (.ldc 153, 2) := by decide +kernel
theorem dX7_whoIsTold_54 : decode cX7_whoIsTold 54 = .ok (.invokevirtual 83, 3) := by decide +kernel
theorem dX7_whoIsTold_57 : decode cX7_whoIsTold 57 = .ok (.ifCond .eq 7, 3) := by decide +kernel
theorem dX7_whoIsTold_60 : decode cX7_whoIsTold 60 = .ok (.iconst 3, 1) := by decide +kernel
theorem dX7_whoIsTold_61 : decode cX7_whoIsTold 61 = .ok (.goto 4, 3) := by decide +kernel
theorem dX7_whoIsTold_64 : decode cX7_whoIsTold 64 = .ok (.iconst (-1), 1) := by decide +kernel
theorem dX7_whoIsTold_65 : decode cX7_whoIsTold 65 = .ok (.ireturn, 1) := by decide +kernel
theorem dX7_readBeast_0 : decode cX7_readBeast 0 = .ok (.aload_n 0, 1) := by decide +kernel
theorem dX7_readBeast_1 : decode cX7_readBeast 1 = .ok (.iconst 1, 1) := by decide +kernel
theorem dX7_readBeast_2 : decode cX7_readBeast 2 = .ok (.aload_n 0, 1) := by decide +kernel
theorem dX7_readBeast_3 : decode cX7_readBeast 3 = .ok (.getfield 12, 3) := by decide +kernel
theorem dX7_readBeast_6 : decode cX7_readBeast 6 = .ok (.getfield 75, 3) := by decide +kernel
theorem dX7_readBeast_9 : decode cX7_readBeast 9 = .ok (.invokevirtual 155, 3) := by decide +kernel
theorem dX7_readBeast_12 : decode cX7_readBeast 12 = .ok (.ifCond .ne 5, 3) := by decide +kernel
theorem dX7_readBeast_15 : decode cX7_readBeast 15 = .ok (.iconst 0, 1) := by decide +kernel
theorem dX7_readBeast_16 : decode cX7_readBeast 16 = .ok (.ireturn, 1) := by decide +kernel
theorem dX7_readBeast_17 : decode cX7_readBeast 17 = .ok (.aload_n 0, 1) := by decide +kernel
theorem dX7_readBeast_18 : decode cX7_readBeast 18 = .ok (.getfield 37, 3) := by decide +kernel
theorem dX7_readBeast_21 : decode cX7_readBeast 21 = .ok (.invokevirtual 62, 3) := by decide +kernel
theorem dX7_readBeast_24 : decode cX7_readBeast 24 = .ok (.aload_n 0, 1) := by decide +kernel
theorem dX7_readBeast_25 : decode cX7_readBeast 25 = .ok (.invokevirtual 159, 3) := by decide +kernel
theorem dX7_readBeast_28 : decode cX7_readBeast 28 = .ok (.istore_n 1, 1) := by decide +kernel
theorem dX7_readBeast_29 : decode cX7_readBeast 29 = .ok (.iload_n 1, 1) := by decide +kernel
theorem dX7_readBeast_30 : decode cX7_readBeast 30 = .ok (.iconst (-1), 1) := by decide +kernel
theorem dX7_readBeast_31 : decode cX7_readBeast 31 = .ok (.if_icmp .ne 9, 3) := by decide +kernel
theorem dX7_readBeast_34 : decode cX7_readBeast 34 = .ok (.aload_n 0, 1) := by decide +kernel
theorem dX7_readBeast_35 : decode cX7_readBeast 35 = .ok (.iconst 1, 1) := by decide +kernel
theorem dX7_readBeast_36 : decode cX7_readBeast 36 = .ok (.invokevirtual 71, 3) := by decide +kernel
theorem dX7_readBeast_39 : decode cX7_readBeast 39 = .ok (.ireturn, 1) := by decide +kernel
theorem dX7_readBeast_40 : decode cX7_readBeast 40 = .ok (.aload_n 0, 1) := by decide +kernel
theorem dX7_readBeast_41 : decode cX7_readBeast 41 = .ok (.ldc 162, 2) := by decide +kernel
theorem dX7_readBeast_43 : decode cX7_readBeast 43 = .ok (.invokevirtual 92, 3) := by decide +kernel
theorem dX7_readBeast_46 : decode cX7_readBeast 46 = .ok (.ifCond .eq 20, 3) := by decide +kernel
theorem dX7_readBeast_49 : decode cX7_readBeast 49 = .ok (.aload_n 0, 1) := by decide +kernel
theorem dX7_readBeast_50 : decode cX7_readBeast 50 = .ok (.iconst 0, 1) := by decide +kernel
theorem dX7_readBeast_51 : decode cX7_readBeast 51 = .ok (.aload_n 0, 1) := by decide +kernel
theorem dX7_readBeast_52 : decode cX7_readBeast 52 = .ok (.getfield 12, 3) := by decide +kernel
theorem dX7_readBeast_55 : decode cX7_readBeast 55 = .ok (.getfield 101, 3) := by decide +kernel
theorem dX7_readBeast_58 : decode cX7_readBeast 58 = .ok (.iconst 1, 1) := by decide +kernel
theorem dX7_readBeast_59 : decode cX7_readBeast 59 = .ok (.isub, 1) := by decide +kernel
theorem dX7_readBeast_60 : decode cX7_readBeast 60 = .ok (.invokevirtual 95, 3) := by decide +kernel
theorem dX7_readBeast_63 : decode cX7_readBeast 63 = .ok (.goto 4, 3) := by decide +kernel
theorem dX7_readBeast_66 : decode cX7_readBeast 66 = .ok (.iconst (-1), 1) := by decide +kernel
theorem dX7_readBeast_67 : decode cX7_readBeast 67 = .ok (.istore_n 2, 1) := by decide +kernel
theorem dX7_readBeast_68 : decode cX7_readBeast 68 = .ok (.iload_n 2, 1) := by decide +kernel
theorem dX7_readBeast_69 : decode cX7_readBeast 69 = .ok (.iconst (-1), 1) := by decide +kernel
theorem dX7_readBeast_70 : decode cX7_readBeast 70 = .ok (.if_icmp .ne 5, 3) := by decide +kernel
theorem dX7_readBeast_73 : decode cX7_readBeast 73 = .ok (.iconst 0, 1) := by decide +kernel
theorem dX7_readBeast_74 : decode cX7_readBeast 74 = .ok (.ireturn, 1) := by decide +kernel
theorem dX7_readBeast_75 : decode cX7_readBeast 75 = .ok (.aload_n 0, 1) := by decide +kernel
theorem dX7_readBeast_76 : decode cX7_readBeast 76 = .ok (.ldc 164, 2) := by decide +kernel
theorem dX7_readBeast_78 : decode cX7_readBeast 78 = .ok (.invokevirtual 92, 3) := by decide +kernel
theorem dX7_readBeast_81 : decode cX7_readBeast 81 = .ok (.ifCond .eq 13, 3) := by decide +kernel
theorem dX7_readBeast_84 : decode cX7_readBeast 84 = .ok (.aload_n 0, 1) := by decide +kernel
theorem dX7_readBeast_85 : decode cX7_readBeast 85 = .ok (.iconst 0, 1) := by decide +kernel
theorem dX7_readBeast_86 : decode cX7_readBeast 86 = .ok (.bipush 100, 2) := by decide +kernel
theorem dX7_readBeast_88 : decode cX7_readBeast 88 = .ok (.invokevirtual 95, 3) := by decide +kernel
theorem dX7_readBeast_91 : decode cX7_readBeast 91 = .ok (.goto 4, 3) := by decide +kernel
theorem dX7_readBeast_94 : decode cX7_readBeast 94 = .ok (.iconst (-1), 1) := by decide +kernel
theorem dX7_readBeast_95 : decode cX7_readBeast 95 = .ok (.istore_n 3, 1) := by decide +kernel
theorem dX7_readBeast_96 : decode cX7_readBeast 96 = .ok (.iload_n 3, 1) := by decide +kernel
theorem dX7_readBeast_97 : decode cX7_readBeast 97 = .ok (.iconst (-1), 1) := by decide +kernel
theorem dX7_readBeast_98 : decode cX7_readBeast 98 = .ok (.if_icmp .ne 5, 3) := by decide +kernel
theorem dX7_readBeast_101 : decode cX7_readBeast 101 = .ok (.iconst 0, 1) := by decide +kernel
theorem dX7_readBeast_102 : decode cX7_readBeast 102 = .ok (.ireturn, 1) := by decide +kernel
theorem dX7_readBeast_103 : decode cX7_readBeast 103 = .ok (.aload_n 0, 1) := by decide +kernel
theorem dX7_readBeast_104 : decode cX7_readBeast 104 = .ok (.ldc 166, 2) := by decide +kernel
theorem dX7_readBeast_106 : decode cX7_readBeast 106 = .ok (.invokevirtual 92, 3) := by decide +kernel
theorem dX7_readBeast_109 : decode cX7_readBeast 109 = .ok (.ifCond .eq 13, 3) := by decide +kernel
theorem dX7_readBeast_112 : decode cX7_readBeast 112 = .ok (.aload_n 0, 1) := by decide +kernel
theorem dX7_readBeast_113 : decode cX7_readBeast 113 = .ok (.iconst 1, 1) := by decide +kernel
theorem dX7_readBeast_114 : decode cX7_readBeast 114 = .ok (.bipush 99, 2) := by decide +kernel
theorem dX7_readBeast_116 : decode cX7_readBeast 116 = .ok (.invokevirtual 95, 3) := by decide +kernel
theorem dX7_readBeast_119 : decode cX7_readBeast 119 = .ok (.goto 4, 3) := by decide +kernel
theorem dX7_readBeast_122 : decode cX7_readBeast 122 = .ok (.iconst (-1), 1) := by decide +kernel
theorem dX7_readBeast_123 : decode cX7_readBeast 123 = .ok (.istore 4, 2) := by decide +kernel
theorem dX7_readBeast_125 : decode cX7_readBeast 125 = .ok (.iload 4, 2) := by decide +kernel
theorem dX7_readBeast_127 : decode cX7_readBeast 127 = .ok (.iconst (-1), 1) := by decide +kernel
theorem dX7_readBeast_128 : decode cX7_readBeast 128 = .ok (.if_icmp .ne 5, 3) := by decide +kernel
theorem dX7_readBeast_131 : decode cX7_readBeast 131 = .ok (.iconst 0, 1) := by decide +kernel
theorem dX7_readBeast_132 : decode cX7_readBeast 132 = .ok (.ireturn, 1) := by decide +kernel
theorem dX7_readBeast_133 : decode cX7_readBeast 133 = .ok (.aload_n 0, 1) := by decide +kernel
theorem dX7_readBeast_134 : decode cX7_readBeast 134 = .ok (.getfield 12, 3) := by decide +kernel
theorem dX7_readBeast_137 : decode cX7_readBeast 137 = .ok (.iload_n 1, 1) := by decide +kernel
theorem dX7_readBeast_138 : decode cX7_readBeast 138 = .ok (.iload_n 2, 1) := by decide +kernel
theorem dX7_readBeast_139 : decode cX7_readBeast 139 = .ok (.iload_n 3, 1) := by decide +kernel
theorem dX7_readBeast_140 : decode cX7_readBeast 140 = .ok (.iload 4, 2) := by decide +kernel
theorem dX7_readBeast_142 : decode cX7_readBeast 142 = .ok (.invokevirtual 168, 3) := by decide +kernel
theorem dX7_readBeast_145 : decode cX7_readBeast 145 = .ok (.iconst 1, 1) := by decide +kernel
theorem dX7_readBeast_146 : decode cX7_readBeast 146 = .ok (.ireturn, 1) := by decide +kernel
theorem dX7_kindIsTold_0 : decode cX7_kindIsTold 0 = .ok (.aload_n 0, 1) := by decide +kernel
theorem dX7_kindIsTold_1 : decode cX7_kindIsTold 1 = .ok (.getfield 37, 3) := by decide +kernel
theorem dX7_kindIsTold_4 : decode cX7_kindIsTold 4 = .ok (.ldc 172, 2) := by decide +kernel
theorem dX7_kindIsTold_6 : decode cX7_kindIsTold 6 = .ok (.invokevirtual 83, 3) := by decide +kernel
theorem dX7_kindIsTold_9 : decode cX7_kindIsTold 9 = .ok (.ifCond .eq 7, 3) := by decide +kernel
theorem dX7_kindIsTold_12 : decode cX7_kindIsTold 12 = .ok (.iconst 0, 1) := by decide +kernel
theorem dX7_kindIsTold_13 : decode cX7_kindIsTold 13 = .ok (.goto 52, 3) := by decide +kernel
theorem dX7_kindIsTold_16 : decode cX7_kindIsTold 16 = .ok (.aload_n 0, 1) := by decide +kernel
theorem dX7_kindIsTold_17 : decode cX7_kindIsTold 17 = .ok (.getfield 37, 3) := by decide +kernel
theorem dX7_kindIsTold_20 : decode cX7_kindIsTold 20 = .ok (.ldc 174, 2) := by decide +kernel
theorem dX7_kindIsTold_22 : decode cX7_kindIsTold 22 = .ok (.invokevirtual 83, 3) := by decide +kernel
theorem dX7_kindIsTold_25 : decode cX7_kindIsTold 25 = .ok (.ifCond .eq 7, 3) := by decide +kernel
theorem dX7_kindIsTold_28 : decode cX7_kindIsTold 28 = .ok (.iconst 1, 1) := by decide +kernel
theorem dX7_kindIsTold_29 : decode cX7_kindIsTold 29 = .ok (.goto 36, 3) := by decide +kernel
theorem dX7_kindIsTold_32 : decode cX7_kindIsTold 32 = .ok (.aload_n 0, 1) := by decide +kernel
theorem dX7_kindIsTold_33 : decode cX7_kindIsTold 33 = .ok (.getfield 37, 3) := by decide +kernel
theorem dX7_kindIsTold_36 : decode cX7_kindIsTold 36 = .ok (.ldc 176, 2) := by decide +kernel
theorem dX7_kindIsTold_38 : decode cX7_kindIsTold 38 = .ok (.invokevirtual 83, 3) := by decide +kernel
theorem dX7_kindIsTold_41 : decode cX7_kindIsTold 41 = .ok (.ifCond .eq 7, 3) := by decide +kernel
theorem dX7_kindIsTold_44 : decode cX7_kindIsTold 44 = .ok (.iconst 2, 1) := by decide +kernel
theorem dX7_kindIsTold_45 : decode cX7_kindIsTold 45 = .ok (.goto 20, 3) := by decide +kernel
theorem dX7_kindIsTold_48 : decode cX7_kindIsTold 48 = .ok (.aload_n 0, 1) := by decide +kernel
theorem dX7_kindIsTold_49 : decode cX7_kindIsTold 49 = .ok (.getfield 37, 3) := by decide +kernel
theorem dX7_kindIsTold_52 : decode cX7_kindIsTold 52 = .ok (.ldc 178, 2) := by decide +kernel
theorem dX7_kindIsTold_54 : decode cX7_kindIsTold 54 = .ok (.invokevirtual 83, 3) := by decide +kernel
theorem dX7_kindIsTold_57 : decode cX7_kindIsTold 57 = .ok (.ifCond .eq 7, 3) := by decide +kernel
theorem dX7_kindIsTold_60 : decode cX7_kindIsTold 60 = .ok (.iconst 3, 1) := by decide +kernel
theorem dX7_kindIsTold_61 : decode cX7_kindIsTold 61 = .ok (.goto 4, 3) := by decide +kernel
theorem dX7_kindIsTold_64 : decode cX7_kindIsTold 64 = .ok (.iconst (-1), 1) := by decide +kernel
theorem dX7_kindIsTold_65 : decode cX7_kindIsTold 65 = .ok (.ireturn, 1) := by decide +kernel
theorem dX7_readCity_0 : decode cX7_readCity 0 = .ok (.aload_n 0, 1) := by decide +kernel
theorem dX7_readCity_1 : decode cX7_readCity 1 = .ok (.iconst 0, 1) := by decide +kernel
theorem dX7_readCity_2 : decode cX7_readCity 2 = .ok (.aload_n 0, 1) := by decide +kernel
theorem dX7_readCity_3 : decode cX7_readCity 3 = .ok (.getfield 12, 3) := by decide +kernel
theorem dX7_readCity_6 : decode cX7_readCity 6 = .ok (.getfield 117, 3) := by decide +kernel
theorem dX7_readCity_9 : decode cX7_readCity 9 = .ok (.invokevirtual 155, 3) := by decide +kernel
theorem dX7_readCity_12 : decode cX7_readCity 12 = .ok (.ifCond .ne 5, 3) := by decide +kernel
theorem dX7_readCity_15 : decode cX7_readCity 15 = .ok (.iconst 0, 1) := by decide +kernel
theorem dX7_readCity_16 : decode cX7_readCity 16 = .ok (.ireturn, 1) := by decide +kernel
theorem dX7_readCity_17 : decode cX7_readCity 17 = .ok (.aload_n 0, 1) := by decide +kernel
theorem dX7_readCity_18 : decode cX7_readCity 18 = .ok (.getfield 12, 3) := by decide +kernel
theorem dX7_readCity_21 : decode cX7_readCity 21 = .ok (.dup, 1) := by decide +kernel
theorem dX7_readCity_22 : decode cX7_readCity 22 = .ok (.getfield 117, 3) := by decide +kernel
theorem dX7_readCity_25 : decode cX7_readCity 25 = .ok (.iconst 1, 1) := by decide +kernel
theorem dX7_readCity_26 : decode cX7_readCity 26 = .ok (.iadd, 1) := by decide +kernel
theorem dX7_readCity_27 : decode cX7_readCity 27 = .ok (.putfield 117, 3) := by decide +kernel
theorem dX7_readCity_30 : decode cX7_readCity 30 = .ok (.iconst 1, 1) := by decide +kernel
theorem dX7_readCity_31 : decode cX7_readCity 31 = .ok (.ireturn, 1) := by decide +kernel
theorem dX7_readPass_0 : decode cX7_readPass 0 = .ok (.aload_n 0, 1) := by decide +kernel
theorem dX7_readPass_1 : decode cX7_readPass 1 = .ok (.iconst 0, 1) := by decide +kernel
theorem dX7_readPass_2 : decode cX7_readPass 2 = .ok (.invokevirtual 180, 3) := by decide +kernel
theorem dX7_readPass_5 : decode cX7_readPass 5 = .ok (.istore_n 1, 1) := by decide +kernel
theorem dX7_readPass_6 : decode cX7_readPass 6 = .ok (.iload_n 1, 1) := by decide +kernel
theorem dX7_readPass_7 : decode cX7_readPass 7 = .ok (.iconst (-1), 1) := by decide +kernel
theorem dX7_readPass_8 : decode cX7_readPass 8 = .ok (.if_icmp .ne 5, 3) := by decide +kernel
theorem dX7_readPass_11 : decode cX7_readPass 11 = .ok (.iconst 0, 1) := by decide +kernel
theorem dX7_readPass_12 : decode cX7_readPass 12 = .ok (.ireturn, 1) := by decide +kernel
theorem dX7_readPass_13 : decode cX7_readPass 13 = .ok (.aload_n 0, 1) := by decide +kernel
theorem dX7_readPass_14 : decode cX7_readPass 14 = .ok (.iconst 0, 1) := by decide +kernel
theorem dX7_readPass_15 : decode cX7_readPass 15 = .ok (.invokevirtual 180, 3) := by decide +kernel
theorem dX7_readPass_18 : decode cX7_readPass 18 = .ok (.istore_n 2, 1) := by decide +kernel
theorem dX7_readPass_19 : decode cX7_readPass 19 = .ok (.iload_n 2, 1) := by decide +kernel
theorem dX7_readPass_20 : decode cX7_readPass 20 = .ok (.iconst (-1), 1) := by decide +kernel
theorem dX7_readPass_21 : decode cX7_readPass 21 = .ok (.if_icmp .ne 5, 3) := by decide +kernel
theorem dX7_readPass_24 : decode cX7_readPass 24 = .ok (.iconst 0, 1) := by decide +kernel
theorem dX7_readPass_25 : decode cX7_readPass 25 = .ok (.ireturn, 1) := by decide +kernel
theorem dX7_readPass_26 : decode cX7_readPass 26 = .ok (.iload_n 1, 1) := by decide +kernel
theorem dX7_readPass_27 : decode cX7_readPass 27 = .ok (.iload_n 2, 1) := by decide +kernel
theorem dX7_readPass_28 : decode cX7_readPass 28 = .ok (.if_icmp .eq 16, 3) := by decide +kernel
theorem dX7_readPass_31 : decode cX7_readPass 31 = .ok (.aload_n 0, 1) := by decide +kernel
theorem dX7_readPass_32 : decode cX7_readPass 32 = .ok (.getfield 12, 3) := by decide +kernel
theorem dX7_readPass_35 : decode cX7_readPass 35 = .ok (.iload_n 1, 1) := by decide +kernel
theorem dX7_readPass_36 : decode cX7_readPass 36 = .ok (.iload_n 2, 1) := by decide +kernel
theorem dX7_readPass_37 : decode cX7_readPass 37 = .ok (.invokevirtual 184, 3) := by decide +kernel
theorem dX7_readPass_40 : decode cX7_readPass 40 = .ok (.iconst (-1), 1) := by decide +kernel
theorem dX7_readPass_41 : decode cX7_readPass 41 = .ok (.if_icmp .eq 9, 3) := by decide +kernel
theorem dX7_readPass_44 : decode cX7_readPass 44 = .ok (.aload_n 0, 1) := by decide +kernel
theorem dX7_readPass_45 : decode cX7_readPass 45 = .ok (.iconst 3, 1) := by decide +kernel
theorem dX7_readPass_46 : decode cX7_readPass 46 = .ok (.invokevirtual 71, 3) := by decide +kernel
theorem dX7_readPass_49 : decode cX7_readPass 49 = .ok (.ireturn, 1) := by decide +kernel
theorem dX7_readPass_50 : decode cX7_readPass 50 = .ok (.aload_n 0, 1) := by decide +kernel
theorem dX7_readPass_51 : decode cX7_readPass 51 = .ok (.ldc 187, 2) := by decide +kernel
theorem dX7_readPass_53 : decode cX7_readPass 53 = .ok (.invokevirtual 92, 3) := by decide +kernel
theorem dX7_readPass_56 : decode cX7_readPass 56 = .ok (.ifCond .eq 13, 3) := by decide +kernel
theorem dX7_readPass_59 : decode cX7_readPass 59 = .ok (.aload_n 0, 1) := by decide +kernel
theorem dX7_readPass_60 : decode cX7_readPass 60 = .ok (.iconst 0, 1) := by decide +kernel
theorem dX7_readPass_61 : decode cX7_readPass 61 = .ok (.bipush 99, 2) := by decide +kernel
theorem dX7_readPass_63 : decode cX7_readPass 63 = .ok (.invokevirtual 95, 3) := by decide +kernel
theorem dX7_readPass_66 : decode cX7_readPass 66 = .ok (.goto 4, 3) := by decide +kernel
theorem dX7_readPass_69 : decode cX7_readPass 69 = .ok (.iconst (-1), 1) := by decide +kernel
theorem dX7_readPass_70 : decode cX7_readPass 70 = .ok (.istore_n 3, 1) := by decide +kernel
theorem dX7_readPass_71 : decode cX7_readPass 71 = .ok (.iload_n 3, 1) := by decide +kernel
theorem dX7_readPass_72 : decode cX7_readPass 72 = .ok (.iconst (-1), 1) := by decide +kernel
theorem dX7_readPass_73 : decode cX7_readPass 73 = .ok (.if_icmp .ne 5, 3) := by decide +kernel
theorem dX7_readPass_76 : decode cX7_readPass 76 = .ok (.iconst 0, 1) := by decide +kernel
theorem dX7_readPass_77 : decode cX7_readPass 77 = .ok (.ireturn, 1) := by decide +kernel
theorem dX7_readPass_78 : decode cX7_readPass 78 = .ok (.aload_n 0, 1) := by decide +kernel
theorem dX7_readPass_79 : decode cX7_readPass 79 = .ok (.getfield 12, 3) := by decide +kernel
theorem dX7_readPass_82 : decode cX7_readPass 82 = .ok (.iload_n 1, 1) := by decide +kernel
theorem dX7_readPass_83 : decode cX7_readPass 83 = .ok (.iload_n 2, 1) := by decide +kernel
theorem dX7_readPass_84 : decode cX7_readPass 84 = .ok (.iload_n 3, 1) := by decide +kernel
theorem dX7_readPass_85 : decode cX7_readPass 85 = .ok (.invokevirtual 189, 3) := by decide +kernel
theorem dX7_readPass_88 : decode cX7_readPass 88 = .ok (.iconst 1, 1) := by decide +kernel
theorem dX7_readPass_89 : decode cX7_readPass 89 = .ok (.ireturn, 1) := by decide +kernel
theorem dX7_readTurned_0 : decode cX7_readTurned 0 = .ok (.aload_n 0, 1) := by decide +kernel
theorem dX7_readTurned_1 : decode cX7_readTurned 1 = .ok (.iconst 1, 1) := by decide +kernel
theorem dX7_readTurned_2 : decode cX7_readTurned 2 = .ok (.invokevirtual 180, 3) := by decide +kernel
theorem dX7_readTurned_5 : decode cX7_readTurned 5 = .ok (.istore_n 1, 1) := by decide +kernel
theorem dX7_readTurned_6 : decode cX7_readTurned 6 = .ok (.iload_n 1, 1) := by decide +kernel
theorem dX7_readTurned_7 : decode cX7_readTurned 7 = .ok (.iconst (-1), 1) := by decide +kernel
theorem dX7_readTurned_8 : decode cX7_readTurned 8 = .ok (.if_icmp .ne 5, 3) := by decide +kernel
theorem dX7_readTurned_11 : decode cX7_readTurned 11 = .ok (.iconst 0, 1) := by decide +kernel
theorem dX7_readTurned_12 : decode cX7_readTurned 12 = .ok (.ireturn, 1) := by decide +kernel
theorem dX7_readTurned_13 : decode cX7_readTurned 13 = .ok (.aload_n 0, 1) := by decide +kernel
theorem dX7_readTurned_14 : decode cX7_readTurned 14 = .ok (.getfield 12, 3) := by decide +kernel
theorem dX7_readTurned_17 : decode cX7_readTurned 17 = .ok (.iload_n 1, 1) := by decide +kernel
theorem dX7_readTurned_18 : decode cX7_readTurned 18 = .ok (.invokevirtual 192, 3) := by decide +kernel
theorem dX7_readTurned_21 : decode cX7_readTurned 21 = .ok (.ifCond .eq 9, 3) := by decide +kernel
theorem dX7_readTurned_24 : decode cX7_readTurned 24 = .ok (.aload_n 0, 1) := by decide +kernel
theorem dX7_readTurned_25 : decode cX7_readTurned 25 = .ok (.iconst 3, 1) := by decide +kernel
theorem dX7_readTurned_26 : decode cX7_readTurned 26 = .ok (.invokevirtual 71, 3) := by decide +kernel
theorem dX7_readTurned_29 : decode cX7_readTurned 29 = .ok (.ireturn, 1) := by decide +kernel
theorem dX7_readTurned_30 : decode cX7_readTurned 30 = .ok (.aload_n 0, 1) := by decide +kernel
theorem dX7_readTurned_31 : decode cX7_readTurned 31 = .ok (.getfield 12, 3) := by decide +kernel
theorem dX7_readTurned_34 : decode cX7_readTurned 34 = .ok (.dup, 1) := by decide +kernel
theorem dX7_readTurned_35 : decode cX7_readTurned 35 = .ok (.getfield 195, 3) := by decide +kernel
theorem dX7_readTurned_38 : decode cX7_readTurned 38 = .ok (.iconst 1, 1) := by decide +kernel
theorem dX7_readTurned_39 : decode cX7_readTurned 39 = .ok (.iload_n 1, 1) := by decide +kernel
theorem dX7_readTurned_40 : decode cX7_readTurned 40 = .ok (.ishl, 1) := by decide +kernel
theorem dX7_readTurned_41 : decode cX7_readTurned 41 = .ok (.ior, 1) := by decide +kernel
theorem dX7_readTurned_42 : decode cX7_readTurned 42 = .ok (.putfield 195, 3) := by decide +kernel
theorem dX7_readTurned_45 : decode cX7_readTurned 45 = .ok (.iconst 1, 1) := by decide +kernel
theorem dX7_readTurned_46 : decode cX7_readTurned 46 = .ok (.ireturn, 1) := by decide +kernel
theorem dX7_readNewName_0 : decode cX7_readNewName 0 = .ok (.aload_n 0, 1) := by decide +kernel
theorem dX7_readNewName_1 : decode cX7_readNewName 1 = .ok (.getfield 37, 3) := by decide +kernel
theorem dX7_readNewName_4 : decode cX7_readNewName 4 = .ok (.invokevirtual 62, 3) := by decide +kernel
theorem dX7_readNewName_7 : decode cX7_readNewName 7 = .ok (.aload_n 0, 1) := by decide +kernel
theorem dX7_readNewName_8 : decode cX7_readNewName 8 = .ok (.getfield 37, 3) := by decide +kernel
theorem dX7_readNewName_11 : decode cX7_readNewName 11 = .ok (.getfield 65, 3) := by decide +kernel
theorem dX7_readNewName_14 : decode cX7_readNewName 14 = .ok (.iconst 1, 1) := by decide +kernel
theorem dX7_readNewName_15 : decode cX7_readNewName 15 = .ok (.if_icmp .ne 13, 3) := by decide +kernel
theorem dX7_readNewName_18 : decode cX7_readNewName 18 = .ok (.aload_n 0, 1) := by decide +kernel
theorem dX7_readNewName_19 : decode cX7_readNewName 19 = .ok (.getfield 37, 3) := by decide +kernel
theorem dX7_readNewName_22 : decode cX7_readNewName 22 = .ok (.invokevirtual 87, 3) := by decide +kernel
theorem dX7_readNewName_25 : decode cX7_readNewName 25 = .ok (.ifCond .eq 9, 3) := by decide +kernel
theorem dX7_readNewName_28 : decode cX7_readNewName 28 = .ok (.aload_n 0, 1) := by decide +kernel
theorem dX7_readNewName_29 : decode cX7_readNewName 29 = .ok (.iconst 1, 1) := by decide +kernel
theorem dX7_readNewName_30 : decode cX7_readNewName 30 = .ok (.invokevirtual 71, 3) := by decide +kernel
theorem dX7_readNewName_33 : decode cX7_readNewName 33 = .ok (.ireturn, 1) := by decide +kernel
theorem dX7_readNewName_34 : decode cX7_readNewName 34 = .ok (.aload_n 0, 1) := by decide +kernel
theorem dX7_readNewName_35 : decode cX7_readNewName 35 = .ok (.invokevirtual 197, 3) := by decide +kernel
theorem dX7_readNewName_38 : decode cX7_readNewName 38 = .ok (.iconst (-1), 1) := by decide +kernel
theorem dX7_readNewName_39 : decode cX7_readNewName 39 = .ok (.if_icmp .eq 9, 3) := by decide +kernel
theorem dX7_readNewName_42 : decode cX7_readNewName 42 = .ok (.aload_n 0, 1) := by decide +kernel
theorem dX7_readNewName_43 : decode cX7_readNewName 43 = .ok (.iconst 3, 1) := by decide +kernel
theorem dX7_readNewName_44 : decode cX7_readNewName 44 = .ok (.invokevirtual 71, 3) := by decide +kernel
theorem dX7_readNewName_47 : decode cX7_readNewName 47 = .ok (.ireturn, 1) := by decide +kernel
theorem dX7_readNewName_48 : decode cX7_readNewName 48 = .ok (.aload_n 0, 1) := by decide +kernel
theorem dX7_readNewName_49 : decode cX7_readNewName 49 = .ok (.getfield 48, 3) := by decide +kernel
theorem dX7_readNewName_52 : decode cX7_readNewName 52 = .ok (.bipush 11, 2) := by decide +kernel
theorem dX7_readNewName_54 : decode cX7_readNewName 54 = .ok (.if_icmp .ge 65, 3) := by decide +kernel
theorem dX7_readNewName_57 : decode cX7_readNewName 57 = .ok (.aload_n 0, 1) := by decide +kernel
theorem dX7_readNewName_58 : decode cX7_readNewName 58 = .ok (.getfield 18, 3) := by decide +kernel
theorem dX7_readNewName_61 : decode cX7_readNewName 61 = .ok (.aload_n 0, 1) := by decide +kernel
theorem dX7_readNewName_62 : decode cX7_readNewName 62 = .ok (.getfield 48, 3) := by decide +kernel
theorem dX7_readNewName_65 : decode cX7_readNewName 65 = .ok (.aload_n 0, 1) := by decide +kernel
theorem dX7_readNewName_66 : decode cX7_readNewName 66 = .ok (.getfield 37, 3) := by decide +kernel
theorem dX7_readNewName_69 : decode cX7_readNewName 69 = .ok (.getfield 78, 3) := by decide +kernel
theorem dX7_readNewName_72 : decode cX7_readNewName 72 = .ok (.iastore, 1) := by decide +kernel
theorem dX7_readNewName_73 : decode cX7_readNewName 73 = .ok (.aload_n 0, 1) := by decide +kernel
theorem dX7_readNewName_74 : decode cX7_readNewName 74 = .ok (.getfield 22, 3) := by decide +kernel
theorem dX7_readNewName_77 : decode cX7_readNewName 77 = .ok (.aload_n 0, 1) := by decide +kernel
theorem dX7_readNewName_78 : decode cX7_readNewName 78 = .ok (.getfield 48, 3) := by decide +kernel
theorem dX7_readNewName_81 : decode cX7_readNewName 81 = .ok (.aload_n 0, 1) := by decide +kernel
theorem dX7_readNewName_82 : decode cX7_readNewName 82 = .ok (.getfield 37, 3) := by decide +kernel
theorem dX7_readNewName_85 : decode cX7_readNewName 85 = .ok (.getfield 200, 3) := by decide +kernel
theorem dX7_readNewName_88 : decode cX7_readNewName 88 = .ok (.iastore, 1) := by decide +kernel
theorem dX7_readNewName_89 : decode cX7_readNewName 89 = .ok (.aload_n 0, 1) := by decide +kernel
theorem dX7_readNewName_90 : decode cX7_readNewName 90 = .ok (.getfield 25, 3) := by decide +kernel
theorem dX7_readNewName_93 : decode cX7_readNewName 93 = .ok (.aload_n 0, 1) := by decide +kernel
theorem dX7_readNewName_94 : decode cX7_readNewName 94 = .ok (.getfield 48, 3) := by decide +kernel
theorem dX7_readNewName_97 : decode cX7_readNewName 97 = .ok (.iload_n 2, 1) := by decide +kernel
theorem dX7_readNewName_98 : decode cX7_readNewName 98 = .ok (.iastore, 1) := by decide +kernel
theorem dX7_readNewName_99 : decode cX7_readNewName 99 = .ok (.aload_n 0, 1) := by decide +kernel
theorem dX7_readNewName_100 : decode cX7_readNewName 100 = .ok (.getfield 28, 3) := by decide +kernel
theorem dX7_readNewName_103 : decode cX7_readNewName 103 = .ok (.aload_n 0, 1) := by decide +kernel
theorem dX7_readNewName_104 : decode cX7_readNewName 104 = .ok (.getfield 48, 3) := by decide +kernel
theorem dX7_readNewName_107 : decode cX7_readNewName 107 = .ok (.iload_n 1, 1) := by decide +kernel
theorem dX7_readNewName_108 : decode cX7_readNewName 108 = .ok (.bastore, 1) := by decide +kernel
theorem dX7_readNewName_109 : decode cX7_readNewName 109 = .ok (.aload_n 0, 1) := by decide +kernel
theorem dX7_readNewName_110 : decode cX7_readNewName 110 = .ok (.dup, 1) := by decide +kernel
theorem dX7_readNewName_111 : decode cX7_readNewName 111 = .ok (.getfield 48, 3) := by decide +kernel
theorem dX7_readNewName_114 : decode cX7_readNewName 114 = .ok (.iconst 1, 1) := by decide +kernel
theorem dX7_readNewName_115 : decode cX7_readNewName 115 = .ok (.iadd, 1) := by decide +kernel
theorem dX7_readNewName_116 : decode cX7_readNewName 116 = .ok (.putfield 48, 3) := by decide +kernel
theorem dX7_readNewName_119 : decode cX7_readNewName 119 = .ok (.iconst 1, 1) := by decide +kernel
theorem dX7_readNewName_120 : decode cX7_readNewName 120 = .ok (.ireturn, 1) := by decide +kernel
theorem dX7_readKnownName_0 : decode cX7_readKnownName 0 = .ok (.aload_n 0, 1) := by decide +kernel
theorem dX7_readKnownName_1 : decode cX7_readKnownName 1 = .ok (.getfield 37, 3) := by decide +kernel
theorem dX7_readKnownName_4 : decode cX7_readKnownName 4 = .ok (.invokevirtual 62, 3) := by decide +kernel
theorem dX7_readKnownName_7 : decode cX7_readKnownName 7 = .ok (.aload_n 0, 1) := by decide +kernel
theorem dX7_readKnownName_8 : decode cX7_readKnownName 8 = .ok (.getfield 37, 3) := by decide +kernel
theorem dX7_readKnownName_11 : decode cX7_readKnownName 11 = .ok (.getfield 65, 3) := by decide +kernel
theorem dX7_readKnownName_14 : decode cX7_readKnownName 14 = .ok (.iconst 1, 1) := by decide +kernel
theorem dX7_readKnownName_15 : decode cX7_readKnownName 15 = .ok (.if_icmp .ne 13, 3) := by decide +kernel
theorem dX7_readKnownName_18 : decode cX7_readKnownName 18 = .ok (.aload_n 0, 1) := by decide +kernel
theorem dX7_readKnownName_19 : decode cX7_readKnownName 19 = .ok (.getfield 37, 3) := by decide +kernel
theorem dX7_readKnownName_22 : decode cX7_readKnownName 22 = .ok (.invokevirtual 87, 3) := by decide +kernel
theorem dX7_readKnownName_25 : decode cX7_readKnownName 25 = .ok (.ifCond .eq 11, 3) := by decide +kernel
theorem dX7_readKnownName_28 : decode cX7_readKnownName 28 = .ok (.aload_n 0, 1) := by decide +kernel
theorem dX7_readKnownName_29 : decode cX7_readKnownName 29 = .ok (.iconst 1, 1) := by decide +kernel
theorem dX7_readKnownName_30 : decode cX7_readKnownName 30 = .ok (.invokevirtual 71, 3) := by decide +kernel
theorem dX7_readKnownName_33 : decode cX7_readKnownName 33 = .ok (.pop, 1) := by decide +kernel
theorem dX7_readKnownName_34 : decode cX7_readKnownName 34 = .ok (.iconst (-1), 1) := by decide +kernel
theorem dX7_readKnownName_35 : decode cX7_readKnownName 35 = .ok (.ireturn, 1) := by decide +kernel
theorem dX7_readKnownName_36 : decode cX7_readKnownName 36 = .ok (.aload_n 0, 1) := by decide +kernel
theorem dX7_readKnownName_37 : decode cX7_readKnownName 37 = .ok (.invokevirtual 197, 3) := by decide +kernel
theorem dX7_readKnownName_40 : decode cX7_readKnownName 40 = .ok (.istore_n 2, 1) := by decide +kernel
theorem dX7_readKnownName_41 : decode cX7_readKnownName 41 = .ok (.iload_n 2, 1) := by decide +kernel
theorem dX7_readKnownName_42 : decode cX7_readKnownName 42 = .ok (.iconst (-1), 1) := by decide +kernel
theorem dX7_readKnownName_43 : decode cX7_readKnownName 43 = .ok (.if_icmp .eq 13, 3) := by decide +kernel
theorem dX7_readKnownName_46 : decode cX7_readKnownName 46 = .ok (.aload_n 0, 1) := by decide +kernel
theorem dX7_readKnownName_47 : decode cX7_readKnownName 47 = .ok (.getfield 28, 3) := by decide +kernel
theorem dX7_readKnownName_50 : decode cX7_readKnownName 50 = .ok (.iload_n 2, 1) := by decide +kernel
theorem dX7_readKnownName_51 : decode cX7_readKnownName 51 = .ok (.baload, 1) := by decide +kernel
theorem dX7_readKnownName_52 : decode cX7_readKnownName 52 = .ok (.iload_n 1, 1) := by decide +kernel
theorem dX7_readKnownName_53 : decode cX7_readKnownName 53 = .ok (.if_icmp .eq 11, 3) := by decide +kernel
theorem dX7_readKnownName_56 : decode cX7_readKnownName 56 = .ok (.aload_n 0, 1) := by decide +kernel
theorem dX7_readKnownName_57 : decode cX7_readKnownName 57 = .ok (.iconst 2, 1) := by decide +kernel
theorem dX7_readKnownName_58 : decode cX7_readKnownName 58 = .ok (.invokevirtual 71, 3) := by decide +kernel
theorem dX7_readKnownName_61 : decode cX7_readKnownName 61 = .ok (.pop, 1) := by decide +kernel
theorem dX7_readKnownName_62 : decode cX7_readKnownName 62 = .ok (.iconst (-1), 1) := by decide +kernel
theorem dX7_readKnownName_63 : decode cX7_readKnownName 63 = .ok (.ireturn, 1) := by decide +kernel
theorem dX7_readKnownName_64 : decode cX7_readKnownName 64 = .ok (.aload_n 0, 1) := by decide +kernel
theorem dX7_readKnownName_65 : decode cX7_readKnownName 65 = .ok (.getfield 25, 3) := by decide +kernel
theorem dX7_readKnownName_68 : decode cX7_readKnownName 68 = .ok (.iload_n 2, 1) := by decide +kernel
theorem dX7_readKnownName_69 : decode cX7_readKnownName 69 = .ok (.iaload, 1) := by decide +kernel
theorem dX7_readKnownName_70 : decode cX7_readKnownName 70 = .ok (.ireturn, 1) := by decide +kernel
theorem dX7_indexOfName_0 : decode cX7_indexOfName 0 = .ok (.iconst 0, 1) := by decide +kernel
theorem dX7_indexOfName_1 : decode cX7_indexOfName 1 = .ok (.istore_n 1, 1) := by decide +kernel
theorem dX7_indexOfName_2 : decode cX7_indexOfName 2 = .ok (.iload_n 1, 1) := by decide +kernel
theorem dX7_indexOfName_3 : decode cX7_indexOfName 3 = .ok (.aload_n 0, 1) := by decide +kernel
theorem dX7_indexOfName_4 : decode cX7_indexOfName 4 = .ok (.getfield 48, 3) := by decide +kernel
theorem dX7_indexOfName_7 : decode cX7_indexOfName 7 = .ok (.if_icmp .ge 39, 3) := by decide +kernel
theorem dX7_indexOfName_10 : decode cX7_indexOfName 10 = .ok (.iload_n 1, 1) := by decide +kernel
theorem dX7_indexOfName_11 : decode cX7_indexOfName 11 = .ok (.bipush 11, 2) := by decide +kernel
theorem dX7_indexOfName_13 : decode cX7_indexOfName 13 = .ok (.if_icmp .ge 33, 3) := by decide +kernel
theorem dX7_indexOfName_16 : decode cX7_indexOfName 16 = .ok (.aload_n 0, 1) := by decide +kernel
theorem dX7_indexOfName_17 : decode cX7_indexOfName 17 = .ok (.getfield 37, 3) := by decide +kernel
theorem dX7_indexOfName_20 : decode cX7_indexOfName 20 = .ok (.aload_n 0, 1) := by decide +kernel
theorem dX7_indexOfName_21 : decode cX7_indexOfName 21 = .ok (.getfield 18, 3) := by decide +kernel
theorem dX7_indexOfName_24 : decode cX7_indexOfName 24 = .ok (.iload_n 1, 1) := by decide +kernel
theorem dX7_indexOfName_25 : decode cX7_indexOfName 25 = .ok (.iaload, 1) := by decide +kernel
theorem dX7_indexOfName_26 : decode cX7_indexOfName 26 = .ok (.aload_n 0, 1) := by decide +kernel
theorem dX7_indexOfName_27 : decode cX7_indexOfName 27 = .ok (.getfield 22, 3) := by decide +kernel
theorem dX7_indexOfName_30 : decode cX7_indexOfName 30 = .ok (.iload_n 1, 1) := by decide +kernel
theorem dX7_indexOfName_31 : decode cX7_indexOfName 31 = .ok (.iaload, 1) := by decide +kernel
theorem dX7_indexOfName_32 : decode cX7_indexOfName 32 = .ok (.invokevirtual 203, 3) := by decide +kernel
theorem dX7_indexOfName_35 : decode cX7_indexOfName 35 = .ok (.ifCond .eq 5, 3) := by decide +kernel
theorem dX7_indexOfName_38 : decode cX7_indexOfName 38 = .ok (.iload_n 1, 1) := by decide +kernel
theorem dX7_indexOfName_39 : decode cX7_indexOfName 39 = .ok (.ireturn, 1) := by decide +kernel
theorem dX7_indexOfName_40 : decode cX7_indexOfName 40 = .ok (.iinc 1 1, 3) := by decide +kernel
theorem dX7_indexOfName_43 : decode cX7_indexOfName 43 = .ok (.goto (-41), 3) := by decide +kernel
theorem dX7_indexOfName_46 : decode cX7_indexOfName 46 = .ok (.iconst (-1), 1) := by decide +kernel
theorem dX7_indexOfName_47 : decode cX7_indexOfName 47 = .ok (.ireturn, 1) := by decide +kernel
theorem dX7_readWord_0 : decode cX7_readWord 0 = .ok (.aload_n 0, 1) := by decide +kernel
theorem dX7_readWord_1 : decode cX7_readWord 1 = .ok (.getfield 37, 3) := by decide +kernel
theorem dX7_readWord_4 : decode cX7_readWord 4 = .ok (.invokevirtual 62, 3) := by decide +kernel
theorem dX7_readWord_7 : decode cX7_readWord 7 = .ok (.aload_n 0, 1) := by decide +kernel
theorem dX7_readWord_8 : decode cX7_readWord 8 = .ok (.getfield 37, 3) := by decide +kernel
theorem dX7_readWord_11 : decode cX7_readWord 11 = .ok (.aload_n 1, 1) := by decide +kernel
theorem dX7_readWord_12 : decode cX7_readWord 12 = .ok (.invokevirtual 83, 3) := by decide +kernel
theorem dX7_readWord_15 : decode cX7_readWord 15 = .ok (.ifCond .ne 11, 3) := by decide +kernel
theorem dX7_readWord_18 : decode cX7_readWord 18 = .ok (.aload_n 0, 1) := by decide +kernel
theorem dX7_readWord_19 : decode cX7_readWord 19 = .ok (.iconst 1, 1) := by decide +kernel
theorem dX7_readWord_20 : decode cX7_readWord 20 = .ok (.invokevirtual 71, 3) := by decide +kernel
theorem dX7_readWord_23 : decode cX7_readWord 23 = .ok (.ifCond .eq 7, 3) := by decide +kernel
theorem dX7_readWord_26 : decode cX7_readWord 26 = .ok (.iconst 1, 1) := by decide +kernel
theorem dX7_readWord_27 : decode cX7_readWord 27 = .ok (.goto 4, 3) := by decide +kernel
theorem dX7_readWord_30 : decode cX7_readWord 30 = .ok (.iconst 0, 1) := by decide +kernel
theorem dX7_readWord_31 : decode cX7_readWord 31 = .ok (.ireturn, 1) := by decide +kernel
theorem dX7_readWhole_0 : decode cX7_readWhole 0 = .ok (.aload_n 0, 1) := by decide +kernel
theorem dX7_readWhole_1 : decode cX7_readWhole 1 = .ok (.getfield 37, 3) := by decide +kernel
theorem dX7_readWhole_4 : decode cX7_readWhole 4 = .ok (.invokevirtual 62, 3) := by decide +kernel
theorem dX7_readWhole_7 : decode cX7_readWhole 7 = .ok (.aload_n 0, 1) := by decide +kernel
theorem dX7_readWhole_8 : decode cX7_readWhole 8 = .ok (.getfield 37, 3) := by decide +kernel
theorem dX7_readWhole_11 : decode cX7_readWhole 11 = .ok (.getfield 65, 3) := by decide +kernel
theorem dX7_readWhole_14 : decode cX7_readWhole 14 = .ok (.iconst 2, 1) := by decide +kernel
theorem dX7_readWhole_15 : decode cX7_readWhole 15 = .ok (.if_icmp .eq 11, 3) := by decide +kernel
theorem dX7_readWhole_18 : decode cX7_readWhole 18 = .ok (.aload_n 0, 1) := by decide +kernel
theorem dX7_readWhole_19 : decode cX7_readWhole 19 = .ok (.iconst 1, 1) := by decide +kernel
theorem dX7_readWhole_20 : decode cX7_readWhole 20 = .ok (.invokevirtual 71, 3) := by decide +kernel
theorem dX7_readWhole_23 : decode cX7_readWhole 23 = .ok (.pop, 1) := by decide +kernel
theorem dX7_readWhole_24 : decode cX7_readWhole 24 = .ok (.iconst (-1), 1) := by decide +kernel
theorem dX7_readWhole_25 : decode cX7_readWhole 25 = .ok (.ireturn, 1) := by decide +kernel
theorem dX7_readWhole_26 : decode cX7_readWhole 26 = .ok (.aload_n 0, 1) := by decide +kernel
theorem dX7_readWhole_27 : decode cX7_readWhole 27 = .ok (.getfield 37, 3) := by decide +kernel
theorem dX7_readWhole_30 : decode cX7_readWhole 30 = .ok (.invokevirtual 207, 3) := by decide +kernel
theorem dX7_readWhole_33 : decode cX7_readWhole 33 = .ok (.istore_n 3, 1) := by decide +kernel
theorem dX7_readWhole_34 : decode cX7_readWhole 34 = .ok (.iload_n 3, 1) := by decide +kernel
theorem dX7_readWhole_35 : decode cX7_readWhole 35 = .ok (.iload_n 1, 1) := by decide +kernel
theorem dX7_readWhole_36 : decode cX7_readWhole 36 = .ok (.iload_n 2, 1) := by decide +kernel
theorem dX7_readWhole_37 : decode cX7_readWhole 37 = .ok (.invokestatic 210, 3) := by decide +kernel
theorem dX7_readWhole_40 : decode cX7_readWhole 40 = .ok (.ifCond .eq 11, 3) := by decide +kernel
theorem dX7_readWhole_43 : decode cX7_readWhole 43 = .ok (.aload_n 0, 1) := by decide +kernel
theorem dX7_readWhole_44 : decode cX7_readWhole 44 = .ok (.iconst 4, 1) := by decide +kernel
theorem dX7_readWhole_45 : decode cX7_readWhole 45 = .ok (.invokevirtual 71, 3) := by decide +kernel
theorem dX7_readWhole_48 : decode cX7_readWhole 48 = .ok (.pop, 1) := by decide +kernel
theorem dX7_readWhole_49 : decode cX7_readWhole 49 = .ok (.iconst (-1), 1) := by decide +kernel
theorem dX7_readWhole_50 : decode cX7_readWhole 50 = .ok (.ireturn, 1) := by decide +kernel
theorem dX7_readWhole_51 : decode cX7_readWhole 51 = .ok (.iload_n 3, 1) := by decide +kernel
theorem dX7_readWhole_52 : decode cX7_readWhole 52 = .ok (.ireturn, 1) := by decide +kernel
theorem dX11_init_0 : decode cX11_init 0 = .ok (.aload_n 0, 1) := by decide +kernel
theorem dX11_init_1 : decode cX11_init 1 = .ok (.invokespecial 1, 3) := by decide +kernel
theorem dX11_init_4 : decode cX11_init 4 = .ok (.aload_n 0, 1) := by decide +kernel
theorem dX11_init_5 : decode cX11_init 5 = .ok (.sipush 900, 3) := by decide +kernel
theorem dX11_init_8 : decode cX11_init 8 = .ok (.newarray .byte, 2) := by decide +kernel
theorem dX11_init_10 : decode cX11_init 10 = .ok (.putfield 9, 3) := by decide +kernel
theorem dX11_init_13 : decode cX11_init 13 = .ok (.aload_n 0, 1) := by decide +kernel
theorem dX11_init_14 : decode cX11_init 14 = .ok (.new 13, 3) := by decide +kernel
theorem dX11_init_17 : decode cX11_init 17 = .ok (.dup, 1) := by decide +kernel
theorem dX11_init_18 : decode cX11_init 18 = .ok (.aload_n 0, 1) := by decide +kernel
theorem dX11_init_19 : decode cX11_init 19 = .ok (.getfield 9, 3) := by decide +kernel
theorem dX11_init_22 : decode cX11_init 22 = .ok (.invokespecial 15, 3) := by decide +kernel
theorem dX11_init_25 : decode cX11_init 25 = .ok (.putfield 18, 3) := by decide +kernel
theorem dX11_init_28 : decode cX11_init 28 = .ok (.aload_n 0, 1) := by decide +kernel
theorem dX11_init_29 : decode cX11_init 29 = .ok (.new 22, 3) := by decide +kernel
theorem dX11_init_32 : decode cX11_init 32 = .ok (.dup, 1) := by decide +kernel
theorem dX11_init_33 : decode cX11_init 33 = .ok (.invokespecial 24, 3) := by decide +kernel
theorem dX11_init_36 : decode cX11_init 36 = .ok (.putfield 25, 3) := by decide +kernel
theorem dX11_init_39 : decode cX11_init 39 = .ok (.aload_n 0, 1) := by decide +kernel
theorem dX11_init_40 : decode cX11_init 40 = .ok (.new 29, 3) := by decide +kernel
theorem dX11_init_43 : decode cX11_init 43 = .ok (.dup, 1) := by decide +kernel
theorem dX11_init_44 : decode cX11_init 44 = .ok (.invokespecial 31, 3) := by decide +kernel
theorem dX11_init_47 : decode cX11_init 47 = .ok (.putfield 32, 3) := by decide +kernel
theorem dX11_init_50 : decode cX11_init 50 = .ok (.aload_n 0, 1) := by decide +kernel
theorem dX11_init_51 : decode cX11_init 51 = .ok (.new 36, 3) := by decide +kernel
theorem dX11_init_54 : decode cX11_init 54 = .ok (.dup, 1) := by decide +kernel
theorem dX11_init_55 : decode cX11_init 55 = .ok (.invokespecial 38, 3) := by decide +kernel
theorem dX11_init_58 : decode cX11_init 58 = .ok (.putfield 39, 3) := by decide +kernel
theorem dX11_init_61 : decode cX11_init 61 = .ok (.aload_n 0, 1) := by decide +kernel
theorem dX11_init_62 : decode cX11_init 62 = .ok (.new 43, 3) := by decide +kernel
theorem dX11_init_65 : decode cX11_init 65 = .ok (.dup, 1) := by decide +kernel
theorem dX11_init_66 : decode cX11_init 66 = .ok (.aload_n 0, 1) := by decide +kernel
theorem dX11_init_67 : decode cX11_init 67 = .ok (.getfield 25, 3) := by decide +kernel
theorem dX11_init_70 : decode cX11_init 70 = .ok (.aload_n 0, 1) := by decide +kernel
theorem dX11_init_71 : decode cX11_init 71 = .ok (.getfield 32, 3) := by decide +kernel
theorem dX11_init_74 : decode cX11_init 74 = .ok (.invokespecial 45, 3) := by decide +kernel
theorem dX11_init_77 : decode cX11_init 77 = .ok (.putfield 48, 3) := by decide +kernel
theorem dX11_init_80 : decode cX11_init 80 = .ok (.aload_n 0, 1) := by decide +kernel
theorem dX11_init_81 : decode cX11_init 81 = .ok (.new 52, 3) := by decide +kernel
theorem dX11_init_84 : decode cX11_init 84 = .ok (.dup, 1) := by decide +kernel
theorem dX11_init_85 : decode cX11_init 85 = .ok (.aload_n 0, 1) := by decide +kernel
theorem dX11_init_86 : decode cX11_init 86 = .ok (.getfield 25, 3) := by decide +kernel
theorem dX11_init_89 : decode cX11_init 89 = .ok (.aload_n 0, 1) := by decide +kernel
theorem dX11_init_90 : decode cX11_init 90 = .ok (.getfield 32, 3) := by decide +kernel
theorem dX11_init_93 : decode cX11_init 93 = .ok (.aload_n 0, 1) := by decide +kernel
theorem dX11_init_94 : decode cX11_init 94 = .ok (.getfield 48, 3) := by decide +kernel
theorem dX11_init_97 : decode cX11_init 97 = .ok (.invokespecial 54, 3) := by decide +kernel
theorem dX11_init_100 : decode cX11_init 100 = .ok (.putfield 57, 3) := by decide +kernel
theorem dX11_init_103 : decode cX11_init 103 = .ok (.aload_n 0, 1) := by decide +kernel
theorem dX11_init_104 : decode cX11_init 104 = .ok (.new 61, 3) := by decide +kernel
theorem dX11_init_107 : decode cX11_init 107 = .ok (.dup, 1) := by decide +kernel
theorem dX11_init_108 : decode cX11_init 108 = .ok (.aload_n 0, 1) := by decide +kernel
theorem dX11_init_109 : decode cX11_init 109 = .ok (.getfield 25, 3) := by decide +kernel
theorem dX11_init_112 : decode cX11_init 112 = .ok (.aload_n 0, 1) := by decide +kernel
theorem dX11_init_113 : decode cX11_init 113 = .ok (.getfield 32, 3) := by decide +kernel
theorem dX11_init_116 : decode cX11_init 116 = .ok (.aload_n 0, 1) := by decide +kernel
theorem dX11_init_117 : decode cX11_init 117 = .ok (.getfield 48, 3) := by decide +kernel
theorem dX11_init_120 : decode cX11_init 120 = .ok (.invokespecial 63, 3) := by decide +kernel
theorem dX11_init_123 : decode cX11_init 123 = .ok (.putfield 64, 3) := by decide +kernel
theorem dX11_init_126 : decode cX11_init 126 = .ok (.aload_n 0, 1) := by decide +kernel
theorem dX11_init_127 : decode cX11_init 127 = .ok (.new 68, 3) := by decide +kernel
theorem dX11_init_130 : decode cX11_init 130 = .ok (.dup, 1) := by decide +kernel
theorem dX11_init_131 : decode cX11_init 131 = .ok (.aload_n 0, 1) := by decide +kernel
theorem dX11_init_132 : decode cX11_init 132 = .ok (.getfield 25, 3) := by decide +kernel
theorem dX11_init_135 : decode cX11_init 135 = .ok (.invokespecial 70, 3) := by decide +kernel
theorem dX11_init_138 : decode cX11_init 138 = .ok (.putfield 73, 3) := by decide +kernel
theorem dX11_init_141 : decode cX11_init 141 = .ok (.aload_n 0, 1) := by decide +kernel
theorem dX11_init_142 : decode cX11_init 142 = .ok (.new 77, 3) := by decide +kernel
theorem dX11_init_145 : decode cX11_init 145 = .ok (.dup, 1) := by decide +kernel
theorem dX11_init_146 : decode cX11_init 146 = .ok (.aload_n 0, 1) := by decide +kernel
theorem dX11_init_147 : decode cX11_init 147 = .ok (.getfield 25, 3) := by decide +kernel
theorem dX11_init_150 : decode cX11_init 150 = .ok (.aload_n 0, 1) := by decide +kernel
theorem dX11_init_151 : decode cX11_init 151 = .ok (.getfield 32, 3) := by decide +kernel
theorem dX11_init_154 : decode cX11_init 154 = .ok (.aload_n 0, 1) := by decide +kernel
theorem dX11_init_155 : decode cX11_init 155 = .ok (.getfield 48, 3) := by decide +kernel
theorem dX11_init_158 : decode cX11_init 158 = .ok (.invokespecial 79, 3) := by decide +kernel
theorem dX11_init_161 : decode cX11_init 161 = .ok (.putfield 80, 3) := by decide +kernel
theorem dX11_init_164 : decode cX11_init 164 = .ok (.aload_n 0, 1) := by decide +kernel
theorem dX11_init_165 : decode cX11_init 165 = .ok (.new 84, 3) := by decide +kernel
theorem dX11_init_168 : decode cX11_init 168 = .ok (.dup, 1) := by decide +kernel
theorem dX11_init_169 : decode cX11_init 169 = .ok (.aload_n 0, 1) := by decide +kernel
theorem dX11_init_170 : decode cX11_init 170 = .ok (.getfield 25, 3) := by decide +kernel
theorem dX11_init_173 : decode cX11_init 173 = .ok (.aload_n 0, 1) := by decide +kernel
theorem dX11_init_174 : decode cX11_init 174 = .ok (.getfield 32, 3) := by decide +kernel
theorem dX11_init_177 : decode cX11_init 177 = .ok (.aload_n 0, 1) := by decide +kernel
theorem dX11_init_178 : decode cX11_init 178 = .ok (.getfield 48, 3) := by decide +kernel
theorem dX11_init_181 : decode cX11_init 181 = .ok (.invokespecial 86, 3) := by decide +kernel
theorem dX11_init_184 : decode cX11_init 184 = .ok (.putfield 87, 3) := by decide +kernel
theorem dX11_init_187 : decode cX11_init 187 = .ok (.return_, 1) := by decide +kernel
theorem dX11_feed_0 : decode cX11_feed 0 = .ok (.aload_n 0, 1) := by decide +kernel
theorem dX11_feed_1 : decode cX11_feed 1 = .ok (.getfield 91, 3) := by decide +kernel
theorem dX11_feed_4 : decode cX11_feed 4 = .ok (.bipush 20, 2) := by decide +kernel
theorem dX11_feed_6 : decode cX11_feed 6 = .ok (.iadd, 1) := by decide +kernel
theorem dX11_feed_7 : decode cX11_feed 7 = .ok (.sipush 900, 3) := by decide +kernel
theorem dX11_feed_10 : decode cX11_feed 10 = .ok (.if_icmp .le 5, 3) := by decide +kernel
theorem dX11_feed_13 : decode cX11_feed 13 = .ok (.iconst (-1), 1) := by decide +kernel
theorem dX11_feed_14 : decode cX11_feed 14 = .ok (.ireturn, 1) := by decide +kernel
theorem dX11_feed_15 : decode cX11_feed 15 = .ok (.aload_n 0, 1) := by decide +kernel
theorem dX11_feed_16 : decode cX11_feed 16 = .ok (.iload_n 1, 1) := by decide +kernel
theorem dX11_feed_17 : decode cX11_feed 17 = .ok (.invokevirtual 95, 3) := by decide +kernel
theorem dX11_feed_20 : decode cX11_feed 20 = .ok (.aload_n 0, 1) := by decide +kernel
theorem dX11_feed_21 : decode cX11_feed 21 = .ok (.iload_n 2, 1) := by decide +kernel
theorem dX11_feed_22 : decode cX11_feed 22 = .ok (.invokevirtual 95, 3) := by decide +kernel
theorem dX11_feed_25 : decode cX11_feed 25 = .ok (.aload_n 0, 1) := by decide +kernel
theorem dX11_feed_26 : decode cX11_feed 26 = .ok (.iload_n 3, 1) := by decide +kernel
theorem dX11_feed_27 : decode cX11_feed 27 = .ok (.invokevirtual 95, 3) := by decide +kernel
theorem dX11_feed_30 : decode cX11_feed 30 = .ok (.aload_n 0, 1) := by decide +kernel
theorem dX11_feed_31 : decode cX11_feed 31 = .ok (.iload 4, 2) := by decide +kernel
theorem dX11_feed_33 : decode cX11_feed 33 = .ok (.invokevirtual 95, 3) := by decide +kernel
theorem dX11_feed_36 : decode cX11_feed 36 = .ok (.aload_n 0, 1) := by decide +kernel
theorem dX11_feed_37 : decode cX11_feed 37 = .ok (.iload 5, 2) := by decide +kernel
theorem dX11_feed_39 : decode cX11_feed 39 = .ok (.invokevirtual 95, 3) := by decide +kernel
theorem dX11_feed_42 : decode cX11_feed 42 = .ok (.aload_n 0, 1) := by decide +kernel
theorem dX11_feed_43 : decode cX11_feed 43 = .ok (.getfield 91, 3) := by decide +kernel
theorem dX11_feed_46 : decode cX11_feed 46 = .ok (.ireturn, 1) := by decide +kernel
theorem dX11_war_0 : decode cX11_war 0 = .ok (.aload_n 0, 1) := by decide +kernel
theorem dX11_war_1 : decode cX11_war 1 = .ok (.iload_n 1, 1) := by decide +kernel
theorem dX11_war_2 : decode cX11_war 2 = .ok (.iconst 0, 1) := by decide +kernel
theorem dX11_war_3 : decode cX11_war 3 = .ok (.aload_n 0, 1) := by decide +kernel
theorem dX11_war_4 : decode cX11_war 4 = .ok (.getfield 91, 3) := by decide +kernel
theorem dX11_war_7 : decode cX11_war 7 = .ok (.invokestatic 99, 3) := by decide +kernel
theorem dX11_war_10 : decode cX11_war 10 = .ok (.ifCond .eq 7, 3) := by decide +kernel
theorem dX11_war_13 : decode cX11_war 13 = .ok (.iconst 2, 1) := by decide +kernel
theorem dX11_war_14 : decode cX11_war 14 = .ok (.goto 4, 3) := by decide +kernel
theorem dX11_war_17 : decode cX11_war 17 = .ok (.iconst 0, 1) := by decide +kernel
theorem dX11_war_18 : decode cX11_war 18 = .ok (.invokevirtual 103, 3) := by decide +kernel
theorem dX11_war_21 : decode cX11_war 21 = .ok (.ifCond .eq 5, 3) := by decide +kernel
theorem dX11_war_24 : decode cX11_war 24 = .ok (.iconst (-1), 1) := by decide +kernel
theorem dX11_war_25 : decode cX11_war 25 = .ok (.ireturn, 1) := by decide +kernel
theorem dX11_war_26 : decode cX11_war 26 = .ok (.aload_n 0, 1) := by decide +kernel
theorem dX11_war_27 : decode cX11_war 27 = .ok (.aload_n 0, 1) := by decide +kernel
theorem dX11_war_28 : decode cX11_war 28 = .ok (.getfield 18, 3) := by decide +kernel
theorem dX11_war_31 : decode cX11_war 31 = .ok (.iload_n 1, 1) := by decide +kernel
theorem dX11_war_32 : decode cX11_war 32 = .ok (.invokevirtual 107, 3) := by decide +kernel
theorem dX11_war_35 : decode cX11_war 35 = .ok (.putfield 111, 3) := by decide +kernel
theorem dX11_war_38 : decode cX11_war 38 = .ok (.aload_n 0, 1) := by decide +kernel
theorem dX11_war_39 : decode cX11_war 39 = .ok (.aload_n 0, 1) := by decide +kernel
theorem dX11_war_40 : decode cX11_war 40 = .ok (.getfield 18, 3) := by decide +kernel
theorem dX11_war_43 : decode cX11_war 43 = .ok (.getfield 114, 3) := by decide +kernel
theorem dX11_war_46 : decode cX11_war 46 = .ok (.putfield 117, 3) := by decide +kernel
theorem dX11_war_49 : decode cX11_war 49 = .ok (.aload_n 0, 1) := by decide +kernel
theorem dX11_war_50 : decode cX11_war 50 = .ok (.iconst 0, 1) := by decide +kernel
theorem dX11_war_51 : decode cX11_war 51 = .ok (.putfield 91, 3) := by decide +kernel
theorem dX11_war_54 : decode cX11_war 54 = .ok (.aload_n 0, 1) := by decide +kernel
theorem dX11_war_55 : decode cX11_war 55 = .ok (.aload_n 0, 1) := by decide +kernel
theorem dX11_war_56 : decode cX11_war 56 = .ok (.getfield 111, 3) := by decide +kernel
theorem dX11_war_59 : decode cX11_war 59 = .ok (.ifCond .ne 7, 3) := by decide +kernel
theorem dX11_war_62 : decode cX11_war 62 = .ok (.iconst 0, 1) := by decide +kernel
theorem dX11_war_63 : decode cX11_war 63 = .ok (.goto 4, 3) := by decide +kernel
theorem dX11_war_66 : decode cX11_war 66 = .ok (.iconst 4, 1) := by decide +kernel
theorem dX11_war_67 : decode cX11_war 67 = .ok (.invokevirtual 103, 3) := by decide +kernel
theorem dX11_war_70 : decode cX11_war 70 = .ok (.ifCond .eq 5, 3) := by decide +kernel
theorem dX11_war_73 : decode cX11_war 73 = .ok (.iconst (-1), 1) := by decide +kernel
theorem dX11_war_74 : decode cX11_war 74 = .ok (.ireturn, 1) := by decide +kernel
theorem dX11_war_75 : decode cX11_war 75 = .ok (.aload_n 0, 1) := by decide +kernel
theorem dX11_war_76 : decode cX11_war 76 = .ok (.getfield 25, 3) := by decide +kernel
theorem dX11_war_79 : decode cX11_war 79 = .ok (.aload_n 0, 1) := by decide +kernel
theorem dX11_war_80 : decode cX11_war 80 = .ok (.getfield 18, 3) := by decide +kernel
theorem dX11_war_83 : decode cX11_war 83 = .ok (.getfield 120, 3) := by decide +kernel
theorem dX11_war_86 : decode cX11_war 86 = .ok (.invokevirtual 123, 3) := by decide +kernel
theorem dX11_war_89 : decode cX11_war 89 = .ok (.aload_n 0, 1) := by decide +kernel
theorem dX11_war_90 : decode cX11_war 90 = .ok (.getfield 32, 3) := by decide +kernel
theorem dX11_war_93 : decode cX11_war 93 = .ok (.aload_n 0, 1) := by decide +kernel
theorem dX11_war_94 : decode cX11_war 94 = .ok (.getfield 25, 3) := by decide +kernel
theorem dX11_war_97 : decode cX11_war 97 = .ok (.invokevirtual 126, 3) := by decide +kernel
theorem dX11_war_100 : decode cX11_war 100 = .ok (.aload_n 0, 1) := by decide +kernel
theorem dX11_war_101 : decode cX11_war 101 = .ok (.getfield 39, 3) := by decide +kernel
theorem dX11_war_104 : decode cX11_war 104 = .ok (.invokevirtual 129, 3) := by decide +kernel
theorem dX11_war_107 : decode cX11_war 107 = .ok (.aload_n 0, 1) := by decide +kernel
theorem dX11_war_108 : decode cX11_war 108 = .ok (.getfield 25, 3) := by decide +kernel
theorem dX11_war_111 : decode cX11_war 111 = .ok (.getfield 132, 3) := by decide +kernel
theorem dX11_war_114 : decode cX11_war 114 = .ok (.ireturn, 1) := by decide +kernel
theorem dX11_fault_0 : decode cX11_fault 0 = .ok (.aload_n 0, 1) := by decide +kernel
theorem dX11_fault_1 : decode cX11_fault 1 = .ok (.getfield 111, 3) := by decide +kernel
theorem dX11_fault_4 : decode cX11_fault 4 = .ok (.ireturn, 1) := by decide +kernel
theorem dX11_where_0 : decode cX11_where 0 = .ok (.aload_n 0, 1) := by decide +kernel
theorem dX11_where_1 : decode cX11_where 1 = .ok (.getfield 135, 3) := by decide +kernel
theorem dX11_where_4 : decode cX11_where 4 = .ok (.iconst 4, 1) := by decide +kernel
theorem dX11_where_5 : decode cX11_where 5 = .ok (.if_icmp .ne 10, 3) := by decide +kernel
theorem dX11_where_8 : decode cX11_where 8 = .ok (.aload_n 0, 1) := by decide +kernel
theorem dX11_where_9 : decode cX11_where 9 = .ok (.getfield 117, 3) := by decide +kernel
theorem dX11_where_12 : decode cX11_where 12 = .ok (.goto 4, 3) := by decide +kernel
theorem dX11_where_15 : decode cX11_where 15 = .ok (.iconst (-1), 1) := by decide +kernel
theorem dX11_where_16 : decode cX11_where 16 = .ok (.ireturn, 1) := by decide +kernel
theorem dX11_lane_0 : decode cX11_lane 0 = .ok (.aload_n 0, 1) := by decide +kernel
theorem dX11_lane_1 : decode cX11_lane 1 = .ok (.aload_n 0, 1) := by decide +kernel
theorem dX11_lane_2 : decode cX11_lane 2 = .ok (.getfield 25, 3) := by decide +kernel
theorem dX11_lane_5 : decode cX11_lane 5 = .ok (.iload_n 1, 1) := by decide +kernel
theorem dX11_lane_6 : decode cX11_lane 6 = .ok (.invokevirtual 138, 3) := by decide +kernel
theorem dX11_lane_9 : decode cX11_lane 9 = .ok (.ifCond .eq 12, 3) := by decide +kernel
theorem dX11_lane_12 : decode cX11_lane 12 = .ok (.iload_n 2, 1) := by decide +kernel
theorem dX11_lane_13 : decode cX11_lane 13 = .ok (.iconst 0, 1) := by decide +kernel
theorem dX11_lane_14 : decode cX11_lane 14 = .ok (.iconst 2, 1) := by decide +kernel
theorem dX11_lane_15 : decode cX11_lane 15 = .ok (.invokestatic 99, 3) := by decide +kernel
theorem dX11_lane_18 : decode cX11_lane 18 = .ok (.ifCond .eq 7, 3) := by decide +kernel
theorem dX11_lane_21 : decode cX11_lane 21 = .ok (.iconst 1, 1) := by decide +kernel
theorem dX11_lane_22 : decode cX11_lane 22 = .ok (.goto 4, 3) := by decide +kernel
theorem dX11_lane_25 : decode cX11_lane 25 = .ok (.iconst 0, 1) := by decide +kernel
theorem dX11_lane_26 : decode cX11_lane 26 = .ok (.invokevirtual 103, 3) := by decide +kernel
theorem dX11_lane_29 : decode cX11_lane 29 = .ok (.ifCond .eq 5, 3) := by decide +kernel
theorem dX11_lane_32 : decode cX11_lane 32 = .ok (.iconst (-1), 1) := by decide +kernel
theorem dX11_lane_33 : decode cX11_lane 33 = .ok (.ireturn, 1) := by decide +kernel
theorem dX11_lane_34 : decode cX11_lane 34 = .ok (.iload_n 2, 1) := by decide +kernel
theorem dX11_lane_35 : decode cX11_lane 35 = .ok (.lookupswitch 45 #[(0, 25), (1, 35)], 25) := by decide +kernel
theorem dX11_lane_60 : decode cX11_lane 60 = .ok (.aload_n 0, 1) := by decide +kernel
theorem dX11_lane_61 : decode cX11_lane 61 = .ok (.getfield 25, 3) := by decide +kernel
theorem dX11_lane_64 : decode cX11_lane 64 = .ok (.getfield 141, 3) := by decide +kernel
theorem dX11_lane_67 : decode cX11_lane 67 = .ok (.iload_n 1, 1) := by decide +kernel
theorem dX11_lane_68 : decode cX11_lane 68 = .ok (.iaload, 1) := by decide +kernel
theorem dX11_lane_69 : decode cX11_lane 69 = .ok (.ireturn, 1) := by decide +kernel
theorem dX11_lane_70 : decode cX11_lane 70 = .ok (.aload_n 0, 1) := by decide +kernel
theorem dX11_lane_71 : decode cX11_lane 71 = .ok (.getfield 32, 3) := by decide +kernel
theorem dX11_lane_74 : decode cX11_lane 74 = .ok (.getfield 145, 3) := by decide +kernel
theorem dX11_lane_77 : decode cX11_lane 77 = .ok (.iload_n 1, 1) := by decide +kernel
theorem dX11_lane_78 : decode cX11_lane 78 = .ok (.iaload, 1) := by decide +kernel
theorem dX11_lane_79 : decode cX11_lane 79 = .ok (.ireturn, 1) := by decide +kernel
theorem dX11_lane_80 : decode cX11_lane 80 = .ok (.aload_n 0, 1) := by decide +kernel
theorem dX11_lane_81 : decode cX11_lane 81 = .ok (.getfield 32, 3) := by decide +kernel
theorem dX11_lane_84 : decode cX11_lane 84 = .ok (.iload_n 1, 1) := by decide +kernel
theorem dX11_lane_85 : decode cX11_lane 85 = .ok (.aload_n 0, 1) := by decide +kernel
theorem dX11_lane_86 : decode cX11_lane 86 = .ok (.getfield 25, 3) := by decide +kernel
theorem dX11_lane_89 : decode cX11_lane 89 = .ok (.getfield 132, 3) := by decide +kernel
theorem dX11_lane_92 : decode cX11_lane 92 = .ok (.invokevirtual 148, 3) := by decide +kernel
theorem dX11_lane_95 : decode cX11_lane 95 = .ok (.ireturn, 1) := by decide +kernel
theorem dX11_beast_0 : decode cX11_beast 0 = .ok (.aload_n 0, 1) := by decide +kernel
theorem dX11_beast_1 : decode cX11_beast 1 = .ok (.aload_n 0, 1) := by decide +kernel
theorem dX11_beast_2 : decode cX11_beast 2 = .ok (.getfield 25, 3) := by decide +kernel
theorem dX11_beast_5 : decode cX11_beast 5 = .ok (.iload_n 1, 1) := by decide +kernel
theorem dX11_beast_6 : decode cX11_beast 6 = .ok (.invokevirtual 152, 3) := by decide +kernel
theorem dX11_beast_9 : decode cX11_beast 9 = .ok (.ifCond .eq 13, 3) := by decide +kernel
theorem dX11_beast_12 : decode cX11_beast 12 = .ok (.iload_n 2, 1) := by decide +kernel
theorem dX11_beast_13 : decode cX11_beast 13 = .ok (.iconst 0, 1) := by decide +kernel
theorem dX11_beast_14 : decode cX11_beast 14 = .ok (.bipush 7, 2) := by decide +kernel
theorem dX11_beast_16 : decode cX11_beast 16 = .ok (.invokestatic 99, 3) := by decide +kernel
theorem dX11_beast_19 : decode cX11_beast 19 = .ok (.ifCond .eq 7, 3) := by decide +kernel
theorem dX11_beast_22 : decode cX11_beast 22 = .ok (.iconst 1, 1) := by decide +kernel
theorem dX11_beast_23 : decode cX11_beast 23 = .ok (.goto 4, 3) := by decide +kernel
theorem dX11_beast_26 : decode cX11_beast 26 = .ok (.iconst 0, 1) := by decide +kernel
theorem dX11_beast_27 : decode cX11_beast 27 = .ok (.invokevirtual 103, 3) := by decide +kernel
theorem dX11_beast_30 : decode cX11_beast 30 = .ok (.ifCond .eq 5, 3) := by decide +kernel
theorem dX11_beast_33 : decode cX11_beast 33 = .ok (.iconst (-1), 1) := by decide +kernel
theorem dX11_beast_34 : decode cX11_beast 34 = .ok (.ireturn, 1) := by decide +kernel
theorem dX11_beast_35 : decode cX11_beast 35 = .ok (.iload_n 2, 1) := by decide +kernel
theorem dX11_beast_36 : decode cX11_beast 36 = .ok (.tableswitch 112 0 6 #[44, 54, 64, 74, 84, 93, 102], 44) := by decide +kernel
theorem dX11_beast_80 : decode cX11_beast 80 = .ok (.aload_n 0, 1) := by decide +kernel
theorem dX11_beast_81 : decode cX11_beast 81 = .ok (.getfield 25, 3) := by decide +kernel
theorem dX11_beast_84 : decode cX11_beast 84 = .ok (.getfield 155, 3) := by decide +kernel
theorem dX11_beast_87 : decode cX11_beast 87 = .ok (.iload_n 1, 1) := by decide +kernel
theorem dX11_beast_88 : decode cX11_beast 88 = .ok (.iaload, 1) := by decide +kernel
theorem dX11_beast_89 : decode cX11_beast 89 = .ok (.ireturn, 1) := by decide +kernel
theorem dX11_beast_90 : decode cX11_beast 90 = .ok (.aload_n 0, 1) := by decide +kernel
theorem dX11_beast_91 : decode cX11_beast 91 = .ok (.getfield 32, 3) := by decide +kernel
theorem dX11_beast_94 : decode cX11_beast 94 = .ok (.getfield 158, 3) := by decide +kernel
theorem dX11_beast_97 : decode cX11_beast 97 = .ok (.iload_n 1, 1) := by decide +kernel
theorem dX11_beast_98 : decode cX11_beast 98 = .ok (.iaload, 1) := by decide +kernel
theorem dX11_beast_99 : decode cX11_beast 99 = .ok (.ireturn, 1) := by decide +kernel
theorem dX11_beast_100 : decode cX11_beast 100 = .ok (.aload_n 0, 1) := by decide +kernel
theorem dX11_beast_101 : decode cX11_beast 101 = .ok (.getfield 25, 3) := by decide +kernel
theorem dX11_beast_104 : decode cX11_beast 104 = .ok (.getfield 161, 3) := by decide +kernel
theorem dX11_beast_107 : decode cX11_beast 107 = .ok (.iload_n 1, 1) := by decide +kernel
theorem dX11_beast_108 : decode cX11_beast 108 = .ok (.iaload, 1) := by decide +kernel
theorem dX11_beast_109 : decode cX11_beast 109 = .ok (.ireturn, 1) := by decide +kernel
theorem dX11_beast_110 : decode cX11_beast 110 = .ok (.aload_n 0, 1) := by decide +kernel
theorem dX11_beast_111 : decode cX11_beast 111 = .ok (.getfield 25, 3) := by decide +kernel
theorem dX11_beast_114 : decode cX11_beast 114 = .ok (.getfield 164, 3) := by decide +kernel
theorem dX11_beast_117 : decode cX11_beast 117 = .ok (.iload_n 1, 1) := by decide +kernel
theorem dX11_beast_118 : decode cX11_beast 118 = .ok (.iaload, 1) := by decide +kernel
theorem dX11_beast_119 : decode cX11_beast 119 = .ok (.ireturn, 1) := by decide +kernel
theorem dX11_beast_120 : decode cX11_beast 120 = .ok (.aload_n 0, 1) := by decide +kernel
theorem dX11_beast_121 : decode cX11_beast 121 = .ok (.getfield 48, 3) := by decide +kernel
theorem dX11_beast_124 : decode cX11_beast 124 = .ok (.iload_n 1, 1) := by decide +kernel
theorem dX11_beast_125 : decode cX11_beast 125 = .ok (.invokevirtual 167, 3) := by decide +kernel
theorem dX11_beast_128 : decode cX11_beast 128 = .ok (.ireturn, 1) := by decide +kernel
theorem dX11_beast_129 : decode cX11_beast 129 = .ok (.aload_n 0, 1) := by decide +kernel
theorem dX11_beast_130 : decode cX11_beast 130 = .ok (.getfield 48, 3) := by decide +kernel
theorem dX11_beast_133 : decode cX11_beast 133 = .ok (.iload_n 1, 1) := by decide +kernel
theorem dX11_beast_134 : decode cX11_beast 134 = .ok (.invokevirtual 170, 3) := by decide +kernel
theorem dX11_beast_137 : decode cX11_beast 137 = .ok (.ireturn, 1) := by decide +kernel
theorem dX11_beast_138 : decode cX11_beast 138 = .ok (.aload_n 0, 1) := by decide +kernel
theorem dX11_beast_139 : decode cX11_beast 139 = .ok (.getfield 32, 3) := by decide +kernel
theorem dX11_beast_142 : decode cX11_beast 142 = .ok (.getfield 173, 3) := by decide +kernel
theorem dX11_beast_145 : decode cX11_beast 145 = .ok (.iload_n 1, 1) := by decide +kernel
theorem dX11_beast_146 : decode cX11_beast 146 = .ok (.iaload, 1) := by decide +kernel
theorem dX11_beast_147 : decode cX11_beast 147 = .ok (.ireturn, 1) := by decide +kernel
theorem dX11_beast_148 : decode cX11_beast 148 = .ok (.aload_n 0, 1) := by decide +kernel
theorem dX11_beast_149 : decode cX11_beast 149 = .ok (.getfield 32, 3) := by decide +kernel
theorem dX11_beast_152 : decode cX11_beast 152 = .ok (.iload_n 1, 1) := by decide +kernel
theorem dX11_beast_153 : decode cX11_beast 153 = .ok (.invokevirtual 176, 3) := by decide +kernel
theorem dX11_beast_156 : decode cX11_beast 156 = .ok (.ifCond .eq 7, 3) := by decide +kernel
theorem dX11_beast_159 : decode cX11_beast 159 = .ok (.iconst 1, 1) := by decide +kernel
theorem dX11_beast_160 : decode cX11_beast 160 = .ok (.goto 4, 3) := by decide +kernel
theorem dX11_beast_163 : decode cX11_beast 163 = .ok (.iconst 0, 1) := by decide +kernel
theorem dX11_beast_164 : decode cX11_beast 164 = .ok (.ireturn, 1) := by decide +kernel
theorem dX11_across_0 : decode cX11_across 0 = .ok (.aload_n 0, 1) := by decide +kernel
theorem dX11_across_1 : decode cX11_across 1 = .ok (.aload_n 0, 1) := by decide +kernel
theorem dX11_across_2 : decode cX11_across 2 = .ok (.iload_n 1, 1) := by decide +kernel
theorem dX11_across_3 : decode cX11_across 3 = .ok (.invokevirtual 179, 3) := by decide +kernel
theorem dX11_across_6 : decode cX11_across 6 = .ok (.invokevirtual 103, 3) := by decide +kernel
theorem dX11_across_9 : decode cX11_across 9 = .ok (.ifCond .eq 9, 3) := by decide +kernel
theorem dX11_across_12 : decode cX11_across 12 = .ok (.ldc2_w 182, 3) := by decide +kernel
theorem dX11_across_15 : decode cX11_across 15 = .ok (.goto 19, 3) := by decide +kernel
theorem dX11_across_18 : decode cX11_across 18 = .ok (.aload_n 0, 1) := by decide +kernel
theorem dX11_across_19 : decode cX11_across 19 = .ok (.getfield 48, 3) := by decide +kernel
theorem dX11_across_22 : decode cX11_across 22 = .ok (.aload_n 0, 1) := by decide +kernel
theorem dX11_across_23 : decode cX11_across 23 = .ok (.getfield 48, 3) := by decide +kernel
theorem dX11_across_26 : decode cX11_across 26 = .ok (.iload_n 1, 1) := by decide +kernel
theorem dX11_across_27 : decode cX11_across 27 = .ok (.invokevirtual 184, 3) := by decide +kernel
theorem dX11_across_30 : decode cX11_across 30 = .ok (.iload_n 2, 1) := by decide +kernel
theorem dX11_across_31 : decode cX11_across 31 = .ok (.invokevirtual 188, 3) := by decide +kernel
theorem dX11_across_34 : decode cX11_across 34 = .ok (.lreturn, 1) := by decide +kernel
theorem dX11_meets_0 : decode cX11_meets 0 = .ok (.aload_n 0, 1) := by decide +kernel
theorem dX11_meets_1 : decode cX11_meets 1 = .ok (.aload_n 0, 1) := by decide +kernel
theorem dX11_meets_2 : decode cX11_meets 2 = .ok (.iload_n 1, 1) := by decide +kernel
theorem dX11_meets_3 : decode cX11_meets 3 = .ok (.iload_n 2, 1) := by decide +kernel
theorem dX11_meets_4 : decode cX11_meets 4 = .ok (.invokevirtual 192, 3) := by decide +kernel
theorem dX11_meets_7 : decode cX11_meets 7 = .ok (.invokevirtual 103, 3) := by decide +kernel
theorem dX11_meets_10 : decode cX11_meets 10 = .ok (.ifCond .eq 5, 3) := by decide +kernel
theorem dX11_meets_13 : decode cX11_meets 13 = .ok (.iconst (-1), 1) := by decide +kernel
theorem dX11_meets_14 : decode cX11_meets 14 = .ok (.ireturn, 1) := by decide +kernel
theorem dX11_meets_15 : decode cX11_meets 15 = .ok (.aload_n 0, 1) := by decide +kernel
theorem dX11_meets_16 : decode cX11_meets 16 = .ok (.getfield 48, 3) := by decide +kernel
theorem dX11_meets_19 : decode cX11_meets 19 = .ok (.iload_n 1, 1) := by decide +kernel
theorem dX11_meets_20 : decode cX11_meets 20 = .ok (.iload_n 2, 1) := by decide +kernel
theorem dX11_meets_21 : decode cX11_meets 21 = .ok (.iload_n 3, 1) := by decide +kernel
theorem dX11_meets_22 : decode cX11_meets 22 = .ok (.invokevirtual 195, 3) := by decide +kernel
theorem dX11_meets_25 : decode cX11_meets 25 = .ok (.ireturn, 1) := by decide +kernel
theorem dX11_mean_0 : decode cX11_mean 0 = .ok (.aload_n 0, 1) := by decide +kernel
theorem dX11_mean_1 : decode cX11_mean 1 = .ok (.aload_n 0, 1) := by decide +kernel
theorem dX11_mean_2 : decode cX11_mean 2 = .ok (.iload_n 1, 1) := by decide +kernel
theorem dX11_mean_3 : decode cX11_mean 3 = .ok (.iload_n 2, 1) := by decide +kernel
theorem dX11_mean_4 : decode cX11_mean 4 = .ok (.invokevirtual 192, 3) := by decide +kernel
theorem dX11_mean_7 : decode cX11_mean 7 = .ok (.invokevirtual 103, 3) := by decide +kernel
theorem dX11_mean_10 : decode cX11_mean 10 = .ok (.ifCond .eq 9, 3) := by decide +kernel
theorem dX11_mean_13 : decode cX11_mean 13 = .ok (.ldc2_w 182, 3) := by decide +kernel
theorem dX11_mean_16 : decode cX11_mean 16 = .ok (.goto 22, 3) := by decide +kernel
theorem dX11_mean_19 : decode cX11_mean 19 = .ok (.aload_n 0, 1) := by decide +kernel
theorem dX11_mean_20 : decode cX11_mean 20 = .ok (.getfield 48, 3) := by decide +kernel
theorem dX11_mean_23 : decode cX11_mean 23 = .ok (.aload_n 0, 1) := by decide +kernel
theorem dX11_mean_24 : decode cX11_mean 24 = .ok (.getfield 48, 3) := by decide +kernel
theorem dX11_mean_27 : decode cX11_mean 27 = .ok (.iload_n 1, 1) := by decide +kernel
theorem dX11_mean_28 : decode cX11_mean 28 = .ok (.iload_n 2, 1) := by decide +kernel
theorem dX11_mean_29 : decode cX11_mean 29 = .ok (.iload_n 3, 1) := by decide +kernel
theorem dX11_mean_30 : decode cX11_mean 30 = .ok (.invokevirtual 199, 3) := by decide +kernel
theorem dX11_mean_33 : decode cX11_mean 33 = .ok (.iload 4, 2) := by decide +kernel
theorem dX11_mean_35 : decode cX11_mean 35 = .ok (.invokevirtual 188, 3) := by decide +kernel
theorem dX11_mean_38 : decode cX11_mean 38 = .ok (.lreturn, 1) := by decide +kernel
theorem dX11_worth_0 : decode cX11_worth 0 = .ok (.aload_n 0, 1) := by decide +kernel
theorem dX11_worth_1 : decode cX11_worth 1 = .ok (.aload_n 0, 1) := by decide +kernel
theorem dX11_worth_2 : decode cX11_worth 2 = .ok (.iload_n 1, 1) := by decide +kernel
theorem dX11_worth_3 : decode cX11_worth 3 = .ok (.iload_n 2, 1) := by decide +kernel
theorem dX11_worth_4 : decode cX11_worth 4 = .ok (.invokevirtual 192, 3) := by decide +kernel
theorem dX11_worth_7 : decode cX11_worth 7 = .ok (.invokevirtual 103, 3) := by decide +kernel
theorem dX11_worth_10 : decode cX11_worth 10 = .ok (.ifCond .eq 9, 3) := by decide +kernel
theorem dX11_worth_13 : decode cX11_worth 13 = .ok (.ldc2_w 205, 3) := by decide +kernel
theorem dX11_worth_16 : decode cX11_worth 16 = .ok (.goto 20, 3) := by decide +kernel
theorem dX11_worth_19 : decode cX11_worth 19 = .ok (.aload_n 0, 1) := by decide +kernel
theorem dX11_worth_20 : decode cX11_worth 20 = .ok (.getfield 48, 3) := by decide +kernel
theorem dX11_worth_23 : decode cX11_worth 23 = .ok (.aload_n 0, 1) := by decide +kernel
theorem dX11_worth_24 : decode cX11_worth 24 = .ok (.getfield 48, 3) := by decide +kernel
theorem dX11_worth_27 : decode cX11_worth 27 = .ok (.iload_n 1, 1) := by decide +kernel
theorem dX11_worth_28 : decode cX11_worth 28 = .ok (.iload_n 2, 1) := by decide +kernel
theorem dX11_worth_29 : decode cX11_worth 29 = .ok (.invokevirtual 207, 3) := by decide +kernel
theorem dX11_worth_32 : decode cX11_worth 32 = .ok (.iload_n 3, 1) := by decide +kernel
theorem dX11_worth_33 : decode cX11_worth 33 = .ok (.invokevirtual 188, 3) := by decide +kernel
theorem dX11_worth_36 : decode cX11_worth 36 = .ok (.lreturn, 1) := by decide +kernel
theorem dX11_bestLane_0 : decode cX11_bestLane 0 = .ok (.aload_n 0, 1) := by decide +kernel
theorem dX11_bestLane_1 : decode cX11_bestLane 1 = .ok (.aload_n 0, 1) := by decide +kernel
theorem dX11_bestLane_2 : decode cX11_bestLane 2 = .ok (.iload_n 1, 1) := by decide +kernel
theorem dX11_bestLane_3 : decode cX11_bestLane 3 = .ok (.invokevirtual 179, 3) := by decide +kernel
theorem dX11_bestLane_6 : decode cX11_bestLane 6 = .ok (.invokevirtual 103, 3) := by decide +kernel
theorem dX11_bestLane_9 : decode cX11_bestLane 9 = .ok (.ifCond .eq 7, 3) := by decide +kernel
theorem dX11_bestLane_12 : decode cX11_bestLane 12 = .ok (.iconst (-1), 1) := by decide +kernel
theorem dX11_bestLane_13 : decode cX11_bestLane 13 = .ok (.goto 11, 3) := by decide +kernel
theorem dX11_bestLane_16 : decode cX11_bestLane 16 = .ok (.aload_n 0, 1) := by decide +kernel
theorem dX11_bestLane_17 : decode cX11_bestLane 17 = .ok (.getfield 48, 3) := by decide +kernel
theorem dX11_bestLane_20 : decode cX11_bestLane 20 = .ok (.iload_n 1, 1) := by decide +kernel
theorem dX11_bestLane_21 : decode cX11_bestLane 21 = .ok (.invokevirtual 211, 3) := by decide +kernel
theorem dX11_bestLane_24 : decode cX11_bestLane 24 = .ok (.ireturn, 1) := by decide +kernel
theorem dX11_all_0 : decode cX11_all 0 = .ok (.aload_n 0, 1) := by decide +kernel
theorem dX11_all_1 : decode cX11_all 1 = .ok (.aload_n 0, 1) := by decide +kernel
theorem dX11_all_2 : decode cX11_all 2 = .ok (.invokevirtual 214, 3) := by decide +kernel
theorem dX11_all_5 : decode cX11_all 5 = .ok (.invokevirtual 103, 3) := by decide +kernel
theorem dX11_all_8 : decode cX11_all 8 = .ok (.ifCond .eq 9, 3) := by decide +kernel
theorem dX11_all_11 : decode cX11_all 11 = .ok (.ldc2_w 182, 3) := by decide +kernel
theorem dX11_all_14 : decode cX11_all 14 = .ok (.goto 19, 3) := by decide +kernel
theorem dX11_all_17 : decode cX11_all 17 = .ok (.aload_n 0, 1) := by decide +kernel
theorem dX11_all_18 : decode cX11_all 18 = .ok (.getfield 48, 3) := by decide +kernel
theorem dX11_all_21 : decode cX11_all 21 = .ok (.aload_n 0, 1) := by decide +kernel
theorem dX11_all_22 : decode cX11_all 22 = .ok (.getfield 48, 3) := by decide +kernel
theorem dX11_all_25 : decode cX11_all 25 = .ok (.iload_n 1, 1) := by decide +kernel
theorem dX11_all_26 : decode cX11_all 26 = .ok (.invokevirtual 218, 3) := by decide +kernel
theorem dX11_all_29 : decode cX11_all 29 = .ok (.iload_n 2, 1) := by decide +kernel
theorem dX11_all_30 : decode cX11_all 30 = .ok (.invokevirtual 188, 3) := by decide +kernel
theorem dX11_all_33 : decode cX11_all 33 = .ok (.lreturn, 1) := by decide +kernel
theorem dX11_worst_0 : decode cX11_worst 0 = .ok (.aload_n 0, 1) := by decide +kernel
theorem dX11_worst_1 : decode cX11_worst 1 = .ok (.aload_n 0, 1) := by decide +kernel
theorem dX11_worst_2 : decode cX11_worst 2 = .ok (.invokevirtual 214, 3) := by decide +kernel
theorem dX11_worst_5 : decode cX11_worst 5 = .ok (.invokevirtual 103, 3) := by decide +kernel
theorem dX11_worst_8 : decode cX11_worst 8 = .ok (.ifCond .eq 7, 3) := by decide +kernel
theorem dX11_worst_11 : decode cX11_worst 11 = .ok (.iconst (-1), 1) := by decide +kernel
theorem dX11_worst_12 : decode cX11_worst 12 = .ok (.goto 10, 3) := by decide +kernel
theorem dX11_worst_15 : decode cX11_worst 15 = .ok (.aload_n 0, 1) := by decide +kernel
theorem dX11_worst_16 : decode cX11_worst 16 = .ok (.getfield 48, 3) := by decide +kernel
theorem dX11_worst_19 : decode cX11_worst 19 = .ok (.invokevirtual 222, 3) := by decide +kernel
theorem dX11_worst_22 : decode cX11_worst 22 = .ok (.ireturn, 1) := by decide +kernel
theorem dX11_worthIf_0 : decode cX11_worthIf 0 = .ok (.aload_n 0, 1) := by decide +kernel
theorem dX11_worthIf_1 : decode cX11_worthIf 1 = .ok (.aload_n 0, 1) := by decide +kernel
theorem dX11_worthIf_2 : decode cX11_worthIf 2 = .ok (.iload_n 1, 1) := by decide +kernel
theorem dX11_worthIf_3 : decode cX11_worthIf 3 = .ok (.iload_n 2, 1) := by decide +kernel
theorem dX11_worthIf_4 : decode cX11_worthIf 4 = .ok (.invokevirtual 192, 3) := by decide +kernel
theorem dX11_worthIf_7 : decode cX11_worthIf 7 = .ok (.invokevirtual 103, 3) := by decide +kernel
theorem dX11_worthIf_10 : decode cX11_worthIf 10 = .ok (.ifCond .eq 7, 3) := by decide +kernel
theorem dX11_worthIf_13 : decode cX11_worthIf 13 = .ok (.ldc2_w 205, 3) := by decide +kernel
theorem dX11_worthIf_16 : decode cX11_worthIf 16 = .ok (.lreturn, 1) := by decide +kernel
theorem dX11_worthIf_17 : decode cX11_worthIf 17 = .ok (.aload_n 0, 1) := by decide +kernel
theorem dX11_worthIf_18 : decode cX11_worthIf 18 = .ok (.getfield 25, 3) := by decide +kernel
theorem dX11_worthIf_21 : decode cX11_worthIf 21 = .ok (.getfield 155, 3) := by decide +kernel
theorem dX11_worthIf_24 : decode cX11_worthIf 24 = .ok (.iload_n 1, 1) := by decide +kernel
theorem dX11_worthIf_25 : decode cX11_worthIf 25 = .ok (.iaload, 1) := by decide +kernel
theorem dX11_worthIf_26 : decode cX11_worthIf 26 = .ok (.aload_n 0, 1) := by decide +kernel
theorem dX11_worthIf_27 : decode cX11_worthIf 27 = .ok (.getfield 25, 3) := by decide +kernel
theorem dX11_worthIf_30 : decode cX11_worthIf 30 = .ok (.getfield 161, 3) := by decide +kernel
theorem dX11_worthIf_33 : decode cX11_worthIf 33 = .ok (.iload_n 1, 1) := by decide +kernel
theorem dX11_worthIf_34 : decode cX11_worthIf 34 = .ok (.iaload, 1) := by decide +kernel
theorem dX11_worthIf_35 : decode cX11_worthIf 35 = .ok (.iload_n 3, 1) := by decide +kernel
theorem dX11_worthIf_36 : decode cX11_worthIf 36 = .ok (.invokestatic 225, 3) := by decide +kernel
theorem dX11_worthIf_39 : decode cX11_worthIf 39 = .ok (.istore 5, 2) := by decide +kernel
theorem dX11_worthIf_41 : decode cX11_worthIf 41 = .ok (.aload_n 0, 1) := by decide +kernel
theorem dX11_worthIf_42 : decode cX11_worthIf 42 = .ok (.getfield 48, 3) := by decide +kernel
theorem dX11_worthIf_45 : decode cX11_worthIf 45 = .ok (.aload_n 0, 1) := by decide +kernel
theorem dX11_worthIf_46 : decode cX11_worthIf 46 = .ok (.getfield 48, 3) := by decide +kernel
theorem dX11_worthIf_49 : decode cX11_worthIf 49 = .ok (.iload_n 1, 1) := by decide +kernel
theorem dX11_worthIf_50 : decode cX11_worthIf 50 = .ok (.aload_n 0, 1) := by decide +kernel
theorem dX11_worthIf_51 : decode cX11_worthIf 51 = .ok (.getfield 25, 3) := by decide +kernel
theorem dX11_worthIf_54 : decode cX11_worthIf 54 = .ok (.getfield 141, 3) := by decide +kernel
theorem dX11_worthIf_57 : decode cX11_worthIf 57 = .ok (.iload_n 2, 1) := by decide +kernel
theorem dX11_worthIf_58 : decode cX11_worthIf 58 = .ok (.iaload, 1) := by decide +kernel
theorem dX11_worthIf_59 : decode cX11_worthIf 59 = .ok (.aload_n 0, 1) := by decide +kernel
theorem dX11_worthIf_60 : decode cX11_worthIf 60 = .ok (.getfield 32, 3) := by decide +kernel
theorem dX11_worthIf_63 : decode cX11_worthIf 63 = .ok (.getfield 145, 3) := by decide +kernel
theorem dX11_worthIf_66 : decode cX11_worthIf 66 = .ok (.iload_n 2, 1) := by decide +kernel
theorem dX11_worthIf_67 : decode cX11_worthIf 67 = .ok (.iaload, 1) := by decide +kernel
theorem dX11_worthIf_68 : decode cX11_worthIf 68 = .ok (.iload 5, 2) := by decide +kernel
theorem dX11_worthIf_70 : decode cX11_worthIf 70 = .ok (.invokevirtual 228, 3) := by decide +kernel
theorem dX11_worthIf_73 : decode cX11_worthIf 73 = .ok (.iload 4, 2) := by decide +kernel
theorem dX11_worthIf_75 : decode cX11_worthIf 75 = .ok (.invokevirtual 188, 3) := by decide +kernel
theorem dX11_worthIf_78 : decode cX11_worthIf 78 = .ok (.lreturn, 1) := by decide +kernel
theorem dX11_moodFor_0 : decode cX11_moodFor 0 = .ok (.aload_n 0, 1) := by decide +kernel
theorem dX11_moodFor_1 : decode cX11_moodFor 1 = .ok (.aload_n 0, 1) := by decide +kernel
theorem dX11_moodFor_2 : decode cX11_moodFor 2 = .ok (.iload_n 1, 1) := by decide +kernel
theorem dX11_moodFor_3 : decode cX11_moodFor 3 = .ok (.iload_n 2, 1) := by decide +kernel
theorem dX11_moodFor_4 : decode cX11_moodFor 4 = .ok (.invokevirtual 192, 3) := by decide +kernel
theorem dX11_moodFor_7 : decode cX11_moodFor 7 = .ok (.invokevirtual 103, 3) := by decide +kernel
theorem dX11_moodFor_10 : decode cX11_moodFor 10 = .ok (.ifCond .eq 7, 3) := by decide +kernel
theorem dX11_moodFor_13 : decode cX11_moodFor 13 = .ok (.iconst (-1), 1) := by decide +kernel
theorem dX11_moodFor_14 : decode cX11_moodFor 14 = .ok (.goto 12, 3) := by decide +kernel
theorem dX11_moodFor_17 : decode cX11_moodFor 17 = .ok (.aload_n 0, 1) := by decide +kernel
theorem dX11_moodFor_18 : decode cX11_moodFor 18 = .ok (.getfield 48, 3) := by decide +kernel
theorem dX11_moodFor_21 : decode cX11_moodFor 21 = .ok (.iload_n 1, 1) := by decide +kernel
theorem dX11_moodFor_22 : decode cX11_moodFor 22 = .ok (.iload_n 2, 1) := by decide +kernel
theorem dX11_moodFor_23 : decode cX11_moodFor 23 = .ok (.invokevirtual 232, 3) := by decide +kernel
theorem dX11_moodFor_26 : decode cX11_moodFor 26 = .ok (.ireturn, 1) := by decide +kernel
theorem dX11_toHammer_0 : decode cX11_toHammer 0 = .ok (.aload_n 0, 1) := by decide +kernel
theorem dX11_toHammer_1 : decode cX11_toHammer 1 = .ok (.aload_n 0, 1) := by decide +kernel
theorem dX11_toHammer_2 : decode cX11_toHammer 2 = .ok (.invokevirtual 214, 3) := by decide +kernel
theorem dX11_toHammer_5 : decode cX11_toHammer 5 = .ok (.invokevirtual 103, 3) := by decide +kernel
theorem dX11_toHammer_8 : decode cX11_toHammer 8 = .ok (.ifCond .eq 7, 3) := by decide +kernel
theorem dX11_toHammer_11 : decode cX11_toHammer 11 = .ok (.iconst (-1), 1) := by decide +kernel
theorem dX11_toHammer_12 : decode cX11_toHammer 12 = .ok (.goto 10, 3) := by decide +kernel
theorem dX11_toHammer_15 : decode cX11_toHammer 15 = .ok (.aload_n 0, 1) := by decide +kernel
theorem dX11_toHammer_16 : decode cX11_toHammer 16 = .ok (.getfield 48, 3) := by decide +kernel
theorem dX11_toHammer_19 : decode cX11_toHammer 19 = .ok (.invokevirtual 235, 3) := by decide +kernel
theorem dX11_toHammer_22 : decode cX11_toHammer 22 = .ok (.ireturn, 1) := by decide +kernel
theorem dX11_place_0 : decode cX11_place 0 = .ok (.aload_n 0, 1) := by decide +kernel
theorem dX11_place_1 : decode cX11_place 1 = .ok (.aload_n 0, 1) := by decide +kernel
theorem dX11_place_2 : decode cX11_place 2 = .ok (.iload_n 1, 1) := by decide +kernel
theorem dX11_place_3 : decode cX11_place 3 = .ok (.invokevirtual 179, 3) := by decide +kernel
theorem dX11_place_6 : decode cX11_place 6 = .ok (.invokevirtual 103, 3) := by decide +kernel
theorem dX11_place_9 : decode cX11_place 9 = .ok (.ifCond .eq 5, 3) := by decide +kernel
theorem dX11_place_12 : decode cX11_place 12 = .ok (.iconst (-1), 1) := by decide +kernel
theorem dX11_place_13 : decode cX11_place 13 = .ok (.ireturn, 1) := by decide +kernel
theorem dX11_place_14 : decode cX11_place 14 = .ok (.aload_n 0, 1) := by decide +kernel
theorem dX11_place_15 : decode cX11_place 15 = .ok (.getfield 64, 3) := by decide +kernel
theorem dX11_place_18 : decode cX11_place 18 = .ok (.invokevirtual 238, 3) := by decide +kernel
theorem dX11_place_21 : decode cX11_place 21 = .ok (.aload_n 0, 1) := by decide +kernel
theorem dX11_place_22 : decode cX11_place 22 = .ok (.getfield 64, 3) := by decide +kernel
theorem dX11_place_25 : decode cX11_place 25 = .ok (.iload_n 1, 1) := by decide +kernel
theorem dX11_place_26 : decode cX11_place 26 = .ok (.invokevirtual 241, 3) := by decide +kernel
theorem dX11_place_29 : decode cX11_place 29 = .ok (.ireturn, 1) := by decide +kernel
theorem dX11_placed_0 : decode cX11_placed 0 = .ok (.aload_n 0, 1) := by decide +kernel
theorem dX11_placed_1 : decode cX11_placed 1 = .ok (.aload_n 0, 1) := by decide +kernel
theorem dX11_placed_2 : decode cX11_placed 2 = .ok (.invokevirtual 214, 3) := by decide +kernel
theorem dX11_placed_5 : decode cX11_placed 5 = .ok (.invokevirtual 103, 3) := by decide +kernel
theorem dX11_placed_8 : decode cX11_placed 8 = .ok (.ifCond .eq 7, 3) := by decide +kernel
theorem dX11_placed_11 : decode cX11_placed 11 = .ok (.ldc2_w 205, 3) := by decide +kernel
theorem dX11_placed_14 : decode cX11_placed 14 = .ok (.lreturn, 1) := by decide +kernel
theorem dX11_placed_15 : decode cX11_placed 15 = .ok (.aload_n 0, 1) := by decide +kernel
theorem dX11_placed_16 : decode cX11_placed 16 = .ok (.getfield 64, 3) := by decide +kernel
theorem dX11_placed_19 : decode cX11_placed 19 = .ok (.invokevirtual 238, 3) := by decide +kernel
theorem dX11_placed_22 : decode cX11_placed 22 = .ok (.aload_n 0, 1) := by decide +kernel
theorem dX11_placed_23 : decode cX11_placed 23 = .ok (.getfield 48, 3) := by decide +kernel
theorem dX11_placed_26 : decode cX11_placed 26 = .ok (.aload_n 0, 1) := by decide +kernel
theorem dX11_placed_27 : decode cX11_placed 27 = .ok (.getfield 64, 3) := by decide +kernel
theorem dX11_placed_30 : decode cX11_placed 30 = .ok (.invokevirtual 244, 3) := by decide +kernel
theorem dX11_placed_33 : decode cX11_placed 33 = .ok (.iload_n 1, 1) := by decide +kernel
theorem dX11_placed_34 : decode cX11_placed 34 = .ok (.invokevirtual 188, 3) := by decide +kernel
theorem dX11_placed_37 : decode cX11_placed 37 = .ok (.lreturn, 1) := by decide +kernel
theorem dX11_out_0 : decode cX11_out 0 = .ok (.aload_n 0, 1) := by decide +kernel
theorem dX11_out_1 : decode cX11_out 1 = .ok (.aload_n 0, 1) := by decide +kernel
theorem dX11_out_2 : decode cX11_out 2 = .ok (.invokevirtual 214, 3) := by decide +kernel
theorem dX11_out_5 : decode cX11_out 5 = .ok (.invokevirtual 103, 3) := by decide +kernel
theorem dX11_out_8 : decode cX11_out 8 = .ok (.ifCond .eq 5, 3) := by decide +kernel
theorem dX11_out_11 : decode cX11_out 11 = .ok (.iconst (-1), 1) := by decide +kernel
theorem dX11_out_12 : decode cX11_out 12 = .ok (.ireturn, 1) := by decide +kernel
theorem dX11_out_13 : decode cX11_out 13 = .ok (.aload_n 0, 1) := by decide +kernel
theorem dX11_out_14 : decode cX11_out 14 = .ok (.getfield 64, 3) := by decide +kernel
theorem dX11_out_17 : decode cX11_out 17 = .ok (.invokevirtual 238, 3) := by decide +kernel
theorem dX11_out_20 : decode cX11_out 20 = .ok (.aload_n 0, 1) := by decide +kernel
theorem dX11_out_21 : decode cX11_out 21 = .ok (.getfield 64, 3) := by decide +kernel
theorem dX11_out_24 : decode cX11_out 24 = .ok (.invokevirtual 248, 3) := by decide +kernel
theorem dX11_out_27 : decode cX11_out 27 = .ok (.ireturn, 1) := by decide +kernel
theorem dX11_toOpen_0 : decode cX11_toOpen 0 = .ok (.aload_n 0, 1) := by decide +kernel
theorem dX11_toOpen_1 : decode cX11_toOpen 1 = .ok (.aload_n 0, 1) := by decide +kernel
theorem dX11_toOpen_2 : decode cX11_toOpen 2 = .ok (.invokevirtual 214, 3) := by decide +kernel
theorem dX11_toOpen_5 : decode cX11_toOpen 5 = .ok (.invokevirtual 103, 3) := by decide +kernel
theorem dX11_toOpen_8 : decode cX11_toOpen 8 = .ok (.ifCond .eq 7, 3) := by decide +kernel
theorem dX11_toOpen_11 : decode cX11_toOpen 11 = .ok (.iconst (-1), 1) := by decide +kernel
theorem dX11_toOpen_12 : decode cX11_toOpen 12 = .ok (.goto 10, 3) := by decide +kernel
theorem dX11_toOpen_15 : decode cX11_toOpen 15 = .ok (.aload_n 0, 1) := by decide +kernel
theorem dX11_toOpen_16 : decode cX11_toOpen 16 = .ok (.getfield 57, 3) := by decide +kernel
theorem dX11_toOpen_19 : decode cX11_toOpen 19 = .ok (.invokevirtual 251, 3) := by decide +kernel
theorem dX11_toOpen_22 : decode cX11_toOpen 22 = .ok (.ireturn, 1) := by decide +kernel
theorem dX11_rests_0 : decode cX11_rests 0 = .ok (.aload_n 0, 1) := by decide +kernel
theorem dX11_rests_1 : decode cX11_rests 1 = .ok (.aload_n 0, 1) := by decide +kernel
theorem dX11_rests_2 : decode cX11_rests 2 = .ok (.iload_n 1, 1) := by decide +kernel
theorem dX11_rests_3 : decode cX11_rests 3 = .ok (.invokevirtual 179, 3) := by decide +kernel
theorem dX11_rests_6 : decode cX11_rests 6 = .ok (.invokevirtual 103, 3) := by decide +kernel
theorem dX11_rests_9 : decode cX11_rests 9 = .ok (.ifCond .eq 5, 3) := by decide +kernel
theorem dX11_rests_12 : decode cX11_rests 12 = .ok (.iconst (-1), 1) := by decide +kernel
theorem dX11_rests_13 : decode cX11_rests 13 = .ok (.ireturn, 1) := by decide +kernel
theorem dX11_rests_14 : decode cX11_rests 14 = .ok (.aload_n 0, 1) := by decide +kernel
theorem dX11_rests_15 : decode cX11_rests 15 = .ok (.getfield 57, 3) := by decide +kernel
theorem dX11_rests_18 : decode cX11_rests 18 = .ok (.iload_n 1, 1) := by decide +kernel
theorem dX11_rests_19 : decode cX11_rests 19 = .ok (.invokevirtual 254, 3) := by decide +kernel
theorem dX11_rests_22 : decode cX11_rests 22 = .ok (.aload_n 0, 1) := by decide +kernel
theorem dX11_rests_23 : decode cX11_rests 23 = .ok (.getfield 57, 3) := by decide +kernel
theorem dX11_rests_26 : decode cX11_rests 26 = .ok (.invokevirtual 257, 3) := by decide +kernel
theorem dX11_rests_29 : decode cX11_rests 29 = .ok (.ireturn, 1) := by decide +kernel
theorem dX11_rest_0 : decode cX11_rest 0 = .ok (.aload_n 0, 1) := by decide +kernel
theorem dX11_rest_1 : decode cX11_rest 1 = .ok (.aload_n 0, 1) := by decide +kernel
theorem dX11_rest_2 : decode cX11_rest 2 = .ok (.iload_n 1, 1) := by decide +kernel
theorem dX11_rest_3 : decode cX11_rest 3 = .ok (.invokevirtual 179, 3) := by decide +kernel
theorem dX11_rest_6 : decode cX11_rest 6 = .ok (.invokevirtual 103, 3) := by decide +kernel
theorem dX11_rest_9 : decode cX11_rest 9 = .ok (.ifCond .eq 5, 3) := by decide +kernel
theorem dX11_rest_12 : decode cX11_rest 12 = .ok (.iconst (-1), 1) := by decide +kernel
theorem dX11_rest_13 : decode cX11_rest 13 = .ok (.ireturn, 1) := by decide +kernel
theorem dX11_rest_14 : decode cX11_rest 14 = .ok (.aload_n 0, 1) := by decide +kernel
theorem dX11_rest_15 : decode cX11_rest 15 = .ok (.getfield 57, 3) := by decide +kernel
theorem dX11_rest_18 : decode cX11_rest 18 = .ok (.iload_n 1, 1) := by decide +kernel
theorem dX11_rest_19 : decode cX11_rest 19 = .ok (.invokevirtual 254, 3) := by decide +kernel
theorem dX11_rest_22 : decode cX11_rest 22 = .ok (.aload_n 0, 1) := by decide +kernel
theorem dX11_rest_23 : decode cX11_rest 23 = .ok (.getfield 57, 3) := by decide +kernel
theorem dX11_rest_26 : decode cX11_rest 26 = .ok (.invokevirtual 260, 3) := by decide +kernel
theorem dX11_rest_29 : decode cX11_rest 29 = .ok (.ireturn, 1) := by decide +kernel
theorem dX11_weeks_0 : decode cX11_weeks 0 = .ok (.aload_n 0, 1) := by decide +kernel
theorem dX11_weeks_1 : decode cX11_weeks 1 = .ok (.aload_n 0, 1) := by decide +kernel
theorem dX11_weeks_2 : decode cX11_weeks 2 = .ok (.iload_n 1, 1) := by decide +kernel
theorem dX11_weeks_3 : decode cX11_weeks 3 = .ok (.iconst 0, 1) := by decide +kernel
theorem dX11_weeks_4 : decode cX11_weeks 4 = .ok (.invokevirtual 263, 3) := by decide +kernel
theorem dX11_weeks_7 : decode cX11_weeks 7 = .ok (.invokevirtual 103, 3) := by decide +kernel
theorem dX11_weeks_10 : decode cX11_weeks 10 = .ok (.ifCond .eq 7, 3) := by decide +kernel
theorem dX11_weeks_13 : decode cX11_weeks 13 = .ok (.iconst (-1), 1) := by decide +kernel
theorem dX11_weeks_14 : decode cX11_weeks 14 = .ok (.goto 10, 3) := by decide +kernel
theorem dX11_weeks_17 : decode cX11_weeks 17 = .ok (.aload_n 0, 1) := by decide +kernel
theorem dX11_weeks_18 : decode cX11_weeks 18 = .ok (.getfield 48, 3) := by decide +kernel
theorem dX11_weeks_21 : decode cX11_weeks 21 = .ok (.invokevirtual 266, 3) := by decide +kernel
theorem dX11_weeks_24 : decode cX11_weeks 24 = .ok (.ireturn, 1) := by decide +kernel
theorem dX11_sale_0 : decode cX11_sale 0 = .ok (.aload_n 0, 1) := by decide +kernel
theorem dX11_sale_1 : decode cX11_sale 1 = .ok (.aload_n 0, 1) := by decide +kernel
theorem dX11_sale_2 : decode cX11_sale 2 = .ok (.iload_n 1, 1) := by decide +kernel
theorem dX11_sale_3 : decode cX11_sale 3 = .ok (.invokevirtual 269, 3) := by decide +kernel
theorem dX11_sale_6 : decode cX11_sale 6 = .ok (.invokevirtual 103, 3) := by decide +kernel
theorem dX11_sale_9 : decode cX11_sale 9 = .ok (.ifCond .eq 7, 3) := by decide +kernel
theorem dX11_sale_12 : decode cX11_sale 12 = .ok (.iconst (-1), 1) := by decide +kernel
theorem dX11_sale_13 : decode cX11_sale 13 = .ok (.goto 8, 3) := by decide +kernel
theorem dX11_sale_16 : decode cX11_sale 16 = .ok (.aload_n 0, 1) := by decide +kernel
theorem dX11_sale_17 : decode cX11_sale 17 = .ok (.iload_n 1, 1) := by decide +kernel
theorem dX11_sale_18 : decode cX11_sale 18 = .ok (.invokevirtual 272, 3) := by decide +kernel
theorem dX11_sale_21 : decode cX11_sale 21 = .ok (.ireturn, 1) := by decide +kernel
theorem dX11_saleOver_0 : decode cX11_saleOver 0 = .ok (.aload_n 0, 1) := by decide +kernel
theorem dX11_saleOver_1 : decode cX11_saleOver 1 = .ok (.aload_n 0, 1) := by decide +kernel
theorem dX11_saleOver_2 : decode cX11_saleOver 2 = .ok (.iload_n 1, 1) := by decide +kernel
theorem dX11_saleOver_3 : decode cX11_saleOver 3 = .ok (.invokevirtual 269, 3) := by decide +kernel
theorem dX11_saleOver_6 : decode cX11_saleOver 6 = .ok (.invokevirtual 103, 3) := by decide +kernel
theorem dX11_saleOver_9 : decode cX11_saleOver 9 = .ok (.ifCond .eq 5, 3) := by decide +kernel
theorem dX11_saleOver_12 : decode cX11_saleOver 12 = .ok (.iconst (-1), 1) := by decide +kernel
theorem dX11_saleOver_13 : decode cX11_saleOver 13 = .ok (.ireturn, 1) := by decide +kernel
theorem dX11_saleOver_14 : decode cX11_saleOver 14 = .ok (.aload_n 0, 1) := by decide +kernel
theorem dX11_saleOver_15 : decode cX11_saleOver 15 = .ok (.iload_n 1, 1) := by decide +kernel
theorem dX11_saleOver_16 : decode cX11_saleOver 16 = .ok (.invokevirtual 272, 3) := by decide +kernel
theorem dX11_saleOver_19 : decode cX11_saleOver 19 = .ok (.istore_n 2, 1) := by decide +kernel
theorem dX11_saleOver_20 : decode cX11_saleOver 20 = .ok (.aload_n 0, 1) := by decide +kernel
theorem dX11_saleOver_21 : decode cX11_saleOver 21 = .ok (.iload_n 2, 1) := by decide +kernel
theorem dX11_saleOver_22 : decode cX11_saleOver 22 = .ok (.bipush (-2), 2) := by decide +kernel
theorem dX11_saleOver_24 : decode cX11_saleOver 24 = .ok (.if_icmp .ne 8, 3) := by decide +kernel
theorem dX11_saleOver_27 : decode cX11_saleOver 27 = .ok (.bipush 6, 2) := by decide +kernel
theorem dX11_saleOver_29 : decode cX11_saleOver 29 = .ok (.goto 4, 3) := by decide +kernel
theorem dX11_saleOver_32 : decode cX11_saleOver 32 = .ok (.iconst 0, 1) := by decide +kernel
theorem dX11_saleOver_33 : decode cX11_saleOver 33 = .ok (.invokevirtual 103, 3) := by decide +kernel
theorem dX11_saleOver_36 : decode cX11_saleOver 36 = .ok (.ifCond .eq 7, 3) := by decide +kernel
theorem dX11_saleOver_39 : decode cX11_saleOver 39 = .ok (.iconst (-1), 1) := by decide +kernel
theorem dX11_saleOver_40 : decode cX11_saleOver 40 = .ok (.goto 10, 3) := by decide +kernel
theorem dX11_saleOver_43 : decode cX11_saleOver 43 = .ok (.aload_n 0, 1) := by decide +kernel
theorem dX11_saleOver_44 : decode cX11_saleOver 44 = .ok (.iload_n 2, 1) := by decide +kernel
theorem dX11_saleOver_45 : decode cX11_saleOver 45 = .ok (.invokevirtual 275, 3) := by decide +kernel
theorem dX11_saleOver_48 : decode cX11_saleOver 48 = .ok (.iload_n 1, 1) := by decide +kernel
theorem dX11_saleOver_49 : decode cX11_saleOver 49 = .ok (.isub, 1) := by decide +kernel
theorem dX11_saleOver_50 : decode cX11_saleOver 50 = .ok (.ireturn, 1) := by decide +kernel
theorem dX11_march_0 : decode cX11_march 0 = .ok (.aload_n 0, 1) := by decide +kernel
theorem dX11_march_1 : decode cX11_march 1 = .ok (.aload_n 0, 1) := by decide +kernel
theorem dX11_march_2 : decode cX11_march 2 = .ok (.iload_n 1, 1) := by decide +kernel
theorem dX11_march_3 : decode cX11_march 3 = .ok (.iload_n 2, 1) := by decide +kernel
theorem dX11_march_4 : decode cX11_march 4 = .ok (.iload_n 3, 1) := by decide +kernel
theorem dX11_march_5 : decode cX11_march 5 = .ok (.invokevirtual 278, 3) := by decide +kernel
theorem dX11_march_8 : decode cX11_march 8 = .ok (.invokevirtual 103, 3) := by decide +kernel
theorem dX11_march_11 : decode cX11_march 11 = .ok (.ifCond .eq 7, 3) := by decide +kernel
theorem dX11_march_14 : decode cX11_march 14 = .ok (.iconst (-1), 1) := by decide +kernel
theorem dX11_march_15 : decode cX11_march 15 = .ok (.goto 13, 3) := by decide +kernel
theorem dX11_march_18 : decode cX11_march 18 = .ok (.aload_n 0, 1) := by decide +kernel
theorem dX11_march_19 : decode cX11_march 19 = .ok (.getfield 73, 3) := by decide +kernel
theorem dX11_march_22 : decode cX11_march 22 = .ok (.iload_n 1, 1) := by decide +kernel
theorem dX11_march_23 : decode cX11_march 23 = .ok (.iload_n 2, 1) := by decide +kernel
theorem dX11_march_24 : decode cX11_march 24 = .ok (.iload_n 3, 1) := by decide +kernel
theorem dX11_march_25 : decode cX11_march 25 = .ok (.invokevirtual 282, 3) := by decide +kernel
theorem dX11_march_28 : decode cX11_march 28 = .ok (.ireturn, 1) := by decide +kernel
theorem dX11_marchAt_0 : decode cX11_marchAt 0 = .ok (.aload_n 0, 1) := by decide +kernel
theorem dX11_marchAt_1 : decode cX11_marchAt 1 = .ok (.aload_n 0, 1) := by decide +kernel
theorem dX11_marchAt_2 : decode cX11_marchAt 2 = .ok (.iload_n 1, 1) := by decide +kernel
theorem dX11_marchAt_3 : decode cX11_marchAt 3 = .ok (.iload_n 2, 1) := by decide +kernel
theorem dX11_marchAt_4 : decode cX11_marchAt 4 = .ok (.iload_n 3, 1) := by decide +kernel
theorem dX11_marchAt_5 : decode cX11_marchAt 5 = .ok (.invokevirtual 278, 3) := by decide +kernel
theorem dX11_marchAt_8 : decode cX11_marchAt 8 = .ok (.invokevirtual 103, 3) := by decide +kernel
theorem dX11_marchAt_11 : decode cX11_marchAt 11 = .ok (.ifCond .eq 5, 3) := by decide +kernel
theorem dX11_marchAt_14 : decode cX11_marchAt 14 = .ok (.iconst (-1), 1) := by decide +kernel
theorem dX11_marchAt_15 : decode cX11_marchAt 15 = .ok (.ireturn, 1) := by decide +kernel
theorem dX11_marchAt_16 : decode cX11_marchAt 16 = .ok (.aload_n 0, 1) := by decide +kernel
theorem dX11_marchAt_17 : decode cX11_marchAt 17 = .ok (.getfield 73, 3) := by decide +kernel
theorem dX11_marchAt_20 : decode cX11_marchAt 20 = .ok (.iload_n 1, 1) := by decide +kernel
theorem dX11_marchAt_21 : decode cX11_marchAt 21 = .ok (.iload_n 2, 1) := by decide +kernel
theorem dX11_marchAt_22 : decode cX11_marchAt 22 = .ok (.iload_n 3, 1) := by decide +kernel
theorem dX11_marchAt_23 : decode cX11_marchAt 23 = .ok (.invokevirtual 282, 3) := by decide +kernel
theorem dX11_marchAt_26 : decode cX11_marchAt 26 = .ok (.pop, 1) := by decide +kernel
theorem dX11_marchAt_27 : decode cX11_marchAt 27 = .ok (.aload_n 0, 1) := by decide +kernel
theorem dX11_marchAt_28 : decode cX11_marchAt 28 = .ok (.iload 4, 2) := by decide +kernel
theorem dX11_marchAt_30 : decode cX11_marchAt 30 = .ok (.iconst 0, 1) := by decide +kernel
theorem dX11_marchAt_31 : decode cX11_marchAt 31 = .ok (.aload_n 0, 1) := by decide +kernel
theorem dX11_marchAt_32 : decode cX11_marchAt 32 = .ok (.getfield 73, 3) := by decide +kernel
theorem dX11_marchAt_35 : decode cX11_marchAt 35 = .ok (.invokevirtual 285, 3) := by decide +kernel
theorem dX11_marchAt_38 : decode cX11_marchAt 38 = .ok (.iconst 1, 1) := by decide +kernel
theorem dX11_marchAt_39 : decode cX11_marchAt 39 = .ok (.isub, 1) := by decide +kernel
theorem dX11_marchAt_40 : decode cX11_marchAt 40 = .ok (.invokestatic 99, 3) := by decide +kernel
theorem dX11_marchAt_43 : decode cX11_marchAt 43 = .ok (.ifCond .eq 7, 3) := by decide +kernel
theorem dX11_marchAt_46 : decode cX11_marchAt 46 = .ok (.iconst 1, 1) := by decide +kernel
theorem dX11_marchAt_47 : decode cX11_marchAt 47 = .ok (.goto 4, 3) := by decide +kernel
theorem dX11_marchAt_50 : decode cX11_marchAt 50 = .ok (.iconst 0, 1) := by decide +kernel
theorem dX11_marchAt_51 : decode cX11_marchAt 51 = .ok (.invokevirtual 103, 3) := by decide +kernel
theorem dX11_marchAt_54 : decode cX11_marchAt 54 = .ok (.ifCond .eq 5, 3) := by decide +kernel
theorem dX11_marchAt_57 : decode cX11_marchAt 57 = .ok (.iconst (-1), 1) := by decide +kernel
theorem dX11_marchAt_58 : decode cX11_marchAt 58 = .ok (.ireturn, 1) := by decide +kernel
theorem dX11_marchAt_59 : decode cX11_marchAt 59 = .ok (.aload_n 0, 1) := by decide +kernel
theorem dX11_marchAt_60 : decode cX11_marchAt 60 = .ok (.getfield 73, 3) := by decide +kernel
theorem dX11_marchAt_63 : decode cX11_marchAt 63 = .ok (.iload 4, 2) := by decide +kernel
theorem dX11_marchAt_65 : decode cX11_marchAt 65 = .ok (.invokevirtual 288, 3) := by decide +kernel
theorem dX11_marchAt_68 : decode cX11_marchAt 68 = .ok (.ireturn, 1) := by decide +kernel
theorem dX11_reach_0 : decode cX11_reach 0 = .ok (.aload_n 0, 1) := by decide +kernel
theorem dX11_reach_1 : decode cX11_reach 1 = .ok (.aload_n 0, 1) := by decide +kernel
theorem dX11_reach_2 : decode cX11_reach 2 = .ok (.iload_n 1, 1) := by decide +kernel
theorem dX11_reach_3 : decode cX11_reach 3 = .ok (.invokevirtual 291, 3) := by decide +kernel
theorem dX11_reach_6 : decode cX11_reach 6 = .ok (.invokevirtual 103, 3) := by decide +kernel
theorem dX11_reach_9 : decode cX11_reach 9 = .ok (.ifCond .eq 7, 3) := by decide +kernel
theorem dX11_reach_12 : decode cX11_reach 12 = .ok (.iconst (-1), 1) := by decide +kernel
theorem dX11_reach_13 : decode cX11_reach 13 = .ok (.goto 11, 3) := by decide +kernel
theorem dX11_reach_16 : decode cX11_reach 16 = .ok (.aload_n 0, 1) := by decide +kernel
theorem dX11_reach_17 : decode cX11_reach 17 = .ok (.getfield 73, 3) := by decide +kernel
theorem dX11_reach_20 : decode cX11_reach 20 = .ok (.iload_n 1, 1) := by decide +kernel
theorem dX11_reach_21 : decode cX11_reach 21 = .ok (.invokevirtual 294, 3) := by decide +kernel
theorem dX11_reach_24 : decode cX11_reach 24 = .ok (.ireturn, 1) := by decide +kernel
theorem dX11_worstPass_0 : decode cX11_worstPass 0 = .ok (.aload_n 0, 1) := by decide +kernel
theorem dX11_worstPass_1 : decode cX11_worstPass 1 = .ok (.aload_n 0, 1) := by decide +kernel
theorem dX11_worstPass_2 : decode cX11_worstPass 2 = .ok (.iload_n 1, 1) := by decide +kernel
theorem dX11_worstPass_3 : decode cX11_worstPass 3 = .ok (.iload_n 2, 1) := by decide +kernel
theorem dX11_worstPass_4 : decode cX11_worstPass 4 = .ok (.iload_n 3, 1) := by decide +kernel
theorem dX11_worstPass_5 : decode cX11_worstPass 5 = .ok (.invokevirtual 278, 3) := by decide +kernel
theorem dX11_worstPass_8 : decode cX11_worstPass 8 = .ok (.invokevirtual 103, 3) := by decide +kernel
theorem dX11_worstPass_11 : decode cX11_worstPass 11 = .ok (.ifCond .eq 7, 3) := by decide +kernel
theorem dX11_worstPass_14 : decode cX11_worstPass 14 = .ok (.iconst (-1), 1) := by decide +kernel
theorem dX11_worstPass_15 : decode cX11_worstPass 15 = .ok (.goto 13, 3) := by decide +kernel
theorem dX11_worstPass_18 : decode cX11_worstPass 18 = .ok (.aload_n 0, 1) := by decide +kernel
theorem dX11_worstPass_19 : decode cX11_worstPass 19 = .ok (.getfield 73, 3) := by decide +kernel
theorem dX11_worstPass_22 : decode cX11_worstPass 22 = .ok (.iload_n 1, 1) := by decide +kernel
theorem dX11_worstPass_23 : decode cX11_worstPass 23 = .ok (.iload_n 2, 1) := by decide +kernel
theorem dX11_worstPass_24 : decode cX11_worstPass 24 = .ok (.iload_n 3, 1) := by decide +kernel
theorem dX11_worstPass_25 : decode cX11_worstPass 25 = .ok (.invokevirtual 297, 3) := by decide +kernel
theorem dX11_worstPass_28 : decode cX11_worstPass 28 = .ok (.ireturn, 1) := by decide +kernel
theorem dX11_setOut_0 : decode cX11_setOut 0 = .ok (.aload_n 0, 1) := by decide +kernel
theorem dX11_setOut_1 : decode cX11_setOut 1 = .ok (.aload_n 0, 1) := by decide +kernel
theorem dX11_setOut_2 : decode cX11_setOut 2 = .ok (.iload_n 1, 1) := by decide +kernel
theorem dX11_setOut_3 : decode cX11_setOut 3 = .ok (.iload_n 2, 1) := by decide +kernel
theorem dX11_setOut_4 : decode cX11_setOut 4 = .ok (.iload_n 3, 1) := by decide +kernel
theorem dX11_setOut_5 : decode cX11_setOut 5 = .ok (.invokevirtual 278, 3) := by decide +kernel
theorem dX11_setOut_8 : decode cX11_setOut 8 = .ok (.invokevirtual 103, 3) := by decide +kernel
theorem dX11_setOut_11 : decode cX11_setOut 11 = .ok (.ifCond .eq 7, 3) := by decide +kernel
theorem dX11_setOut_14 : decode cX11_setOut 14 = .ok (.iconst (-1), 1) := by decide +kernel
theorem dX11_setOut_15 : decode cX11_setOut 15 = .ok (.goto 13, 3) := by decide +kernel
theorem dX11_setOut_18 : decode cX11_setOut 18 = .ok (.aload_n 0, 1) := by decide +kernel
theorem dX11_setOut_19 : decode cX11_setOut 19 = .ok (.getfield 73, 3) := by decide +kernel
theorem dX11_setOut_22 : decode cX11_setOut 22 = .ok (.iload_n 1, 1) := by decide +kernel
theorem dX11_setOut_23 : decode cX11_setOut 23 = .ok (.iload_n 2, 1) := by decide +kernel
theorem dX11_setOut_24 : decode cX11_setOut 24 = .ok (.iload_n 3, 1) := by decide +kernel
theorem dX11_setOut_25 : decode cX11_setOut 25 = .ok (.invokevirtual 300, 3) := by decide +kernel
theorem dX11_setOut_28 : decode cX11_setOut 28 = .ok (.ireturn, 1) := by decide +kernel
theorem dX11_fits_0 : decode cX11_fits 0 = .ok (.aload_n 0, 1) := by decide +kernel
theorem dX11_fits_1 : decode cX11_fits 1 = .ok (.aload_n 0, 1) := by decide +kernel
theorem dX11_fits_2 : decode cX11_fits 2 = .ok (.invokevirtual 214, 3) := by decide +kernel
theorem dX11_fits_5 : decode cX11_fits 5 = .ok (.invokevirtual 103, 3) := by decide +kernel
theorem dX11_fits_8 : decode cX11_fits 8 = .ok (.ifCond .eq 5, 3) := by decide +kernel
theorem dX11_fits_11 : decode cX11_fits 11 = .ok (.iconst (-1), 1) := by decide +kernel
theorem dX11_fits_12 : decode cX11_fits 12 = .ok (.ireturn, 1) := by decide +kernel
theorem dX11_fits_13 : decode cX11_fits 13 = .ok (.aload_n 0, 1) := by decide +kernel
theorem dX11_fits_14 : decode cX11_fits 14 = .ok (.getfield 80, 3) := by decide +kernel
theorem dX11_fits_17 : decode cX11_fits 17 = .ok (.invokevirtual 303, 3) := by decide +kernel
theorem dX11_fits_20 : decode cX11_fits 20 = .ok (.aload_n 0, 1) := by decide +kernel
theorem dX11_fits_21 : decode cX11_fits 21 = .ok (.getfield 80, 3) := by decide +kernel
theorem dX11_fits_24 : decode cX11_fits 24 = .ok (.getfield 306, 3) := by decide +kernel
theorem dX11_fits_27 : decode cX11_fits 27 = .ok (.ireturn, 1) := by decide +kernel
theorem dX11_could_0 : decode cX11_could 0 = .ok (.aload_n 0, 1) := by decide +kernel
theorem dX11_could_1 : decode cX11_could 1 = .ok (.aload_n 0, 1) := by decide +kernel
theorem dX11_could_2 : decode cX11_could 2 = .ok (.invokevirtual 214, 3) := by decide +kernel
theorem dX11_could_5 : decode cX11_could 5 = .ok (.invokevirtual 103, 3) := by decide +kernel
theorem dX11_could_8 : decode cX11_could 8 = .ok (.ifCond .eq 5, 3) := by decide +kernel
theorem dX11_could_11 : decode cX11_could 11 = .ok (.iconst (-1), 1) := by decide +kernel
theorem dX11_could_12 : decode cX11_could 12 = .ok (.ireturn, 1) := by decide +kernel
theorem dX11_could_13 : decode cX11_could 13 = .ok (.aload_n 0, 1) := by decide +kernel
theorem dX11_could_14 : decode cX11_could 14 = .ok (.getfield 80, 3) := by decide +kernel
theorem dX11_could_17 : decode cX11_could 17 = .ok (.invokevirtual 303, 3) := by decide +kernel
theorem dX11_could_20 : decode cX11_could 20 = .ok (.aload_n 0, 1) := by decide +kernel
theorem dX11_could_21 : decode cX11_could 21 = .ok (.getfield 80, 3) := by decide +kernel
theorem dX11_could_24 : decode cX11_could 24 = .ok (.getfield 309, 3) := by decide +kernel
theorem dX11_could_27 : decode cX11_could 27 = .ok (.ireturn, 1) := by decide +kernel
theorem dX11_surely_0 : decode cX11_surely 0 = .ok (.aload_n 0, 1) := by decide +kernel
theorem dX11_surely_1 : decode cX11_surely 1 = .ok (.aload_n 0, 1) := by decide +kernel
theorem dX11_surely_2 : decode cX11_surely 2 = .ok (.invokevirtual 214, 3) := by decide +kernel
theorem dX11_surely_5 : decode cX11_surely 5 = .ok (.invokevirtual 103, 3) := by decide +kernel
theorem dX11_surely_8 : decode cX11_surely 8 = .ok (.ifCond .eq 5, 3) := by decide +kernel
theorem dX11_surely_11 : decode cX11_surely 11 = .ok (.iconst (-1), 1) := by decide +kernel
theorem dX11_surely_12 : decode cX11_surely 12 = .ok (.ireturn, 1) := by decide +kernel
theorem dX11_surely_13 : decode cX11_surely 13 = .ok (.aload_n 0, 1) := by decide +kernel
theorem dX11_surely_14 : decode cX11_surely 14 = .ok (.getfield 80, 3) := by decide +kernel
theorem dX11_surely_17 : decode cX11_surely 17 = .ok (.invokevirtual 303, 3) := by decide +kernel
theorem dX11_surely_20 : decode cX11_surely 20 = .ok (.aload_n 0, 1) := by decide +kernel
theorem dX11_surely_21 : decode cX11_surely 21 = .ok (.getfield 80, 3) := by decide +kernel
theorem dX11_surely_24 : decode cX11_surely 24 = .ok (.getfield 312, 3) := by decide +kernel
theorem dX11_surely_27 : decode cX11_surely 27 = .ok (.ireturn, 1) := by decide +kernel
theorem dX11_ask_0 : decode cX11_ask 0 = .ok (.aload_n 0, 1) := by decide +kernel
theorem dX11_ask_1 : decode cX11_ask 1 = .ok (.aload_n 0, 1) := by decide +kernel
theorem dX11_ask_2 : decode cX11_ask 2 = .ok (.invokevirtual 214, 3) := by decide +kernel
theorem dX11_ask_5 : decode cX11_ask 5 = .ok (.invokevirtual 103, 3) := by decide +kernel
theorem dX11_ask_8 : decode cX11_ask 8 = .ok (.ifCond .eq 5, 3) := by decide +kernel
theorem dX11_ask_11 : decode cX11_ask 11 = .ok (.iconst (-1), 1) := by decide +kernel
theorem dX11_ask_12 : decode cX11_ask 12 = .ok (.ireturn, 1) := by decide +kernel
theorem dX11_ask_13 : decode cX11_ask 13 = .ok (.aload_n 0, 1) := by decide +kernel
theorem dX11_ask_14 : decode cX11_ask 14 = .ok (.getfield 80, 3) := by decide +kernel
theorem dX11_ask_17 : decode cX11_ask 17 = .ok (.invokevirtual 303, 3) := by decide +kernel
theorem dX11_ask_20 : decode cX11_ask 20 = .ok (.aload_n 0, 1) := by decide +kernel
theorem dX11_ask_21 : decode cX11_ask 21 = .ok (.getfield 80, 3) := by decide +kernel
theorem dX11_ask_24 : decode cX11_ask 24 = .ok (.invokevirtual 315, 3) := by decide +kernel
theorem dX11_ask_27 : decode cX11_ask 27 = .ok (.ireturn, 1) := by decide +kernel
theorem dX11_turnedBy_0 : decode cX11_turnedBy 0 = .ok (.aload_n 0, 1) := by decide +kernel
theorem dX11_turnedBy_1 : decode cX11_turnedBy 1 = .ok (.aload_n 0, 1) := by decide +kernel
theorem dX11_turnedBy_2 : decode cX11_turnedBy 2 = .ok (.iload_n 1, 1) := by decide +kernel
theorem dX11_turnedBy_3 : decode cX11_turnedBy 3 = .ok (.invokevirtual 179, 3) := by decide +kernel
theorem dX11_turnedBy_6 : decode cX11_turnedBy 6 = .ok (.invokevirtual 103, 3) := by decide +kernel
theorem dX11_turnedBy_9 : decode cX11_turnedBy 9 = .ok (.ifCond .eq 7, 3) := by decide +kernel
theorem dX11_turnedBy_12 : decode cX11_turnedBy 12 = .ok (.iconst (-1), 1) := by decide +kernel
theorem dX11_turnedBy_13 : decode cX11_turnedBy 13 = .ok (.goto 11, 3) := by decide +kernel
theorem dX11_turnedBy_16 : decode cX11_turnedBy 16 = .ok (.aload_n 0, 1) := by decide +kernel
theorem dX11_turnedBy_17 : decode cX11_turnedBy 17 = .ok (.getfield 80, 3) := by decide +kernel
theorem dX11_turnedBy_20 : decode cX11_turnedBy 20 = .ok (.iload_n 1, 1) := by decide +kernel
theorem dX11_turnedBy_21 : decode cX11_turnedBy 21 = .ok (.invokevirtual 318, 3) := by decide +kernel
theorem dX11_turnedBy_24 : decode cX11_turnedBy 24 = .ok (.ireturn, 1) := by decide +kernel
theorem dX11_battles_0 : decode cX11_battles 0 = .ok (.aload_n 0, 1) := by decide +kernel
theorem dX11_battles_1 : decode cX11_battles 1 = .ok (.aload_n 0, 1) := by decide +kernel
theorem dX11_battles_2 : decode cX11_battles 2 = .ok (.getfield 25, 3) := by decide +kernel
theorem dX11_battles_5 : decode cX11_battles 5 = .ok (.invokevirtual 321, 3) := by decide +kernel
theorem dX11_battles_8 : decode cX11_battles 8 = .ok (.iload_n 1, 1) := by decide +kernel
theorem dX11_battles_9 : decode cX11_battles 9 = .ok (.iload_n 2, 1) := by decide +kernel
theorem dX11_battles_10 : decode cX11_battles 10 = .ok (.invokestatic 325, 3) := by decide +kernel
theorem dX11_battles_13 : decode cX11_battles 13 = .ok (.invokevirtual 103, 3) := by decide +kernel
theorem dX11_battles_16 : decode cX11_battles 16 = .ok (.ifCond .eq 5, 3) := by decide +kernel
theorem dX11_battles_19 : decode cX11_battles 19 = .ok (.iconst (-1), 1) := by decide +kernel
theorem dX11_battles_20 : decode cX11_battles 20 = .ok (.ireturn, 1) := by decide +kernel
theorem dX11_battles_21 : decode cX11_battles 21 = .ok (.aload_n 0, 1) := by decide +kernel
theorem dX11_battles_22 : decode cX11_battles 22 = .ok (.getfield 87, 3) := by decide +kernel
theorem dX11_battles_25 : decode cX11_battles 25 = .ok (.iload_n 1, 1) := by decide +kernel
theorem dX11_battles_26 : decode cX11_battles 26 = .ok (.iload_n 2, 1) := by decide +kernel
theorem dX11_battles_27 : decode cX11_battles 27 = .ok (.invokevirtual 329, 3) := by decide +kernel
theorem dX11_battles_30 : decode cX11_battles 30 = .ok (.iload_n 3, 1) := by decide +kernel
theorem dX11_battles_31 : decode cX11_battles 31 = .ok (.ifCond .eq 13, 3) := by decide +kernel
theorem dX11_battles_34 : decode cX11_battles 34 = .ok (.aload_n 0, 1) := by decide +kernel
theorem dX11_battles_35 : decode cX11_battles 35 = .ok (.getfield 87, 3) := by decide +kernel
theorem dX11_battles_38 : decode cX11_battles 38 = .ok (.getfield 333, 3) := by decide +kernel
theorem dX11_battles_41 : decode cX11_battles 41 = .ok (.goto 10, 3) := by decide +kernel
theorem dX11_battles_44 : decode cX11_battles 44 = .ok (.aload_n 0, 1) := by decide +kernel
theorem dX11_battles_45 : decode cX11_battles 45 = .ok (.getfield 87, 3) := by decide +kernel
theorem dX11_battles_48 : decode cX11_battles 48 = .ok (.getfield 336, 3) := by decide +kernel
theorem dX11_battles_51 : decode cX11_battles 51 = .ok (.ireturn, 1) := by decide +kernel
theorem dX11_won_0 : decode cX11_won 0 = .ok (.aload_n 0, 1) := by decide +kernel
theorem dX11_won_1 : decode cX11_won 1 = .ok (.aload_n 0, 1) := by decide +kernel
theorem dX11_won_2 : decode cX11_won 2 = .ok (.getfield 25, 3) := by decide +kernel
theorem dX11_won_5 : decode cX11_won 5 = .ok (.invokevirtual 321, 3) := by decide +kernel
theorem dX11_won_8 : decode cX11_won 8 = .ok (.iload_n 1, 1) := by decide +kernel
theorem dX11_won_9 : decode cX11_won 9 = .ok (.iload_n 2, 1) := by decide +kernel
theorem dX11_won_10 : decode cX11_won 10 = .ok (.invokestatic 325, 3) := by decide +kernel
theorem dX11_won_13 : decode cX11_won 13 = .ok (.invokevirtual 103, 3) := by decide +kernel
theorem dX11_won_16 : decode cX11_won 16 = .ok (.ifCond .eq 5, 3) := by decide +kernel
theorem dX11_won_19 : decode cX11_won 19 = .ok (.iconst (-1), 1) := by decide +kernel
theorem dX11_won_20 : decode cX11_won 20 = .ok (.ireturn, 1) := by decide +kernel
theorem dX11_won_21 : decode cX11_won 21 = .ok (.aload_n 0, 1) := by decide +kernel
theorem dX11_won_22 : decode cX11_won 22 = .ok (.getfield 87, 3) := by decide +kernel
theorem dX11_won_25 : decode cX11_won 25 = .ok (.iload_n 1, 1) := by decide +kernel
theorem dX11_won_26 : decode cX11_won 26 = .ok (.iload_n 2, 1) := by decide +kernel
theorem dX11_won_27 : decode cX11_won 27 = .ok (.invokevirtual 329, 3) := by decide +kernel
theorem dX11_won_30 : decode cX11_won 30 = .ok (.aload_n 0, 1) := by decide +kernel
theorem dX11_won_31 : decode cX11_won 31 = .ok (.getfield 87, 3) := by decide +kernel
theorem dX11_won_34 : decode cX11_won 34 = .ok (.getfield 339, 3) := by decide +kernel
theorem dX11_won_37 : decode cX11_won 37 = .ok (.ireturn, 1) := by decide +kernel
theorem dX11_acrossIn_0 : decode cX11_acrossIn 0 = .ok (.aload_n 0, 1) := by decide +kernel
theorem dX11_acrossIn_1 : decode cX11_acrossIn 1 = .ok (.aload_n 0, 1) := by decide +kernel
theorem dX11_acrossIn_2 : decode cX11_acrossIn 2 = .ok (.getfield 25, 3) := by decide +kernel
theorem dX11_acrossIn_5 : decode cX11_acrossIn 5 = .ok (.iload_n 1, 1) := by decide +kernel
theorem dX11_acrossIn_6 : decode cX11_acrossIn 6 = .ok (.invokevirtual 152, 3) := by decide +kernel
theorem dX11_acrossIn_9 : decode cX11_acrossIn 9 = .ok (.iload_n 2, 1) := by decide +kernel
theorem dX11_acrossIn_10 : decode cX11_acrossIn 10 = .ok (.iload_n 3, 1) := by decide +kernel
theorem dX11_acrossIn_11 : decode cX11_acrossIn 11 = .ok (.invokestatic 325, 3) := by decide +kernel
theorem dX11_acrossIn_14 : decode cX11_acrossIn 14 = .ok (.invokevirtual 103, 3) := by decide +kernel
theorem dX11_acrossIn_17 : decode cX11_acrossIn 17 = .ok (.ifCond .eq 5, 3) := by decide +kernel
theorem dX11_acrossIn_20 : decode cX11_acrossIn 20 = .ok (.iconst (-1), 1) := by decide +kernel
theorem dX11_acrossIn_21 : decode cX11_acrossIn 21 = .ok (.ireturn, 1) := by decide +kernel
theorem dX11_acrossIn_22 : decode cX11_acrossIn 22 = .ok (.aload_n 0, 1) := by decide +kernel
theorem dX11_acrossIn_23 : decode cX11_acrossIn 23 = .ok (.getfield 87, 3) := by decide +kernel
theorem dX11_acrossIn_26 : decode cX11_acrossIn 26 = .ok (.iload_n 2, 1) := by decide +kernel
theorem dX11_acrossIn_27 : decode cX11_acrossIn 27 = .ok (.iload_n 3, 1) := by decide +kernel
theorem dX11_acrossIn_28 : decode cX11_acrossIn 28 = .ok (.invokevirtual 329, 3) := by decide +kernel
theorem dX11_acrossIn_31 : decode cX11_acrossIn 31 = .ok (.aload_n 0, 1) := by decide +kernel
theorem dX11_acrossIn_32 : decode cX11_acrossIn 32 = .ok (.getfield 87, 3) := by decide +kernel
theorem dX11_acrossIn_35 : decode cX11_acrossIn 35 = .ok (.getfield 342, 3) := by decide +kernel
theorem dX11_acrossIn_38 : decode cX11_acrossIn 38 = .ok (.iload_n 1, 1) := by decide +kernel
theorem dX11_acrossIn_39 : decode cX11_acrossIn 39 = .ok (.iaload, 1) := by decide +kernel
theorem dX11_acrossIn_40 : decode cX11_acrossIn 40 = .ok (.ireturn, 1) := by decide +kernel
theorem dX11_move_0 : decode cX11_move 0 = .ok (.aload_n 0, 1) := by decide +kernel
theorem dX11_move_1 : decode cX11_move 1 = .ok (.aload_n 0, 1) := by decide +kernel
theorem dX11_move_2 : decode cX11_move 2 = .ok (.iload_n 1, 1) := by decide +kernel
theorem dX11_move_3 : decode cX11_move 3 = .ok (.iload_n 2, 1) := by decide +kernel
theorem dX11_move_4 : decode cX11_move 4 = .ok (.invokevirtual 345, 3) := by decide +kernel
theorem dX11_move_7 : decode cX11_move 7 = .ok (.invokevirtual 103, 3) := by decide +kernel
theorem dX11_move_10 : decode cX11_move 10 = .ok (.ifCond .eq 5, 3) := by decide +kernel
theorem dX11_move_13 : decode cX11_move 13 = .ok (.iconst 0, 1) := by decide +kernel
theorem dX11_move_14 : decode cX11_move 14 = .ok (.ireturn, 1) := by decide +kernel
theorem dX11_move_15 : decode cX11_move 15 = .ok (.aload_n 0, 1) := by decide +kernel
theorem dX11_move_16 : decode cX11_move 16 = .ok (.getfield 39, 3) := by decide +kernel
theorem dX11_move_19 : decode cX11_move 19 = .ok (.aload_n 0, 1) := by decide +kernel
theorem dX11_move_20 : decode cX11_move 20 = .ok (.getfield 32, 3) := by decide +kernel
theorem dX11_move_23 : decode cX11_move 23 = .ok (.invokevirtual 348, 3) := by decide +kernel
theorem dX11_move_26 : decode cX11_move 26 = .ok (.aload_n 0, 1) := by decide +kernel
theorem dX11_move_27 : decode cX11_move 27 = .ok (.getfield 32, 3) := by decide +kernel
theorem dX11_move_30 : decode cX11_move 30 = .ok (.getfield 158, 3) := by decide +kernel
theorem dX11_move_33 : decode cX11_move 33 = .ok (.iload_n 1, 1) := by decide +kernel
theorem dX11_move_34 : decode cX11_move 34 = .ok (.iload_n 2, 1) := by decide +kernel
theorem dX11_move_35 : decode cX11_move 35 = .ok (.iastore, 1) := by decide +kernel
theorem dX11_move_36 : decode cX11_move 36 = .ok (.iconst 1, 1) := by decide +kernel
theorem dX11_move_37 : decode cX11_move 37 = .ok (.ireturn, 1) := by decide +kernel
theorem dX11_wound_0 : decode cX11_wound 0 = .ok (.aload_n 0, 1) := by decide +kernel
theorem dX11_wound_1 : decode cX11_wound 1 = .ok (.aload_n 0, 1) := by decide +kernel
theorem dX11_wound_2 : decode cX11_wound 2 = .ok (.iload_n 1, 1) := by decide +kernel
theorem dX11_wound_3 : decode cX11_wound 3 = .ok (.iload_n 2, 1) := by decide +kernel
theorem dX11_wound_4 : decode cX11_wound 4 = .ok (.iconst 1, 1) := by decide +kernel
theorem dX11_wound_5 : decode cX11_wound 5 = .ok (.bipush 30, 2) := by decide +kernel
theorem dX11_wound_7 : decode cX11_wound 7 = .ok (.invokestatic 99, 3) := by decide +kernel
theorem dX11_wound_10 : decode cX11_wound 10 = .ok (.ifCond .eq 7, 3) := by decide +kernel
theorem dX11_wound_13 : decode cX11_wound 13 = .ok (.iconst 2, 1) := by decide +kernel
theorem dX11_wound_14 : decode cX11_wound 14 = .ok (.goto 4, 3) := by decide +kernel
theorem dX11_wound_17 : decode cX11_wound 17 = .ok (.iconst 0, 1) := by decide +kernel
theorem dX11_wound_18 : decode cX11_wound 18 = .ok (.invokevirtual 352, 3) := by decide +kernel
theorem dX11_wound_21 : decode cX11_wound 21 = .ok (.invokevirtual 103, 3) := by decide +kernel
theorem dX11_wound_24 : decode cX11_wound 24 = .ok (.ifCond .eq 5, 3) := by decide +kernel
theorem dX11_wound_27 : decode cX11_wound 27 = .ok (.iconst (-1), 1) := by decide +kernel
theorem dX11_wound_28 : decode cX11_wound 28 = .ok (.ireturn, 1) := by decide +kernel
theorem dX11_wound_29 : decode cX11_wound 29 = .ok (.aload_n 0, 1) := by decide +kernel
theorem dX11_wound_30 : decode cX11_wound 30 = .ok (.getfield 39, 3) := by decide +kernel
theorem dX11_wound_33 : decode cX11_wound 33 = .ok (.aload_n 0, 1) := by decide +kernel
theorem dX11_wound_34 : decode cX11_wound 34 = .ok (.getfield 32, 3) := by decide +kernel
theorem dX11_wound_37 : decode cX11_wound 37 = .ok (.invokevirtual 348, 3) := by decide +kernel
theorem dX11_wound_40 : decode cX11_wound 40 = .ok (.aload_n 0, 1) := by decide +kernel
theorem dX11_wound_41 : decode cX11_wound 41 = .ok (.getfield 32, 3) := by decide +kernel
theorem dX11_wound_44 : decode cX11_wound 44 = .ok (.getfield 173, 3) := by decide +kernel
theorem dX11_wound_47 : decode cX11_wound 47 = .ok (.iload_n 1, 1) := by decide +kernel
theorem dX11_wound_48 : decode cX11_wound 48 = .ok (.dup2, 1) := by decide +kernel
theorem dX11_wound_49 : decode cX11_wound 49 = .ok (.iaload, 1) := by decide +kernel
theorem dX11_wound_50 : decode cX11_wound 50 = .ok (.iload_n 2, 1) := by decide +kernel
theorem dX11_wound_51 : decode cX11_wound 51 = .ok (.iadd, 1) := by decide +kernel
theorem dX11_wound_52 : decode cX11_wound 52 = .ok (.iastore, 1) := by decide +kernel
theorem dX11_wound_53 : decode cX11_wound 53 = .ok (.aload_n 0, 1) := by decide +kernel
theorem dX11_wound_54 : decode cX11_wound 54 = .ok (.getfield 48, 3) := by decide +kernel
theorem dX11_wound_57 : decode cX11_wound 57 = .ok (.iload_n 1, 1) := by decide +kernel
theorem dX11_wound_58 : decode cX11_wound 58 = .ok (.invokevirtual 167, 3) := by decide +kernel
theorem dX11_wound_61 : decode cX11_wound 61 = .ok (.ireturn, 1) := by decide +kernel
theorem dX11_hammer_0 : decode cX11_hammer 0 = .ok (.aload_n 0, 1) := by decide +kernel
theorem dX11_hammer_1 : decode cX11_hammer 1 = .ok (.aload_n 0, 1) := by decide +kernel
theorem dX11_hammer_2 : decode cX11_hammer 2 = .ok (.iload_n 1, 1) := by decide +kernel
theorem dX11_hammer_3 : decode cX11_hammer 3 = .ok (.iconst 0, 1) := by decide +kernel
theorem dX11_hammer_4 : decode cX11_hammer 4 = .ok (.invokevirtual 352, 3) := by decide +kernel
theorem dX11_hammer_7 : decode cX11_hammer 7 = .ok (.invokevirtual 103, 3) := by decide +kernel
theorem dX11_hammer_10 : decode cX11_hammer 10 = .ok (.ifCond .eq 5, 3) := by decide +kernel
theorem dX11_hammer_13 : decode cX11_hammer 13 = .ok (.iconst 0, 1) := by decide +kernel
theorem dX11_hammer_14 : decode cX11_hammer 14 = .ok (.ireturn, 1) := by decide +kernel
theorem dX11_hammer_15 : decode cX11_hammer 15 = .ok (.aload_n 0, 1) := by decide +kernel
theorem dX11_hammer_16 : decode cX11_hammer 16 = .ok (.getfield 39, 3) := by decide +kernel
theorem dX11_hammer_19 : decode cX11_hammer 19 = .ok (.aload_n 0, 1) := by decide +kernel
theorem dX11_hammer_20 : decode cX11_hammer 20 = .ok (.getfield 32, 3) := by decide +kernel
theorem dX11_hammer_23 : decode cX11_hammer 23 = .ok (.invokevirtual 348, 3) := by decide +kernel
theorem dX11_hammer_26 : decode cX11_hammer 26 = .ok (.aload_n 0, 1) := by decide +kernel
theorem dX11_hammer_27 : decode cX11_hammer 27 = .ok (.getfield 32, 3) := by decide +kernel
theorem dX11_hammer_30 : decode cX11_hammer 30 = .ok (.dup, 1) := by decide +kernel
theorem dX11_hammer_31 : decode cX11_hammer 31 = .ok (.getfield 355, 3) := by decide +kernel
theorem dX11_hammer_34 : decode cX11_hammer 34 = .ok (.iconst 1, 1) := by decide +kernel
theorem dX11_hammer_35 : decode cX11_hammer 35 = .ok (.iload_n 1, 1) := by decide +kernel
theorem dX11_hammer_36 : decode cX11_hammer 36 = .ok (.ishl, 1) := by decide +kernel
theorem dX11_hammer_37 : decode cX11_hammer 37 = .ok (.ior, 1) := by decide +kernel
theorem dX11_hammer_38 : decode cX11_hammer 38 = .ok (.putfield 355, 3) := by decide +kernel
theorem dX11_hammer_41 : decode cX11_hammer 41 = .ok (.iconst 1, 1) := by decide +kernel
theorem dX11_hammer_42 : decode cX11_hammer 42 = .ok (.ireturn, 1) := by decide +kernel
theorem dX11_teach_0 : decode cX11_teach 0 = .ok (.aload_n 0, 1) := by decide +kernel
theorem dX11_teach_1 : decode cX11_teach 1 = .ok (.aload_n 0, 1) := by decide +kernel
theorem dX11_teach_2 : decode cX11_teach 2 = .ok (.iload_n 1, 1) := by decide +kernel
theorem dX11_teach_3 : decode cX11_teach 3 = .ok (.iload_n 2, 1) := by decide +kernel
theorem dX11_teach_4 : decode cX11_teach 4 = .ok (.iconst 1, 1) := by decide +kernel
theorem dX11_teach_5 : decode cX11_teach 5 = .ok (.bipush 30, 2) := by decide +kernel
theorem dX11_teach_7 : decode cX11_teach 7 = .ok (.invokestatic 99, 3) := by decide +kernel
theorem dX11_teach_10 : decode cX11_teach 10 = .ok (.ifCond .eq 7, 3) := by decide +kernel
theorem dX11_teach_13 : decode cX11_teach 13 = .ok (.iconst 2, 1) := by decide +kernel
theorem dX11_teach_14 : decode cX11_teach 14 = .ok (.goto 4, 3) := by decide +kernel
theorem dX11_teach_17 : decode cX11_teach 17 = .ok (.iconst 0, 1) := by decide +kernel
theorem dX11_teach_18 : decode cX11_teach 18 = .ok (.invokevirtual 263, 3) := by decide +kernel
theorem dX11_teach_21 : decode cX11_teach 21 = .ok (.invokevirtual 103, 3) := by decide +kernel
theorem dX11_teach_24 : decode cX11_teach 24 = .ok (.ifCond .eq 5, 3) := by decide +kernel
theorem dX11_teach_27 : decode cX11_teach 27 = .ok (.iconst (-1), 1) := by decide +kernel
theorem dX11_teach_28 : decode cX11_teach 28 = .ok (.ireturn, 1) := by decide +kernel
theorem dX11_teach_29 : decode cX11_teach 29 = .ok (.aload_n 0, 1) := by decide +kernel
theorem dX11_teach_30 : decode cX11_teach 30 = .ok (.getfield 39, 3) := by decide +kernel
theorem dX11_teach_33 : decode cX11_teach 33 = .ok (.aload_n 0, 1) := by decide +kernel
theorem dX11_teach_34 : decode cX11_teach 34 = .ok (.getfield 32, 3) := by decide +kernel
theorem dX11_teach_37 : decode cX11_teach 37 = .ok (.invokevirtual 348, 3) := by decide +kernel
theorem dX11_teach_40 : decode cX11_teach 40 = .ok (.aload_n 0, 1) := by decide +kernel
theorem dX11_teach_41 : decode cX11_teach 41 = .ok (.getfield 32, 3) := by decide +kernel
theorem dX11_teach_44 : decode cX11_teach 44 = .ok (.getfield 145, 3) := by decide +kernel
theorem dX11_teach_47 : decode cX11_teach 47 = .ok (.iload_n 1, 1) := by decide +kernel
theorem dX11_teach_48 : decode cX11_teach 48 = .ok (.bipush 30, 2) := by decide +kernel
theorem dX11_teach_50 : decode cX11_teach 50 = .ok (.aload_n 0, 1) := by decide +kernel
theorem dX11_teach_51 : decode cX11_teach 51 = .ok (.getfield 32, 3) := by decide +kernel
theorem dX11_teach_54 : decode cX11_teach 54 = .ok (.getfield 145, 3) := by decide +kernel
theorem dX11_teach_57 : decode cX11_teach 57 = .ok (.iload_n 1, 1) := by decide +kernel
theorem dX11_teach_58 : decode cX11_teach 58 = .ok (.iaload, 1) := by decide +kernel
theorem dX11_teach_59 : decode cX11_teach 59 = .ok (.iload_n 2, 1) := by decide +kernel
theorem dX11_teach_60 : decode cX11_teach 60 = .ok (.iadd, 1) := by decide +kernel
theorem dX11_teach_61 : decode cX11_teach 61 = .ok (.invokestatic 358, 3) := by decide +kernel
theorem dX11_teach_64 : decode cX11_teach 64 = .ok (.iastore, 1) := by decide +kernel
theorem dX11_teach_65 : decode cX11_teach 65 = .ok (.aload_n 0, 1) := by decide +kernel
theorem dX11_teach_66 : decode cX11_teach 66 = .ok (.getfield 32, 3) := by decide +kernel
theorem dX11_teach_69 : decode cX11_teach 69 = .ok (.getfield 145, 3) := by decide +kernel
theorem dX11_teach_72 : decode cX11_teach 72 = .ok (.iload_n 1, 1) := by decide +kernel
theorem dX11_teach_73 : decode cX11_teach 73 = .ok (.iaload, 1) := by decide +kernel
theorem dX11_teach_74 : decode cX11_teach 74 = .ok (.ireturn, 1) := by decide +kernel
theorem dX11_rain_0 : decode cX11_rain 0 = .ok (.aload_n 0, 1) := by decide +kernel
theorem dX11_rain_1 : decode cX11_rain 1 = .ok (.aload_n 0, 1) := by decide +kernel
theorem dX11_rain_2 : decode cX11_rain 2 = .ok (.getfield 25, 3) := by decide +kernel
theorem dX11_rain_5 : decode cX11_rain 5 = .ok (.invokevirtual 321, 3) := by decide +kernel
theorem dX11_rain_8 : decode cX11_rain 8 = .ok (.ifCond .ne 7, 3) := by decide +kernel
theorem dX11_rain_11 : decode cX11_rain 11 = .ok (.iconst 1, 1) := by decide +kernel
theorem dX11_rain_12 : decode cX11_rain 12 = .ok (.goto 19, 3) := by decide +kernel
theorem dX11_rain_15 : decode cX11_rain 15 = .ok (.aload_n 0, 1) := by decide +kernel
theorem dX11_rain_16 : decode cX11_rain 16 = .ok (.getfield 32, 3) := by decide +kernel
theorem dX11_rain_19 : decode cX11_rain 19 = .ok (.getfield 363, 3) := by decide +kernel
theorem dX11_rain_22 : decode cX11_rain 22 = .ok (.iload_n 1, 1) := by decide +kernel
theorem dX11_rain_23 : decode cX11_rain 23 = .ok (.if_icmp .ne 7, 3) := by decide +kernel
theorem dX11_rain_26 : decode cX11_rain 26 = .ok (.iconst 5, 1) := by decide +kernel
theorem dX11_rain_27 : decode cX11_rain 27 = .ok (.goto 4, 3) := by decide +kernel
theorem dX11_rain_30 : decode cX11_rain 30 = .ok (.iconst 0, 1) := by decide +kernel
theorem dX11_rain_31 : decode cX11_rain 31 = .ok (.invokevirtual 103, 3) := by decide +kernel
theorem dX11_rain_34 : decode cX11_rain 34 = .ok (.ifCond .eq 5, 3) := by decide +kernel
theorem dX11_rain_37 : decode cX11_rain 37 = .ok (.iconst 0, 1) := by decide +kernel
theorem dX11_rain_38 : decode cX11_rain 38 = .ok (.ireturn, 1) := by decide +kernel
theorem dX11_rain_39 : decode cX11_rain 39 = .ok (.aload_n 0, 1) := by decide +kernel
theorem dX11_rain_40 : decode cX11_rain 40 = .ok (.getfield 39, 3) := by decide +kernel
theorem dX11_rain_43 : decode cX11_rain 43 = .ok (.aload_n 0, 1) := by decide +kernel
theorem dX11_rain_44 : decode cX11_rain 44 = .ok (.getfield 32, 3) := by decide +kernel
theorem dX11_rain_47 : decode cX11_rain 47 = .ok (.invokevirtual 348, 3) := by decide +kernel
theorem dX11_rain_50 : decode cX11_rain 50 = .ok (.aload_n 0, 1) := by decide +kernel
theorem dX11_rain_51 : decode cX11_rain 51 = .ok (.getfield 32, 3) := by decide +kernel
theorem dX11_rain_54 : decode cX11_rain 54 = .ok (.iload_n 1, 1) := by decide +kernel
theorem dX11_rain_55 : decode cX11_rain 55 = .ok (.putfield 363, 3) := by decide +kernel
theorem dX11_rain_58 : decode cX11_rain 58 = .ok (.iconst 1, 1) := by decide +kernel
theorem dX11_rain_59 : decode cX11_rain 59 = .ok (.ireturn, 1) := by decide +kernel
theorem dX11_battle_0 : decode cX11_battle 0 = .ok (.aload_n 0, 1) := by decide +kernel
theorem dX11_battle_1 : decode cX11_battle 1 = .ok (.aload_n 0, 1) := by decide +kernel
theorem dX11_battle_2 : decode cX11_battle 2 = .ok (.invokevirtual 214, 3) := by decide +kernel
theorem dX11_battle_5 : decode cX11_battle 5 = .ok (.invokevirtual 103, 3) := by decide +kernel
theorem dX11_battle_8 : decode cX11_battle 8 = .ok (.ifCond .eq 5, 3) := by decide +kernel
theorem dX11_battle_11 : decode cX11_battle 11 = .ok (.iconst (-1), 1) := by decide +kernel
theorem dX11_battle_12 : decode cX11_battle 12 = .ok (.ireturn, 1) := by decide +kernel
theorem dX11_battle_13 : decode cX11_battle 13 = .ok (.aload_n 0, 1) := by decide +kernel
theorem dX11_battle_14 : decode cX11_battle 14 = .ok (.getfield 39, 3) := by decide +kernel
theorem dX11_battle_17 : decode cX11_battle 17 = .ok (.aload_n 0, 1) := by decide +kernel
theorem dX11_battle_18 : decode cX11_battle 18 = .ok (.getfield 32, 3) := by decide +kernel
theorem dX11_battle_21 : decode cX11_battle 21 = .ok (.invokevirtual 348, 3) := by decide +kernel
theorem dX11_battle_24 : decode cX11_battle 24 = .ok (.aload_n 0, 1) := by decide +kernel
theorem dX11_battle_25 : decode cX11_battle 25 = .ok (.getfield 87, 3) := by decide +kernel
theorem dX11_battle_28 : decode cX11_battle 28 = .ok (.aload_n 0, 1) := by decide +kernel
theorem dX11_battle_29 : decode cX11_battle 29 = .ok (.getfield 32, 3) := by decide +kernel
theorem dX11_battle_32 : decode cX11_battle 32 = .ok (.getfield 367, 3) := by decide +kernel
theorem dX11_battle_35 : decode cX11_battle 35 = .ok (.invokevirtual 370, 3) := by decide +kernel
theorem dX11_battle_38 : decode cX11_battle 38 = .ok (.aload_n 0, 1) := by decide +kernel
theorem dX11_battle_39 : decode cX11_battle 39 = .ok (.getfield 87, 3) := by decide +kernel
theorem dX11_battle_42 : decode cX11_battle 42 = .ok (.invokevirtual 373, 3) := by decide +kernel
theorem dX11_battle_45 : decode cX11_battle 45 = .ok (.aload_n 0, 1) := by decide +kernel
theorem dX11_battle_46 : decode cX11_battle 46 = .ok (.getfield 87, 3) := by decide +kernel
theorem dX11_battle_49 : decode cX11_battle 49 = .ok (.getfield 376, 3) := by decide +kernel
theorem dX11_battle_52 : decode cX11_battle 52 = .ok (.ireturn, 1) := by decide +kernel
theorem dX11_seed_0 : decode cX11_seed 0 = .ok (.aload_n 0, 1) := by decide +kernel
theorem dX11_seed_1 : decode cX11_seed 1 = .ok (.aload_n 0, 1) := by decide +kernel
theorem dX11_seed_2 : decode cX11_seed 2 = .ok (.getfield 25, 3) := by decide +kernel
theorem dX11_seed_5 : decode cX11_seed 5 = .ok (.invokevirtual 321, 3) := by decide +kernel
theorem dX11_seed_8 : decode cX11_seed 8 = .ok (.ifCond .ne 7, 3) := by decide +kernel
theorem dX11_seed_11 : decode cX11_seed 11 = .ok (.iconst 1, 1) := by decide +kernel
theorem dX11_seed_12 : decode cX11_seed 12 = .ok (.goto 19, 3) := by decide +kernel
theorem dX11_seed_15 : decode cX11_seed 15 = .ok (.iload_n 1, 1) := by decide +kernel
theorem dX11_seed_16 : decode cX11_seed 16 = .ok (.iconst 0, 1) := by decide +kernel
theorem dX11_seed_17 : decode cX11_seed 17 = .ok (.ldc_w 379, 3) := by decide +kernel
theorem dX11_seed_20 : decode cX11_seed 20 = .ok (.invokestatic 99, 3) := by decide +kernel
theorem dX11_seed_23 : decode cX11_seed 23 = .ok (.ifCond .eq 7, 3) := by decide +kernel
theorem dX11_seed_26 : decode cX11_seed 26 = .ok (.iconst 2, 1) := by decide +kernel
theorem dX11_seed_27 : decode cX11_seed 27 = .ok (.goto 4, 3) := by decide +kernel
theorem dX11_seed_30 : decode cX11_seed 30 = .ok (.iconst 0, 1) := by decide +kernel
theorem dX11_seed_31 : decode cX11_seed 31 = .ok (.invokevirtual 103, 3) := by decide +kernel
theorem dX11_seed_34 : decode cX11_seed 34 = .ok (.ifCond .eq 5, 3) := by decide +kernel
theorem dX11_seed_37 : decode cX11_seed 37 = .ok (.iconst 0, 1) := by decide +kernel
theorem dX11_seed_38 : decode cX11_seed 38 = .ok (.ireturn, 1) := by decide +kernel
theorem dX11_seed_39 : decode cX11_seed 39 = .ok (.aload_n 0, 1) := by decide +kernel
theorem dX11_seed_40 : decode cX11_seed 40 = .ok (.getfield 32, 3) := by decide +kernel
theorem dX11_seed_43 : decode cX11_seed 43 = .ok (.iload_n 1, 1) := by decide +kernel
theorem dX11_seed_44 : decode cX11_seed 44 = .ok (.putfield 367, 3) := by decide +kernel
theorem dX11_seed_47 : decode cX11_seed 47 = .ok (.iconst 1, 1) := by decide +kernel
theorem dX11_seed_48 : decode cX11_seed 48 = .ok (.ireturn, 1) := by decide +kernel
theorem dX11_undo_0 : decode cX11_undo 0 = .ok (.aload_n 0, 1) := by decide +kernel
theorem dX11_undo_1 : decode cX11_undo 1 = .ok (.aload_n 0, 1) := by decide +kernel
theorem dX11_undo_2 : decode cX11_undo 2 = .ok (.getfield 39, 3) := by decide +kernel
theorem dX11_undo_5 : decode cX11_undo 5 = .ok (.aload_n 0, 1) := by decide +kernel
theorem dX11_undo_6 : decode cX11_undo 6 = .ok (.getfield 32, 3) := by decide +kernel
theorem dX11_undo_9 : decode cX11_undo 9 = .ok (.invokevirtual 380, 3) := by decide +kernel
theorem dX11_undo_12 : decode cX11_undo 12 = .ok (.ifCond .eq 7, 3) := by decide +kernel
theorem dX11_undo_15 : decode cX11_undo 15 = .ok (.iconst 0, 1) := by decide +kernel
theorem dX11_undo_16 : decode cX11_undo 16 = .ok (.goto 5, 3) := by decide +kernel
theorem dX11_undo_19 : decode cX11_undo 19 = .ok (.bipush 6, 2) := by decide +kernel
theorem dX11_undo_21 : decode cX11_undo 21 = .ok (.invokevirtual 103, 3) := by decide +kernel
theorem dX11_undo_24 : decode cX11_undo 24 = .ok (.ifCond .ne 7, 3) := by decide +kernel
theorem dX11_undo_27 : decode cX11_undo 27 = .ok (.iconst 1, 1) := by decide +kernel
theorem dX11_undo_28 : decode cX11_undo 28 = .ok (.goto 4, 3) := by decide +kernel
theorem dX11_undo_31 : decode cX11_undo 31 = .ok (.iconst 0, 1) := by decide +kernel
theorem dX11_undo_32 : decode cX11_undo 32 = .ok (.ireturn, 1) := by decide +kernel
theorem dX11_mark_0 : decode cX11_mark 0 = .ok (.aload_n 0, 1) := by decide +kernel
theorem dX11_mark_1 : decode cX11_mark 1 = .ok (.aload_n 0, 1) := by decide +kernel
theorem dX11_mark_2 : decode cX11_mark 2 = .ok (.getfield 25, 3) := by decide +kernel
theorem dX11_mark_5 : decode cX11_mark 5 = .ok (.invokevirtual 321, 3) := by decide +kernel
theorem dX11_mark_8 : decode cX11_mark 8 = .ok (.ifCond .ne 7, 3) := by decide +kernel
theorem dX11_mark_11 : decode cX11_mark 11 = .ok (.iconst 1, 1) := by decide +kernel
theorem dX11_mark_12 : decode cX11_mark 12 = .ok (.goto 19, 3) := by decide +kernel
theorem dX11_mark_15 : decode cX11_mark 15 = .ok (.aload_n 0, 1) := by decide +kernel
theorem dX11_mark_16 : decode cX11_mark 16 = .ok (.getfield 39, 3) := by decide +kernel
theorem dX11_mark_19 : decode cX11_mark 19 = .ok (.getfield 384, 3) := by decide +kernel
theorem dX11_mark_22 : decode cX11_mark 22 = .ok (.iconst 3, 1) := by decide +kernel
theorem dX11_mark_23 : decode cX11_mark 23 = .ok (.if_icmp .lt 7, 3) := by decide +kernel
theorem dX11_mark_26 : decode cX11_mark 26 = .ok (.iconst 3, 1) := by decide +kernel
theorem dX11_mark_27 : decode cX11_mark 27 = .ok (.goto 4, 3) := by decide +kernel
theorem dX11_mark_30 : decode cX11_mark 30 = .ok (.iconst 0, 1) := by decide +kernel
theorem dX11_mark_31 : decode cX11_mark 31 = .ok (.invokevirtual 103, 3) := by decide +kernel
theorem dX11_mark_34 : decode cX11_mark 34 = .ok (.ifCond .eq 5, 3) := by decide +kernel
theorem dX11_mark_37 : decode cX11_mark 37 = .ok (.iconst (-1), 1) := by decide +kernel
theorem dX11_mark_38 : decode cX11_mark 38 = .ok (.ireturn, 1) := by decide +kernel
theorem dX11_mark_39 : decode cX11_mark 39 = .ok (.aload_n 0, 1) := by decide +kernel
theorem dX11_mark_40 : decode cX11_mark 40 = .ok (.getfield 39, 3) := by decide +kernel
theorem dX11_mark_43 : decode cX11_mark 43 = .ok (.aload_n 0, 1) := by decide +kernel
theorem dX11_mark_44 : decode cX11_mark 44 = .ok (.getfield 32, 3) := by decide +kernel
theorem dX11_mark_47 : decode cX11_mark 47 = .ok (.invokevirtual 387, 3) := by decide +kernel
theorem dX11_mark_50 : decode cX11_mark 50 = .ok (.ireturn, 1) := by decide +kernel
theorem dX11_back_0 : decode cX11_back 0 = .ok (.aload_n 0, 1) := by decide +kernel
theorem dX11_back_1 : decode cX11_back 1 = .ok (.aload_n 0, 1) := by decide +kernel
theorem dX11_back_2 : decode cX11_back 2 = .ok (.getfield 39, 3) := by decide +kernel
theorem dX11_back_5 : decode cX11_back 5 = .ok (.iload_n 1, 1) := by decide +kernel
theorem dX11_back_6 : decode cX11_back 6 = .ok (.aload_n 0, 1) := by decide +kernel
theorem dX11_back_7 : decode cX11_back 7 = .ok (.getfield 32, 3) := by decide +kernel
theorem dX11_back_10 : decode cX11_back 10 = .ok (.invokevirtual 391, 3) := by decide +kernel
theorem dX11_back_13 : decode cX11_back 13 = .ok (.ifCond .eq 7, 3) := by decide +kernel
theorem dX11_back_16 : decode cX11_back 16 = .ok (.iconst 0, 1) := by decide +kernel
theorem dX11_back_17 : decode cX11_back 17 = .ok (.goto 4, 3) := by decide +kernel
theorem dX11_back_20 : decode cX11_back 20 = .ok (.iconst 1, 1) := by decide +kernel
theorem dX11_back_21 : decode cX11_back 21 = .ok (.invokevirtual 103, 3) := by decide +kernel
theorem dX11_back_24 : decode cX11_back 24 = .ok (.ifCond .ne 7, 3) := by decide +kernel
theorem dX11_back_27 : decode cX11_back 27 = .ok (.iconst 1, 1) := by decide +kernel
theorem dX11_back_28 : decode cX11_back 28 = .ok (.goto 4, 3) := by decide +kernel
theorem dX11_back_31 : decode cX11_back 31 = .ok (.iconst 0, 1) := by decide +kernel
theorem dX11_back_32 : decode cX11_back 32 = .ok (.ireturn, 1) := by decide +kernel
theorem dX11_led_0 : decode cX11_led 0 = .ok (.iconst 0, 1) := by decide +kernel
theorem dX11_led_1 : decode cX11_led 1 = .ok (.istore_n 2, 1) := by decide +kernel
theorem dX11_led_2 : decode cX11_led 2 = .ok (.iconst 0, 1) := by decide +kernel
theorem dX11_led_3 : decode cX11_led 3 = .ok (.istore_n 3, 1) := by decide +kernel
theorem dX11_led_4 : decode cX11_led 4 = .ok (.iload_n 3, 1) := by decide +kernel
theorem dX11_led_5 : decode cX11_led 5 = .ok (.aload_n 0, 1) := by decide +kernel
theorem dX11_led_6 : decode cX11_led 6 = .ok (.getfield 25, 3) := by decide +kernel
theorem dX11_led_9 : decode cX11_led 9 = .ok (.getfield 132, 3) := by decide +kernel
theorem dX11_led_12 : decode cX11_led 12 = .ok (.if_icmp .ge 30, 3) := by decide +kernel
theorem dX11_led_15 : decode cX11_led 15 = .ok (.aload_n 0, 1) := by decide +kernel
theorem dX11_led_16 : decode cX11_led 16 = .ok (.getfield 32, 3) := by decide +kernel
theorem dX11_led_19 : decode cX11_led 19 = .ok (.iload_n 3, 1) := by decide +kernel
theorem dX11_led_20 : decode cX11_led 20 = .ok (.invokevirtual 176, 3) := by decide +kernel
theorem dX11_led_23 : decode cX11_led 23 = .ok (.ifCond .eq 13, 3) := by decide +kernel
theorem dX11_led_26 : decode cX11_led 26 = .ok (.iload_n 2, 1) := by decide +kernel
theorem dX11_led_27 : decode cX11_led 27 = .ok (.iload_n 1, 1) := by decide +kernel
theorem dX11_led_28 : decode cX11_led 28 = .ok (.if_icmp .ne 5, 3) := by decide +kernel
theorem dX11_led_31 : decode cX11_led 31 = .ok (.iload_n 3, 1) := by decide +kernel
theorem dX11_led_32 : decode cX11_led 32 = .ok (.ireturn, 1) := by decide +kernel
theorem dX11_led_33 : decode cX11_led 33 = .ok (.iinc 2 1, 3) := by decide +kernel
theorem dX11_led_36 : decode cX11_led 36 = .ok (.iinc 3 1, 3) := by decide +kernel
theorem dX11_led_39 : decode cX11_led 39 = .ok (.goto (-35), 3) := by decide +kernel
theorem dX11_led_42 : decode cX11_led 42 = .ok (.new 395, 3) := by decide +kernel
theorem dX11_led_45 : decode cX11_led 45 = .ok (.dup, 1) := by decide +kernel
theorem dX11_led_46 : decode cX11_led 46 = .ok (.ldc_w 397, 3) := by decide +kernel
theorem dX11_led_49 : decode cX11_led 49 = .ok (.invokespecial 399, 3) := by decide +kernel
theorem dX11_led_52 : decode cX11_led 52 = .ok (.athrow, 1) := by decide +kernel
theorem dX11_size_0 : decode cX11_size 0 = .ok (.iload_n 1, 1) := by decide +kernel
theorem dX11_size_1 : decode cX11_size 1 = .ok (.tableswitch 170 0 11 #[63, 71, 79, 90, 98, 106, 114, 125, 141, 149, 157, 165], 63) := by decide +kernel
theorem dX11_size_64 : decode cX11_size 64 = .ok (.aload_n 0, 1) := by decide +kernel
theorem dX11_size_65 : decode cX11_size 65 = .ok (.getfield 25, 3) := by decide +kernel
theorem dX11_size_68 : decode cX11_size 68 = .ok (.getfield 402, 3) := by decide +kernel
theorem dX11_size_71 : decode cX11_size 71 = .ok (.ireturn, 1) := by decide +kernel
theorem dX11_size_72 : decode cX11_size 72 = .ok (.aload_n 0, 1) := by decide +kernel
theorem dX11_size_73 : decode cX11_size 73 = .ok (.getfield 25, 3) := by decide +kernel
theorem dX11_size_76 : decode cX11_size 76 = .ok (.getfield 405, 3) := by decide +kernel
theorem dX11_size_79 : decode cX11_size 79 = .ok (.ireturn, 1) := by decide +kernel
theorem dX11_size_80 : decode cX11_size 80 = .ok (.aload_n 0, 1) := by decide +kernel
theorem dX11_size_81 : decode cX11_size 81 = .ok (.getfield 25, 3) := by decide +kernel
theorem dX11_size_84 : decode cX11_size 84 = .ok (.getfield 408, 3) := by decide +kernel
theorem dX11_size_87 : decode cX11_size 87 = .ok (.invokestatic 411, 3) := by decide +kernel
theorem dX11_size_90 : decode cX11_size 90 = .ok (.ireturn, 1) := by decide +kernel
theorem dX11_size_91 : decode cX11_size 91 = .ok (.aload_n 0, 1) := by decide +kernel
theorem dX11_size_92 : decode cX11_size 92 = .ok (.getfield 25, 3) := by decide +kernel
theorem dX11_size_95 : decode cX11_size 95 = .ok (.getfield 132, 3) := by decide +kernel
theorem dX11_size_98 : decode cX11_size 98 = .ok (.ireturn, 1) := by decide +kernel
theorem dX11_size_99 : decode cX11_size 99 = .ok (.aload_n 0, 1) := by decide +kernel
theorem dX11_size_100 : decode cX11_size 100 = .ok (.getfield 25, 3) := by decide +kernel
theorem dX11_size_103 : decode cX11_size 103 = .ok (.getfield 416, 3) := by decide +kernel
theorem dX11_size_106 : decode cX11_size 106 = .ok (.ireturn, 1) := by decide +kernel
theorem dX11_size_107 : decode cX11_size 107 = .ok (.aload_n 0, 1) := by decide +kernel
theorem dX11_size_108 : decode cX11_size 108 = .ok (.getfield 25, 3) := by decide +kernel
theorem dX11_size_111 : decode cX11_size 111 = .ok (.getfield 419, 3) := by decide +kernel
theorem dX11_size_114 : decode cX11_size 114 = .ok (.ireturn, 1) := by decide +kernel
theorem dX11_size_115 : decode cX11_size 115 = .ok (.aload_n 0, 1) := by decide +kernel
theorem dX11_size_116 : decode cX11_size 116 = .ok (.getfield 25, 3) := by decide +kernel
theorem dX11_size_119 : decode cX11_size 119 = .ok (.getfield 422, 3) := by decide +kernel
theorem dX11_size_122 : decode cX11_size 122 = .ok (.invokestatic 411, 3) := by decide +kernel
theorem dX11_size_125 : decode cX11_size 125 = .ok (.ireturn, 1) := by decide +kernel
theorem dX11_size_126 : decode cX11_size 126 = .ok (.aload_n 0, 1) := by decide +kernel
theorem dX11_size_127 : decode cX11_size 127 = .ok (.getfield 32, 3) := by decide +kernel
theorem dX11_size_130 : decode cX11_size 130 = .ok (.getfield 363, 3) := by decide +kernel
theorem dX11_size_133 : decode cX11_size 133 = .ok (.ifCond .eq 7, 3) := by decide +kernel
theorem dX11_size_136 : decode cX11_size 136 = .ok (.iconst 1, 1) := by decide +kernel
theorem dX11_size_137 : decode cX11_size 137 = .ok (.goto 4, 3) := by decide +kernel
theorem dX11_size_140 : decode cX11_size 140 = .ok (.iconst 0, 1) := by decide +kernel
theorem dX11_size_141 : decode cX11_size 141 = .ok (.ireturn, 1) := by decide +kernel
theorem dX11_size_142 : decode cX11_size 142 = .ok (.aload_n 0, 1) := by decide +kernel
theorem dX11_size_143 : decode cX11_size 143 = .ok (.getfield 32, 3) := by decide +kernel
theorem dX11_size_146 : decode cX11_size 146 = .ok (.getfield 367, 3) := by decide +kernel
theorem dX11_size_149 : decode cX11_size 149 = .ok (.ireturn, 1) := by decide +kernel
theorem dX11_size_150 : decode cX11_size 150 = .ok (.aload_n 0, 1) := by decide +kernel
theorem dX11_size_151 : decode cX11_size 151 = .ok (.getfield 39, 3) := by decide +kernel
theorem dX11_size_154 : decode cX11_size 154 = .ok (.getfield 425, 3) := by decide +kernel
theorem dX11_size_157 : decode cX11_size 157 = .ok (.ireturn, 1) := by decide +kernel
theorem dX11_size_158 : decode cX11_size 158 = .ok (.aload_n 0, 1) := by decide +kernel
theorem dX11_size_159 : decode cX11_size 159 = .ok (.getfield 39, 3) := by decide +kernel
theorem dX11_size_162 : decode cX11_size 162 = .ok (.getfield 384, 3) := by decide +kernel
theorem dX11_size_165 : decode cX11_size 165 = .ok (.ireturn, 1) := by decide +kernel
theorem dX11_size_166 : decode cX11_size 166 = .ok (.aload_n 0, 1) := by decide +kernel
theorem dX11_size_167 : decode cX11_size 167 = .ok (.getfield 91, 3) := by decide +kernel
theorem dX11_size_170 : decode cX11_size 170 = .ok (.ireturn, 1) := by decide +kernel
theorem dX11_size_171 : decode cX11_size 171 = .ok (.iconst (-1), 1) := by decide +kernel
theorem dX11_size_172 : decode cX11_size 172 = .ok (.ireturn, 1) := by decide +kernel
theorem dX11_trouble_0 : decode cX11_trouble 0 = .ok (.aload_n 0, 1) := by decide +kernel
theorem dX11_trouble_1 : decode cX11_trouble 1 = .ok (.getfield 135, 3) := by decide +kernel
theorem dX11_trouble_4 : decode cX11_trouble 4 = .ok (.ireturn, 1) := by decide +kernel
theorem dX11_outside_0 : decode cX11_outside 0 = .ok (.iload_n 0, 1) := by decide +kernel
theorem dX11_outside_1 : decode cX11_outside 1 = .ok (.iload_n 1, 1) := by decide +kernel
theorem dX11_outside_2 : decode cX11_outside 2 = .ok (.if_icmp .lt 8, 3) := by decide +kernel
theorem dX11_outside_5 : decode cX11_outside 5 = .ok (.iload_n 0, 1) := by decide +kernel
theorem dX11_outside_6 : decode cX11_outside 6 = .ok (.iload_n 2, 1) := by decide +kernel
theorem dX11_outside_7 : decode cX11_outside 7 = .ok (.if_icmp .le 7, 3) := by decide +kernel
theorem dX11_outside_10 : decode cX11_outside 10 = .ok (.iconst 1, 1) := by decide +kernel
theorem dX11_outside_11 : decode cX11_outside 11 = .ok (.goto 4, 3) := by decide +kernel
theorem dX11_outside_14 : decode cX11_outside 14 = .ok (.iconst 0, 1) := by decide +kernel
theorem dX11_outside_15 : decode cX11_outside 15 = .ok (.ireturn, 1) := by decide +kernel
theorem dX11_append_0 : decode cX11_append 0 = .ok (.bipush 24, 2) := by decide +kernel
theorem dX11_append_2 : decode cX11_append 2 = .ok (.istore_n 2, 1) := by decide +kernel
theorem dX11_append_3 : decode cX11_append 3 = .ok (.iload_n 2, 1) := by decide +kernel
theorem dX11_append_4 : decode cX11_append 4 = .ok (.ifCond .lt 44, 3) := by decide +kernel
theorem dX11_append_7 : decode cX11_append 7 = .ok (.aload_n 0, 1) := by decide +kernel
theorem dX11_append_8 : decode cX11_append 8 = .ok (.getfield 91, 3) := by decide +kernel
theorem dX11_append_11 : decode cX11_append 11 = .ok (.aload_n 0, 1) := by decide +kernel
theorem dX11_append_12 : decode cX11_append 12 = .ok (.getfield 9, 3) := by decide +kernel
theorem dX11_append_15 : decode cX11_append 15 = .ok (.arraylength, 1) := by decide +kernel
theorem dX11_append_16 : decode cX11_append 16 = .ok (.if_icmp .ge 26, 3) := by decide +kernel
theorem dX11_append_19 : decode cX11_append 19 = .ok (.aload_n 0, 1) := by decide +kernel
theorem dX11_append_20 : decode cX11_append 20 = .ok (.getfield 9, 3) := by decide +kernel
theorem dX11_append_23 : decode cX11_append 23 = .ok (.aload_n 0, 1) := by decide +kernel
theorem dX11_append_24 : decode cX11_append 24 = .ok (.getfield 91, 3) := by decide +kernel
theorem dX11_append_27 : decode cX11_append 27 = .ok (.iload_n 1, 1) := by decide +kernel
theorem dX11_append_28 : decode cX11_append 28 = .ok (.iload_n 2, 1) := by decide +kernel
theorem dX11_append_29 : decode cX11_append 29 = .ok (.ishr, 1) := by decide +kernel
theorem dX11_append_30 : decode cX11_append 30 = .ok (.i2b, 1) := by decide +kernel
theorem dX11_append_31 : decode cX11_append 31 = .ok (.bastore, 1) := by decide +kernel
theorem dX11_append_32 : decode cX11_append 32 = .ok (.aload_n 0, 1) := by decide +kernel
theorem dX11_append_33 : decode cX11_append 33 = .ok (.dup, 1) := by decide +kernel
theorem dX11_append_34 : decode cX11_append 34 = .ok (.getfield 91, 3) := by decide +kernel
theorem dX11_append_37 : decode cX11_append 37 = .ok (.iconst 1, 1) := by decide +kernel
theorem dX11_append_38 : decode cX11_append 38 = .ok (.iadd, 1) := by decide +kernel
theorem dX11_append_39 : decode cX11_append 39 = .ok (.putfield 91, 3) := by decide +kernel
theorem dX11_append_42 : decode cX11_append 42 = .ok (.iinc 2 (-8), 3) := by decide +kernel
theorem dX11_append_45 : decode cX11_append 45 = .ok (.goto (-42), 3) := by decide +kernel
theorem dX11_append_48 : decode cX11_append 48 = .ok (.return_, 1) := by decide +kernel
theorem dX11_isRefused_0 : decode cX11_isRefused 0 = .ok (.aload_n 0, 1) := by decide +kernel
theorem dX11_isRefused_1 : decode cX11_isRefused 1 = .ok (.iload_n 1, 1) := by decide +kernel
theorem dX11_isRefused_2 : decode cX11_isRefused 2 = .ok (.putfield 135, 3) := by decide +kernel
theorem dX11_isRefused_5 : decode cX11_isRefused 5 = .ok (.iload_n 1, 1) := by decide +kernel
theorem dX11_isRefused_6 : decode cX11_isRefused 6 = .ok (.ifCond .eq 7, 3) := by decide +kernel
theorem dX11_isRefused_9 : decode cX11_isRefused 9 = .ok (.iconst 1, 1) := by decide +kernel
theorem dX11_isRefused_10 : decode cX11_isRefused 10 = .ok (.goto 4, 3) := by decide +kernel
theorem dX11_isRefused_13 : decode cX11_isRefused 13 = .ok (.iconst 0, 1) := by decide +kernel
theorem dX11_isRefused_14 : decode cX11_isRefused 14 = .ok (.ireturn, 1) := by decide +kernel
theorem dX11_warTrouble_0 : decode cX11_warTrouble 0 = .ok (.aload_n 0, 1) := by decide +kernel
theorem dX11_warTrouble_1 : decode cX11_warTrouble 1 = .ok (.getfield 25, 3) := by decide +kernel
theorem dX11_warTrouble_4 : decode cX11_warTrouble 4 = .ok (.invokevirtual 321, 3) := by decide +kernel
theorem dX11_warTrouble_7 : decode cX11_warTrouble 7 = .ok (.ifCond .eq 7, 3) := by decide +kernel
theorem dX11_warTrouble_10 : decode cX11_warTrouble 10 = .ok (.iconst 0, 1) := by decide +kernel
theorem dX11_warTrouble_11 : decode cX11_warTrouble 11 = .ok (.goto 4, 3) := by decide +kernel
theorem dX11_warTrouble_14 : decode cX11_warTrouble 14 = .ok (.iconst 1, 1) := by decide +kernel
theorem dX11_warTrouble_15 : decode cX11_warTrouble 15 = .ok (.ireturn, 1) := by decide +kernel
theorem dX11_beastTrouble_0 : decode cX11_beastTrouble 0 = .ok (.aload_n 0, 1) := by decide +kernel
theorem dX11_beastTrouble_1 : decode cX11_beastTrouble 1 = .ok (.getfield 25, 3) := by decide +kernel
theorem dX11_beastTrouble_4 : decode cX11_beastTrouble 4 = .ok (.iload_n 1, 1) := by decide +kernel
theorem dX11_beastTrouble_5 : decode cX11_beastTrouble 5 = .ok (.invokevirtual 152, 3) := by decide +kernel
theorem dX11_beastTrouble_8 : decode cX11_beastTrouble 8 = .ok (.ifCond .eq 7, 3) := by decide +kernel
theorem dX11_beastTrouble_11 : decode cX11_beastTrouble 11 = .ok (.iconst 0, 1) := by decide +kernel
theorem dX11_beastTrouble_12 : decode cX11_beastTrouble 12 = .ok (.goto 4, 3) := by decide +kernel
theorem dX11_beastTrouble_15 : decode cX11_beastTrouble 15 = .ok (.iconst 1, 1) := by decide +kernel
theorem dX11_beastTrouble_16 : decode cX11_beastTrouble 16 = .ok (.ireturn, 1) := by decide +kernel
theorem dX11_meetingTrouble_0 : decode cX11_meetingTrouble 0 = .ok (.aload_n 0, 1) := by decide +kernel
theorem dX11_meetingTrouble_1 : decode cX11_meetingTrouble 1 = .ok (.getfield 25, 3) := by decide +kernel
theorem dX11_meetingTrouble_4 : decode cX11_meetingTrouble 4 = .ok (.iload_n 1, 1) := by decide +kernel
theorem dX11_meetingTrouble_5 : decode cX11_meetingTrouble 5 = .ok (.invokevirtual 152, 3) := by decide +kernel
theorem dX11_meetingTrouble_8 : decode cX11_meetingTrouble 8 = .ok (.ifCond .eq 18, 3) := by decide +kernel
theorem dX11_meetingTrouble_11 : decode cX11_meetingTrouble 11 = .ok (.aload_n 0, 1) := by decide +kernel
theorem dX11_meetingTrouble_12 : decode cX11_meetingTrouble 12 = .ok (.getfield 25, 3) := by decide +kernel
theorem dX11_meetingTrouble_15 : decode cX11_meetingTrouble 15 = .ok (.iload_n 2, 1) := by decide +kernel
theorem dX11_meetingTrouble_16 : decode cX11_meetingTrouble 16 = .ok (.invokevirtual 138, 3) := by decide +kernel
theorem dX11_meetingTrouble_19 : decode cX11_meetingTrouble 19 = .ok (.ifCond .eq 7, 3) := by decide +kernel
theorem dX11_meetingTrouble_22 : decode cX11_meetingTrouble 22 = .ok (.iconst 0, 1) := by decide +kernel
theorem dX11_meetingTrouble_23 : decode cX11_meetingTrouble 23 = .ok (.goto 4, 3) := by decide +kernel
theorem dX11_meetingTrouble_26 : decode cX11_meetingTrouble 26 = .ok (.iconst 1, 1) := by decide +kernel
theorem dX11_meetingTrouble_27 : decode cX11_meetingTrouble 27 = .ok (.ireturn, 1) := by decide +kernel
theorem dX11_cityTrouble_0 : decode cX11_cityTrouble 0 = .ok (.aload_n 0, 1) := by decide +kernel
theorem dX11_cityTrouble_1 : decode cX11_cityTrouble 1 = .ok (.getfield 25, 3) := by decide +kernel
theorem dX11_cityTrouble_4 : decode cX11_cityTrouble 4 = .ok (.iload_n 1, 1) := by decide +kernel
theorem dX11_cityTrouble_5 : decode cX11_cityTrouble 5 = .ok (.invokevirtual 428, 3) := by decide +kernel
theorem dX11_cityTrouble_8 : decode cX11_cityTrouble 8 = .ok (.ifCond .eq 7, 3) := by decide +kernel
theorem dX11_cityTrouble_11 : decode cX11_cityTrouble 11 = .ok (.iconst 0, 1) := by decide +kernel
theorem dX11_cityTrouble_12 : decode cX11_cityTrouble 12 = .ok (.goto 4, 3) := by decide +kernel
theorem dX11_cityTrouble_15 : decode cX11_cityTrouble 15 = .ok (.iconst 1, 1) := by decide +kernel
theorem dX11_cityTrouble_16 : decode cX11_cityTrouble 16 = .ok (.ireturn, 1) := by decide +kernel
theorem dX11_moveTrouble_0 : decode cX11_moveTrouble 0 = .ok (.aload_n 0, 1) := by decide +kernel
theorem dX11_moveTrouble_1 : decode cX11_moveTrouble 1 = .ok (.getfield 25, 3) := by decide +kernel
theorem dX11_moveTrouble_4 : decode cX11_moveTrouble 4 = .ok (.iload_n 1, 1) := by decide +kernel
theorem dX11_moveTrouble_5 : decode cX11_moveTrouble 5 = .ok (.invokevirtual 152, 3) := by decide +kernel
theorem dX11_moveTrouble_8 : decode cX11_moveTrouble 8 = .ok (.ifCond .eq 14, 3) := by decide +kernel
theorem dX11_moveTrouble_11 : decode cX11_moveTrouble 11 = .ok (.aload_n 0, 1) := by decide +kernel
theorem dX11_moveTrouble_12 : decode cX11_moveTrouble 12 = .ok (.getfield 25, 3) := by decide +kernel
theorem dX11_moveTrouble_15 : decode cX11_moveTrouble 15 = .ok (.iload_n 2, 1) := by decide +kernel
theorem dX11_moveTrouble_16 : decode cX11_moveTrouble 16 = .ok (.invokevirtual 138, 3) := by decide +kernel
theorem dX11_moveTrouble_19 : decode cX11_moveTrouble 19 = .ok (.ifCond .ne 5, 3) := by decide +kernel
theorem dX11_moveTrouble_22 : decode cX11_moveTrouble 22 = .ok (.iconst 1, 1) := by decide +kernel
theorem dX11_moveTrouble_23 : decode cX11_moveTrouble 23 = .ok (.ireturn, 1) := by decide +kernel
theorem dX11_moveTrouble_24 : decode cX11_moveTrouble 24 = .ok (.aload_n 0, 1) := by decide +kernel
theorem dX11_moveTrouble_25 : decode cX11_moveTrouble 25 = .ok (.getfield 32, 3) := by decide +kernel
theorem dX11_moveTrouble_28 : decode cX11_moveTrouble 28 = .ok (.iload_n 1, 1) := by decide +kernel
theorem dX11_moveTrouble_29 : decode cX11_moveTrouble 29 = .ok (.invokevirtual 176, 3) := by decide +kernel
theorem dX11_moveTrouble_32 : decode cX11_moveTrouble 32 = .ok (.ifCond .ne 16, 3) := by decide +kernel
theorem dX11_moveTrouble_35 : decode cX11_moveTrouble 35 = .ok (.aload_n 0, 1) := by decide +kernel
theorem dX11_moveTrouble_36 : decode cX11_moveTrouble 36 = .ok (.getfield 32, 3) := by decide +kernel
theorem dX11_moveTrouble_39 : decode cX11_moveTrouble 39 = .ok (.getfield 158, 3) := by decide +kernel
theorem dX11_moveTrouble_42 : decode cX11_moveTrouble 42 = .ok (.iload_n 1, 1) := by decide +kernel
theorem dX11_moveTrouble_43 : decode cX11_moveTrouble 43 = .ok (.iaload, 1) := by decide +kernel
theorem dX11_moveTrouble_44 : decode cX11_moveTrouble 44 = .ok (.iload_n 2, 1) := by decide +kernel
theorem dX11_moveTrouble_45 : decode cX11_moveTrouble 45 = .ok (.if_icmp .ne 7, 3) := by decide +kernel
theorem dX11_moveTrouble_48 : decode cX11_moveTrouble 48 = .ok (.iconst 5, 1) := by decide +kernel
theorem dX11_moveTrouble_49 : decode cX11_moveTrouble 49 = .ok (.goto 4, 3) := by decide +kernel
theorem dX11_moveTrouble_52 : decode cX11_moveTrouble 52 = .ok (.iconst 0, 1) := by decide +kernel
theorem dX11_moveTrouble_53 : decode cX11_moveTrouble 53 = .ok (.ireturn, 1) := by decide +kernel
theorem dX11_livingTrouble_0 : decode cX11_livingTrouble 0 = .ok (.aload_n 0, 1) := by decide +kernel
theorem dX11_livingTrouble_1 : decode cX11_livingTrouble 1 = .ok (.getfield 25, 3) := by decide +kernel
theorem dX11_livingTrouble_4 : decode cX11_livingTrouble 4 = .ok (.iload_n 1, 1) := by decide +kernel
theorem dX11_livingTrouble_5 : decode cX11_livingTrouble 5 = .ok (.invokevirtual 152, 3) := by decide +kernel
theorem dX11_livingTrouble_8 : decode cX11_livingTrouble 8 = .ok (.ifCond .ne 5, 3) := by decide +kernel
theorem dX11_livingTrouble_11 : decode cX11_livingTrouble 11 = .ok (.iconst 1, 1) := by decide +kernel
theorem dX11_livingTrouble_12 : decode cX11_livingTrouble 12 = .ok (.ireturn, 1) := by decide +kernel
theorem dX11_livingTrouble_13 : decode cX11_livingTrouble 13 = .ok (.iload_n 2, 1) := by decide +kernel
theorem dX11_livingTrouble_14 : decode cX11_livingTrouble 14 = .ok (.ifCond .eq 5, 3) := by decide +kernel
theorem dX11_livingTrouble_17 : decode cX11_livingTrouble 17 = .ok (.iload_n 2, 1) := by decide +kernel
theorem dX11_livingTrouble_18 : decode cX11_livingTrouble 18 = .ok (.ireturn, 1) := by decide +kernel
theorem dX11_livingTrouble_19 : decode cX11_livingTrouble 19 = .ok (.aload_n 0, 1) := by decide +kernel
theorem dX11_livingTrouble_20 : decode cX11_livingTrouble 20 = .ok (.getfield 32, 3) := by decide +kernel
theorem dX11_livingTrouble_23 : decode cX11_livingTrouble 23 = .ok (.iload_n 1, 1) := by decide +kernel
theorem dX11_livingTrouble_24 : decode cX11_livingTrouble 24 = .ok (.invokevirtual 176, 3) := by decide +kernel
theorem dX11_livingTrouble_27 : decode cX11_livingTrouble 27 = .ok (.ifCond .eq 7, 3) := by decide +kernel
theorem dX11_livingTrouble_30 : decode cX11_livingTrouble 30 = .ok (.iconst 5, 1) := by decide +kernel
theorem dX11_livingTrouble_31 : decode cX11_livingTrouble 31 = .ok (.goto 4, 3) := by decide +kernel
theorem dX11_livingTrouble_34 : decode cX11_livingTrouble 34 = .ok (.iconst 0, 1) := by decide +kernel
theorem dX11_livingTrouble_35 : decode cX11_livingTrouble 35 = .ok (.ireturn, 1) := by decide +kernel
theorem dX11_horseTrouble_0 : decode cX11_horseTrouble 0 = .ok (.aload_n 0, 1) := by decide +kernel
theorem dX11_horseTrouble_1 : decode cX11_horseTrouble 1 = .ok (.getfield 25, 3) := by decide +kernel
theorem dX11_horseTrouble_4 : decode cX11_horseTrouble 4 = .ok (.iload_n 1, 1) := by decide +kernel
theorem dX11_horseTrouble_5 : decode cX11_horseTrouble 5 = .ok (.invokevirtual 138, 3) := by decide +kernel
theorem dX11_horseTrouble_8 : decode cX11_horseTrouble 8 = .ok (.ifCond .ne 5, 3) := by decide +kernel
theorem dX11_horseTrouble_11 : decode cX11_horseTrouble 11 = .ok (.iconst 1, 1) := by decide +kernel
theorem dX11_horseTrouble_12 : decode cX11_horseTrouble 12 = .ok (.ireturn, 1) := by decide +kernel
theorem dX11_horseTrouble_13 : decode cX11_horseTrouble 13 = .ok (.iload_n 2, 1) := by decide +kernel
theorem dX11_horseTrouble_14 : decode cX11_horseTrouble 14 = .ok (.ifCond .eq 5, 3) := by decide +kernel
theorem dX11_horseTrouble_17 : decode cX11_horseTrouble 17 = .ok (.iload_n 2, 1) := by decide +kernel
theorem dX11_horseTrouble_18 : decode cX11_horseTrouble 18 = .ok (.ireturn, 1) := by decide +kernel
theorem dX11_horseTrouble_19 : decode cX11_horseTrouble 19 = .ok (.aload_n 0, 1) := by decide +kernel
theorem dX11_horseTrouble_20 : decode cX11_horseTrouble 20 = .ok (.getfield 25, 3) := by decide +kernel
theorem dX11_horseTrouble_23 : decode cX11_horseTrouble 23 = .ok (.getfield 141, 3) := by decide +kernel
theorem dX11_horseTrouble_26 : decode cX11_horseTrouble 26 = .ok (.iload_n 1, 1) := by decide +kernel
theorem dX11_horseTrouble_27 : decode cX11_horseTrouble 27 = .ok (.iaload, 1) := by decide +kernel
theorem dX11_horseTrouble_28 : decode cX11_horseTrouble 28 = .ok (.iconst 3, 1) := by decide +kernel
theorem dX11_horseTrouble_29 : decode cX11_horseTrouble 29 = .ok (.if_icmp .ne 7, 3) := by decide +kernel
theorem dX11_horseTrouble_32 : decode cX11_horseTrouble 32 = .ok (.iconst 0, 1) := by decide +kernel
theorem dX11_horseTrouble_33 : decode cX11_horseTrouble 33 = .ok (.goto 4, 3) := by decide +kernel
theorem dX11_horseTrouble_36 : decode cX11_horseTrouble 36 = .ok (.iconst 5, 1) := by decide +kernel
theorem dX11_horseTrouble_37 : decode cX11_horseTrouble 37 = .ok (.ireturn, 1) := by decide +kernel
theorem dX11_saleTrouble_0 : decode cX11_saleTrouble 0 = .ok (.aload_n 0, 1) := by decide +kernel
theorem dX11_saleTrouble_1 : decode cX11_saleTrouble 1 = .ok (.getfield 25, 3) := by decide +kernel
theorem dX11_saleTrouble_4 : decode cX11_saleTrouble 4 = .ok (.invokevirtual 321, 3) := by decide +kernel
theorem dX11_saleTrouble_7 : decode cX11_saleTrouble 7 = .ok (.ifCond .ne 5, 3) := by decide +kernel
theorem dX11_saleTrouble_10 : decode cX11_saleTrouble 10 = .ok (.iconst 1, 1) := by decide +kernel
theorem dX11_saleTrouble_11 : decode cX11_saleTrouble 11 = .ok (.ireturn, 1) := by decide +kernel
theorem dX11_saleTrouble_12 : decode cX11_saleTrouble 12 = .ok (.iload_n 1, 1) := by decide +kernel
theorem dX11_saleTrouble_13 : decode cX11_saleTrouble 13 = .ok (.iconst 0, 1) := by decide +kernel
theorem dX11_saleTrouble_14 : decode cX11_saleTrouble 14 = .ok (.sipush 500, 3) := by decide +kernel
theorem dX11_saleTrouble_17 : decode cX11_saleTrouble 17 = .ok (.invokestatic 99, 3) := by decide +kernel
theorem dX11_saleTrouble_20 : decode cX11_saleTrouble 20 = .ok (.ifCond .eq 7, 3) := by decide +kernel
theorem dX11_saleTrouble_23 : decode cX11_saleTrouble 23 = .ok (.iconst 2, 1) := by decide +kernel
theorem dX11_saleTrouble_24 : decode cX11_saleTrouble 24 = .ok (.goto 4, 3) := by decide +kernel
theorem dX11_saleTrouble_27 : decode cX11_saleTrouble 27 = .ok (.iconst 0, 1) := by decide +kernel
theorem dX11_saleTrouble_28 : decode cX11_saleTrouble 28 = .ok (.ireturn, 1) := by decide +kernel
theorem dX11_marchTrouble_0 : decode cX11_marchTrouble 0 = .ok (.aload_n 0, 1) := by decide +kernel
theorem dX11_marchTrouble_1 : decode cX11_marchTrouble 1 = .ok (.getfield 25, 3) := by decide +kernel
theorem dX11_marchTrouble_4 : decode cX11_marchTrouble 4 = .ok (.iload_n 1, 1) := by decide +kernel
theorem dX11_marchTrouble_5 : decode cX11_marchTrouble 5 = .ok (.invokevirtual 428, 3) := by decide +kernel
theorem dX11_marchTrouble_8 : decode cX11_marchTrouble 8 = .ok (.ifCond .eq 14, 3) := by decide +kernel
theorem dX11_marchTrouble_11 : decode cX11_marchTrouble 11 = .ok (.aload_n 0, 1) := by decide +kernel
theorem dX11_marchTrouble_12 : decode cX11_marchTrouble 12 = .ok (.getfield 25, 3) := by decide +kernel
theorem dX11_marchTrouble_15 : decode cX11_marchTrouble 15 = .ok (.iload_n 2, 1) := by decide +kernel
theorem dX11_marchTrouble_16 : decode cX11_marchTrouble 16 = .ok (.invokevirtual 428, 3) := by decide +kernel
theorem dX11_marchTrouble_19 : decode cX11_marchTrouble 19 = .ok (.ifCond .ne 5, 3) := by decide +kernel
theorem dX11_marchTrouble_22 : decode cX11_marchTrouble 22 = .ok (.iconst 1, 1) := by decide +kernel
theorem dX11_marchTrouble_23 : decode cX11_marchTrouble 23 = .ok (.ireturn, 1) := by decide +kernel
theorem dX11_marchTrouble_24 : decode cX11_marchTrouble 24 = .ok (.iload_n 3, 1) := by decide +kernel
theorem dX11_marchTrouble_25 : decode cX11_marchTrouble 25 = .ok (.iconst 0, 1) := by decide +kernel
theorem dX11_marchTrouble_26 : decode cX11_marchTrouble 26 = .ok (.sipush 999, 3) := by decide +kernel
theorem dX11_marchTrouble_29 : decode cX11_marchTrouble 29 = .ok (.invokestatic 99, 3) := by decide +kernel
theorem dX11_marchTrouble_32 : decode cX11_marchTrouble 32 = .ok (.ifCond .eq 7, 3) := by decide +kernel
theorem dX11_marchTrouble_35 : decode cX11_marchTrouble 35 = .ok (.iconst 2, 1) := by decide +kernel
theorem dX11_marchTrouble_36 : decode cX11_marchTrouble 36 = .ok (.goto 4, 3) := by decide +kernel
theorem dX11_marchTrouble_39 : decode cX11_marchTrouble 39 = .ok (.iconst 0, 1) := by decide +kernel
theorem dX11_marchTrouble_40 : decode cX11_marchTrouble 40 = .ok (.ireturn, 1) := by decide +kernel
theorem dX11_battlesTrouble_0 : decode cX11_battlesTrouble 0 = .ok (.iload_n 0, 1) := by decide +kernel
theorem dX11_battlesTrouble_1 : decode cX11_battlesTrouble 1 = .ok (.ifCond .ne 5, 3) := by decide +kernel
theorem dX11_battlesTrouble_4 : decode cX11_battlesTrouble 4 = .ok (.iconst 1, 1) := by decide +kernel
theorem dX11_battlesTrouble_5 : decode cX11_battlesTrouble 5 = .ok (.ireturn, 1) := by decide +kernel
theorem dX11_battlesTrouble_6 : decode cX11_battlesTrouble 6 = .ok (.iload_n 1, 1) := by decide +kernel
theorem dX11_battlesTrouble_7 : decode cX11_battlesTrouble 7 = .ok (.iconst 0, 1) := by decide +kernel
theorem dX11_battlesTrouble_8 : decode cX11_battlesTrouble 8 = .ok (.ldc_w 379, 3) := by decide +kernel
theorem dX11_battlesTrouble_11 : decode cX11_battlesTrouble 11 = .ok (.invokestatic 99, 3) := by decide +kernel
theorem dX11_battlesTrouble_14 : decode cX11_battlesTrouble 14 = .ok (.ifCond .ne 13, 3) := by decide +kernel
theorem dX11_battlesTrouble_17 : decode cX11_battlesTrouble 17 = .ok (.iload_n 2, 1) := by decide +kernel
theorem dX11_battlesTrouble_18 : decode cX11_battlesTrouble 18 = .ok (.iconst 1, 1) := by decide +kernel
theorem dX11_battlesTrouble_19 : decode cX11_battlesTrouble 19 = .ok (.bipush 90, 2) := by decide +kernel
theorem dX11_battlesTrouble_21 : decode cX11_battlesTrouble 21 = .ok (.invokestatic 99, 3) := by decide +kernel
theorem dX11_battlesTrouble_24 : decode cX11_battlesTrouble 24 = .ok (.ifCond .eq 7, 3) := by decide +kernel
theorem dX11_battlesTrouble_27 : decode cX11_battlesTrouble 27 = .ok (.iconst 2, 1) := by decide +kernel
theorem dX11_battlesTrouble_28 : decode cX11_battlesTrouble 28 = .ok (.goto 4, 3) := by decide +kernel
theorem dX11_battlesTrouble_31 : decode cX11_battlesTrouble 31 = .ok (.iconst 0, 1) := by decide +kernel
theorem dX11_battlesTrouble_32 : decode cX11_battlesTrouble 32 = .ok (.ireturn, 1) := by decide +kernel
theorem dX11_priceOf_0 : decode cX11_priceOf 0 = .ok (.iconst 0, 1) := by decide +kernel
theorem dX11_priceOf_1 : decode cX11_priceOf 1 = .ok (.istore_n 2, 1) := by decide +kernel
theorem dX11_priceOf_2 : decode cX11_priceOf 2 = .ok (.iconst 0, 1) := by decide +kernel
theorem dX11_priceOf_3 : decode cX11_priceOf 3 = .ok (.istore_n 3, 1) := by decide +kernel
theorem dX11_priceOf_4 : decode cX11_priceOf 4 = .ok (.iload_n 3, 1) := by decide +kernel
theorem dX11_priceOf_5 : decode cX11_priceOf 5 = .ok (.aload_n 0, 1) := by decide +kernel
theorem dX11_priceOf_6 : decode cX11_priceOf 6 = .ok (.getfield 25, 3) := by decide +kernel
theorem dX11_priceOf_9 : decode cX11_priceOf 9 = .ok (.getfield 132, 3) := by decide +kernel
theorem dX11_priceOf_12 : decode cX11_priceOf 12 = .ok (.if_icmp .ge 34, 3) := by decide +kernel
theorem dX11_priceOf_15 : decode cX11_priceOf 15 = .ok (.iload_n 2, 1) := by decide +kernel
theorem dX11_priceOf_16 : decode cX11_priceOf 16 = .ok (.iload_n 1, 1) := by decide +kernel
theorem dX11_priceOf_17 : decode cX11_priceOf 17 = .ok (.iload_n 3, 1) := by decide +kernel
theorem dX11_priceOf_18 : decode cX11_priceOf 18 = .ok (.ishr, 1) := by decide +kernel
theorem dX11_priceOf_19 : decode cX11_priceOf 19 = .ok (.iconst 1, 1) := by decide +kernel
theorem dX11_priceOf_20 : decode cX11_priceOf 20 = .ok (.iand, 1) := by decide +kernel
theorem dX11_priceOf_21 : decode cX11_priceOf 21 = .ok (.iconst 1, 1) := by decide +kernel
theorem dX11_priceOf_22 : decode cX11_priceOf 22 = .ok (.if_icmp .ne 15, 3) := by decide +kernel
theorem dX11_priceOf_25 : decode cX11_priceOf 25 = .ok (.aload_n 0, 1) := by decide +kernel
theorem dX11_priceOf_26 : decode cX11_priceOf 26 = .ok (.getfield 25, 3) := by decide +kernel
theorem dX11_priceOf_29 : decode cX11_priceOf 29 = .ok (.getfield 164, 3) := by decide +kernel
theorem dX11_priceOf_32 : decode cX11_priceOf 32 = .ok (.iload_n 3, 1) := by decide +kernel
theorem dX11_priceOf_33 : decode cX11_priceOf 33 = .ok (.iaload, 1) := by decide +kernel
theorem dX11_priceOf_34 : decode cX11_priceOf 34 = .ok (.goto 4, 3) := by decide +kernel
theorem dX11_priceOf_37 : decode cX11_priceOf 37 = .ok (.iconst 0, 1) := by decide +kernel
theorem dX11_priceOf_38 : decode cX11_priceOf 38 = .ok (.iadd, 1) := by decide +kernel
theorem dX11_priceOf_39 : decode cX11_priceOf 39 = .ok (.istore_n 2, 1) := by decide +kernel
theorem dX11_priceOf_40 : decode cX11_priceOf 40 = .ok (.iinc 3 1, 3) := by decide +kernel
theorem dX11_priceOf_43 : decode cX11_priceOf 43 = .ok (.goto (-39), 3) := by decide +kernel
theorem dX11_priceOf_46 : decode cX11_priceOf 46 = .ok (.iload_n 2, 1) := by decide +kernel
theorem dX11_priceOf_47 : decode cX11_priceOf 47 = .ok (.ireturn, 1) := by decide +kernel
theorem dX11_fewestToSell_0 : decode cX11_fewestToSell 0 = .ok (.bipush (-2), 2) := by decide +kernel
theorem dX11_fewestToSell_2 : decode cX11_fewestToSell 2 = .ok (.istore_n 2, 1) := by decide +kernel
theorem dX11_fewestToSell_3 : decode cX11_fewestToSell 3 = .ok (.bipush 6, 2) := by decide +kernel
theorem dX11_fewestToSell_5 : decode cX11_fewestToSell 5 = .ok (.istore_n 3, 1) := by decide +kernel
theorem dX11_fewestToSell_6 : decode cX11_fewestToSell 6 = .ok (.iconst 0, 1) := by decide +kernel
theorem dX11_fewestToSell_7 : decode cX11_fewestToSell 7 = .ok (.istore 4, 2) := by decide +kernel
theorem dX11_fewestToSell_9 : decode cX11_fewestToSell 9 = .ok (.iload 4, 2) := by decide +kernel
theorem dX11_fewestToSell_11 : decode cX11_fewestToSell 11 = .ok (.iconst 1, 1) := by decide +kernel
theorem dX11_fewestToSell_12 : decode cX11_fewestToSell 12 = .ok (.aload_n 0, 1) := by decide +kernel
theorem dX11_fewestToSell_13 : decode cX11_fewestToSell 13 = .ok (.getfield 25, 3) := by decide +kernel
theorem dX11_fewestToSell_16 : decode cX11_fewestToSell 16 = .ok (.getfield 132, 3) := by decide +kernel
theorem dX11_fewestToSell_19 : decode cX11_fewestToSell 19 = .ok (.ishl, 1) := by decide +kernel
theorem dX11_fewestToSell_20 : decode cX11_fewestToSell 20 = .ok (.if_icmp .ge 51, 3) := by decide +kernel
theorem dX11_fewestToSell_23 : decode cX11_fewestToSell 23 = .ok (.iload 4, 2) := by decide +kernel
theorem dX11_fewestToSell_25 : decode cX11_fewestToSell 25 = .ok (.invokestatic 411, 3) := by decide +kernel
theorem dX11_fewestToSell_28 : decode cX11_fewestToSell 28 = .ok (.istore 5, 2) := by decide +kernel
theorem dX11_fewestToSell_30 : decode cX11_fewestToSell 30 = .ok (.iload 5, 2) := by decide +kernel
theorem dX11_fewestToSell_32 : decode cX11_fewestToSell 32 = .ok (.iload_n 3, 1) := by decide +kernel
theorem dX11_fewestToSell_33 : decode cX11_fewestToSell 33 = .ok (.if_icmp .ge 32, 3) := by decide +kernel
theorem dX11_fewestToSell_36 : decode cX11_fewestToSell 36 = .ok (.iload 4, 2) := by decide +kernel
theorem dX11_fewestToSell_38 : decode cX11_fewestToSell 38 = .ok (.aload_n 0, 1) := by decide +kernel
theorem dX11_fewestToSell_39 : decode cX11_fewestToSell 39 = .ok (.getfield 32, 3) := by decide +kernel
theorem dX11_fewestToSell_42 : decode cX11_fewestToSell 42 = .ok (.getfield 355, 3) := by decide +kernel
theorem dX11_fewestToSell_45 : decode cX11_fewestToSell 45 = .ok (.iand, 1) := by decide +kernel
theorem dX11_fewestToSell_46 : decode cX11_fewestToSell 46 = .ok (.ifCond .ne 19, 3) := by decide +kernel
theorem dX11_fewestToSell_49 : decode cX11_fewestToSell 49 = .ok (.aload_n 0, 1) := by decide +kernel
theorem dX11_fewestToSell_50 : decode cX11_fewestToSell 50 = .ok (.iload 4, 2) := by decide +kernel
theorem dX11_fewestToSell_52 : decode cX11_fewestToSell 52 = .ok (.invokevirtual 275, 3) := by decide +kernel
theorem dX11_fewestToSell_55 : decode cX11_fewestToSell 55 = .ok (.iload_n 1, 1) := by decide +kernel
theorem dX11_fewestToSell_56 : decode cX11_fewestToSell 56 = .ok (.if_icmp .lt 9, 3) := by decide +kernel
theorem dX11_fewestToSell_59 : decode cX11_fewestToSell 59 = .ok (.iload 4, 2) := by decide +kernel
theorem dX11_fewestToSell_61 : decode cX11_fewestToSell 61 = .ok (.istore_n 2, 1) := by decide +kernel
theorem dX11_fewestToSell_62 : decode cX11_fewestToSell 62 = .ok (.iload 5, 2) := by decide +kernel
theorem dX11_fewestToSell_64 : decode cX11_fewestToSell 64 = .ok (.istore_n 3, 1) := by decide +kernel
theorem dX11_fewestToSell_65 : decode cX11_fewestToSell 65 = .ok (.iinc 4 1, 3) := by decide +kernel
theorem dX11_fewestToSell_68 : decode cX11_fewestToSell 68 = .ok (.goto (-59), 3) := by decide +kernel
theorem dX11_fewestToSell_71 : decode cX11_fewestToSell 71 = .ok (.iload_n 2, 1) := by decide +kernel
theorem dX11_fewestToSell_72 : decode cX11_fewestToSell 72 = .ok (.ireturn, 1) := by decide +kernel
