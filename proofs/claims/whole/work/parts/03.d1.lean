theorem dX8_init_0 : decode cX8_init 0 = .ok (.aload_n 0, 1) := by decide +kernel
theorem dX8_init_1 : decode cX8_init 1 = .ok (.invokespecial 3, 3) := by decide +kernel
theorem dX8_init_4 : decode cX8_init 4 = .ok (.aload_n 0, 1) := by decide +kernel
theorem dX8_init_5 : decode cX8_init 5 = .ok (.bipush 6, 2) := by decide +kernel
theorem dX8_init_7 : decode cX8_init 7 = .ok (.newarray .int, 2) := by decide +kernel
theorem dX8_init_9 : decode cX8_init 9 = .ok (.putfield 9, 3) := by decide +kernel
theorem dX8_init_12 : decode cX8_init 12 = .ok (.aload_n 0, 1) := by decide +kernel
theorem dX8_init_13 : decode cX8_init 13 = .ok (.iconst 5, 1) := by decide +kernel
theorem dX8_init_14 : decode cX8_init 14 = .ok (.newarray .int, 2) := by decide +kernel
theorem dX8_init_16 : decode cX8_init 16 = .ok (.putfield 15, 3) := by decide +kernel
theorem dX8_init_19 : decode cX8_init 19 = .ok (.aload_n 0, 1) := by decide +kernel
theorem dX8_init_20 : decode cX8_init 20 = .ok (.iconst 5, 1) := by decide +kernel
theorem dX8_init_21 : decode cX8_init 21 = .ok (.newarray .int, 2) := by decide +kernel
theorem dX8_init_23 : decode cX8_init 23 = .ok (.putfield 18, 3) := by decide +kernel
theorem dX8_init_26 : decode cX8_init 26 = .ok (.return_, 1) := by decide +kernel
theorem dX8_begin_0 : decode cX8_begin 0 = .ok (.aload_n 1, 1) := by decide +kernel
theorem dX8_begin_1 : decode cX8_begin 1 = .ok (.getfield 21, 3) := by decide +kernel
theorem dX8_begin_4 : decode cX8_begin 4 = .ok (.iconst 0, 1) := by decide +kernel
theorem dX8_begin_5 : decode cX8_begin 5 = .ok (.aload_n 0, 1) := by decide +kernel
theorem dX8_begin_6 : decode cX8_begin 6 = .ok (.getfield 9, 3) := by decide +kernel
theorem dX8_begin_9 : decode cX8_begin 9 = .ok (.iconst 0, 1) := by decide +kernel
theorem dX8_begin_10 : decode cX8_begin 10 = .ok (.bipush 6, 2) := by decide +kernel
theorem dX8_begin_12 : decode cX8_begin 12 = .ok (.invokestatic 26, 3) := by decide +kernel
theorem dX8_begin_15 : decode cX8_begin 15 = .ok (.aload_n 1, 1) := by decide +kernel
theorem dX8_begin_16 : decode cX8_begin 16 = .ok (.getfield 32, 3) := by decide +kernel
theorem dX8_begin_19 : decode cX8_begin 19 = .ok (.iconst 0, 1) := by decide +kernel
theorem dX8_begin_20 : decode cX8_begin 20 = .ok (.aload_n 0, 1) := by decide +kernel
theorem dX8_begin_21 : decode cX8_begin 21 = .ok (.getfield 15, 3) := by decide +kernel
theorem dX8_begin_24 : decode cX8_begin 24 = .ok (.iconst 0, 1) := by decide +kernel
theorem dX8_begin_25 : decode cX8_begin 25 = .ok (.iconst 5, 1) := by decide +kernel
theorem dX8_begin_26 : decode cX8_begin 26 = .ok (.invokestatic 26, 3) := by decide +kernel
theorem dX8_begin_29 : decode cX8_begin 29 = .ok (.iconst 0, 1) := by decide +kernel
theorem dX8_begin_30 : decode cX8_begin 30 = .ok (.istore_n 2, 1) := by decide +kernel
theorem dX8_begin_31 : decode cX8_begin 31 = .ok (.iload_n 2, 1) := by decide +kernel
theorem dX8_begin_32 : decode cX8_begin 32 = .ok (.iconst 5, 1) := by decide +kernel
theorem dX8_begin_33 : decode cX8_begin 33 = .ok (.if_icmp .ge 16, 3) := by decide +kernel
theorem dX8_begin_36 : decode cX8_begin 36 = .ok (.aload_n 0, 1) := by decide +kernel
theorem dX8_begin_37 : decode cX8_begin 37 = .ok (.getfield 18, 3) := by decide +kernel
theorem dX8_begin_40 : decode cX8_begin 40 = .ok (.iload_n 2, 1) := by decide +kernel
theorem dX8_begin_41 : decode cX8_begin 41 = .ok (.iconst 0, 1) := by decide +kernel
theorem dX8_begin_42 : decode cX8_begin 42 = .ok (.iastore, 1) := by decide +kernel
theorem dX8_begin_43 : decode cX8_begin 43 = .ok (.iinc 2 1, 3) := by decide +kernel
theorem dX8_begin_46 : decode cX8_begin 46 = .ok (.goto (-15), 3) := by decide +kernel
theorem dX8_begin_49 : decode cX8_begin 49 = .ok (.aload_n 0, 1) := by decide +kernel
theorem dX8_begin_50 : decode cX8_begin 50 = .ok (.iconst 0, 1) := by decide +kernel
theorem dX8_begin_51 : decode cX8_begin 51 = .ok (.putfield 35, 3) := by decide +kernel
theorem dX8_begin_54 : decode cX8_begin 54 = .ok (.aload_n 0, 1) := by decide +kernel
theorem dX8_begin_55 : decode cX8_begin 55 = .ok (.iconst 0, 1) := by decide +kernel
theorem dX8_begin_56 : decode cX8_begin 56 = .ok (.putfield 39, 3) := by decide +kernel
theorem dX8_begin_59 : decode cX8_begin 59 = .ok (.aload_n 0, 1) := by decide +kernel
theorem dX8_begin_60 : decode cX8_begin 60 = .ok (.iconst 0, 1) := by decide +kernel
theorem dX8_begin_61 : decode cX8_begin 61 = .ok (.putfield 43, 3) := by decide +kernel
theorem dX8_begin_64 : decode cX8_begin 64 = .ok (.return_, 1) := by decide +kernel
theorem dX8_copyOf_0 : decode cX8_copyOf 0 = .ok (.aload_n 1, 1) := by decide +kernel
theorem dX8_copyOf_1 : decode cX8_copyOf 1 = .ok (.getfield 9, 3) := by decide +kernel
theorem dX8_copyOf_4 : decode cX8_copyOf 4 = .ok (.iconst 0, 1) := by decide +kernel
theorem dX8_copyOf_5 : decode cX8_copyOf 5 = .ok (.aload_n 0, 1) := by decide +kernel
theorem dX8_copyOf_6 : decode cX8_copyOf 6 = .ok (.getfield 9, 3) := by decide +kernel
theorem dX8_copyOf_9 : decode cX8_copyOf 9 = .ok (.iconst 0, 1) := by decide +kernel
theorem dX8_copyOf_10 : decode cX8_copyOf 10 = .ok (.bipush 6, 2) := by decide +kernel
theorem dX8_copyOf_12 : decode cX8_copyOf 12 = .ok (.invokestatic 26, 3) := by decide +kernel
theorem dX8_copyOf_15 : decode cX8_copyOf 15 = .ok (.aload_n 1, 1) := by decide +kernel
theorem dX8_copyOf_16 : decode cX8_copyOf 16 = .ok (.getfield 15, 3) := by decide +kernel
theorem dX8_copyOf_19 : decode cX8_copyOf 19 = .ok (.iconst 0, 1) := by decide +kernel
theorem dX8_copyOf_20 : decode cX8_copyOf 20 = .ok (.aload_n 0, 1) := by decide +kernel
theorem dX8_copyOf_21 : decode cX8_copyOf 21 = .ok (.getfield 15, 3) := by decide +kernel
theorem dX8_copyOf_24 : decode cX8_copyOf 24 = .ok (.iconst 0, 1) := by decide +kernel
theorem dX8_copyOf_25 : decode cX8_copyOf 25 = .ok (.iconst 5, 1) := by decide +kernel
theorem dX8_copyOf_26 : decode cX8_copyOf 26 = .ok (.invokestatic 26, 3) := by decide +kernel
theorem dX8_copyOf_29 : decode cX8_copyOf 29 = .ok (.aload_n 1, 1) := by decide +kernel
theorem dX8_copyOf_30 : decode cX8_copyOf 30 = .ok (.getfield 18, 3) := by decide +kernel
theorem dX8_copyOf_33 : decode cX8_copyOf 33 = .ok (.iconst 0, 1) := by decide +kernel
theorem dX8_copyOf_34 : decode cX8_copyOf 34 = .ok (.aload_n 0, 1) := by decide +kernel
theorem dX8_copyOf_35 : decode cX8_copyOf 35 = .ok (.getfield 18, 3) := by decide +kernel
theorem dX8_copyOf_38 : decode cX8_copyOf 38 = .ok (.iconst 0, 1) := by decide +kernel
theorem dX8_copyOf_39 : decode cX8_copyOf 39 = .ok (.iconst 5, 1) := by decide +kernel
theorem dX8_copyOf_40 : decode cX8_copyOf 40 = .ok (.invokestatic 26, 3) := by decide +kernel
theorem dX8_copyOf_43 : decode cX8_copyOf 43 = .ok (.aload_n 0, 1) := by decide +kernel
theorem dX8_copyOf_44 : decode cX8_copyOf 44 = .ok (.aload_n 1, 1) := by decide +kernel
theorem dX8_copyOf_45 : decode cX8_copyOf 45 = .ok (.getfield 35, 3) := by decide +kernel
theorem dX8_copyOf_48 : decode cX8_copyOf 48 = .ok (.putfield 35, 3) := by decide +kernel
theorem dX8_copyOf_51 : decode cX8_copyOf 51 = .ok (.aload_n 0, 1) := by decide +kernel
theorem dX8_copyOf_52 : decode cX8_copyOf 52 = .ok (.aload_n 1, 1) := by decide +kernel
theorem dX8_copyOf_53 : decode cX8_copyOf 53 = .ok (.getfield 39, 3) := by decide +kernel
theorem dX8_copyOf_56 : decode cX8_copyOf 56 = .ok (.putfield 39, 3) := by decide +kernel
theorem dX8_copyOf_59 : decode cX8_copyOf 59 = .ok (.aload_n 0, 1) := by decide +kernel
theorem dX8_copyOf_60 : decode cX8_copyOf 60 = .ok (.aload_n 1, 1) := by decide +kernel
theorem dX8_copyOf_61 : decode cX8_copyOf 61 = .ok (.getfield 43, 3) := by decide +kernel
theorem dX8_copyOf_64 : decode cX8_copyOf 64 = .ok (.putfield 43, 3) := by decide +kernel
theorem dX8_copyOf_67 : decode cX8_copyOf 67 = .ok (.return_, 1) := by decide +kernel
theorem dX8_isDead_0 : decode cX8_isDead 0 = .ok (.aload_n 0, 1) := by decide +kernel
theorem dX8_isDead_1 : decode cX8_isDead 1 = .ok (.getfield 35, 3) := by decide +kernel
theorem dX8_isDead_4 : decode cX8_isDead 4 = .ok (.iload_n 1, 1) := by decide +kernel
theorem dX8_isDead_5 : decode cX8_isDead 5 = .ok (.ishr, 1) := by decide +kernel
theorem dX8_isDead_6 : decode cX8_isDead 6 = .ok (.iconst 1, 1) := by decide +kernel
theorem dX8_isDead_7 : decode cX8_isDead 7 = .ok (.iand, 1) := by decide +kernel
theorem dX8_isDead_8 : decode cX8_isDead 8 = .ok (.iconst 1, 1) := by decide +kernel
theorem dX8_isDead_9 : decode cX8_isDead 9 = .ok (.if_icmp .ne 7, 3) := by decide +kernel
theorem dX8_isDead_12 : decode cX8_isDead 12 = .ok (.iconst 1, 1) := by decide +kernel
theorem dX8_isDead_13 : decode cX8_isDead 13 = .ok (.goto 4, 3) := by decide +kernel
theorem dX8_isDead_16 : decode cX8_isDead 16 = .ok (.iconst 0, 1) := by decide +kernel
theorem dX8_isDead_17 : decode cX8_isDead 17 = .ok (.ireturn, 1) := by decide +kernel
theorem dX8_livingIn_0 : decode cX8_livingIn 0 = .ok (.iconst 0, 1) := by decide +kernel
theorem dX8_livingIn_1 : decode cX8_livingIn 1 = .ok (.istore_n 3, 1) := by decide +kernel
theorem dX8_livingIn_2 : decode cX8_livingIn 2 = .ok (.iconst 0, 1) := by decide +kernel
theorem dX8_livingIn_3 : decode cX8_livingIn 3 = .ok (.istore 4, 2) := by decide +kernel
theorem dX8_livingIn_5 : decode cX8_livingIn 5 = .ok (.iload 4, 2) := by decide +kernel
theorem dX8_livingIn_7 : decode cX8_livingIn 7 = .ok (.iload_n 2, 1) := by decide +kernel
theorem dX8_livingIn_8 : decode cX8_livingIn 8 = .ok (.if_icmp .ge 42, 3) := by decide +kernel
theorem dX8_livingIn_11 : decode cX8_livingIn 11 = .ok (.iload 4, 2) := by decide +kernel
theorem dX8_livingIn_13 : decode cX8_livingIn 13 = .ok (.iconst 5, 1) := by decide +kernel
theorem dX8_livingIn_14 : decode cX8_livingIn 14 = .ok (.if_icmp .ge 36, 3) := by decide +kernel
theorem dX8_livingIn_17 : decode cX8_livingIn 17 = .ok (.aload_n 0, 1) := by decide +kernel
theorem dX8_livingIn_18 : decode cX8_livingIn 18 = .ok (.getfield 15, 3) := by decide +kernel
theorem dX8_livingIn_21 : decode cX8_livingIn 21 = .ok (.iload 4, 2) := by decide +kernel
theorem dX8_livingIn_23 : decode cX8_livingIn 23 = .ok (.iaload, 1) := by decide +kernel
theorem dX8_livingIn_24 : decode cX8_livingIn 24 = .ok (.iload_n 1, 1) := by decide +kernel
theorem dX8_livingIn_25 : decode cX8_livingIn 25 = .ok (.if_icmp .ne 19, 3) := by decide +kernel
theorem dX8_livingIn_28 : decode cX8_livingIn 28 = .ok (.aload_n 0, 1) := by decide +kernel
theorem dX8_livingIn_29 : decode cX8_livingIn 29 = .ok (.iload 4, 2) := by decide +kernel
theorem dX8_livingIn_31 : decode cX8_livingIn 31 = .ok (.invokevirtual 46, 3) := by decide +kernel
theorem dX8_livingIn_34 : decode cX8_livingIn 34 = .ok (.ifCond .ne 10, 3) := by decide +kernel
theorem dX8_livingIn_37 : decode cX8_livingIn 37 = .ok (.iload_n 3, 1) := by decide +kernel
theorem dX8_livingIn_38 : decode cX8_livingIn 38 = .ok (.iconst 1, 1) := by decide +kernel
theorem dX8_livingIn_39 : decode cX8_livingIn 39 = .ok (.iload 4, 2) := by decide +kernel
theorem dX8_livingIn_41 : decode cX8_livingIn 41 = .ok (.ishl, 1) := by decide +kernel
theorem dX8_livingIn_42 : decode cX8_livingIn 42 = .ok (.ior, 1) := by decide +kernel
theorem dX8_livingIn_43 : decode cX8_livingIn 43 = .ok (.istore_n 3, 1) := by decide +kernel
theorem dX8_livingIn_44 : decode cX8_livingIn 44 = .ok (.iinc 4 1, 3) := by decide +kernel
theorem dX8_livingIn_47 : decode cX8_livingIn 47 = .ok (.goto (-42), 3) := by decide +kernel
theorem dX8_livingIn_50 : decode cX8_livingIn 50 = .ok (.iload_n 3, 1) := by decide +kernel
theorem dX8_livingIn_51 : decode cX8_livingIn 51 = .ok (.ireturn, 1) := by decide +kernel
theorem dX2_init_0 : decode cX2_init 0 = .ok (.aload_n 0, 1) := by decide +kernel
theorem dX2_init_1 : decode cX2_init 1 = .ok (.invokespecial 3, 3) := by decide +kernel
theorem dX2_init_4 : decode cX2_init 4 = .ok (.aload_n 0, 1) := by decide +kernel
theorem dX2_init_5 : decode cX2_init 5 = .ok (.bipush 6, 2) := by decide +kernel
theorem dX2_init_7 : decode cX2_init 7 = .ok (.newarray .int, 2) := by decide +kernel
theorem dX2_init_9 : decode cX2_init 9 = .ok (.putfield 9, 3) := by decide +kernel
theorem dX2_init_12 : decode cX2_init 12 = .ok (.aload_n 0, 1) := by decide +kernel
theorem dX2_init_13 : decode cX2_init 13 = .ok (.bipush 6, 2) := by decide +kernel
theorem dX2_init_15 : decode cX2_init 15 = .ok (.newarray .int, 2) := by decide +kernel
theorem dX2_init_17 : decode cX2_init 17 = .ok (.putfield 15, 3) := by decide +kernel
theorem dX2_init_20 : decode cX2_init 20 = .ok (.aload_n 0, 1) := by decide +kernel
theorem dX2_init_21 : decode cX2_init 21 = .ok (.iconst 5, 1) := by decide +kernel
theorem dX2_init_22 : decode cX2_init 22 = .ok (.newarray .int, 2) := by decide +kernel
theorem dX2_init_24 : decode cX2_init 24 = .ok (.putfield 18, 3) := by decide +kernel
theorem dX2_init_27 : decode cX2_init 27 = .ok (.aload_n 0, 1) := by decide +kernel
theorem dX2_init_28 : decode cX2_init 28 = .ok (.iconst 5, 1) := by decide +kernel
theorem dX2_init_29 : decode cX2_init 29 = .ok (.newarray .int, 2) := by decide +kernel
theorem dX2_init_31 : decode cX2_init 31 = .ok (.putfield 21, 3) := by decide +kernel
theorem dX2_init_34 : decode cX2_init 34 = .ok (.aload_n 0, 1) := by decide +kernel
theorem dX2_init_35 : decode cX2_init 35 = .ok (.iconst 5, 1) := by decide +kernel
theorem dX2_init_36 : decode cX2_init 36 = .ok (.newarray .int, 2) := by decide +kernel
theorem dX2_init_38 : decode cX2_init 38 = .ok (.putfield 24, 3) := by decide +kernel
theorem dX2_init_41 : decode cX2_init 41 = .ok (.aload_n 0, 1) := by decide +kernel
theorem dX2_init_42 : decode cX2_init 42 = .ok (.iconst 5, 1) := by decide +kernel
theorem dX2_init_43 : decode cX2_init 43 = .ok (.newarray .int, 2) := by decide +kernel
theorem dX2_init_45 : decode cX2_init 45 = .ok (.putfield 27, 3) := by decide +kernel
theorem dX2_init_48 : decode cX2_init 48 = .ok (.aload_n 0, 1) := by decide +kernel
theorem dX2_init_49 : decode cX2_init 49 = .ok (.bipush 36, 2) := by decide +kernel
theorem dX2_init_51 : decode cX2_init 51 = .ok (.newarray .int, 2) := by decide +kernel
theorem dX2_init_53 : decode cX2_init 53 = .ok (.putfield 30, 3) := by decide +kernel
theorem dX2_init_56 : decode cX2_init 56 = .ok (.return_, 1) := by decide +kernel
theorem dX2_clear_0 : decode cX2_clear 0 = .ok (.aload_n 0, 1) := by decide +kernel
theorem dX2_clear_1 : decode cX2_clear 1 = .ok (.iconst 0, 1) := by decide +kernel
theorem dX2_clear_2 : decode cX2_clear 2 = .ok (.putfield 33, 3) := by decide +kernel
theorem dX2_clear_5 : decode cX2_clear 5 = .ok (.aload_n 0, 1) := by decide +kernel
theorem dX2_clear_6 : decode cX2_clear 6 = .ok (.iconst 0, 1) := by decide +kernel
theorem dX2_clear_7 : decode cX2_clear 7 = .ok (.putfield 37, 3) := by decide +kernel
theorem dX2_clear_10 : decode cX2_clear 10 = .ok (.aload_n 0, 1) := by decide +kernel
theorem dX2_clear_11 : decode cX2_clear 11 = .ok (.iconst 0, 1) := by decide +kernel
theorem dX2_clear_12 : decode cX2_clear 12 = .ok (.putfield 40, 3) := by decide +kernel
theorem dX2_clear_15 : decode cX2_clear 15 = .ok (.aload_n 0, 1) := by decide +kernel
theorem dX2_clear_16 : decode cX2_clear 16 = .ok (.iconst 0, 1) := by decide +kernel
theorem dX2_clear_17 : decode cX2_clear 17 = .ok (.putfield 43, 3) := by decide +kernel
theorem dX2_clear_20 : decode cX2_clear 20 = .ok (.aload_n 0, 1) := by decide +kernel
theorem dX2_clear_21 : decode cX2_clear 21 = .ok (.iconst 0, 1) := by decide +kernel
theorem dX2_clear_22 : decode cX2_clear 22 = .ok (.putfield 46, 3) := by decide +kernel
theorem dX2_clear_25 : decode cX2_clear 25 = .ok (.aload_n 0, 1) := by decide +kernel
theorem dX2_clear_26 : decode cX2_clear 26 = .ok (.iconst 0, 1) := by decide +kernel
theorem dX2_clear_27 : decode cX2_clear 27 = .ok (.putfield 49, 3) := by decide +kernel
theorem dX2_clear_30 : decode cX2_clear 30 = .ok (.aload_n 0, 1) := by decide +kernel
theorem dX2_clear_31 : decode cX2_clear 31 = .ok (.iconst 0, 1) := by decide +kernel
theorem dX2_clear_32 : decode cX2_clear 32 = .ok (.putfield 52, 3) := by decide +kernel
theorem dX2_clear_35 : decode cX2_clear 35 = .ok (.iconst 0, 1) := by decide +kernel
theorem dX2_clear_36 : decode cX2_clear 36 = .ok (.istore_n 1, 1) := by decide +kernel
theorem dX2_clear_37 : decode cX2_clear 37 = .ok (.iload_n 1, 1) := by decide +kernel
theorem dX2_clear_38 : decode cX2_clear 38 = .ok (.bipush 6, 2) := by decide +kernel
theorem dX2_clear_40 : decode cX2_clear 40 = .ok (.if_icmp .ge 23, 3) := by decide +kernel
theorem dX2_clear_43 : decode cX2_clear 43 = .ok (.aload_n 0, 1) := by decide +kernel
theorem dX2_clear_44 : decode cX2_clear 44 = .ok (.getfield 9, 3) := by decide +kernel
theorem dX2_clear_47 : decode cX2_clear 47 = .ok (.iload_n 1, 1) := by decide +kernel
theorem dX2_clear_48 : decode cX2_clear 48 = .ok (.iconst 0, 1) := by decide +kernel
theorem dX2_clear_49 : decode cX2_clear 49 = .ok (.iastore, 1) := by decide +kernel
theorem dX2_clear_50 : decode cX2_clear 50 = .ok (.aload_n 0, 1) := by decide +kernel
theorem dX2_clear_51 : decode cX2_clear 51 = .ok (.getfield 15, 3) := by decide +kernel
theorem dX2_clear_54 : decode cX2_clear 54 = .ok (.iload_n 1, 1) := by decide +kernel
theorem dX2_clear_55 : decode cX2_clear 55 = .ok (.iconst 0, 1) := by decide +kernel
theorem dX2_clear_56 : decode cX2_clear 56 = .ok (.iastore, 1) := by decide +kernel
theorem dX2_clear_57 : decode cX2_clear 57 = .ok (.iinc 1 1, 3) := by decide +kernel
theorem dX2_clear_60 : decode cX2_clear 60 = .ok (.goto (-23), 3) := by decide +kernel
theorem dX2_clear_63 : decode cX2_clear 63 = .ok (.iconst 0, 1) := by decide +kernel
theorem dX2_clear_64 : decode cX2_clear 64 = .ok (.istore_n 1, 1) := by decide +kernel
theorem dX2_clear_65 : decode cX2_clear 65 = .ok (.iload_n 1, 1) := by decide +kernel
theorem dX2_clear_66 : decode cX2_clear 66 = .ok (.aload_n 0, 1) := by decide +kernel
theorem dX2_clear_67 : decode cX2_clear 67 = .ok (.getfield 30, 3) := by decide +kernel
theorem dX2_clear_70 : decode cX2_clear 70 = .ok (.arraylength, 1) := by decide +kernel
theorem dX2_clear_71 : decode cX2_clear 71 = .ok (.if_icmp .ge 16, 3) := by decide +kernel
theorem dX2_clear_74 : decode cX2_clear 74 = .ok (.aload_n 0, 1) := by decide +kernel
theorem dX2_clear_75 : decode cX2_clear 75 = .ok (.getfield 30, 3) := by decide +kernel
theorem dX2_clear_78 : decode cX2_clear 78 = .ok (.iload_n 1, 1) := by decide +kernel
theorem dX2_clear_79 : decode cX2_clear 79 = .ok (.iconst 0, 1) := by decide +kernel
theorem dX2_clear_80 : decode cX2_clear 80 = .ok (.iastore, 1) := by decide +kernel
theorem dX2_clear_81 : decode cX2_clear 81 = .ok (.iinc 1 1, 3) := by decide +kernel
theorem dX2_clear_84 : decode cX2_clear 84 = .ok (.goto (-19), 3) := by decide +kernel
theorem dX2_clear_87 : decode cX2_clear 87 = .ok (.return_, 1) := by decide +kernel
theorem dX2_copyOf_0 : decode cX2_copyOf 0 = .ok (.aload_n 0, 1) := by decide +kernel
theorem dX2_copyOf_1 : decode cX2_copyOf 1 = .ok (.aload_n 1, 1) := by decide +kernel
theorem dX2_copyOf_2 : decode cX2_copyOf 2 = .ok (.getfield 33, 3) := by decide +kernel
theorem dX2_copyOf_5 : decode cX2_copyOf 5 = .ok (.putfield 33, 3) := by decide +kernel
theorem dX2_copyOf_8 : decode cX2_copyOf 8 = .ok (.aload_n 0, 1) := by decide +kernel
theorem dX2_copyOf_9 : decode cX2_copyOf 9 = .ok (.aload_n 1, 1) := by decide +kernel
theorem dX2_copyOf_10 : decode cX2_copyOf 10 = .ok (.getfield 37, 3) := by decide +kernel
theorem dX2_copyOf_13 : decode cX2_copyOf 13 = .ok (.putfield 37, 3) := by decide +kernel
theorem dX2_copyOf_16 : decode cX2_copyOf 16 = .ok (.aload_n 0, 1) := by decide +kernel
theorem dX2_copyOf_17 : decode cX2_copyOf 17 = .ok (.aload_n 1, 1) := by decide +kernel
theorem dX2_copyOf_18 : decode cX2_copyOf 18 = .ok (.getfield 40, 3) := by decide +kernel
theorem dX2_copyOf_21 : decode cX2_copyOf 21 = .ok (.putfield 40, 3) := by decide +kernel
theorem dX2_copyOf_24 : decode cX2_copyOf 24 = .ok (.aload_n 0, 1) := by decide +kernel
theorem dX2_copyOf_25 : decode cX2_copyOf 25 = .ok (.aload_n 1, 1) := by decide +kernel
theorem dX2_copyOf_26 : decode cX2_copyOf 26 = .ok (.getfield 43, 3) := by decide +kernel
theorem dX2_copyOf_29 : decode cX2_copyOf 29 = .ok (.putfield 43, 3) := by decide +kernel
theorem dX2_copyOf_32 : decode cX2_copyOf 32 = .ok (.aload_n 0, 1) := by decide +kernel
theorem dX2_copyOf_33 : decode cX2_copyOf 33 = .ok (.aload_n 1, 1) := by decide +kernel
theorem dX2_copyOf_34 : decode cX2_copyOf 34 = .ok (.getfield 46, 3) := by decide +kernel
theorem dX2_copyOf_37 : decode cX2_copyOf 37 = .ok (.putfield 46, 3) := by decide +kernel
theorem dX2_copyOf_40 : decode cX2_copyOf 40 = .ok (.aload_n 0, 1) := by decide +kernel
theorem dX2_copyOf_41 : decode cX2_copyOf 41 = .ok (.aload_n 1, 1) := by decide +kernel
theorem dX2_copyOf_42 : decode cX2_copyOf 42 = .ok (.getfield 49, 3) := by decide +kernel
theorem dX2_copyOf_45 : decode cX2_copyOf 45 = .ok (.putfield 49, 3) := by decide +kernel
theorem dX2_copyOf_48 : decode cX2_copyOf 48 = .ok (.aload_n 0, 1) := by decide +kernel
theorem dX2_copyOf_49 : decode cX2_copyOf 49 = .ok (.aload_n 1, 1) := by decide +kernel
theorem dX2_copyOf_50 : decode cX2_copyOf 50 = .ok (.getfield 52, 3) := by decide +kernel
theorem dX2_copyOf_53 : decode cX2_copyOf 53 = .ok (.putfield 52, 3) := by decide +kernel
theorem dX2_copyOf_56 : decode cX2_copyOf 56 = .ok (.aload_n 1, 1) := by decide +kernel
theorem dX2_copyOf_57 : decode cX2_copyOf 57 = .ok (.getfield 9, 3) := by decide +kernel
theorem dX2_copyOf_60 : decode cX2_copyOf 60 = .ok (.iconst 0, 1) := by decide +kernel
theorem dX2_copyOf_61 : decode cX2_copyOf 61 = .ok (.aload_n 0, 1) := by decide +kernel
theorem dX2_copyOf_62 : decode cX2_copyOf 62 = .ok (.getfield 9, 3) := by decide +kernel
theorem dX2_copyOf_65 : decode cX2_copyOf 65 = .ok (.iconst 0, 1) := by decide +kernel
theorem dX2_copyOf_66 : decode cX2_copyOf 66 = .ok (.bipush 6, 2) := by decide +kernel
theorem dX2_copyOf_68 : decode cX2_copyOf 68 = .ok (.invokestatic 55, 3) := by decide +kernel
theorem dX2_copyOf_71 : decode cX2_copyOf 71 = .ok (.aload_n 1, 1) := by decide +kernel
theorem dX2_copyOf_72 : decode cX2_copyOf 72 = .ok (.getfield 15, 3) := by decide +kernel
theorem dX2_copyOf_75 : decode cX2_copyOf 75 = .ok (.iconst 0, 1) := by decide +kernel
theorem dX2_copyOf_76 : decode cX2_copyOf 76 = .ok (.aload_n 0, 1) := by decide +kernel
theorem dX2_copyOf_77 : decode cX2_copyOf 77 = .ok (.getfield 15, 3) := by decide +kernel
theorem dX2_copyOf_80 : decode cX2_copyOf 80 = .ok (.iconst 0, 1) := by decide +kernel
theorem dX2_copyOf_81 : decode cX2_copyOf 81 = .ok (.bipush 6, 2) := by decide +kernel
theorem dX2_copyOf_83 : decode cX2_copyOf 83 = .ok (.invokestatic 55, 3) := by decide +kernel
theorem dX2_copyOf_86 : decode cX2_copyOf 86 = .ok (.aload_n 1, 1) := by decide +kernel
theorem dX2_copyOf_87 : decode cX2_copyOf 87 = .ok (.getfield 18, 3) := by decide +kernel
theorem dX2_copyOf_90 : decode cX2_copyOf 90 = .ok (.iconst 0, 1) := by decide +kernel
theorem dX2_copyOf_91 : decode cX2_copyOf 91 = .ok (.aload_n 0, 1) := by decide +kernel
theorem dX2_copyOf_92 : decode cX2_copyOf 92 = .ok (.getfield 18, 3) := by decide +kernel
theorem dX2_copyOf_95 : decode cX2_copyOf 95 = .ok (.iconst 0, 1) := by decide +kernel
theorem dX2_copyOf_96 : decode cX2_copyOf 96 = .ok (.iconst 5, 1) := by decide +kernel
theorem dX2_copyOf_97 : decode cX2_copyOf 97 = .ok (.invokestatic 55, 3) := by decide +kernel
theorem dX2_copyOf_100 : decode cX2_copyOf 100 = .ok (.aload_n 1, 1) := by decide +kernel
theorem dX2_copyOf_101 : decode cX2_copyOf 101 = .ok (.getfield 21, 3) := by decide +kernel
theorem dX2_copyOf_104 : decode cX2_copyOf 104 = .ok (.iconst 0, 1) := by decide +kernel
theorem dX2_copyOf_105 : decode cX2_copyOf 105 = .ok (.aload_n 0, 1) := by decide +kernel
theorem dX2_copyOf_106 : decode cX2_copyOf 106 = .ok (.getfield 21, 3) := by decide +kernel
theorem dX2_copyOf_109 : decode cX2_copyOf 109 = .ok (.iconst 0, 1) := by decide +kernel
theorem dX2_copyOf_110 : decode cX2_copyOf 110 = .ok (.iconst 5, 1) := by decide +kernel
theorem dX2_copyOf_111 : decode cX2_copyOf 111 = .ok (.invokestatic 55, 3) := by decide +kernel
theorem dX2_copyOf_114 : decode cX2_copyOf 114 = .ok (.aload_n 1, 1) := by decide +kernel
theorem dX2_copyOf_115 : decode cX2_copyOf 115 = .ok (.getfield 24, 3) := by decide +kernel
theorem dX2_copyOf_118 : decode cX2_copyOf 118 = .ok (.iconst 0, 1) := by decide +kernel
theorem dX2_copyOf_119 : decode cX2_copyOf 119 = .ok (.aload_n 0, 1) := by decide +kernel
theorem dX2_copyOf_120 : decode cX2_copyOf 120 = .ok (.getfield 24, 3) := by decide +kernel
theorem dX2_copyOf_123 : decode cX2_copyOf 123 = .ok (.iconst 0, 1) := by decide +kernel
theorem dX2_copyOf_124 : decode cX2_copyOf 124 = .ok (.iconst 5, 1) := by decide +kernel
theorem dX2_copyOf_125 : decode cX2_copyOf 125 = .ok (.invokestatic 55, 3) := by decide +kernel
theorem dX2_copyOf_128 : decode cX2_copyOf 128 = .ok (.aload_n 1, 1) := by decide +kernel
theorem dX2_copyOf_129 : decode cX2_copyOf 129 = .ok (.getfield 27, 3) := by decide +kernel
theorem dX2_copyOf_132 : decode cX2_copyOf 132 = .ok (.iconst 0, 1) := by decide +kernel
theorem dX2_copyOf_133 : decode cX2_copyOf 133 = .ok (.aload_n 0, 1) := by decide +kernel
theorem dX2_copyOf_134 : decode cX2_copyOf 134 = .ok (.getfield 27, 3) := by decide +kernel
theorem dX2_copyOf_137 : decode cX2_copyOf 137 = .ok (.iconst 0, 1) := by decide +kernel
theorem dX2_copyOf_138 : decode cX2_copyOf 138 = .ok (.iconst 5, 1) := by decide +kernel
theorem dX2_copyOf_139 : decode cX2_copyOf 139 = .ok (.invokestatic 55, 3) := by decide +kernel
theorem dX2_copyOf_142 : decode cX2_copyOf 142 = .ok (.aload_n 1, 1) := by decide +kernel
theorem dX2_copyOf_143 : decode cX2_copyOf 143 = .ok (.getfield 30, 3) := by decide +kernel
theorem dX2_copyOf_146 : decode cX2_copyOf 146 = .ok (.iconst 0, 1) := by decide +kernel
theorem dX2_copyOf_147 : decode cX2_copyOf 147 = .ok (.aload_n 0, 1) := by decide +kernel
theorem dX2_copyOf_148 : decode cX2_copyOf 148 = .ok (.getfield 30, 3) := by decide +kernel
theorem dX2_copyOf_151 : decode cX2_copyOf 151 = .ok (.iconst 0, 1) := by decide +kernel
theorem dX2_copyOf_152 : decode cX2_copyOf 152 = .ok (.aload_n 0, 1) := by decide +kernel
theorem dX2_copyOf_153 : decode cX2_copyOf 153 = .ok (.getfield 30, 3) := by decide +kernel
theorem dX2_copyOf_156 : decode cX2_copyOf 156 = .ok (.arraylength, 1) := by decide +kernel
theorem dX2_copyOf_157 : decode cX2_copyOf 157 = .ok (.invokestatic 55, 3) := by decide +kernel
theorem dX2_copyOf_160 : decode cX2_copyOf 160 = .ok (.return_, 1) := by decide +kernel
theorem dX2_isTold_0 : decode cX2_isTold 0 = .ok (.aload_n 0, 1) := by decide +kernel
theorem dX2_isTold_1 : decode cX2_isTold 1 = .ok (.getfield 33, 3) := by decide +kernel
theorem dX2_isTold_4 : decode cX2_isTold 4 = .ok (.ifCond .le 7, 3) := by decide +kernel
theorem dX2_isTold_7 : decode cX2_isTold 7 = .ok (.iconst 1, 1) := by decide +kernel
theorem dX2_isTold_8 : decode cX2_isTold 8 = .ok (.goto 4, 3) := by decide +kernel
theorem dX2_isTold_11 : decode cX2_isTold 11 = .ok (.iconst 0, 1) := by decide +kernel
theorem dX2_isTold_12 : decode cX2_isTold 12 = .ok (.ireturn, 1) := by decide +kernel
theorem dX2_hasLane_0 : decode cX2_hasLane 0 = .ok (.iload_n 1, 1) := by decide +kernel
theorem dX2_hasLane_1 : decode cX2_hasLane 1 = .ok (.ifCond .lt 15, 3) := by decide +kernel
theorem dX2_hasLane_4 : decode cX2_hasLane 4 = .ok (.iload_n 1, 1) := by decide +kernel
theorem dX2_hasLane_5 : decode cX2_hasLane 5 = .ok (.aload_n 0, 1) := by decide +kernel
theorem dX2_hasLane_6 : decode cX2_hasLane 6 = .ok (.getfield 33, 3) := by decide +kernel
theorem dX2_hasLane_9 : decode cX2_hasLane 9 = .ok (.if_icmp .ge 7, 3) := by decide +kernel
theorem dX2_hasLane_12 : decode cX2_hasLane 12 = .ok (.iconst 1, 1) := by decide +kernel
theorem dX2_hasLane_13 : decode cX2_hasLane 13 = .ok (.goto 4, 3) := by decide +kernel
theorem dX2_hasLane_16 : decode cX2_hasLane 16 = .ok (.iconst 0, 1) := by decide +kernel
theorem dX2_hasLane_17 : decode cX2_hasLane 17 = .ok (.ireturn, 1) := by decide +kernel
theorem dX2_hasBeast_0 : decode cX2_hasBeast 0 = .ok (.iload_n 1, 1) := by decide +kernel
theorem dX2_hasBeast_1 : decode cX2_hasBeast 1 = .ok (.ifCond .lt 15, 3) := by decide +kernel
theorem dX2_hasBeast_4 : decode cX2_hasBeast 4 = .ok (.iload_n 1, 1) := by decide +kernel
theorem dX2_hasBeast_5 : decode cX2_hasBeast 5 = .ok (.aload_n 0, 1) := by decide +kernel
theorem dX2_hasBeast_6 : decode cX2_hasBeast 6 = .ok (.getfield 43, 3) := by decide +kernel
theorem dX2_hasBeast_9 : decode cX2_hasBeast 9 = .ok (.if_icmp .ge 7, 3) := by decide +kernel
theorem dX2_hasBeast_12 : decode cX2_hasBeast 12 = .ok (.iconst 1, 1) := by decide +kernel
theorem dX2_hasBeast_13 : decode cX2_hasBeast 13 = .ok (.goto 4, 3) := by decide +kernel
theorem dX2_hasBeast_16 : decode cX2_hasBeast 16 = .ok (.iconst 0, 1) := by decide +kernel
theorem dX2_hasBeast_17 : decode cX2_hasBeast 17 = .ok (.ireturn, 1) := by decide +kernel
theorem dX2_hasCity_0 : decode cX2_hasCity 0 = .ok (.iload_n 1, 1) := by decide +kernel
theorem dX2_hasCity_1 : decode cX2_hasCity 1 = .ok (.ifCond .lt 15, 3) := by decide +kernel
theorem dX2_hasCity_4 : decode cX2_hasCity 4 = .ok (.iload_n 1, 1) := by decide +kernel
theorem dX2_hasCity_5 : decode cX2_hasCity 5 = .ok (.aload_n 0, 1) := by decide +kernel
theorem dX2_hasCity_6 : decode cX2_hasCity 6 = .ok (.getfield 46, 3) := by decide +kernel
theorem dX2_hasCity_9 : decode cX2_hasCity 9 = .ok (.if_icmp .ge 7, 3) := by decide +kernel
theorem dX2_hasCity_12 : decode cX2_hasCity 12 = .ok (.iconst 1, 1) := by decide +kernel
theorem dX2_hasCity_13 : decode cX2_hasCity 13 = .ok (.goto 4, 3) := by decide +kernel
theorem dX2_hasCity_16 : decode cX2_hasCity 16 = .ok (.iconst 0, 1) := by decide +kernel
theorem dX2_hasCity_17 : decode cX2_hasCity 17 = .ok (.ireturn, 1) := by decide +kernel
theorem dX2_isLaneTold_0 : decode cX2_isLaneTold 0 = .ok (.aload_n 0, 1) := by decide +kernel
theorem dX2_isLaneTold_1 : decode cX2_isLaneTold 1 = .ok (.getfield 40, 3) := by decide +kernel
theorem dX2_isLaneTold_4 : decode cX2_isLaneTold 4 = .ok (.iload_n 1, 1) := by decide +kernel
theorem dX2_isLaneTold_5 : decode cX2_isLaneTold 5 = .ok (.ishr, 1) := by decide +kernel
theorem dX2_isLaneTold_6 : decode cX2_isLaneTold 6 = .ok (.iconst 1, 1) := by decide +kernel
theorem dX2_isLaneTold_7 : decode cX2_isLaneTold 7 = .ok (.iand, 1) := by decide +kernel
theorem dX2_isLaneTold_8 : decode cX2_isLaneTold 8 = .ok (.iconst 1, 1) := by decide +kernel
theorem dX2_isLaneTold_9 : decode cX2_isLaneTold 9 = .ok (.if_icmp .ne 7, 3) := by decide +kernel
theorem dX2_isLaneTold_12 : decode cX2_isLaneTold 12 = .ok (.iconst 1, 1) := by decide +kernel
theorem dX2_isLaneTold_13 : decode cX2_isLaneTold 13 = .ok (.goto 4, 3) := by decide +kernel
theorem dX2_isLaneTold_16 : decode cX2_isLaneTold 16 = .ok (.iconst 0, 1) := by decide +kernel
theorem dX2_isLaneTold_17 : decode cX2_isLaneTold 17 = .ok (.ireturn, 1) := by decide +kernel
theorem dX2_hasTurned_0 : decode cX2_hasTurned 0 = .ok (.aload_n 0, 1) := by decide +kernel
theorem dX2_hasTurned_1 : decode cX2_hasTurned 1 = .ok (.getfield 52, 3) := by decide +kernel
theorem dX2_hasTurned_4 : decode cX2_hasTurned 4 = .ok (.iload_n 1, 1) := by decide +kernel
theorem dX2_hasTurned_5 : decode cX2_hasTurned 5 = .ok (.ishr, 1) := by decide +kernel
theorem dX2_hasTurned_6 : decode cX2_hasTurned 6 = .ok (.iconst 1, 1) := by decide +kernel
theorem dX2_hasTurned_7 : decode cX2_hasTurned 7 = .ok (.iand, 1) := by decide +kernel
theorem dX2_hasTurned_8 : decode cX2_hasTurned 8 = .ok (.iconst 1, 1) := by decide +kernel
theorem dX2_hasTurned_9 : decode cX2_hasTurned 9 = .ok (.if_icmp .ne 7, 3) := by decide +kernel
theorem dX2_hasTurned_12 : decode cX2_hasTurned 12 = .ok (.iconst 1, 1) := by decide +kernel
theorem dX2_hasTurned_13 : decode cX2_hasTurned 13 = .ok (.goto 4, 3) := by decide +kernel
theorem dX2_hasTurned_16 : decode cX2_hasTurned 16 = .ok (.iconst 0, 1) := by decide +kernel
theorem dX2_hasTurned_17 : decode cX2_hasTurned 17 = .ok (.ireturn, 1) := by decide +kernel
theorem dX2_lossBetween_0 : decode cX2_lossBetween 0 = .ok (.aload_n 0, 1) := by decide +kernel
theorem dX2_lossBetween_1 : decode cX2_lossBetween 1 = .ok (.iload_n 1, 1) := by decide +kernel
theorem dX2_lossBetween_2 : decode cX2_lossBetween 2 = .ok (.invokevirtual 61, 3) := by decide +kernel
theorem dX2_lossBetween_5 : decode cX2_lossBetween 5 = .ok (.ifCond .eq 27, 3) := by decide +kernel
theorem dX2_lossBetween_8 : decode cX2_lossBetween 8 = .ok (.aload_n 0, 1) := by decide +kernel
theorem dX2_lossBetween_9 : decode cX2_lossBetween 9 = .ok (.iload_n 2, 1) := by decide +kernel
theorem dX2_lossBetween_10 : decode cX2_lossBetween 10 = .ok (.invokevirtual 61, 3) := by decide +kernel
theorem dX2_lossBetween_13 : decode cX2_lossBetween 13 = .ok (.ifCond .eq 19, 3) := by decide +kernel
theorem dX2_lossBetween_16 : decode cX2_lossBetween 16 = .ok (.aload_n 0, 1) := by decide +kernel
theorem dX2_lossBetween_17 : decode cX2_lossBetween 17 = .ok (.getfield 30, 3) := by decide +kernel
theorem dX2_lossBetween_20 : decode cX2_lossBetween 20 = .ok (.iload_n 1, 1) := by decide +kernel
theorem dX2_lossBetween_21 : decode cX2_lossBetween 21 = .ok (.bipush 6, 2) := by decide +kernel
theorem dX2_lossBetween_23 : decode cX2_lossBetween 23 = .ok (.imul, 1) := by decide +kernel
theorem dX2_lossBetween_24 : decode cX2_lossBetween 24 = .ok (.iload_n 2, 1) := by decide +kernel
theorem dX2_lossBetween_25 : decode cX2_lossBetween 25 = .ok (.iadd, 1) := by decide +kernel
theorem dX2_lossBetween_26 : decode cX2_lossBetween 26 = .ok (.iaload, 1) := by decide +kernel
theorem dX2_lossBetween_27 : decode cX2_lossBetween 27 = .ok (.iconst 1, 1) := by decide +kernel
theorem dX2_lossBetween_28 : decode cX2_lossBetween 28 = .ok (.isub, 1) := by decide +kernel
theorem dX2_lossBetween_29 : decode cX2_lossBetween 29 = .ok (.goto 4, 3) := by decide +kernel
theorem dX2_lossBetween_32 : decode cX2_lossBetween 32 = .ok (.iconst (-1), 1) := by decide +kernel
theorem dX2_lossBetween_33 : decode cX2_lossBetween 33 = .ok (.ireturn, 1) := by decide +kernel
theorem dX2_tellLane_0 : decode cX2_tellLane 0 = .ok (.aload_n 0, 1) := by decide +kernel
theorem dX2_tellLane_1 : decode cX2_tellLane 1 = .ok (.iload_n 1, 1) := by decide +kernel
theorem dX2_tellLane_2 : decode cX2_tellLane 2 = .ok (.invokevirtual 65, 3) := by decide +kernel
theorem dX2_tellLane_5 : decode cX2_tellLane 5 = .ok (.ifCond .eq 29, 3) := by decide +kernel
theorem dX2_tellLane_8 : decode cX2_tellLane 8 = .ok (.aload_n 0, 1) := by decide +kernel
theorem dX2_tellLane_9 : decode cX2_tellLane 9 = .ok (.dup, 1) := by decide +kernel
theorem dX2_tellLane_10 : decode cX2_tellLane 10 = .ok (.getfield 40, 3) := by decide +kernel
theorem dX2_tellLane_13 : decode cX2_tellLane 13 = .ok (.iconst 1, 1) := by decide +kernel
theorem dX2_tellLane_14 : decode cX2_tellLane 14 = .ok (.iload_n 1, 1) := by decide +kernel
theorem dX2_tellLane_15 : decode cX2_tellLane 15 = .ok (.ishl, 1) := by decide +kernel
theorem dX2_tellLane_16 : decode cX2_tellLane 16 = .ok (.ior, 1) := by decide +kernel
theorem dX2_tellLane_17 : decode cX2_tellLane 17 = .ok (.putfield 40, 3) := by decide +kernel
theorem dX2_tellLane_20 : decode cX2_tellLane 20 = .ok (.aload_n 0, 1) := by decide +kernel
theorem dX2_tellLane_21 : decode cX2_tellLane 21 = .ok (.getfield 9, 3) := by decide +kernel
theorem dX2_tellLane_24 : decode cX2_tellLane 24 = .ok (.iload_n 1, 1) := by decide +kernel
theorem dX2_tellLane_25 : decode cX2_tellLane 25 = .ok (.iload_n 2, 1) := by decide +kernel
theorem dX2_tellLane_26 : decode cX2_tellLane 26 = .ok (.iastore, 1) := by decide +kernel
theorem dX2_tellLane_27 : decode cX2_tellLane 27 = .ok (.aload_n 0, 1) := by decide +kernel
theorem dX2_tellLane_28 : decode cX2_tellLane 28 = .ok (.getfield 15, 3) := by decide +kernel
theorem dX2_tellLane_31 : decode cX2_tellLane 31 = .ok (.iload_n 1, 1) := by decide +kernel
theorem dX2_tellLane_32 : decode cX2_tellLane 32 = .ok (.iload_n 3, 1) := by decide +kernel
theorem dX2_tellLane_33 : decode cX2_tellLane 33 = .ok (.iastore, 1) := by decide +kernel
theorem dX2_tellLane_34 : decode cX2_tellLane 34 = .ok (.return_, 1) := by decide +kernel
theorem dX2_addBeast_0 : decode cX2_addBeast 0 = .ok (.aload_n 0, 1) := by decide +kernel
theorem dX2_addBeast_1 : decode cX2_addBeast 1 = .ok (.getfield 43, 3) := by decide +kernel
theorem dX2_addBeast_4 : decode cX2_addBeast 4 = .ok (.iconst 5, 1) := by decide +kernel
theorem dX2_addBeast_5 : decode cX2_addBeast 5 = .ok (.if_icmp .ge 54, 3) := by decide +kernel
theorem dX2_addBeast_8 : decode cX2_addBeast 8 = .ok (.aload_n 0, 1) := by decide +kernel
theorem dX2_addBeast_9 : decode cX2_addBeast 9 = .ok (.getfield 18, 3) := by decide +kernel
theorem dX2_addBeast_12 : decode cX2_addBeast 12 = .ok (.aload_n 0, 1) := by decide +kernel
theorem dX2_addBeast_13 : decode cX2_addBeast 13 = .ok (.getfield 43, 3) := by decide +kernel
theorem dX2_addBeast_16 : decode cX2_addBeast 16 = .ok (.iload_n 1, 1) := by decide +kernel
theorem dX2_addBeast_17 : decode cX2_addBeast 17 = .ok (.iastore, 1) := by decide +kernel
theorem dX2_addBeast_18 : decode cX2_addBeast 18 = .ok (.aload_n 0, 1) := by decide +kernel
theorem dX2_addBeast_19 : decode cX2_addBeast 19 = .ok (.getfield 21, 3) := by decide +kernel
theorem dX2_addBeast_22 : decode cX2_addBeast 22 = .ok (.aload_n 0, 1) := by decide +kernel
theorem dX2_addBeast_23 : decode cX2_addBeast 23 = .ok (.getfield 43, 3) := by decide +kernel
theorem dX2_addBeast_26 : decode cX2_addBeast 26 = .ok (.iload_n 2, 1) := by decide +kernel
theorem dX2_addBeast_27 : decode cX2_addBeast 27 = .ok (.iastore, 1) := by decide +kernel
theorem dX2_addBeast_28 : decode cX2_addBeast 28 = .ok (.aload_n 0, 1) := by decide +kernel
theorem dX2_addBeast_29 : decode cX2_addBeast 29 = .ok (.getfield 24, 3) := by decide +kernel
theorem dX2_addBeast_32 : decode cX2_addBeast 32 = .ok (.aload_n 0, 1) := by decide +kernel
theorem dX2_addBeast_33 : decode cX2_addBeast 33 = .ok (.getfield 43, 3) := by decide +kernel
theorem dX2_addBeast_36 : decode cX2_addBeast 36 = .ok (.iload_n 3, 1) := by decide +kernel
theorem dX2_addBeast_37 : decode cX2_addBeast 37 = .ok (.iastore, 1) := by decide +kernel
theorem dX2_addBeast_38 : decode cX2_addBeast 38 = .ok (.aload_n 0, 1) := by decide +kernel
theorem dX2_addBeast_39 : decode cX2_addBeast 39 = .ok (.getfield 27, 3) := by decide +kernel
theorem dX2_addBeast_42 : decode cX2_addBeast 42 = .ok (.aload_n 0, 1) := by decide +kernel
theorem dX2_addBeast_43 : decode cX2_addBeast 43 = .ok (.getfield 43, 3) := by decide +kernel
theorem dX2_addBeast_46 : decode cX2_addBeast 46 = .ok (.iload 4, 2) := by decide +kernel
theorem dX2_addBeast_48 : decode cX2_addBeast 48 = .ok (.iastore, 1) := by decide +kernel
theorem dX2_addBeast_49 : decode cX2_addBeast 49 = .ok (.aload_n 0, 1) := by decide +kernel
theorem dX2_addBeast_50 : decode cX2_addBeast 50 = .ok (.dup, 1) := by decide +kernel
theorem dX2_addBeast_51 : decode cX2_addBeast 51 = .ok (.getfield 43, 3) := by decide +kernel
theorem dX2_addBeast_54 : decode cX2_addBeast 54 = .ok (.iconst 1, 1) := by decide +kernel
theorem dX2_addBeast_55 : decode cX2_addBeast 55 = .ok (.iadd, 1) := by decide +kernel
theorem dX2_addBeast_56 : decode cX2_addBeast 56 = .ok (.putfield 43, 3) := by decide +kernel
theorem dX2_addBeast_59 : decode cX2_addBeast 59 = .ok (.return_, 1) := by decide +kernel
theorem dX2_addPass_0 : decode cX2_addPass 0 = .ok (.aload_n 0, 1) := by decide +kernel
theorem dX2_addPass_1 : decode cX2_addPass 1 = .ok (.iload_n 1, 1) := by decide +kernel
theorem dX2_addPass_2 : decode cX2_addPass 2 = .ok (.invokevirtual 61, 3) := by decide +kernel
theorem dX2_addPass_5 : decode cX2_addPass 5 = .ok (.ifCond .eq 49, 3) := by decide +kernel
theorem dX2_addPass_8 : decode cX2_addPass 8 = .ok (.aload_n 0, 1) := by decide +kernel
theorem dX2_addPass_9 : decode cX2_addPass 9 = .ok (.iload_n 2, 1) := by decide +kernel
theorem dX2_addPass_10 : decode cX2_addPass 10 = .ok (.invokevirtual 61, 3) := by decide +kernel
theorem dX2_addPass_13 : decode cX2_addPass 13 = .ok (.ifCond .eq 41, 3) := by decide +kernel
theorem dX2_addPass_16 : decode cX2_addPass 16 = .ok (.aload_n 0, 1) := by decide +kernel
theorem dX2_addPass_17 : decode cX2_addPass 17 = .ok (.getfield 30, 3) := by decide +kernel
theorem dX2_addPass_20 : decode cX2_addPass 20 = .ok (.iload_n 1, 1) := by decide +kernel
theorem dX2_addPass_21 : decode cX2_addPass 21 = .ok (.bipush 6, 2) := by decide +kernel
theorem dX2_addPass_23 : decode cX2_addPass 23 = .ok (.imul, 1) := by decide +kernel
theorem dX2_addPass_24 : decode cX2_addPass 24 = .ok (.iload_n 2, 1) := by decide +kernel
theorem dX2_addPass_25 : decode cX2_addPass 25 = .ok (.iadd, 1) := by decide +kernel
theorem dX2_addPass_26 : decode cX2_addPass 26 = .ok (.iload_n 3, 1) := by decide +kernel
theorem dX2_addPass_27 : decode cX2_addPass 27 = .ok (.iconst 1, 1) := by decide +kernel
theorem dX2_addPass_28 : decode cX2_addPass 28 = .ok (.iadd, 1) := by decide +kernel
theorem dX2_addPass_29 : decode cX2_addPass 29 = .ok (.iastore, 1) := by decide +kernel
theorem dX2_addPass_30 : decode cX2_addPass 30 = .ok (.aload_n 0, 1) := by decide +kernel
theorem dX2_addPass_31 : decode cX2_addPass 31 = .ok (.getfield 30, 3) := by decide +kernel
theorem dX2_addPass_34 : decode cX2_addPass 34 = .ok (.iload_n 2, 1) := by decide +kernel
theorem dX2_addPass_35 : decode cX2_addPass 35 = .ok (.bipush 6, 2) := by decide +kernel
theorem dX2_addPass_37 : decode cX2_addPass 37 = .ok (.imul, 1) := by decide +kernel
theorem dX2_addPass_38 : decode cX2_addPass 38 = .ok (.iload_n 1, 1) := by decide +kernel
theorem dX2_addPass_39 : decode cX2_addPass 39 = .ok (.iadd, 1) := by decide +kernel
theorem dX2_addPass_40 : decode cX2_addPass 40 = .ok (.iload_n 3, 1) := by decide +kernel
theorem dX2_addPass_41 : decode cX2_addPass 41 = .ok (.iconst 1, 1) := by decide +kernel
theorem dX2_addPass_42 : decode cX2_addPass 42 = .ok (.iadd, 1) := by decide +kernel
theorem dX2_addPass_43 : decode cX2_addPass 43 = .ok (.iastore, 1) := by decide +kernel
theorem dX2_addPass_44 : decode cX2_addPass 44 = .ok (.aload_n 0, 1) := by decide +kernel
theorem dX2_addPass_45 : decode cX2_addPass 45 = .ok (.dup, 1) := by decide +kernel
theorem dX2_addPass_46 : decode cX2_addPass 46 = .ok (.getfield 49, 3) := by decide +kernel
theorem dX2_addPass_49 : decode cX2_addPass 49 = .ok (.iconst 1, 1) := by decide +kernel
theorem dX2_addPass_50 : decode cX2_addPass 50 = .ok (.iadd, 1) := by decide +kernel
theorem dX2_addPass_51 : decode cX2_addPass 51 = .ok (.putfield 49, 3) := by decide +kernel
theorem dX2_addPass_54 : decode cX2_addPass 54 = .ok (.return_, 1) := by decide +kernel
theorem dX4_init_0 : decode cX4_init 0 = .ok (.aload_n 0, 1) := by decide +kernel
theorem dX4_init_1 : decode cX4_init 1 = .ok (.invokespecial 3, 3) := by decide +kernel
theorem dX4_init_4 : decode cX4_init 4 = .ok (.aload_n 0, 1) := by decide +kernel
theorem dX4_init_5 : decode cX4_init 5 = .ok (.aload_n 1, 1) := by decide +kernel
theorem dX4_init_6 : decode cX4_init 6 = .ok (.putfield 9, 3) := by decide +kernel
theorem dX4_init_9 : decode cX4_init 9 = .ok (.aload_n 0, 1) := by decide +kernel
theorem dX4_init_10 : decode cX4_init 10 = .ok (.aload_n 2, 1) := by decide +kernel
theorem dX4_init_11 : decode cX4_init 11 = .ok (.putfield 15, 3) := by decide +kernel
theorem dX4_init_14 : decode cX4_init 14 = .ok (.return_, 1) := by decide +kernel
theorem dX4_firstForce_0 : decode cX4_firstForce 0 = .ok (.iload_n 0, 1) := by decide +kernel
theorem dX4_firstForce_1 : decode cX4_firstForce 1 = .ok (.iconst 1, 1) := by decide +kernel
theorem dX4_firstForce_2 : decode cX4_firstForce 2 = .ok (.if_icmp .ne 7, 3) := by decide +kernel
theorem dX4_firstForce_5 : decode cX4_firstForce 5 = .ok (.iconst 5, 1) := by decide +kernel
theorem dX4_firstForce_6 : decode cX4_firstForce 6 = .ok (.goto 25, 3) := by decide +kernel
theorem dX4_firstForce_9 : decode cX4_firstForce 9 = .ok (.iload_n 0, 1) := by decide +kernel
theorem dX4_firstForce_10 : decode cX4_firstForce 10 = .ok (.iconst 2, 1) := by decide +kernel
theorem dX4_firstForce_11 : decode cX4_firstForce 11 = .ok (.if_icmp .ne 8, 3) := by decide +kernel
theorem dX4_firstForce_14 : decode cX4_firstForce 14 = .ok (.bipush 30, 2) := by decide +kernel
theorem dX4_firstForce_16 : decode cX4_firstForce 16 = .ok (.goto 15, 3) := by decide +kernel
theorem dX4_firstForce_19 : decode cX4_firstForce 19 = .ok (.iload_n 0, 1) := by decide +kernel
theorem dX4_firstForce_20 : decode cX4_firstForce 20 = .ok (.iconst 3, 1) := by decide +kernel
theorem dX4_firstForce_21 : decode cX4_firstForce 21 = .ok (.if_icmp .ne 8, 3) := by decide +kernel
theorem dX4_firstForce_24 : decode cX4_firstForce 24 = .ok (.bipush 25, 2) := by decide +kernel
theorem dX4_firstForce_26 : decode cX4_firstForce 26 = .ok (.goto 5, 3) := by decide +kernel
theorem dX4_firstForce_29 : decode cX4_firstForce 29 = .ok (.bipush 20, 2) := by decide +kernel
theorem dX4_firstForce_31 : decode cX4_firstForce 31 = .ok (.ireturn, 1) := by decide +kernel
theorem dX4_holdBy_0 : decode cX4_holdBy 0 = .ok (.iload_n 0, 1) := by decide +kernel
theorem dX4_holdBy_1 : decode cX4_holdBy 1 = .ok (.tableswitch 58 1 3 #[27, 36, 46], 27) := by decide +kernel
theorem dX4_holdBy_28 : decode cX4_holdBy 28 = .ok (.iconst 0, 1) := by decide +kernel
theorem dX4_holdBy_29 : decode cX4_holdBy 29 = .ok (.iload_n 1, 1) := by decide +kernel
theorem dX4_holdBy_30 : decode cX4_holdBy 30 = .ok (.bipush 20, 2) := by decide +kernel
theorem dX4_holdBy_32 : decode cX4_holdBy 32 = .ok (.isub, 1) := by decide +kernel
theorem dX4_holdBy_33 : decode cX4_holdBy 33 = .ok (.invokestatic 19, 3) := by decide +kernel
theorem dX4_holdBy_36 : decode cX4_holdBy 36 = .ok (.ireturn, 1) := by decide +kernel
theorem dX4_holdBy_37 : decode cX4_holdBy 37 = .ok (.bipush 100, 2) := by decide +kernel
theorem dX4_holdBy_39 : decode cX4_holdBy 39 = .ok (.iload_n 1, 1) := by decide +kernel
theorem dX4_holdBy_40 : decode cX4_holdBy 40 = .ok (.bipush 20, 2) := by decide +kernel
theorem dX4_holdBy_42 : decode cX4_holdBy 42 = .ok (.iadd, 1) := by decide +kernel
theorem dX4_holdBy_43 : decode cX4_holdBy 43 = .ok (.invokestatic 25, 3) := by decide +kernel
theorem dX4_holdBy_46 : decode cX4_holdBy 46 = .ok (.ireturn, 1) := by decide +kernel
theorem dX4_holdBy_47 : decode cX4_holdBy 47 = .ok (.iload_n 2, 1) := by decide +kernel
theorem dX4_holdBy_48 : decode cX4_holdBy 48 = .ok (.ifCond .eq 9, 3) := by decide +kernel
theorem dX4_holdBy_51 : decode cX4_holdBy 51 = .ok (.iload_n 1, 1) := by decide +kernel
theorem dX4_holdBy_52 : decode cX4_holdBy 52 = .ok (.iconst 2, 1) := by decide +kernel
theorem dX4_holdBy_53 : decode cX4_holdBy 53 = .ok (.idiv, 1) := by decide +kernel
theorem dX4_holdBy_54 : decode cX4_holdBy 54 = .ok (.goto 4, 3) := by decide +kernel
theorem dX4_holdBy_57 : decode cX4_holdBy 57 = .ok (.iload_n 1, 1) := by decide +kernel
theorem dX4_holdBy_58 : decode cX4_holdBy 58 = .ok (.ireturn, 1) := by decide +kernel
theorem dX4_holdBy_59 : decode cX4_holdBy 59 = .ok (.iload_n 1, 1) := by decide +kernel
theorem dX4_holdBy_60 : decode cX4_holdBy 60 = .ok (.ireturn, 1) := by decide +kernel
theorem dX4_forceOf_0 : decode cX4_forceOf 0 = .ok (.aload_n 0, 1) := by decide +kernel
theorem dX4_forceOf_1 : decode cX4_forceOf 1 = .ok (.getfield 15, 3) := by decide +kernel
theorem dX4_forceOf_4 : decode cX4_forceOf 4 = .ok (.iload_n 1, 1) := by decide +kernel
theorem dX4_forceOf_5 : decode cX4_forceOf 5 = .ok (.invokevirtual 28, 3) := by decide +kernel
theorem dX4_forceOf_8 : decode cX4_forceOf 8 = .ok (.ifCond .eq 7, 3) := by decide +kernel
theorem dX4_forceOf_11 : decode cX4_forceOf 11 = .ok (.iconst 0, 1) := by decide +kernel
theorem dX4_forceOf_12 : decode cX4_forceOf 12 = .ok (.goto 29, 3) := by decide +kernel
theorem dX4_forceOf_15 : decode cX4_forceOf 15 = .ok (.iconst 0, 1) := by decide +kernel
theorem dX4_forceOf_16 : decode cX4_forceOf 16 = .ok (.aload_n 0, 1) := by decide +kernel
theorem dX4_forceOf_17 : decode cX4_forceOf 17 = .ok (.getfield 9, 3) := by decide +kernel
theorem dX4_forceOf_20 : decode cX4_forceOf 20 = .ok (.getfield 34, 3) := by decide +kernel
theorem dX4_forceOf_23 : decode cX4_forceOf 23 = .ok (.iload_n 1, 1) := by decide +kernel
theorem dX4_forceOf_24 : decode cX4_forceOf 24 = .ok (.iaload, 1) := by decide +kernel
theorem dX4_forceOf_25 : decode cX4_forceOf 25 = .ok (.invokestatic 40, 3) := by decide +kernel
theorem dX4_forceOf_28 : decode cX4_forceOf 28 = .ok (.aload_n 0, 1) := by decide +kernel
theorem dX4_forceOf_29 : decode cX4_forceOf 29 = .ok (.getfield 15, 3) := by decide +kernel
theorem dX4_forceOf_32 : decode cX4_forceOf 32 = .ok (.getfield 44, 3) := by decide +kernel
theorem dX4_forceOf_35 : decode cX4_forceOf 35 = .ok (.iload_n 1, 1) := by decide +kernel
theorem dX4_forceOf_36 : decode cX4_forceOf 36 = .ok (.iaload, 1) := by decide +kernel
theorem dX4_forceOf_37 : decode cX4_forceOf 37 = .ok (.isub, 1) := by decide +kernel
theorem dX4_forceOf_38 : decode cX4_forceOf 38 = .ok (.invokestatic 19, 3) := by decide +kernel
theorem dX4_forceOf_41 : decode cX4_forceOf 41 = .ok (.ireturn, 1) := by decide +kernel
theorem dX4_holdOf_0 : decode cX4_holdOf 0 = .ok (.aload_n 0, 1) := by decide +kernel
theorem dX4_holdOf_1 : decode cX4_holdOf 1 = .ok (.getfield 9, 3) := by decide +kernel
theorem dX4_holdOf_4 : decode cX4_holdOf 4 = .ok (.getfield 34, 3) := by decide +kernel
theorem dX4_holdOf_7 : decode cX4_holdOf 7 = .ok (.iload_n 1, 1) := by decide +kernel
theorem dX4_holdOf_8 : decode cX4_holdOf 8 = .ok (.iaload, 1) := by decide +kernel
theorem dX4_holdOf_9 : decode cX4_holdOf 9 = .ok (.aload_n 0, 1) := by decide +kernel
theorem dX4_holdOf_10 : decode cX4_holdOf 10 = .ok (.getfield 9, 3) := by decide +kernel
theorem dX4_holdOf_13 : decode cX4_holdOf 13 = .ok (.getfield 47, 3) := by decide +kernel
theorem dX4_holdOf_16 : decode cX4_holdOf 16 = .ok (.iload_n 1, 1) := by decide +kernel
theorem dX4_holdOf_17 : decode cX4_holdOf 17 = .ok (.iaload, 1) := by decide +kernel
theorem dX4_holdOf_18 : decode cX4_holdOf 18 = .ok (.aload_n 0, 1) := by decide +kernel
theorem dX4_holdOf_19 : decode cX4_holdOf 19 = .ok (.getfield 15, 3) := by decide +kernel
theorem dX4_holdOf_22 : decode cX4_holdOf 22 = .ok (.getfield 50, 3) := by decide +kernel
theorem dX4_holdOf_25 : decode cX4_holdOf 25 = .ok (.invokestatic 54, 3) := by decide +kernel
theorem dX4_holdOf_28 : decode cX4_holdOf 28 = .ok (.ireturn, 1) := by decide +kernel
theorem dX4_foeHarm_0 : decode cX4_foeHarm 0 = .ok (.iload_n 2, 1) := by decide +kernel
theorem dX4_foeHarm_1 : decode cX4_foeHarm 1 = .ok (.tableswitch 71 1 3 #[27, 39, 52], 27) := by decide +kernel
theorem dX4_foeHarm_28 : decode cX4_foeHarm 28 = .ok (.iload_n 0, 1) := by decide +kernel
theorem dX4_foeHarm_29 : decode cX4_foeHarm 29 = .ok (.iconst 2, 1) := by decide +kernel
theorem dX4_foeHarm_30 : decode cX4_foeHarm 30 = .ok (.if_icmp .ne 8, 3) := by decide +kernel
theorem dX4_foeHarm_33 : decode cX4_foeHarm 33 = .ok (.bipush 10, 2) := by decide +kernel
theorem dX4_foeHarm_35 : decode cX4_foeHarm 35 = .ok (.goto 4, 3) := by decide +kernel
theorem dX4_foeHarm_38 : decode cX4_foeHarm 38 = .ok (.iconst 0, 1) := by decide +kernel
theorem dX4_foeHarm_39 : decode cX4_foeHarm 39 = .ok (.ireturn, 1) := by decide +kernel
theorem dX4_foeHarm_40 : decode cX4_foeHarm 40 = .ok (.iload_n 1, 1) := by decide +kernel
theorem dX4_foeHarm_41 : decode cX4_foeHarm 41 = .ok (.iload_n 3, 1) := by decide +kernel
theorem dX4_foeHarm_42 : decode cX4_foeHarm 42 = .ok (.if_icmp .le 7, 3) := by decide +kernel
theorem dX4_foeHarm_45 : decode cX4_foeHarm 45 = .ok (.iload_n 3, 1) := by decide +kernel
theorem dX4_foeHarm_46 : decode cX4_foeHarm 46 = .ok (.goto 6, 3) := by decide +kernel
theorem dX4_foeHarm_49 : decode cX4_foeHarm 49 = .ok (.iload_n 1, 1) := by decide +kernel
theorem dX4_foeHarm_50 : decode cX4_foeHarm 50 = .ok (.iconst 2, 1) := by decide +kernel
theorem dX4_foeHarm_51 : decode cX4_foeHarm 51 = .ok (.idiv, 1) := by decide +kernel
theorem dX4_foeHarm_52 : decode cX4_foeHarm 52 = .ok (.ireturn, 1) := by decide +kernel
theorem dX4_foeHarm_53 : decode cX4_foeHarm 53 = .ok (.iload_n 3, 1) := by decide +kernel
theorem dX4_foeHarm_54 : decode cX4_foeHarm 54 = .ok (.bipush 8, 2) := by decide +kernel
theorem dX4_foeHarm_56 : decode cX4_foeHarm 56 = .ok (.if_icmp .ge 8, 3) := by decide +kernel
theorem dX4_foeHarm_59 : decode cX4_foeHarm 59 = .ok (.bipush 15, 2) := by decide +kernel
theorem dX4_foeHarm_61 : decode cX4_foeHarm 61 = .ok (.goto 10, 3) := by decide +kernel
theorem dX4_foeHarm_64 : decode cX4_foeHarm 64 = .ok (.iconst 0, 1) := by decide +kernel
theorem dX4_foeHarm_65 : decode cX4_foeHarm 65 = .ok (.iload_n 1, 1) := by decide +kernel
theorem dX4_foeHarm_66 : decode cX4_foeHarm 66 = .ok (.iload_n 3, 1) := by decide +kernel
theorem dX4_foeHarm_67 : decode cX4_foeHarm 67 = .ok (.isub, 1) := by decide +kernel
theorem dX4_foeHarm_68 : decode cX4_foeHarm 68 = .ok (.invokestatic 19, 3) := by decide +kernel
theorem dX4_foeHarm_71 : decode cX4_foeHarm 71 = .ok (.ireturn, 1) := by decide +kernel
theorem dX4_foeHarm_72 : decode cX4_foeHarm 72 = .ok (.iconst 0, 1) := by decide +kernel
theorem dX4_foeHarm_73 : decode cX4_foeHarm 73 = .ok (.ireturn, 1) := by decide +kernel
theorem dX4_ownHarm_0 : decode cX4_ownHarm 0 = .ok (.iload_n 2, 1) := by decide +kernel
theorem dX4_ownHarm_1 : decode cX4_ownHarm 1 = .ok (.lookupswitch 49 #[(1, 27), (2, 38)], 27) := by decide +kernel
theorem dX4_ownHarm_28 : decode cX4_ownHarm 28 = .ok (.iload_n 0, 1) := by decide +kernel
theorem dX4_ownHarm_29 : decode cX4_ownHarm 29 = .ok (.iconst 2, 1) := by decide +kernel
theorem dX4_ownHarm_30 : decode cX4_ownHarm 30 = .ok (.if_icmp .ne 7, 3) := by decide +kernel
theorem dX4_ownHarm_33 : decode cX4_ownHarm 33 = .ok (.iconst 0, 1) := by decide +kernel
theorem dX4_ownHarm_34 : decode cX4_ownHarm 34 = .ok (.goto 4, 3) := by decide +kernel
theorem dX4_ownHarm_37 : decode cX4_ownHarm 37 = .ok (.iload_n 1, 1) := by decide +kernel
theorem dX4_ownHarm_38 : decode cX4_ownHarm 38 = .ok (.ireturn, 1) := by decide +kernel
theorem dX4_ownHarm_39 : decode cX4_ownHarm 39 = .ok (.iload_n 1, 1) := by decide +kernel
theorem dX4_ownHarm_40 : decode cX4_ownHarm 40 = .ok (.iload_n 3, 1) := by decide +kernel
theorem dX4_ownHarm_41 : decode cX4_ownHarm 41 = .ok (.if_icmp .le 7, 3) := by decide +kernel
theorem dX4_ownHarm_44 : decode cX4_ownHarm 44 = .ok (.iconst 0, 1) := by decide +kernel
theorem dX4_ownHarm_45 : decode cX4_ownHarm 45 = .ok (.goto 4, 3) := by decide +kernel
theorem dX4_ownHarm_48 : decode cX4_ownHarm 48 = .ok (.iload_n 1, 1) := by decide +kernel
theorem dX4_ownHarm_49 : decode cX4_ownHarm 49 = .ok (.ireturn, 1) := by decide +kernel
theorem dX4_ownHarm_50 : decode cX4_ownHarm 50 = .ok (.iconst 0, 1) := by decide +kernel
theorem dX4_ownHarm_51 : decode cX4_ownHarm 51 = .ok (.ireturn, 1) := by decide +kernel
theorem dX4_turningHarm_0 : decode cX4_turningHarm 0 = .ok (.iload_n 0, 1) := by decide +kernel
theorem dX4_turningHarm_1 : decode cX4_turningHarm 1 = .ok (.iconst 2, 1) := by decide +kernel
theorem dX4_turningHarm_2 : decode cX4_turningHarm 2 = .ok (.idiv, 1) := by decide +kernel
theorem dX4_turningHarm_3 : decode cX4_turningHarm 3 = .ok (.ireturn, 1) := by decide +kernel
theorem dX4_harmIn_0 : decode cX4_harmIn 0 = .ok (.aload_n 0, 1) := by decide +kernel
theorem dX4_harmIn_1 : decode cX4_harmIn 1 = .ok (.getfield 15, 3) := by decide +kernel
theorem dX4_harmIn_4 : decode cX4_harmIn 4 = .ok (.iload_n 1, 1) := by decide +kernel
theorem dX4_harmIn_5 : decode cX4_harmIn 5 = .ok (.invokevirtual 28, 3) := by decide +kernel
theorem dX4_harmIn_8 : decode cX4_harmIn 8 = .ok (.ifCond .eq 5, 3) := by decide +kernel
theorem dX4_harmIn_11 : decode cX4_harmIn 11 = .ok (.iconst 0, 1) := by decide +kernel
theorem dX4_harmIn_12 : decode cX4_harmIn 12 = .ok (.ireturn, 1) := by decide +kernel
theorem dX4_harmIn_13 : decode cX4_harmIn 13 = .ok (.aload_n 0, 1) := by decide +kernel
theorem dX4_harmIn_14 : decode cX4_harmIn 14 = .ok (.iload_n 1, 1) := by decide +kernel
theorem dX4_harmIn_15 : decode cX4_harmIn 15 = .ok (.invokevirtual 58, 3) := by decide +kernel
theorem dX4_harmIn_18 : decode cX4_harmIn 18 = .ok (.istore 4, 2) := by decide +kernel
theorem dX4_harmIn_20 : decode cX4_harmIn 20 = .ok (.iload_n 3, 1) := by decide +kernel
theorem dX4_harmIn_21 : decode cX4_harmIn 21 = .ok (.ifCond .eq 38, 3) := by decide +kernel
theorem dX4_harmIn_24 : decode cX4_harmIn 24 = .ok (.aload_n 0, 1) := by decide +kernel
theorem dX4_harmIn_25 : decode cX4_harmIn 25 = .ok (.getfield 9, 3) := by decide +kernel
theorem dX4_harmIn_28 : decode cX4_harmIn 28 = .ok (.getfield 34, 3) := by decide +kernel
theorem dX4_harmIn_31 : decode cX4_harmIn 31 = .ok (.iload_n 1, 1) := by decide +kernel
theorem dX4_harmIn_32 : decode cX4_harmIn 32 = .ok (.iaload, 1) := by decide +kernel
theorem dX4_harmIn_33 : decode cX4_harmIn 33 = .ok (.iload 4, 2) := by decide +kernel
theorem dX4_harmIn_35 : decode cX4_harmIn 35 = .ok (.aload_n 0, 1) := by decide +kernel
theorem dX4_harmIn_36 : decode cX4_harmIn 36 = .ok (.getfield 9, 3) := by decide +kernel
theorem dX4_harmIn_39 : decode cX4_harmIn 39 = .ok (.getfield 61, 3) := by decide +kernel
theorem dX4_harmIn_42 : decode cX4_harmIn 42 = .ok (.iload_n 2, 1) := by decide +kernel
theorem dX4_harmIn_43 : decode cX4_harmIn 43 = .ok (.iaload, 1) := by decide +kernel
theorem dX4_harmIn_44 : decode cX4_harmIn 44 = .ok (.aload_n 0, 1) := by decide +kernel
theorem dX4_harmIn_45 : decode cX4_harmIn 45 = .ok (.getfield 15, 3) := by decide +kernel
theorem dX4_harmIn_48 : decode cX4_harmIn 48 = .ok (.getfield 64, 3) := by decide +kernel
theorem dX4_harmIn_51 : decode cX4_harmIn 51 = .ok (.iload_n 2, 1) := by decide +kernel
theorem dX4_harmIn_52 : decode cX4_harmIn 52 = .ok (.iaload, 1) := by decide +kernel
theorem dX4_harmIn_53 : decode cX4_harmIn 53 = .ok (.invokestatic 67, 3) := by decide +kernel
theorem dX4_harmIn_56 : decode cX4_harmIn 56 = .ok (.goto 35, 3) := by decide +kernel
theorem dX4_harmIn_59 : decode cX4_harmIn 59 = .ok (.aload_n 0, 1) := by decide +kernel
theorem dX4_harmIn_60 : decode cX4_harmIn 60 = .ok (.getfield 9, 3) := by decide +kernel
theorem dX4_harmIn_63 : decode cX4_harmIn 63 = .ok (.getfield 34, 3) := by decide +kernel
theorem dX4_harmIn_66 : decode cX4_harmIn 66 = .ok (.iload_n 1, 1) := by decide +kernel
theorem dX4_harmIn_67 : decode cX4_harmIn 67 = .ok (.iaload, 1) := by decide +kernel
theorem dX4_harmIn_68 : decode cX4_harmIn 68 = .ok (.iload 4, 2) := by decide +kernel
theorem dX4_harmIn_70 : decode cX4_harmIn 70 = .ok (.aload_n 0, 1) := by decide +kernel
theorem dX4_harmIn_71 : decode cX4_harmIn 71 = .ok (.getfield 9, 3) := by decide +kernel
theorem dX4_harmIn_74 : decode cX4_harmIn 74 = .ok (.getfield 61, 3) := by decide +kernel
theorem dX4_harmIn_77 : decode cX4_harmIn 77 = .ok (.iload_n 2, 1) := by decide +kernel
theorem dX4_harmIn_78 : decode cX4_harmIn 78 = .ok (.iaload, 1) := by decide +kernel
theorem dX4_harmIn_79 : decode cX4_harmIn 79 = .ok (.aload_n 0, 1) := by decide +kernel
theorem dX4_harmIn_80 : decode cX4_harmIn 80 = .ok (.getfield 15, 3) := by decide +kernel
theorem dX4_harmIn_83 : decode cX4_harmIn 83 = .ok (.getfield 64, 3) := by decide +kernel
theorem dX4_harmIn_86 : decode cX4_harmIn 86 = .ok (.iload_n 2, 1) := by decide +kernel
theorem dX4_harmIn_87 : decode cX4_harmIn 87 = .ok (.iaload, 1) := by decide +kernel
theorem dX4_harmIn_88 : decode cX4_harmIn 88 = .ok (.invokestatic 71, 3) := by decide +kernel
theorem dX4_harmIn_91 : decode cX4_harmIn 91 = .ok (.ireturn, 1) := by decide +kernel
theorem dX4_power_0 : decode cX4_power 0 = .ok (.lconst 1, 1) := by decide +kernel
theorem dX4_power_1 : decode cX4_power 1 = .ok (.lstore_n 2, 1) := by decide +kernel
theorem dX4_power_2 : decode cX4_power 2 = .ok (.iconst 0, 1) := by decide +kernel
theorem dX4_power_3 : decode cX4_power 3 = .ok (.istore 4, 2) := by decide +kernel
theorem dX4_power_5 : decode cX4_power 5 = .ok (.iload 4, 2) := by decide +kernel
theorem dX4_power_7 : decode cX4_power 7 = .ok (.aload_n 0, 1) := by decide +kernel
theorem dX4_power_8 : decode cX4_power 8 = .ok (.getfield 9, 3) := by decide +kernel
theorem dX4_power_11 : decode cX4_power 11 = .ok (.getfield 74, 3) := by decide +kernel
theorem dX4_power_14 : decode cX4_power 14 = .ok (.if_icmp .ge 14, 3) := by decide +kernel
theorem dX4_power_17 : decode cX4_power 17 = .ok (.lload_n 2, 1) := by decide +kernel
theorem dX4_power_18 : decode cX4_power 18 = .ok (.iload_n 1, 1) := by decide +kernel
theorem dX4_power_19 : decode cX4_power 19 = .ok (.i2l, 1) := by decide +kernel
theorem dX4_power_20 : decode cX4_power 20 = .ok (.lmul, 1) := by decide +kernel
theorem dX4_power_21 : decode cX4_power 21 = .ok (.lstore_n 2, 1) := by decide +kernel
theorem dX4_power_22 : decode cX4_power 22 = .ok (.iinc 4 1, 3) := by decide +kernel
theorem dX4_power_25 : decode cX4_power 25 = .ok (.goto (-20), 3) := by decide +kernel
theorem dX4_power_28 : decode cX4_power 28 = .ok (.lload_n 2, 1) := by decide +kernel
theorem dX4_power_29 : decode cX4_power 29 = .ok (.lreturn, 1) := by decide +kernel
theorem dX4_full_0 : decode cX4_full 0 = .ok (.aload_n 0, 1) := by decide +kernel
theorem dX4_full_1 : decode cX4_full 1 = .ok (.bipush 100, 2) := by decide +kernel
theorem dX4_full_3 : decode cX4_full 3 = .ok (.invokevirtual 78, 3) := by decide +kernel
theorem dX4_full_6 : decode cX4_full 6 = .ok (.lreturn, 1) := by decide +kernel
theorem dX4_acrossOverFull_0 : decode cX4_acrossOverFull 0 = .ok (.aload_n 0, 1) := by decide +kernel
theorem dX4_acrossOverFull_1 : decode cX4_acrossOverFull 1 = .ok (.getfield 15, 3) := by decide +kernel
theorem dX4_acrossOverFull_4 : decode cX4_acrossOverFull 4 = .ok (.iload_n 1, 1) := by decide +kernel
theorem dX4_acrossOverFull_5 : decode cX4_acrossOverFull 5 = .ok (.invokevirtual 28, 3) := by decide +kernel
theorem dX4_acrossOverFull_8 : decode cX4_acrossOverFull 8 = .ok (.ifCond .eq 7, 3) := by decide +kernel
theorem dX4_acrossOverFull_11 : decode cX4_acrossOverFull 11 = .ok (.lconst 0, 1) := by decide +kernel
theorem dX4_acrossOverFull_12 : decode cX4_acrossOverFull 12 = .ok (.goto 12, 3) := by decide +kernel
theorem dX4_acrossOverFull_15 : decode cX4_acrossOverFull 15 = .ok (.aload_n 0, 1) := by decide +kernel
theorem dX4_acrossOverFull_16 : decode cX4_acrossOverFull 16 = .ok (.aload_n 0, 1) := by decide +kernel
theorem dX4_acrossOverFull_17 : decode cX4_acrossOverFull 17 = .ok (.iload_n 1, 1) := by decide +kernel
theorem dX4_acrossOverFull_18 : decode cX4_acrossOverFull 18 = .ok (.invokevirtual 82, 3) := by decide +kernel
theorem dX4_acrossOverFull_21 : decode cX4_acrossOverFull 21 = .ok (.invokevirtual 78, 3) := by decide +kernel
theorem dX4_acrossOverFull_24 : decode cX4_acrossOverFull 24 = .ok (.lreturn, 1) := by decide +kernel
theorem dX4_meanIn_0 : decode cX4_meanIn 0 = .ok (.aload_n 0, 1) := by decide +kernel
theorem dX4_meanIn_1 : decode cX4_meanIn 1 = .ok (.iload_n 1, 1) := by decide +kernel
theorem dX4_meanIn_2 : decode cX4_meanIn 2 = .ok (.invokevirtual 85, 3) := by decide +kernel
theorem dX4_meanIn_5 : decode cX4_meanIn 5 = .ok (.lstore 4, 2) := by decide +kernel
theorem dX4_meanIn_7 : decode cX4_meanIn 7 = .ok (.iload_n 3, 1) := by decide +kernel
theorem dX4_meanIn_8 : decode cX4_meanIn 8 = .ok (.ifCond .eq 23, 3) := by decide +kernel
theorem dX4_meanIn_11 : decode cX4_meanIn 11 = .ok (.aload_n 0, 1) := by decide +kernel
theorem dX4_meanIn_12 : decode cX4_meanIn 12 = .ok (.invokevirtual 88, 3) := by decide +kernel
theorem dX4_meanIn_15 : decode cX4_meanIn 15 = .ok (.lload 4, 2) := by decide +kernel
theorem dX4_meanIn_17 : decode cX4_meanIn 17 = .ok (.lsub, 1) := by decide +kernel
theorem dX4_meanIn_18 : decode cX4_meanIn 18 = .ok (.aload_n 0, 1) := by decide +kernel
theorem dX4_meanIn_19 : decode cX4_meanIn 19 = .ok (.iload_n 1, 1) := by decide +kernel
theorem dX4_meanIn_20 : decode cX4_meanIn 20 = .ok (.invokevirtual 58, 3) := by decide +kernel
theorem dX4_meanIn_23 : decode cX4_meanIn 23 = .ok (.invokestatic 92, 3) := by decide +kernel
theorem dX4_meanIn_26 : decode cX4_meanIn 26 = .ok (.i2l, 1) := by decide +kernel
theorem dX4_meanIn_27 : decode cX4_meanIn 27 = .ok (.lmul, 1) := by decide +kernel
theorem dX4_meanIn_28 : decode cX4_meanIn 28 = .ok (.goto 4, 3) := by decide +kernel
theorem dX4_meanIn_31 : decode cX4_meanIn 31 = .ok (.lconst 0, 1) := by decide +kernel
theorem dX4_meanIn_32 : decode cX4_meanIn 32 = .ok (.lstore 6, 2) := by decide +kernel
theorem dX4_meanIn_34 : decode cX4_meanIn 34 = .ok (.lload 4, 2) := by decide +kernel
theorem dX4_meanIn_36 : decode cX4_meanIn 36 = .ok (.aload_n 0, 1) := by decide +kernel
theorem dX4_meanIn_37 : decode cX4_meanIn 37 = .ok (.iload_n 1, 1) := by decide +kernel
theorem dX4_meanIn_38 : decode cX4_meanIn 38 = .ok (.iload_n 2, 1) := by decide +kernel
theorem dX4_meanIn_39 : decode cX4_meanIn 39 = .ok (.iload_n 3, 1) := by decide +kernel
theorem dX4_meanIn_40 : decode cX4_meanIn 40 = .ok (.invokevirtual 95, 3) := by decide +kernel
theorem dX4_meanIn_43 : decode cX4_meanIn 43 = .ok (.i2l, 1) := by decide +kernel
theorem dX4_meanIn_44 : decode cX4_meanIn 44 = .ok (.lmul, 1) := by decide +kernel
theorem dX4_meanIn_45 : decode cX4_meanIn 45 = .ok (.lload 6, 2) := by decide +kernel
theorem dX4_meanIn_47 : decode cX4_meanIn 47 = .ok (.ladd, 1) := by decide +kernel
theorem dX4_meanIn_48 : decode cX4_meanIn 48 = .ok (.lreturn, 1) := by decide +kernel
theorem dX4_worthBy_0 : decode cX4_worthBy 0 = .ok (.aload_n 0, 1) := by decide +kernel
theorem dX4_worthBy_1 : decode cX4_worthBy 1 = .ok (.getfield 15, 3) := by decide +kernel
theorem dX4_worthBy_4 : decode cX4_worthBy 4 = .ok (.iload_n 1, 1) := by decide +kernel
theorem dX4_worthBy_5 : decode cX4_worthBy 5 = .ok (.invokevirtual 28, 3) := by decide +kernel
theorem dX4_worthBy_8 : decode cX4_worthBy 8 = .ok (.ifCond .eq 5, 3) := by decide +kernel
theorem dX4_worthBy_11 : decode cX4_worthBy 11 = .ok (.lconst 0, 1) := by decide +kernel
theorem dX4_worthBy_12 : decode cX4_worthBy 12 = .ok (.lreturn, 1) := by decide +kernel
theorem dX4_worthBy_13 : decode cX4_worthBy 13 = .ok (.aload_n 0, 1) := by decide +kernel
theorem dX4_worthBy_14 : decode cX4_worthBy 14 = .ok (.getfield 9, 3) := by decide +kernel
theorem dX4_worthBy_17 : decode cX4_worthBy 17 = .ok (.getfield 34, 3) := by decide +kernel
theorem dX4_worthBy_20 : decode cX4_worthBy 20 = .ok (.iload_n 1, 1) := by decide +kernel
theorem dX4_worthBy_21 : decode cX4_worthBy 21 = .ok (.iaload, 1) := by decide +kernel
theorem dX4_worthBy_22 : decode cX4_worthBy 22 = .ok (.istore 5, 2) := by decide +kernel
theorem dX4_worthBy_24 : decode cX4_worthBy 24 = .ok (.aload_n 0, 1) := by decide +kernel
theorem dX4_worthBy_25 : decode cX4_worthBy 25 = .ok (.iload_n 1, 1) := by decide +kernel
theorem dX4_worthBy_26 : decode cX4_worthBy 26 = .ok (.invokevirtual 58, 3) := by decide +kernel
theorem dX4_worthBy_29 : decode cX4_worthBy 29 = .ok (.istore 6, 2) := by decide +kernel
theorem dX4_worthBy_31 : decode cX4_worthBy 31 = .ok (.aload_n 0, 1) := by decide +kernel
theorem dX4_worthBy_32 : decode cX4_worthBy 32 = .ok (.iload 4, 2) := by decide +kernel
theorem dX4_worthBy_34 : decode cX4_worthBy 34 = .ok (.invokevirtual 78, 3) := by decide +kernel
theorem dX4_worthBy_37 : decode cX4_worthBy 37 = .ok (.lstore 7, 2) := by decide +kernel
theorem dX4_worthBy_39 : decode cX4_worthBy 39 = .ok (.iload 5, 2) := by decide +kernel
theorem dX4_worthBy_41 : decode cX4_worthBy 41 = .ok (.iload 6, 2) := by decide +kernel
theorem dX4_worthBy_43 : decode cX4_worthBy 43 = .ok (.iload_n 2, 1) := by decide +kernel
theorem dX4_worthBy_44 : decode cX4_worthBy 44 = .ok (.iload_n 3, 1) := by decide +kernel
theorem dX4_worthBy_45 : decode cX4_worthBy 45 = .ok (.invokestatic 71, 3) := by decide +kernel
theorem dX4_worthBy_48 : decode cX4_worthBy 48 = .ok (.iload 5, 2) := by decide +kernel
theorem dX4_worthBy_50 : decode cX4_worthBy 50 = .ok (.iload 6, 2) := by decide +kernel
theorem dX4_worthBy_52 : decode cX4_worthBy 52 = .ok (.iload_n 2, 1) := by decide +kernel
theorem dX4_worthBy_53 : decode cX4_worthBy 53 = .ok (.iload_n 3, 1) := by decide +kernel
theorem dX4_worthBy_54 : decode cX4_worthBy 54 = .ok (.invokestatic 67, 3) := by decide +kernel
theorem dX4_worthBy_57 : decode cX4_worthBy 57 = .ok (.isub, 1) := by decide +kernel
theorem dX4_worthBy_58 : decode cX4_worthBy 58 = .ok (.istore 9, 2) := by decide +kernel
theorem dX4_worthBy_60 : decode cX4_worthBy 60 = .ok (.lload 7, 2) := by decide +kernel
theorem dX4_worthBy_62 : decode cX4_worthBy 62 = .ok (.iload 9, 2) := by decide +kernel
theorem dX4_worthBy_64 : decode cX4_worthBy 64 = .ok (.i2l, 1) := by decide +kernel
theorem dX4_worthBy_65 : decode cX4_worthBy 65 = .ok (.lmul, 1) := by decide +kernel
theorem dX4_worthBy_66 : decode cX4_worthBy 66 = .ok (.aload_n 0, 1) := by decide +kernel
theorem dX4_worthBy_67 : decode cX4_worthBy 67 = .ok (.invokevirtual 88, 3) := by decide +kernel
theorem dX4_worthBy_70 : decode cX4_worthBy 70 = .ok (.lload 7, 2) := by decide +kernel
theorem dX4_worthBy_72 : decode cX4_worthBy 72 = .ok (.lsub, 1) := by decide +kernel
theorem dX4_worthBy_73 : decode cX4_worthBy 73 = .ok (.iload 6, 2) := by decide +kernel
theorem dX4_worthBy_75 : decode cX4_worthBy 75 = .ok (.invokestatic 92, 3) := by decide +kernel
theorem dX4_worthBy_78 : decode cX4_worthBy 78 = .ok (.i2l, 1) := by decide +kernel
theorem dX4_worthBy_79 : decode cX4_worthBy 79 = .ok (.lmul, 1) := by decide +kernel
theorem dX4_worthBy_80 : decode cX4_worthBy 80 = .ok (.lsub, 1) := by decide +kernel
theorem dX4_worthBy_81 : decode cX4_worthBy 81 = .ok (.lreturn, 1) := by decide +kernel
theorem dX4_worthIn_0 : decode cX4_worthIn 0 = .ok (.aload_n 0, 1) := by decide +kernel
theorem dX4_worthIn_1 : decode cX4_worthIn 1 = .ok (.iload_n 1, 1) := by decide +kernel
theorem dX4_worthIn_2 : decode cX4_worthIn 2 = .ok (.aload_n 0, 1) := by decide +kernel
theorem dX4_worthIn_3 : decode cX4_worthIn 3 = .ok (.getfield 9, 3) := by decide +kernel
theorem dX4_worthIn_6 : decode cX4_worthIn 6 = .ok (.getfield 61, 3) := by decide +kernel
theorem dX4_worthIn_9 : decode cX4_worthIn 9 = .ok (.iload_n 2, 1) := by decide +kernel
theorem dX4_worthIn_10 : decode cX4_worthIn 10 = .ok (.iaload, 1) := by decide +kernel
theorem dX4_worthIn_11 : decode cX4_worthIn 11 = .ok (.aload_n 0, 1) := by decide +kernel
theorem dX4_worthIn_12 : decode cX4_worthIn 12 = .ok (.getfield 15, 3) := by decide +kernel
theorem dX4_worthIn_15 : decode cX4_worthIn 15 = .ok (.getfield 64, 3) := by decide +kernel
theorem dX4_worthIn_18 : decode cX4_worthIn 18 = .ok (.iload_n 2, 1) := by decide +kernel
theorem dX4_worthIn_19 : decode cX4_worthIn 19 = .ok (.iaload, 1) := by decide +kernel
theorem dX4_worthIn_20 : decode cX4_worthIn 20 = .ok (.aload_n 0, 1) := by decide +kernel
theorem dX4_worthIn_21 : decode cX4_worthIn 21 = .ok (.iload_n 1, 1) := by decide +kernel
theorem dX4_worthIn_22 : decode cX4_worthIn 22 = .ok (.invokevirtual 82, 3) := by decide +kernel
theorem dX4_worthIn_25 : decode cX4_worthIn 25 = .ok (.invokevirtual 98, 3) := by decide +kernel
theorem dX4_worthIn_28 : decode cX4_worthIn 28 = .ok (.lreturn, 1) := by decide +kernel
theorem dX4_worthInOpen_0 : decode cX4_worthInOpen 0 = .ok (.aload_n 0, 1) := by decide +kernel
theorem dX4_worthInOpen_1 : decode cX4_worthInOpen 1 = .ok (.iload_n 1, 1) := by decide +kernel
theorem dX4_worthInOpen_2 : decode cX4_worthInOpen 2 = .ok (.iconst 0, 1) := by decide +kernel
theorem dX4_worthInOpen_3 : decode cX4_worthInOpen 3 = .ok (.iconst 0, 1) := by decide +kernel
theorem dX4_worthInOpen_4 : decode cX4_worthInOpen 4 = .ok (.aload_n 0, 1) := by decide +kernel
theorem dX4_worthInOpen_5 : decode cX4_worthInOpen 5 = .ok (.iload_n 1, 1) := by decide +kernel
theorem dX4_worthInOpen_6 : decode cX4_worthInOpen 6 = .ok (.invokevirtual 82, 3) := by decide +kernel
theorem dX4_worthInOpen_9 : decode cX4_worthInOpen 9 = .ok (.invokevirtual 98, 3) := by decide +kernel
theorem dX4_worthInOpen_12 : decode cX4_worthInOpen 12 = .ok (.lreturn, 1) := by decide +kernel
theorem dX4_sumOfMeans_0 : decode cX4_sumOfMeans 0 = .ok (.lconst 0, 1) := by decide +kernel
theorem dX4_sumOfMeans_1 : decode cX4_sumOfMeans 1 = .ok (.lstore_n 2, 1) := by decide +kernel
theorem dX4_sumOfMeans_2 : decode cX4_sumOfMeans 2 = .ok (.iconst 0, 1) := by decide +kernel
theorem dX4_sumOfMeans_3 : decode cX4_sumOfMeans 3 = .ok (.istore 4, 2) := by decide +kernel
theorem dX4_sumOfMeans_5 : decode cX4_sumOfMeans 5 = .ok (.iload 4, 2) := by decide +kernel
theorem dX4_sumOfMeans_7 : decode cX4_sumOfMeans 7 = .ok (.aload_n 0, 1) := by decide +kernel
theorem dX4_sumOfMeans_8 : decode cX4_sumOfMeans 8 = .ok (.getfield 9, 3) := by decide +kernel
theorem dX4_sumOfMeans_11 : decode cX4_sumOfMeans 11 = .ok (.getfield 102, 3) := by decide +kernel
theorem dX4_sumOfMeans_14 : decode cX4_sumOfMeans 14 = .ok (.if_icmp .ge 29, 3) := by decide +kernel
theorem dX4_sumOfMeans_17 : decode cX4_sumOfMeans 17 = .ok (.lload_n 2, 1) := by decide +kernel
theorem dX4_sumOfMeans_18 : decode cX4_sumOfMeans 18 = .ok (.aload_n 0, 1) := by decide +kernel
theorem dX4_sumOfMeans_19 : decode cX4_sumOfMeans 19 = .ok (.iload 4, 2) := by decide +kernel
theorem dX4_sumOfMeans_21 : decode cX4_sumOfMeans 21 = .ok (.aload_n 0, 1) := by decide +kernel
theorem dX4_sumOfMeans_22 : decode cX4_sumOfMeans 22 = .ok (.getfield 15, 3) := by decide +kernel
theorem dX4_sumOfMeans_25 : decode cX4_sumOfMeans 25 = .ok (.getfield 105, 3) := by decide +kernel
theorem dX4_sumOfMeans_28 : decode cX4_sumOfMeans 28 = .ok (.iload 4, 2) := by decide +kernel
theorem dX4_sumOfMeans_30 : decode cX4_sumOfMeans 30 = .ok (.iaload, 1) := by decide +kernel
theorem dX4_sumOfMeans_31 : decode cX4_sumOfMeans 31 = .ok (.iload_n 1, 1) := by decide +kernel
theorem dX4_sumOfMeans_32 : decode cX4_sumOfMeans 32 = .ok (.invokevirtual 108, 3) := by decide +kernel
theorem dX4_sumOfMeans_35 : decode cX4_sumOfMeans 35 = .ok (.ladd, 1) := by decide +kernel
theorem dX4_sumOfMeans_36 : decode cX4_sumOfMeans 36 = .ok (.lstore_n 2, 1) := by decide +kernel
theorem dX4_sumOfMeans_37 : decode cX4_sumOfMeans 37 = .ok (.iinc 4 1, 3) := by decide +kernel
theorem dX4_sumOfMeans_40 : decode cX4_sumOfMeans 40 = .ok (.goto (-35), 3) := by decide +kernel
theorem dX4_sumOfMeans_43 : decode cX4_sumOfMeans 43 = .ok (.lload_n 2, 1) := by decide +kernel
theorem dX4_sumOfMeans_44 : decode cX4_sumOfMeans 44 = .ok (.lreturn, 1) := by decide +kernel
theorem dX4_laneOfMostWorth_0 : decode cX4_laneOfMostWorth 0 = .ok (.iconst 0, 1) := by decide +kernel
theorem dX4_laneOfMostWorth_1 : decode cX4_laneOfMostWorth 1 = .ok (.istore_n 2, 1) := by decide +kernel
theorem dX4_laneOfMostWorth_2 : decode cX4_laneOfMostWorth 2 = .ok (.aload_n 0, 1) := by decide +kernel
theorem dX4_laneOfMostWorth_3 : decode cX4_laneOfMostWorth 3 = .ok (.iload_n 1, 1) := by decide +kernel
theorem dX4_laneOfMostWorth_4 : decode cX4_laneOfMostWorth 4 = .ok (.iconst 0, 1) := by decide +kernel
theorem dX4_laneOfMostWorth_5 : decode cX4_laneOfMostWorth 5 = .ok (.invokevirtual 112, 3) := by decide +kernel
theorem dX4_laneOfMostWorth_8 : decode cX4_laneOfMostWorth 8 = .ok (.lstore_n 3, 1) := by decide +kernel
theorem dX4_laneOfMostWorth_9 : decode cX4_laneOfMostWorth 9 = .ok (.iconst 1, 1) := by decide +kernel
theorem dX4_laneOfMostWorth_10 : decode cX4_laneOfMostWorth 10 = .ok (.istore 5, 2) := by decide +kernel
theorem dX4_laneOfMostWorth_12 : decode cX4_laneOfMostWorth 12 = .ok (.iload 5, 2) := by decide +kernel
theorem dX4_laneOfMostWorth_14 : decode cX4_laneOfMostWorth 14 = .ok (.aload_n 0, 1) := by decide +kernel
theorem dX4_laneOfMostWorth_15 : decode cX4_laneOfMostWorth 15 = .ok (.getfield 9, 3) := by decide +kernel
theorem dX4_laneOfMostWorth_18 : decode cX4_laneOfMostWorth 18 = .ok (.getfield 116, 3) := by decide +kernel
theorem dX4_laneOfMostWorth_21 : decode cX4_laneOfMostWorth 21 = .ok (.if_icmp .ge 31, 3) := by decide +kernel
theorem dX4_laneOfMostWorth_24 : decode cX4_laneOfMostWorth 24 = .ok (.aload_n 0, 1) := by decide +kernel
theorem dX4_laneOfMostWorth_25 : decode cX4_laneOfMostWorth 25 = .ok (.iload_n 1, 1) := by decide +kernel
theorem dX4_laneOfMostWorth_26 : decode cX4_laneOfMostWorth 26 = .ok (.iload 5, 2) := by decide +kernel
theorem dX4_laneOfMostWorth_28 : decode cX4_laneOfMostWorth 28 = .ok (.invokevirtual 112, 3) := by decide +kernel
theorem dX4_laneOfMostWorth_31 : decode cX4_laneOfMostWorth 31 = .ok (.lstore 6, 2) := by decide +kernel
theorem dX4_laneOfMostWorth_33 : decode cX4_laneOfMostWorth 33 = .ok (.lload 6, 2) := by decide +kernel
theorem dX4_laneOfMostWorth_35 : decode cX4_laneOfMostWorth 35 = .ok (.lload_n 3, 1) := by decide +kernel
theorem dX4_laneOfMostWorth_36 : decode cX4_laneOfMostWorth 36 = .ok (.lcmp, 1) := by decide +kernel
theorem dX4_laneOfMostWorth_37 : decode cX4_laneOfMostWorth 37 = .ok (.ifCond .le 9, 3) := by decide +kernel
theorem dX4_laneOfMostWorth_40 : decode cX4_laneOfMostWorth 40 = .ok (.iload 5, 2) := by decide +kernel
theorem dX4_laneOfMostWorth_42 : decode cX4_laneOfMostWorth 42 = .ok (.istore_n 2, 1) := by decide +kernel
theorem dX4_laneOfMostWorth_43 : decode cX4_laneOfMostWorth 43 = .ok (.lload 6, 2) := by decide +kernel
theorem dX4_laneOfMostWorth_45 : decode cX4_laneOfMostWorth 45 = .ok (.lstore_n 3, 1) := by decide +kernel
theorem dX4_laneOfMostWorth_46 : decode cX4_laneOfMostWorth 46 = .ok (.iinc 5 1, 3) := by decide +kernel
theorem dX4_laneOfMostWorth_49 : decode cX4_laneOfMostWorth 49 = .ok (.goto (-37), 3) := by decide +kernel
theorem dX4_laneOfMostWorth_52 : decode cX4_laneOfMostWorth 52 = .ok (.iload_n 2, 1) := by decide +kernel
theorem dX4_laneOfMostWorth_53 : decode cX4_laneOfMostWorth 53 = .ok (.ireturn, 1) := by decide +kernel
theorem dX4_beastOfMostOwnHarm_0 : decode cX4_beastOfMostOwnHarm 0 = .ok (.bipush (-2), 2) := by decide +kernel
theorem dX4_beastOfMostOwnHarm_2 : decode cX4_beastOfMostOwnHarm 2 = .ok (.istore_n 1, 1) := by decide +kernel
theorem dX4_beastOfMostOwnHarm_3 : decode cX4_beastOfMostOwnHarm 3 = .ok (.lconst 0, 1) := by decide +kernel
theorem dX4_beastOfMostOwnHarm_4 : decode cX4_beastOfMostOwnHarm 4 = .ok (.lstore_n 2, 1) := by decide +kernel
theorem dX4_beastOfMostOwnHarm_5 : decode cX4_beastOfMostOwnHarm 5 = .ok (.iconst 0, 1) := by decide +kernel
theorem dX4_beastOfMostOwnHarm_6 : decode cX4_beastOfMostOwnHarm 6 = .ok (.istore 4, 2) := by decide +kernel
theorem dX4_beastOfMostOwnHarm_8 : decode cX4_beastOfMostOwnHarm 8 = .ok (.iload 4, 2) := by decide +kernel
theorem dX4_beastOfMostOwnHarm_10 : decode cX4_beastOfMostOwnHarm 10 = .ok (.aload_n 0, 1) := by decide +kernel
theorem dX4_beastOfMostOwnHarm_11 : decode cX4_beastOfMostOwnHarm 11 = .ok (.getfield 9, 3) := by decide +kernel
theorem dX4_beastOfMostOwnHarm_14 : decode cX4_beastOfMostOwnHarm 14 = .ok (.getfield 102, 3) := by decide +kernel
theorem dX4_beastOfMostOwnHarm_17 : decode cX4_beastOfMostOwnHarm 17 = .ok (.if_icmp .ge 41, 3) := by decide +kernel
theorem dX4_beastOfMostOwnHarm_20 : decode cX4_beastOfMostOwnHarm 20 = .ok (.aload_n 0, 1) := by decide +kernel
theorem dX4_beastOfMostOwnHarm_21 : decode cX4_beastOfMostOwnHarm 21 = .ok (.iload 4, 2) := by decide +kernel
theorem dX4_beastOfMostOwnHarm_23 : decode cX4_beastOfMostOwnHarm 23 = .ok (.aload_n 0, 1) := by decide +kernel
theorem dX4_beastOfMostOwnHarm_24 : decode cX4_beastOfMostOwnHarm 24 = .ok (.getfield 15, 3) := by decide +kernel
theorem dX4_beastOfMostOwnHarm_27 : decode cX4_beastOfMostOwnHarm 27 = .ok (.getfield 105, 3) := by decide +kernel
theorem dX4_beastOfMostOwnHarm_30 : decode cX4_beastOfMostOwnHarm 30 = .ok (.iload 4, 2) := by decide +kernel
theorem dX4_beastOfMostOwnHarm_32 : decode cX4_beastOfMostOwnHarm 32 = .ok (.iaload, 1) := by decide +kernel
theorem dX4_beastOfMostOwnHarm_33 : decode cX4_beastOfMostOwnHarm 33 = .ok (.iconst 1, 1) := by decide +kernel
theorem dX4_beastOfMostOwnHarm_34 : decode cX4_beastOfMostOwnHarm 34 = .ok (.invokevirtual 108, 3) := by decide +kernel
theorem dX4_beastOfMostOwnHarm_37 : decode cX4_beastOfMostOwnHarm 37 = .ok (.lstore 5, 2) := by decide +kernel
theorem dX4_beastOfMostOwnHarm_39 : decode cX4_beastOfMostOwnHarm 39 = .ok (.lload 5, 2) := by decide +kernel
theorem dX4_beastOfMostOwnHarm_41 : decode cX4_beastOfMostOwnHarm 41 = .ok (.lload_n 2, 1) := by decide +kernel
theorem dX4_beastOfMostOwnHarm_42 : decode cX4_beastOfMostOwnHarm 42 = .ok (.lcmp, 1) := by decide +kernel
theorem dX4_beastOfMostOwnHarm_43 : decode cX4_beastOfMostOwnHarm 43 = .ok (.ifCond .le 9, 3) := by decide +kernel
theorem dX4_beastOfMostOwnHarm_46 : decode cX4_beastOfMostOwnHarm 46 = .ok (.iload 4, 2) := by decide +kernel
theorem dX4_beastOfMostOwnHarm_48 : decode cX4_beastOfMostOwnHarm 48 = .ok (.istore_n 1, 1) := by decide +kernel
theorem dX4_beastOfMostOwnHarm_49 : decode cX4_beastOfMostOwnHarm 49 = .ok (.lload 5, 2) := by decide +kernel
theorem dX4_beastOfMostOwnHarm_51 : decode cX4_beastOfMostOwnHarm 51 = .ok (.lstore_n 2, 1) := by decide +kernel
theorem dX4_beastOfMostOwnHarm_52 : decode cX4_beastOfMostOwnHarm 52 = .ok (.iinc 4 1, 3) := by decide +kernel
theorem dX4_beastOfMostOwnHarm_55 : decode cX4_beastOfMostOwnHarm 55 = .ok (.goto (-47), 3) := by decide +kernel
theorem dX4_beastOfMostOwnHarm_58 : decode cX4_beastOfMostOwnHarm 58 = .ok (.iload_n 1, 1) := by decide +kernel
theorem dX4_beastOfMostOwnHarm_59 : decode cX4_beastOfMostOwnHarm 59 = .ok (.ireturn, 1) := by decide +kernel
theorem dX4_beastBetterDead_0 : decode cX4_beastBetterDead 0 = .ok (.bipush (-2), 2) := by decide +kernel
theorem dX4_beastBetterDead_2 : decode cX4_beastBetterDead 2 = .ok (.istore_n 1, 1) := by decide +kernel
theorem dX4_beastBetterDead_3 : decode cX4_beastBetterDead 3 = .ok (.lconst 0, 1) := by decide +kernel
theorem dX4_beastBetterDead_4 : decode cX4_beastBetterDead 4 = .ok (.lstore_n 2, 1) := by decide +kernel
theorem dX4_beastBetterDead_5 : decode cX4_beastBetterDead 5 = .ok (.iconst 0, 1) := by decide +kernel
theorem dX4_beastBetterDead_6 : decode cX4_beastBetterDead 6 = .ok (.istore 4, 2) := by decide +kernel
theorem dX4_beastBetterDead_8 : decode cX4_beastBetterDead 8 = .ok (.iload 4, 2) := by decide +kernel
theorem dX4_beastBetterDead_10 : decode cX4_beastBetterDead 10 = .ok (.aload_n 0, 1) := by decide +kernel
theorem dX4_beastBetterDead_11 : decode cX4_beastBetterDead 11 = .ok (.getfield 9, 3) := by decide +kernel
theorem dX4_beastBetterDead_14 : decode cX4_beastBetterDead 14 = .ok (.getfield 102, 3) := by decide +kernel
theorem dX4_beastBetterDead_17 : decode cX4_beastBetterDead 17 = .ok (.if_icmp .ge 40, 3) := by decide +kernel
theorem dX4_beastBetterDead_20 : decode cX4_beastBetterDead 20 = .ok (.aload_n 0, 1) := by decide +kernel
theorem dX4_beastBetterDead_21 : decode cX4_beastBetterDead 21 = .ok (.iload 4, 2) := by decide +kernel
theorem dX4_beastBetterDead_23 : decode cX4_beastBetterDead 23 = .ok (.aload_n 0, 1) := by decide +kernel
theorem dX4_beastBetterDead_24 : decode cX4_beastBetterDead 24 = .ok (.getfield 15, 3) := by decide +kernel
theorem dX4_beastBetterDead_27 : decode cX4_beastBetterDead 27 = .ok (.getfield 105, 3) := by decide +kernel
theorem dX4_beastBetterDead_30 : decode cX4_beastBetterDead 30 = .ok (.iload 4, 2) := by decide +kernel
theorem dX4_beastBetterDead_32 : decode cX4_beastBetterDead 32 = .ok (.iaload, 1) := by decide +kernel
theorem dX4_beastBetterDead_33 : decode cX4_beastBetterDead 33 = .ok (.invokevirtual 112, 3) := by decide +kernel
theorem dX4_beastBetterDead_36 : decode cX4_beastBetterDead 36 = .ok (.lstore 5, 2) := by decide +kernel
theorem dX4_beastBetterDead_38 : decode cX4_beastBetterDead 38 = .ok (.lload 5, 2) := by decide +kernel
theorem dX4_beastBetterDead_40 : decode cX4_beastBetterDead 40 = .ok (.lload_n 2, 1) := by decide +kernel
theorem dX4_beastBetterDead_41 : decode cX4_beastBetterDead 41 = .ok (.lcmp, 1) := by decide +kernel
theorem dX4_beastBetterDead_42 : decode cX4_beastBetterDead 42 = .ok (.ifCond .ge 9, 3) := by decide +kernel
theorem dX4_beastBetterDead_45 : decode cX4_beastBetterDead 45 = .ok (.iload 4, 2) := by decide +kernel
theorem dX4_beastBetterDead_47 : decode cX4_beastBetterDead 47 = .ok (.istore_n 1, 1) := by decide +kernel
theorem dX4_beastBetterDead_48 : decode cX4_beastBetterDead 48 = .ok (.lload 5, 2) := by decide +kernel
theorem dX4_beastBetterDead_50 : decode cX4_beastBetterDead 50 = .ok (.lstore_n 2, 1) := by decide +kernel
theorem dX4_beastBetterDead_51 : decode cX4_beastBetterDead 51 = .ok (.iinc 4 1, 3) := by decide +kernel
theorem dX4_beastBetterDead_54 : decode cX4_beastBetterDead 54 = .ok (.goto (-46), 3) := by decide +kernel
theorem dX4_beastBetterDead_57 : decode cX4_beastBetterDead 57 = .ok (.iload_n 1, 1) := by decide +kernel
theorem dX4_beastBetterDead_58 : decode cX4_beastBetterDead 58 = .ok (.ireturn, 1) := by decide +kernel
theorem dX4_leastMood_0 : decode cX4_leastMood 0 = .ok (.iconst 0, 1) := by decide +kernel
theorem dX4_leastMood_1 : decode cX4_leastMood 1 = .ok (.istore_n 3, 1) := by decide +kernel
theorem dX4_leastMood_2 : decode cX4_leastMood 2 = .ok (.iload_n 3, 1) := by decide +kernel
theorem dX4_leastMood_3 : decode cX4_leastMood 3 = .ok (.bipush 100, 2) := by decide +kernel
theorem dX4_leastMood_5 : decode cX4_leastMood 5 = .ok (.if_icmp .gt 63, 3) := by decide +kernel
theorem dX4_leastMood_8 : decode cX4_leastMood 8 = .ok (.aload_n 0, 1) := by decide +kernel
theorem dX4_leastMood_9 : decode cX4_leastMood 9 = .ok (.getfield 9, 3) := by decide +kernel
theorem dX4_leastMood_12 : decode cX4_leastMood 12 = .ok (.getfield 34, 3) := by decide +kernel
theorem dX4_leastMood_15 : decode cX4_leastMood 15 = .ok (.iload_n 1, 1) := by decide +kernel
theorem dX4_leastMood_16 : decode cX4_leastMood 16 = .ok (.iaload, 1) := by decide +kernel
theorem dX4_leastMood_17 : decode cX4_leastMood 17 = .ok (.iload_n 3, 1) := by decide +kernel
theorem dX4_leastMood_18 : decode cX4_leastMood 18 = .ok (.aload_n 0, 1) := by decide +kernel
theorem dX4_leastMood_19 : decode cX4_leastMood 19 = .ok (.getfield 15, 3) := by decide +kernel
theorem dX4_leastMood_22 : decode cX4_leastMood 22 = .ok (.getfield 50, 3) := by decide +kernel
theorem dX4_leastMood_25 : decode cX4_leastMood 25 = .ok (.invokestatic 54, 3) := by decide +kernel
theorem dX4_leastMood_28 : decode cX4_leastMood 28 = .ok (.istore 4, 2) := by decide +kernel
theorem dX4_leastMood_30 : decode cX4_leastMood 30 = .ok (.aload_n 0, 1) := by decide +kernel
theorem dX4_leastMood_31 : decode cX4_leastMood 31 = .ok (.iload_n 1, 1) := by decide +kernel
theorem dX4_leastMood_32 : decode cX4_leastMood 32 = .ok (.aload_n 0, 1) := by decide +kernel
theorem dX4_leastMood_33 : decode cX4_leastMood 33 = .ok (.getfield 9, 3) := by decide +kernel
theorem dX4_leastMood_36 : decode cX4_leastMood 36 = .ok (.getfield 61, 3) := by decide +kernel
theorem dX4_leastMood_39 : decode cX4_leastMood 39 = .ok (.iload_n 2, 1) := by decide +kernel
theorem dX4_leastMood_40 : decode cX4_leastMood 40 = .ok (.iaload, 1) := by decide +kernel
theorem dX4_leastMood_41 : decode cX4_leastMood 41 = .ok (.aload_n 0, 1) := by decide +kernel
theorem dX4_leastMood_42 : decode cX4_leastMood 42 = .ok (.getfield 15, 3) := by decide +kernel
theorem dX4_leastMood_45 : decode cX4_leastMood 45 = .ok (.getfield 64, 3) := by decide +kernel
theorem dX4_leastMood_48 : decode cX4_leastMood 48 = .ok (.iload_n 2, 1) := by decide +kernel
theorem dX4_leastMood_49 : decode cX4_leastMood 49 = .ok (.iaload, 1) := by decide +kernel
theorem dX4_leastMood_50 : decode cX4_leastMood 50 = .ok (.iload 4, 2) := by decide +kernel
theorem dX4_leastMood_52 : decode cX4_leastMood 52 = .ok (.invokevirtual 98, 3) := by decide +kernel
theorem dX4_leastMood_55 : decode cX4_leastMood 55 = .ok (.lconst 0, 1) := by decide +kernel
theorem dX4_leastMood_56 : decode cX4_leastMood 56 = .ok (.lcmp, 1) := by decide +kernel
theorem dX4_leastMood_57 : decode cX4_leastMood 57 = .ok (.ifCond .le 5, 3) := by decide +kernel
theorem dX4_leastMood_60 : decode cX4_leastMood 60 = .ok (.iload_n 3, 1) := by decide +kernel
theorem dX4_leastMood_61 : decode cX4_leastMood 61 = .ok (.ireturn, 1) := by decide +kernel
theorem dX4_leastMood_62 : decode cX4_leastMood 62 = .ok (.iinc 3 1, 3) := by decide +kernel
theorem dX4_leastMood_65 : decode cX4_leastMood 65 = .ok (.goto (-63), 3) := by decide +kernel
theorem dX4_leastMood_68 : decode cX4_leastMood 68 = .ok (.bipush (-2), 2) := by decide +kernel
theorem dX4_leastMood_70 : decode cX4_leastMood 70 = .ok (.ireturn, 1) := by decide +kernel
theorem dX4_leastWeeks_0 : decode cX4_leastWeeks 0 = .ok (.iconst 0, 1) := by decide +kernel
theorem dX4_leastWeeks_1 : decode cX4_leastWeeks 1 = .ok (.istore_n 1, 1) := by decide +kernel
theorem dX4_leastWeeks_2 : decode cX4_leastWeeks 2 = .ok (.iload_n 1, 1) := by decide +kernel
theorem dX4_leastWeeks_3 : decode cX4_leastWeeks 3 = .ok (.bipush 30, 2) := by decide +kernel
theorem dX4_leastWeeks_5 : decode cX4_leastWeeks 5 = .ok (.if_icmp .gt 19, 3) := by decide +kernel
theorem dX4_leastWeeks_8 : decode cX4_leastWeeks 8 = .ok (.aload_n 0, 1) := by decide +kernel
theorem dX4_leastWeeks_9 : decode cX4_leastWeeks 9 = .ok (.iload_n 1, 1) := by decide +kernel
theorem dX4_leastWeeks_10 : decode cX4_leastWeeks 10 = .ok (.invokevirtual 119, 3) := by decide +kernel
theorem dX4_leastWeeks_13 : decode cX4_leastWeeks 13 = .ok (.ifCond .ne 5, 3) := by decide +kernel
theorem dX4_leastWeeks_16 : decode cX4_leastWeeks 16 = .ok (.iload_n 1, 1) := by decide +kernel
theorem dX4_leastWeeks_17 : decode cX4_leastWeeks 17 = .ok (.ireturn, 1) := by decide +kernel
theorem dX4_leastWeeks_18 : decode cX4_leastWeeks 18 = .ok (.iinc 1 1, 3) := by decide +kernel
theorem dX4_leastWeeks_21 : decode cX4_leastWeeks 21 = .ok (.goto (-19), 3) := by decide +kernel
theorem dX4_leastWeeks_24 : decode cX4_leastWeeks 24 = .ok (.bipush (-2), 2) := by decide +kernel
theorem dX4_leastWeeks_26 : decode cX4_leastWeeks 26 = .ok (.ireturn, 1) := by decide +kernel
theorem dX4_anyGainsByHorse_0 : decode cX4_anyGainsByHorse 0 = .ok (.iconst 0, 1) := by decide +kernel
theorem dX4_anyGainsByHorse_1 : decode cX4_anyGainsByHorse 1 = .ok (.istore_n 2, 1) := by decide +kernel
theorem dX4_anyGainsByHorse_2 : decode cX4_anyGainsByHorse 2 = .ok (.iload_n 2, 1) := by decide +kernel
theorem dX4_anyGainsByHorse_3 : decode cX4_anyGainsByHorse 3 = .ok (.aload_n 0, 1) := by decide +kernel
theorem dX4_anyGainsByHorse_4 : decode cX4_anyGainsByHorse 4 = .ok (.getfield 9, 3) := by decide +kernel
theorem dX4_anyGainsByHorse_7 : decode cX4_anyGainsByHorse 7 = .ok (.getfield 102, 3) := by decide +kernel
theorem dX4_anyGainsByHorse_10 : decode cX4_anyGainsByHorse 10 = .ok (.if_icmp .ge 28, 3) := by decide +kernel
theorem dX4_anyGainsByHorse_13 : decode cX4_anyGainsByHorse 13 = .ok (.aload_n 0, 1) := by decide +kernel
theorem dX4_anyGainsByHorse_14 : decode cX4_anyGainsByHorse 14 = .ok (.iload_n 2, 1) := by decide +kernel
theorem dX4_anyGainsByHorse_15 : decode cX4_anyGainsByHorse 15 = .ok (.iconst 3, 1) := by decide +kernel
theorem dX4_anyGainsByHorse_16 : decode cX4_anyGainsByHorse 16 = .ok (.iload_n 1, 1) := by decide +kernel
theorem dX4_anyGainsByHorse_17 : decode cX4_anyGainsByHorse 17 = .ok (.aload_n 0, 1) := by decide +kernel
theorem dX4_anyGainsByHorse_18 : decode cX4_anyGainsByHorse 18 = .ok (.iload_n 2, 1) := by decide +kernel
theorem dX4_anyGainsByHorse_19 : decode cX4_anyGainsByHorse 19 = .ok (.invokevirtual 82, 3) := by decide +kernel
theorem dX4_anyGainsByHorse_22 : decode cX4_anyGainsByHorse 22 = .ok (.invokevirtual 98, 3) := by decide +kernel
theorem dX4_anyGainsByHorse_25 : decode cX4_anyGainsByHorse 25 = .ok (.lconst 0, 1) := by decide +kernel
theorem dX4_anyGainsByHorse_26 : decode cX4_anyGainsByHorse 26 = .ok (.lcmp, 1) := by decide +kernel
theorem dX4_anyGainsByHorse_27 : decode cX4_anyGainsByHorse 27 = .ok (.ifCond .le 5, 3) := by decide +kernel
theorem dX4_anyGainsByHorse_30 : decode cX4_anyGainsByHorse 30 = .ok (.iconst 1, 1) := by decide +kernel
theorem dX4_anyGainsByHorse_31 : decode cX4_anyGainsByHorse 31 = .ok (.ireturn, 1) := by decide +kernel
theorem dX4_anyGainsByHorse_32 : decode cX4_anyGainsByHorse 32 = .ok (.iinc 2 1, 3) := by decide +kernel
theorem dX4_anyGainsByHorse_35 : decode cX4_anyGainsByHorse 35 = .ok (.goto (-33), 3) := by decide +kernel
theorem dX4_anyGainsByHorse_38 : decode cX4_anyGainsByHorse 38 = .ok (.iconst 0, 1) := by decide +kernel
theorem dX4_anyGainsByHorse_39 : decode cX4_anyGainsByHorse 39 = .ok (.ireturn, 1) := by decide +kernel
theorem dX4_told_0 : decode cX4_told 0 = .ok (.aload_n 0, 1) := by decide +kernel
theorem dX4_told_1 : decode cX4_told 1 = .ok (.invokevirtual 88, 3) := by decide +kernel
theorem dX4_told_4 : decode cX4_told 4 = .ok (.lstore 4, 2) := by decide +kernel
theorem dX4_told_6 : decode cX4_told 6 = .ok (.lload_n 1, 1) := by decide +kernel
theorem dX4_told_7 : decode cX4_told 7 = .ok (.invokestatic 122, 3) := by decide +kernel
theorem dX4_told_10 : decode cX4_told 10 = .ok (.lload 4, 2) := by decide +kernel
theorem dX4_told_12 : decode cX4_told 12 = .ok (.invokestatic 126, 3) := by decide +kernel
theorem dX4_told_15 : decode cX4_told 15 = .ok (.lstore 6, 2) := by decide +kernel
theorem dX4_told_17 : decode cX4_told 17 = .ok (.iload_n 3, 1) := by decide +kernel
theorem dX4_told_18 : decode cX4_told 18 = .ok (.ifCond .eq 8, 3) := by decide +kernel
theorem dX4_told_21 : decode cX4_told 21 = .ok (.lload 4, 2) := by decide +kernel
theorem dX4_told_23 : decode cX4_told 23 = .ok (.goto 4, 3) := by decide +kernel
theorem dX4_told_26 : decode cX4_told 26 = .ok (.lload_n 1, 1) := by decide +kernel
theorem dX4_told_27 : decode cX4_told 27 = .ok (.lstore 8, 2) := by decide +kernel
theorem dX4_told_29 : decode cX4_told 29 = .ok (.lload 6, 2) := by decide +kernel
theorem dX4_told_31 : decode cX4_told 31 = .ok (.lconst 1, 1) := by decide +kernel
theorem dX4_told_32 : decode cX4_told 32 = .ok (.lcmp, 1) := by decide +kernel
theorem dX4_told_33 : decode cX4_told 33 = .ok (.ifCond .le 11, 3) := by decide +kernel
theorem dX4_told_36 : decode cX4_told 36 = .ok (.lload 8, 2) := by decide +kernel
theorem dX4_told_38 : decode cX4_told 38 = .ok (.lload 6, 2) := by decide +kernel
theorem dX4_told_40 : decode cX4_told 40 = .ok (.ldiv, 1) := by decide +kernel
theorem dX4_told_41 : decode cX4_told 41 = .ok (.goto 5, 3) := by decide +kernel
theorem dX4_told_44 : decode cX4_told 44 = .ok (.lload 8, 2) := by decide +kernel
theorem dX4_told_46 : decode cX4_told 46 = .ok (.lreturn, 1) := by decide +kernel
theorem dX4_commonDivisor_0 : decode cX4_commonDivisor 0 = .ok (.lload_n 0, 1) := by decide +kernel
theorem dX4_commonDivisor_1 : decode cX4_commonDivisor 1 = .ok (.lstore 4, 2) := by decide +kernel
theorem dX4_commonDivisor_3 : decode cX4_commonDivisor 3 = .ok (.lload_n 2, 1) := by decide +kernel
theorem dX4_commonDivisor_4 : decode cX4_commonDivisor 4 = .ok (.lstore 6, 2) := by decide +kernel
theorem dX4_commonDivisor_6 : decode cX4_commonDivisor 6 = .ok (.iconst 0, 1) := by decide +kernel
theorem dX4_commonDivisor_7 : decode cX4_commonDivisor 7 = .ok (.istore 8, 2) := by decide +kernel
theorem dX4_commonDivisor_9 : decode cX4_commonDivisor 9 = .ok (.iload 8, 2) := by decide +kernel
theorem dX4_commonDivisor_11 : decode cX4_commonDivisor 11 = .ok (.sipush 128, 3) := by decide +kernel
theorem dX4_commonDivisor_14 : decode cX4_commonDivisor 14 = .ok (.if_icmp .ge 31, 3) := by decide +kernel
theorem dX4_commonDivisor_17 : decode cX4_commonDivisor 17 = .ok (.lload 6, 2) := by decide +kernel
theorem dX4_commonDivisor_19 : decode cX4_commonDivisor 19 = .ok (.lconst 0, 1) := by decide +kernel
theorem dX4_commonDivisor_20 : decode cX4_commonDivisor 20 = .ok (.lcmp, 1) := by decide +kernel
theorem dX4_commonDivisor_21 : decode cX4_commonDivisor 21 = .ok (.ifCond .eq 24, 3) := by decide +kernel
theorem dX4_commonDivisor_24 : decode cX4_commonDivisor 24 = .ok (.lload 4, 2) := by decide +kernel
theorem dX4_commonDivisor_26 : decode cX4_commonDivisor 26 = .ok (.lload 6, 2) := by decide +kernel
theorem dX4_commonDivisor_28 : decode cX4_commonDivisor 28 = .ok (.lrem, 1) := by decide +kernel
theorem dX4_commonDivisor_29 : decode cX4_commonDivisor 29 = .ok (.lstore 9, 2) := by decide +kernel
theorem dX4_commonDivisor_31 : decode cX4_commonDivisor 31 = .ok (.lload 6, 2) := by decide +kernel
theorem dX4_commonDivisor_33 : decode cX4_commonDivisor 33 = .ok (.lstore 4, 2) := by decide +kernel
theorem dX4_commonDivisor_35 : decode cX4_commonDivisor 35 = .ok (.lload 9, 2) := by decide +kernel
theorem dX4_commonDivisor_37 : decode cX4_commonDivisor 37 = .ok (.lstore 6, 2) := by decide +kernel
theorem dX4_commonDivisor_39 : decode cX4_commonDivisor 39 = .ok (.iinc 8 1, 3) := by decide +kernel
theorem dX4_commonDivisor_42 : decode cX4_commonDivisor 42 = .ok (.goto (-33), 3) := by decide +kernel
theorem dX4_commonDivisor_45 : decode cX4_commonDivisor 45 = .ok (.lload 4, 2) := by decide +kernel
theorem dX4_commonDivisor_47 : decode cX4_commonDivisor 47 = .ok (.lreturn, 1) := by decide +kernel
theorem dX1_init_0 : decode cX1_init 0 = .ok (.aload_n 0, 1) := by decide +kernel
theorem dX1_init_1 : decode cX1_init 1 = .ok (.invokespecial 3, 3) := by decide +kernel
theorem dX1_init_4 : decode cX1_init 4 = .ok (.aload_n 0, 1) := by decide +kernel
theorem dX1_init_5 : decode cX1_init 5 = .ok (.bipush 6, 2) := by decide +kernel
theorem dX1_init_7 : decode cX1_init 7 = .ok (.newarray .long, 2) := by decide +kernel
theorem dX1_init_9 : decode cX1_init 9 = .ok (.putfield 9, 3) := by decide +kernel
theorem dX1_init_12 : decode cX1_init 12 = .ok (.aload_n 0, 1) := by decide +kernel
theorem dX1_init_13 : decode cX1_init 13 = .ok (.aload_n 1, 1) := by decide +kernel
theorem dX1_init_14 : decode cX1_init 14 = .ok (.putfield 15, 3) := by decide +kernel
theorem dX1_init_17 : decode cX1_init 17 = .ok (.aload_n 0, 1) := by decide +kernel
theorem dX1_init_18 : decode cX1_init 18 = .ok (.aload_n 2, 1) := by decide +kernel
theorem dX1_init_19 : decode cX1_init 19 = .ok (.putfield 19, 3) := by decide +kernel
theorem dX1_init_22 : decode cX1_init 22 = .ok (.aload_n 0, 1) := by decide +kernel
theorem dX1_init_23 : decode cX1_init 23 = .ok (.aload_n 3, 1) := by decide +kernel
theorem dX1_init_24 : decode cX1_init 24 = .ok (.putfield 23, 3) := by decide +kernel
theorem dX1_init_27 : decode cX1_init 27 = .ok (.return_, 1) := by decide +kernel
theorem dX1_gainByOpening_0 : decode cX1_gainByOpening 0 = .ok (.lconst 0, 1) := by decide +kernel
theorem dX1_gainByOpening_1 : decode cX1_gainByOpening 1 = .ok (.lstore_n 2, 1) := by decide +kernel
theorem dX1_gainByOpening_2 : decode cX1_gainByOpening 2 = .ok (.iconst 0, 1) := by decide +kernel
theorem dX1_gainByOpening_3 : decode cX1_gainByOpening 3 = .ok (.istore 4, 2) := by decide +kernel
theorem dX1_gainByOpening_5 : decode cX1_gainByOpening 5 = .ok (.iload 4, 2) := by decide +kernel
theorem dX1_gainByOpening_7 : decode cX1_gainByOpening 7 = .ok (.aload_n 0, 1) := by decide +kernel
theorem dX1_gainByOpening_8 : decode cX1_gainByOpening 8 = .ok (.getfield 15, 3) := by decide +kernel
theorem dX1_gainByOpening_11 : decode cX1_gainByOpening 11 = .ok (.getfield 27, 3) := by decide +kernel
theorem dX1_gainByOpening_14 : decode cX1_gainByOpening 14 = .ok (.if_icmp .ge 46, 3) := by decide +kernel
theorem dX1_gainByOpening_17 : decode cX1_gainByOpening 17 = .ok (.aload_n 0, 1) := by decide +kernel
theorem dX1_gainByOpening_18 : decode cX1_gainByOpening 18 = .ok (.getfield 19, 3) := by decide +kernel
theorem dX1_gainByOpening_21 : decode cX1_gainByOpening 21 = .ok (.getfield 33, 3) := by decide +kernel
theorem dX1_gainByOpening_24 : decode cX1_gainByOpening 24 = .ok (.iload 4, 2) := by decide +kernel
theorem dX1_gainByOpening_26 : decode cX1_gainByOpening 26 = .ok (.iaload, 1) := by decide +kernel
theorem dX1_gainByOpening_27 : decode cX1_gainByOpening 27 = .ok (.iload_n 1, 1) := by decide +kernel
theorem dX1_gainByOpening_28 : decode cX1_gainByOpening 28 = .ok (.if_icmp .ne 26, 3) := by decide +kernel
theorem dX1_gainByOpening_31 : decode cX1_gainByOpening 31 = .ok (.lload_n 2, 1) := by decide +kernel
theorem dX1_gainByOpening_32 : decode cX1_gainByOpening 32 = .ok (.aload_n 0, 1) := by decide +kernel
theorem dX1_gainByOpening_33 : decode cX1_gainByOpening 33 = .ok (.getfield 23, 3) := by decide +kernel
theorem dX1_gainByOpening_36 : decode cX1_gainByOpening 36 = .ok (.iload 4, 2) := by decide +kernel
theorem dX1_gainByOpening_38 : decode cX1_gainByOpening 38 = .ok (.invokevirtual 39, 3) := by decide +kernel
theorem dX1_gainByOpening_41 : decode cX1_gainByOpening 41 = .ok (.aload_n 0, 1) := by decide +kernel
theorem dX1_gainByOpening_42 : decode cX1_gainByOpening 42 = .ok (.getfield 23, 3) := by decide +kernel
theorem dX1_gainByOpening_45 : decode cX1_gainByOpening 45 = .ok (.iload 4, 2) := by decide +kernel
theorem dX1_gainByOpening_47 : decode cX1_gainByOpening 47 = .ok (.iload_n 1, 1) := by decide +kernel
theorem dX1_gainByOpening_48 : decode cX1_gainByOpening 48 = .ok (.invokevirtual 45, 3) := by decide +kernel
theorem dX1_gainByOpening_51 : decode cX1_gainByOpening 51 = .ok (.lsub, 1) := by decide +kernel
theorem dX1_gainByOpening_52 : decode cX1_gainByOpening 52 = .ok (.ladd, 1) := by decide +kernel
theorem dX1_gainByOpening_53 : decode cX1_gainByOpening 53 = .ok (.lstore_n 2, 1) := by decide +kernel
theorem dX1_gainByOpening_54 : decode cX1_gainByOpening 54 = .ok (.iinc 4 1, 3) := by decide +kernel
theorem dX1_gainByOpening_57 : decode cX1_gainByOpening 57 = .ok (.goto (-52), 3) := by decide +kernel
theorem dX1_gainByOpening_60 : decode cX1_gainByOpening 60 = .ok (.lload_n 2, 1) := by decide +kernel
theorem dX1_gainByOpening_61 : decode cX1_gainByOpening 61 = .ok (.lreturn, 1) := by decide +kernel
theorem dX1_laneBestOpened_0 : decode cX1_laneBestOpened 0 = .ok (.bipush (-2), 2) := by decide +kernel
theorem dX1_laneBestOpened_2 : decode cX1_laneBestOpened 2 = .ok (.istore_n 1, 1) := by decide +kernel
theorem dX1_laneBestOpened_3 : decode cX1_laneBestOpened 3 = .ok (.lconst 0, 1) := by decide +kernel
theorem dX1_laneBestOpened_4 : decode cX1_laneBestOpened 4 = .ok (.lstore_n 2, 1) := by decide +kernel
theorem dX1_laneBestOpened_5 : decode cX1_laneBestOpened 5 = .ok (.iconst 0, 1) := by decide +kernel
theorem dX1_laneBestOpened_6 : decode cX1_laneBestOpened 6 = .ok (.istore 4, 2) := by decide +kernel
theorem dX1_laneBestOpened_8 : decode cX1_laneBestOpened 8 = .ok (.iload 4, 2) := by decide +kernel
theorem dX1_laneBestOpened_10 : decode cX1_laneBestOpened 10 = .ok (.aload_n 0, 1) := by decide +kernel
theorem dX1_laneBestOpened_11 : decode cX1_laneBestOpened 11 = .ok (.getfield 15, 3) := by decide +kernel
theorem dX1_laneBestOpened_14 : decode cX1_laneBestOpened 14 = .ok (.getfield 49, 3) := by decide +kernel
theorem dX1_laneBestOpened_17 : decode cX1_laneBestOpened 17 = .ok (.if_icmp .ge 30, 3) := by decide +kernel
theorem dX1_laneBestOpened_20 : decode cX1_laneBestOpened 20 = .ok (.aload_n 0, 1) := by decide +kernel
theorem dX1_laneBestOpened_21 : decode cX1_laneBestOpened 21 = .ok (.iload 4, 2) := by decide +kernel
theorem dX1_laneBestOpened_23 : decode cX1_laneBestOpened 23 = .ok (.invokevirtual 52, 3) := by decide +kernel
theorem dX1_laneBestOpened_26 : decode cX1_laneBestOpened 26 = .ok (.lstore 5, 2) := by decide +kernel
theorem dX1_laneBestOpened_28 : decode cX1_laneBestOpened 28 = .ok (.lload 5, 2) := by decide +kernel
theorem dX1_laneBestOpened_30 : decode cX1_laneBestOpened 30 = .ok (.lload_n 2, 1) := by decide +kernel
theorem dX1_laneBestOpened_31 : decode cX1_laneBestOpened 31 = .ok (.lcmp, 1) := by decide +kernel
theorem dX1_laneBestOpened_32 : decode cX1_laneBestOpened 32 = .ok (.ifCond .ge 9, 3) := by decide +kernel
theorem dX1_laneBestOpened_35 : decode cX1_laneBestOpened 35 = .ok (.iload 4, 2) := by decide +kernel
theorem dX1_laneBestOpened_37 : decode cX1_laneBestOpened 37 = .ok (.istore_n 1, 1) := by decide +kernel
theorem dX1_laneBestOpened_38 : decode cX1_laneBestOpened 38 = .ok (.lload 5, 2) := by decide +kernel
theorem dX1_laneBestOpened_40 : decode cX1_laneBestOpened 40 = .ok (.lstore_n 2, 1) := by decide +kernel
theorem dX1_laneBestOpened_41 : decode cX1_laneBestOpened 41 = .ok (.iinc 4 1, 3) := by decide +kernel
theorem dX1_laneBestOpened_44 : decode cX1_laneBestOpened 44 = .ok (.goto (-36), 3) := by decide +kernel
theorem dX1_laneBestOpened_47 : decode cX1_laneBestOpened 47 = .ok (.iload_n 1, 1) := by decide +kernel
theorem dX1_laneBestOpened_48 : decode cX1_laneBestOpened 48 = .ok (.ireturn, 1) := by decide +kernel
theorem dX1_weigh_0 : decode cX1_weigh 0 = .ok (.aload_n 0, 1) := by decide +kernel
theorem dX1_weigh_1 : decode cX1_weigh 1 = .ok (.aload_n 0, 1) := by decide +kernel
theorem dX1_weigh_2 : decode cX1_weigh 2 = .ok (.getfield 23, 3) := by decide +kernel
theorem dX1_weigh_5 : decode cX1_weigh 5 = .ok (.iload_n 1, 1) := by decide +kernel
theorem dX1_weigh_6 : decode cX1_weigh 6 = .ok (.invokevirtual 39, 3) := by decide +kernel
theorem dX1_weigh_9 : decode cX1_weigh 9 = .ok (.putfield 55, 3) := by decide +kernel
theorem dX1_weigh_12 : decode cX1_weigh 12 = .ok (.iconst 0, 1) := by decide +kernel
theorem dX1_weigh_13 : decode cX1_weigh 13 = .ok (.istore_n 2, 1) := by decide +kernel
theorem dX1_weigh_14 : decode cX1_weigh 14 = .ok (.iload_n 2, 1) := by decide +kernel
theorem dX1_weigh_15 : decode cX1_weigh 15 = .ok (.aload_n 0, 1) := by decide +kernel
theorem dX1_weigh_16 : decode cX1_weigh 16 = .ok (.getfield 15, 3) := by decide +kernel
theorem dX1_weigh_19 : decode cX1_weigh 19 = .ok (.getfield 49, 3) := by decide +kernel
theorem dX1_weigh_22 : decode cX1_weigh 22 = .ok (.if_icmp .ge 24, 3) := by decide +kernel
theorem dX1_weigh_25 : decode cX1_weigh 25 = .ok (.aload_n 0, 1) := by decide +kernel
theorem dX1_weigh_26 : decode cX1_weigh 26 = .ok (.getfield 9, 3) := by decide +kernel
theorem dX1_weigh_29 : decode cX1_weigh 29 = .ok (.iload_n 2, 1) := by decide +kernel
theorem dX1_weigh_30 : decode cX1_weigh 30 = .ok (.aload_n 0, 1) := by decide +kernel
theorem dX1_weigh_31 : decode cX1_weigh 31 = .ok (.getfield 23, 3) := by decide +kernel
theorem dX1_weigh_34 : decode cX1_weigh 34 = .ok (.iload_n 1, 1) := by decide +kernel
theorem dX1_weigh_35 : decode cX1_weigh 35 = .ok (.iload_n 2, 1) := by decide +kernel
theorem dX1_weigh_36 : decode cX1_weigh 36 = .ok (.invokevirtual 45, 3) := by decide +kernel
theorem dX1_weigh_39 : decode cX1_weigh 39 = .ok (.lastore, 1) := by decide +kernel
theorem dX1_weigh_40 : decode cX1_weigh 40 = .ok (.iinc 2 1, 3) := by decide +kernel
theorem dX1_weigh_43 : decode cX1_weigh 43 = .ok (.goto (-29), 3) := by decide +kernel
theorem dX1_weigh_46 : decode cX1_weigh 46 = .ok (.return_, 1) := by decide +kernel
theorem dX1_worthIfOpened_0 : decode cX1_worthIfOpened 0 = .ok (.iload_n 1, 1) := by decide +kernel
theorem dX1_worthIfOpened_1 : decode cX1_worthIfOpened 1 = .ok (.iload_n 2, 1) := by decide +kernel
theorem dX1_worthIfOpened_2 : decode cX1_worthIfOpened 2 = .ok (.if_icmp .ne 10, 3) := by decide +kernel
theorem dX1_worthIfOpened_5 : decode cX1_worthIfOpened 5 = .ok (.aload_n 0, 1) := by decide +kernel
theorem dX1_worthIfOpened_6 : decode cX1_worthIfOpened 6 = .ok (.getfield 55, 3) := by decide +kernel
theorem dX1_worthIfOpened_9 : decode cX1_worthIfOpened 9 = .ok (.goto 9, 3) := by decide +kernel
theorem dX1_worthIfOpened_12 : decode cX1_worthIfOpened 12 = .ok (.aload_n 0, 1) := by decide +kernel
theorem dX1_worthIfOpened_13 : decode cX1_worthIfOpened 13 = .ok (.getfield 9, 3) := by decide +kernel
theorem dX1_worthIfOpened_16 : decode cX1_worthIfOpened 16 = .ok (.iload_n 1, 1) := by decide +kernel
theorem dX1_worthIfOpened_17 : decode cX1_worthIfOpened 17 = .ok (.laload, 1) := by decide +kernel
theorem dX1_worthIfOpened_18 : decode cX1_worthIfOpened 18 = .ok (.lreturn, 1) := by decide +kernel
theorem dX1_isRest_0 : decode cX1_isRest 0 = .ok (.aload_n 0, 1) := by decide +kernel
theorem dX1_isRest_1 : decode cX1_isRest 1 = .ok (.iload_n 1, 1) := by decide +kernel
theorem dX1_isRest_2 : decode cX1_isRest 2 = .ok (.iload_n 2, 1) := by decide +kernel
theorem dX1_isRest_3 : decode cX1_isRest 3 = .ok (.invokevirtual 58, 3) := by decide +kernel
theorem dX1_isRest_6 : decode cX1_isRest 6 = .ok (.lstore_n 3, 1) := by decide +kernel
theorem dX1_isRest_7 : decode cX1_isRest 7 = .ok (.iconst 0, 1) := by decide +kernel
theorem dX1_isRest_8 : decode cX1_isRest 8 = .ok (.istore 5, 2) := by decide +kernel
theorem dX1_isRest_10 : decode cX1_isRest 10 = .ok (.iload 5, 2) := by decide +kernel
theorem dX1_isRest_12 : decode cX1_isRest 12 = .ok (.aload_n 0, 1) := by decide +kernel
theorem dX1_isRest_13 : decode cX1_isRest 13 = .ok (.getfield 15, 3) := by decide +kernel
theorem dX1_isRest_16 : decode cX1_isRest 16 = .ok (.getfield 49, 3) := by decide +kernel
theorem dX1_isRest_19 : decode cX1_isRest 19 = .ok (.if_icmp .ge 35, 3) := by decide +kernel
theorem dX1_isRest_22 : decode cX1_isRest 22 = .ok (.aload_n 0, 1) := by decide +kernel
theorem dX1_isRest_23 : decode cX1_isRest 23 = .ok (.iload 5, 2) := by decide +kernel
theorem dX1_isRest_25 : decode cX1_isRest 25 = .ok (.iload_n 2, 1) := by decide +kernel
theorem dX1_isRest_26 : decode cX1_isRest 26 = .ok (.invokevirtual 58, 3) := by decide +kernel
theorem dX1_isRest_29 : decode cX1_isRest 29 = .ok (.lload_n 3, 1) := by decide +kernel
theorem dX1_isRest_30 : decode cX1_isRest 30 = .ok (.lcmp, 1) := by decide +kernel
theorem dX1_isRest_31 : decode cX1_isRest 31 = .ok (.ifCond .gt 15, 3) := by decide +kernel
theorem dX1_isRest_34 : decode cX1_isRest 34 = .ok (.aload_n 0, 1) := by decide +kernel
theorem dX1_isRest_35 : decode cX1_isRest 35 = .ok (.iload_n 1, 1) := by decide +kernel
theorem dX1_isRest_36 : decode cX1_isRest 36 = .ok (.iload 5, 2) := by decide +kernel
theorem dX1_isRest_38 : decode cX1_isRest 38 = .ok (.invokevirtual 58, 3) := by decide +kernel
theorem dX1_isRest_41 : decode cX1_isRest 41 = .ok (.lload_n 3, 1) := by decide +kernel
theorem dX1_isRest_42 : decode cX1_isRest 42 = .ok (.lcmp, 1) := by decide +kernel
theorem dX1_isRest_43 : decode cX1_isRest 43 = .ok (.ifCond .ge 5, 3) := by decide +kernel
theorem dX1_isRest_46 : decode cX1_isRest 46 = .ok (.iconst 0, 1) := by decide +kernel
theorem dX1_isRest_47 : decode cX1_isRest 47 = .ok (.ireturn, 1) := by decide +kernel
theorem dX1_isRest_48 : decode cX1_isRest 48 = .ok (.iinc 5 1, 3) := by decide +kernel
theorem dX1_isRest_51 : decode cX1_isRest 51 = .ok (.goto (-41), 3) := by decide +kernel
theorem dX1_isRest_54 : decode cX1_isRest 54 = .ok (.iconst 1, 1) := by decide +kernel
theorem dX1_isRest_55 : decode cX1_isRest 55 = .ok (.ireturn, 1) := by decide +kernel
theorem dX1_countRests_0 : decode cX1_countRests 0 = .ok (.iconst 0, 1) := by decide +kernel
theorem dX1_countRests_1 : decode cX1_countRests 1 = .ok (.istore_n 1, 1) := by decide +kernel
theorem dX1_countRests_2 : decode cX1_countRests 2 = .ok (.iconst 0, 1) := by decide +kernel
theorem dX1_countRests_3 : decode cX1_countRests 3 = .ok (.istore_n 2, 1) := by decide +kernel
theorem dX1_countRests_4 : decode cX1_countRests 4 = .ok (.iload_n 2, 1) := by decide +kernel
theorem dX1_countRests_5 : decode cX1_countRests 5 = .ok (.aload_n 0, 1) := by decide +kernel
theorem dX1_countRests_6 : decode cX1_countRests 6 = .ok (.getfield 15, 3) := by decide +kernel
theorem dX1_countRests_9 : decode cX1_countRests 9 = .ok (.getfield 49, 3) := by decide +kernel
theorem dX1_countRests_12 : decode cX1_countRests 12 = .ok (.if_icmp .ge 45, 3) := by decide +kernel
theorem dX1_countRests_15 : decode cX1_countRests 15 = .ok (.iconst 0, 1) := by decide +kernel
theorem dX1_countRests_16 : decode cX1_countRests 16 = .ok (.istore_n 3, 1) := by decide +kernel
theorem dX1_countRests_17 : decode cX1_countRests 17 = .ok (.iload_n 3, 1) := by decide +kernel
theorem dX1_countRests_18 : decode cX1_countRests 18 = .ok (.aload_n 0, 1) := by decide +kernel
theorem dX1_countRests_19 : decode cX1_countRests 19 = .ok (.getfield 15, 3) := by decide +kernel
theorem dX1_countRests_22 : decode cX1_countRests 22 = .ok (.getfield 49, 3) := by decide +kernel
theorem dX1_countRests_25 : decode cX1_countRests 25 = .ok (.if_icmp .ge 26, 3) := by decide +kernel
theorem dX1_countRests_28 : decode cX1_countRests 28 = .ok (.iload_n 1, 1) := by decide +kernel
theorem dX1_countRests_29 : decode cX1_countRests 29 = .ok (.aload_n 0, 1) := by decide +kernel
theorem dX1_countRests_30 : decode cX1_countRests 30 = .ok (.iload_n 2, 1) := by decide +kernel
theorem dX1_countRests_31 : decode cX1_countRests 31 = .ok (.iload_n 3, 1) := by decide +kernel
theorem dX1_countRests_32 : decode cX1_countRests 32 = .ok (.invokevirtual 61, 3) := by decide +kernel
theorem dX1_countRests_35 : decode cX1_countRests 35 = .ok (.ifCond .eq 7, 3) := by decide +kernel
theorem dX1_countRests_38 : decode cX1_countRests 38 = .ok (.iconst 1, 1) := by decide +kernel
theorem dX1_countRests_39 : decode cX1_countRests 39 = .ok (.goto 4, 3) := by decide +kernel
theorem dX1_countRests_42 : decode cX1_countRests 42 = .ok (.iconst 0, 1) := by decide +kernel
theorem dX1_countRests_43 : decode cX1_countRests 43 = .ok (.iadd, 1) := by decide +kernel
theorem dX1_countRests_44 : decode cX1_countRests 44 = .ok (.istore_n 1, 1) := by decide +kernel
theorem dX1_countRests_45 : decode cX1_countRests 45 = .ok (.iinc 3 1, 3) := by decide +kernel
theorem dX1_countRests_48 : decode cX1_countRests 48 = .ok (.goto (-31), 3) := by decide +kernel
theorem dX1_countRests_51 : decode cX1_countRests 51 = .ok (.iinc 2 1, 3) := by decide +kernel
theorem dX1_countRests_54 : decode cX1_countRests 54 = .ok (.goto (-50), 3) := by decide +kernel
theorem dX1_countRests_57 : decode cX1_countRests 57 = .ok (.iload_n 1, 1) := by decide +kernel
theorem dX1_countRests_58 : decode cX1_countRests 58 = .ok (.ireturn, 1) := by decide +kernel
theorem dX1_firstRest_0 : decode cX1_firstRest 0 = .ok (.iconst 0, 1) := by decide +kernel
theorem dX1_firstRest_1 : decode cX1_firstRest 1 = .ok (.istore_n 1, 1) := by decide +kernel
theorem dX1_firstRest_2 : decode cX1_firstRest 2 = .ok (.iload_n 1, 1) := by decide +kernel
theorem dX1_firstRest_3 : decode cX1_firstRest 3 = .ok (.aload_n 0, 1) := by decide +kernel
theorem dX1_firstRest_4 : decode cX1_firstRest 4 = .ok (.getfield 15, 3) := by decide +kernel
theorem dX1_firstRest_7 : decode cX1_firstRest 7 = .ok (.getfield 49, 3) := by decide +kernel
theorem dX1_firstRest_10 : decode cX1_firstRest 10 = .ok (.if_icmp .ge 44, 3) := by decide +kernel
theorem dX1_firstRest_13 : decode cX1_firstRest 13 = .ok (.iconst 0, 1) := by decide +kernel
theorem dX1_firstRest_14 : decode cX1_firstRest 14 = .ok (.istore_n 2, 1) := by decide +kernel
theorem dX1_firstRest_15 : decode cX1_firstRest 15 = .ok (.iload_n 2, 1) := by decide +kernel
theorem dX1_firstRest_16 : decode cX1_firstRest 16 = .ok (.aload_n 0, 1) := by decide +kernel
theorem dX1_firstRest_17 : decode cX1_firstRest 17 = .ok (.getfield 15, 3) := by decide +kernel
theorem dX1_firstRest_20 : decode cX1_firstRest 20 = .ok (.getfield 49, 3) := by decide +kernel
theorem dX1_firstRest_23 : decode cX1_firstRest 23 = .ok (.if_icmp .ge 25, 3) := by decide +kernel
theorem dX1_firstRest_26 : decode cX1_firstRest 26 = .ok (.aload_n 0, 1) := by decide +kernel
theorem dX1_firstRest_27 : decode cX1_firstRest 27 = .ok (.iload_n 1, 1) := by decide +kernel
theorem dX1_firstRest_28 : decode cX1_firstRest 28 = .ok (.iload_n 2, 1) := by decide +kernel
theorem dX1_firstRest_29 : decode cX1_firstRest 29 = .ok (.invokevirtual 61, 3) := by decide +kernel
theorem dX1_firstRest_32 : decode cX1_firstRest 32 = .ok (.ifCond .eq 10, 3) := by decide +kernel
theorem dX1_firstRest_35 : decode cX1_firstRest 35 = .ok (.bipush 10, 2) := by decide +kernel
theorem dX1_firstRest_37 : decode cX1_firstRest 37 = .ok (.iload_n 1, 1) := by decide +kernel
theorem dX1_firstRest_38 : decode cX1_firstRest 38 = .ok (.imul, 1) := by decide +kernel
theorem dX1_firstRest_39 : decode cX1_firstRest 39 = .ok (.iload_n 2, 1) := by decide +kernel
theorem dX1_firstRest_40 : decode cX1_firstRest 40 = .ok (.iadd, 1) := by decide +kernel
theorem dX1_firstRest_41 : decode cX1_firstRest 41 = .ok (.ireturn, 1) := by decide +kernel
theorem dX1_firstRest_42 : decode cX1_firstRest 42 = .ok (.iinc 2 1, 3) := by decide +kernel
theorem dX1_firstRest_45 : decode cX1_firstRest 45 = .ok (.goto (-30), 3) := by decide +kernel
theorem dX1_firstRest_48 : decode cX1_firstRest 48 = .ok (.iinc 1 1, 3) := by decide +kernel
theorem dX1_firstRest_51 : decode cX1_firstRest 51 = .ok (.goto (-49), 3) := by decide +kernel
theorem dX1_firstRest_54 : decode cX1_firstRest 54 = .ok (.bipush (-2), 2) := by decide +kernel
theorem dX1_firstRest_56 : decode cX1_firstRest 56 = .ok (.ireturn, 1) := by decide +kernel
theorem dX6_init_0 : decode cX6_init 0 = .ok (.aload_n 0, 1) := by decide +kernel
theorem dX6_init_1 : decode cX6_init 1 = .ok (.invokespecial 3, 3) := by decide +kernel
theorem dX6_init_4 : decode cX6_init 4 = .ok (.aload_n 0, 1) := by decide +kernel
theorem dX6_init_5 : decode cX6_init 5 = .ok (.bipush 6, 2) := by decide +kernel
theorem dX6_init_7 : decode cX6_init 7 = .ok (.newarray .long, 2) := by decide +kernel
theorem dX6_init_9 : decode cX6_init 9 = .ok (.putfield 9, 3) := by decide +kernel
theorem dX6_init_12 : decode cX6_init 12 = .ok (.aload_n 0, 1) := by decide +kernel
theorem dX6_init_13 : decode cX6_init 13 = .ok (.sipush 384, 3) := by decide +kernel
theorem dX6_init_16 : decode cX6_init 16 = .ok (.newarray .long, 2) := by decide +kernel
theorem dX6_init_18 : decode cX6_init 18 = .ok (.putfield 15, 3) := by decide +kernel
theorem dX6_init_21 : decode cX6_init 21 = .ok (.aload_n 0, 1) := by decide +kernel
theorem dX6_init_22 : decode cX6_init 22 = .ok (.iconst 5, 1) := by decide +kernel
theorem dX6_init_23 : decode cX6_init 23 = .ok (.newarray .int, 2) := by decide +kernel
theorem dX6_init_25 : decode cX6_init 25 = .ok (.putfield 18, 3) := by decide +kernel
theorem dX6_init_28 : decode cX6_init 28 = .ok (.aload_n 0, 1) := by decide +kernel
theorem dX6_init_29 : decode cX6_init 29 = .ok (.aload_n 1, 1) := by decide +kernel
theorem dX6_init_30 : decode cX6_init 30 = .ok (.putfield 22, 3) := by decide +kernel
theorem dX6_init_33 : decode cX6_init 33 = .ok (.aload_n 0, 1) := by decide +kernel
theorem dX6_init_34 : decode cX6_init 34 = .ok (.aload_n 2, 1) := by decide +kernel
theorem dX6_init_35 : decode cX6_init 35 = .ok (.putfield 26, 3) := by decide +kernel
theorem dX6_init_38 : decode cX6_init 38 = .ok (.aload_n 0, 1) := by decide +kernel
theorem dX6_init_39 : decode cX6_init 39 = .ok (.aload_n 3, 1) := by decide +kernel
theorem dX6_init_40 : decode cX6_init 40 = .ok (.putfield 30, 3) := by decide +kernel
theorem dX6_init_43 : decode cX6_init 43 = .ok (.return_, 1) := by decide +kernel
theorem dX6_settle_0 : decode cX6_settle 0 = .ok (.iconst 1, 1) := by decide +kernel
theorem dX6_settle_1 : decode cX6_settle 1 = .ok (.aload_n 0, 1) := by decide +kernel
theorem dX6_settle_2 : decode cX6_settle 2 = .ok (.getfield 22, 3) := by decide +kernel
theorem dX6_settle_5 : decode cX6_settle 5 = .ok (.getfield 34, 3) := by decide +kernel
theorem dX6_settle_8 : decode cX6_settle 8 = .ok (.ishl, 1) := by decide +kernel
theorem dX6_settle_9 : decode cX6_settle 9 = .ok (.istore_n 1, 1) := by decide +kernel
theorem dX6_settle_10 : decode cX6_settle 10 = .ok (.iconst 0, 1) := by decide +kernel
theorem dX6_settle_11 : decode cX6_settle 11 = .ok (.istore_n 2, 1) := by decide +kernel
theorem dX6_settle_12 : decode cX6_settle 12 = .ok (.iload_n 2, 1) := by decide +kernel
theorem dX6_settle_13 : decode cX6_settle 13 = .ok (.iload_n 1, 1) := by decide +kernel
theorem dX6_settle_14 : decode cX6_settle 14 = .ok (.if_icmp .ge 27, 3) := by decide +kernel
theorem dX6_settle_17 : decode cX6_settle 17 = .ok (.aload_n 0, 1) := by decide +kernel
theorem dX6_settle_18 : decode cX6_settle 18 = .ok (.getfield 15, 3) := by decide +kernel
theorem dX6_settle_21 : decode cX6_settle 21 = .ok (.aload_n 0, 1) := by decide +kernel
theorem dX6_settle_22 : decode cX6_settle 22 = .ok (.getfield 22, 3) := by decide +kernel
theorem dX6_settle_25 : decode cX6_settle 25 = .ok (.getfield 39, 3) := by decide +kernel
theorem dX6_settle_28 : decode cX6_settle 28 = .ok (.bipush 64, 2) := by decide +kernel
theorem dX6_settle_30 : decode cX6_settle 30 = .ok (.imul, 1) := by decide +kernel
theorem dX6_settle_31 : decode cX6_settle 31 = .ok (.iload_n 2, 1) := by decide +kernel
theorem dX6_settle_32 : decode cX6_settle 32 = .ok (.iadd, 1) := by decide +kernel
theorem dX6_settle_33 : decode cX6_settle 33 = .ok (.lconst 0, 1) := by decide +kernel
theorem dX6_settle_34 : decode cX6_settle 34 = .ok (.lastore, 1) := by decide +kernel
theorem dX6_settle_35 : decode cX6_settle 35 = .ok (.iinc 2 1, 3) := by decide +kernel
theorem dX6_settle_38 : decode cX6_settle 38 = .ok (.goto (-26), 3) := by decide +kernel
theorem dX6_settle_41 : decode cX6_settle 41 = .ok (.aload_n 0, 1) := by decide +kernel
theorem dX6_settle_42 : decode cX6_settle 42 = .ok (.getfield 22, 3) := by decide +kernel
theorem dX6_settle_45 : decode cX6_settle 45 = .ok (.getfield 39, 3) := by decide +kernel
theorem dX6_settle_48 : decode cX6_settle 48 = .ok (.iconst 1, 1) := by decide +kernel
theorem dX6_settle_49 : decode cX6_settle 49 = .ok (.isub, 1) := by decide +kernel
theorem dX6_settle_50 : decode cX6_settle 50 = .ok (.istore_n 2, 1) := by decide +kernel
theorem dX6_settle_51 : decode cX6_settle 51 = .ok (.iload_n 2, 1) := by decide +kernel
theorem dX6_settle_52 : decode cX6_settle 52 = .ok (.ifCond .lt 44, 3) := by decide +kernel
theorem dX6_settle_55 : decode cX6_settle 55 = .ok (.aload_n 0, 1) := by decide +kernel
theorem dX6_settle_56 : decode cX6_settle 56 = .ok (.iload_n 2, 1) := by decide +kernel
theorem dX6_settle_57 : decode cX6_settle 57 = .ok (.invokevirtual 42, 3) := by decide +kernel
theorem dX6_settle_60 : decode cX6_settle 60 = .ok (.iconst 0, 1) := by decide +kernel
theorem dX6_settle_61 : decode cX6_settle 61 = .ok (.istore_n 3, 1) := by decide +kernel
theorem dX6_settle_62 : decode cX6_settle 62 = .ok (.iload_n 3, 1) := by decide +kernel
theorem dX6_settle_63 : decode cX6_settle 63 = .ok (.iload_n 1, 1) := by decide +kernel
theorem dX6_settle_64 : decode cX6_settle 64 = .ok (.if_icmp .ge 26, 3) := by decide +kernel
theorem dX6_settle_67 : decode cX6_settle 67 = .ok (.aload_n 0, 1) := by decide +kernel
theorem dX6_settle_68 : decode cX6_settle 68 = .ok (.getfield 15, 3) := by decide +kernel
theorem dX6_settle_71 : decode cX6_settle 71 = .ok (.iload_n 2, 1) := by decide +kernel
theorem dX6_settle_72 : decode cX6_settle 72 = .ok (.bipush 64, 2) := by decide +kernel
theorem dX6_settle_74 : decode cX6_settle 74 = .ok (.imul, 1) := by decide +kernel
theorem dX6_settle_75 : decode cX6_settle 75 = .ok (.iload_n 3, 1) := by decide +kernel
theorem dX6_settle_76 : decode cX6_settle 76 = .ok (.iadd, 1) := by decide +kernel
theorem dX6_settle_77 : decode cX6_settle 77 = .ok (.aload_n 0, 1) := by decide +kernel
theorem dX6_settle_78 : decode cX6_settle 78 = .ok (.iload_n 2, 1) := by decide +kernel
theorem dX6_settle_79 : decode cX6_settle 79 = .ok (.iload_n 3, 1) := by decide +kernel
theorem dX6_settle_80 : decode cX6_settle 80 = .ok (.invokevirtual 46, 3) := by decide +kernel
theorem dX6_settle_83 : decode cX6_settle 83 = .ok (.lastore, 1) := by decide +kernel
theorem dX6_settle_84 : decode cX6_settle 84 = .ok (.iinc 3 1, 3) := by decide +kernel
theorem dX6_settle_87 : decode cX6_settle 87 = .ok (.goto (-25), 3) := by decide +kernel
theorem dX6_settle_90 : decode cX6_settle 90 = .ok (.iinc 2 (-1), 3) := by decide +kernel
theorem dX6_settle_93 : decode cX6_settle 93 = .ok (.goto (-42), 3) := by decide +kernel
theorem dX6_settle_96 : decode cX6_settle 96 = .ok (.iconst 0, 1) := by decide +kernel
theorem dX6_settle_97 : decode cX6_settle 97 = .ok (.istore_n 2, 1) := by decide +kernel
theorem dX6_settle_98 : decode cX6_settle 98 = .ok (.iconst 0, 1) := by decide +kernel
theorem dX6_settle_99 : decode cX6_settle 99 = .ok (.istore_n 3, 1) := by decide +kernel
theorem dX6_settle_100 : decode cX6_settle 100 = .ok (.iload_n 3, 1) := by decide +kernel
theorem dX6_settle_101 : decode cX6_settle 101 = .ok (.aload_n 0, 1) := by decide +kernel
theorem dX6_settle_102 : decode cX6_settle 102 = .ok (.getfield 22, 3) := by decide +kernel
theorem dX6_settle_105 : decode cX6_settle 105 = .ok (.getfield 39, 3) := by decide +kernel
theorem dX6_settle_108 : decode cX6_settle 108 = .ok (.if_icmp .ge 52, 3) := by decide +kernel
theorem dX6_settle_111 : decode cX6_settle 111 = .ok (.aload_n 0, 1) := by decide +kernel
theorem dX6_settle_112 : decode cX6_settle 112 = .ok (.iload_n 3, 1) := by decide +kernel
theorem dX6_settle_113 : decode cX6_settle 113 = .ok (.invokevirtual 42, 3) := by decide +kernel
theorem dX6_settle_116 : decode cX6_settle 116 = .ok (.aload_n 0, 1) := by decide +kernel
theorem dX6_settle_117 : decode cX6_settle 117 = .ok (.getfield 18, 3) := by decide +kernel
theorem dX6_settle_120 : decode cX6_settle 120 = .ok (.iload_n 3, 1) := by decide +kernel
theorem dX6_settle_121 : decode cX6_settle 121 = .ok (.aload_n 0, 1) := by decide +kernel
theorem dX6_settle_122 : decode cX6_settle 122 = .ok (.iload_n 3, 1) := by decide +kernel
theorem dX6_settle_123 : decode cX6_settle 123 = .ok (.iload_n 2, 1) := by decide +kernel
theorem dX6_settle_124 : decode cX6_settle 124 = .ok (.invokevirtual 50, 3) := by decide +kernel
theorem dX6_settle_127 : decode cX6_settle 127 = .ok (.iastore, 1) := by decide +kernel
theorem dX6_settle_128 : decode cX6_settle 128 = .ok (.iload_n 2, 1) := by decide +kernel
theorem dX6_settle_129 : decode cX6_settle 129 = .ok (.aload_n 0, 1) := by decide +kernel
theorem dX6_settle_130 : decode cX6_settle 130 = .ok (.getfield 18, 3) := by decide +kernel
theorem dX6_settle_133 : decode cX6_settle 133 = .ok (.iload_n 3, 1) := by decide +kernel
theorem dX6_settle_134 : decode cX6_settle 134 = .ok (.iaload, 1) := by decide +kernel
theorem dX6_settle_135 : decode cX6_settle 135 = .ok (.bipush (-2), 2) := by decide +kernel
theorem dX6_settle_137 : decode cX6_settle 137 = .ok (.if_icmp .ne 7, 3) := by decide +kernel
theorem dX6_settle_140 : decode cX6_settle 140 = .ok (.iconst 0, 1) := by decide +kernel
theorem dX6_settle_141 : decode cX6_settle 141 = .ok (.goto 11, 3) := by decide +kernel
theorem dX6_settle_144 : decode cX6_settle 144 = .ok (.iconst 1, 1) := by decide +kernel
theorem dX6_settle_145 : decode cX6_settle 145 = .ok (.aload_n 0, 1) := by decide +kernel
theorem dX6_settle_146 : decode cX6_settle 146 = .ok (.getfield 18, 3) := by decide +kernel
theorem dX6_settle_149 : decode cX6_settle 149 = .ok (.iload_n 3, 1) := by decide +kernel
theorem dX6_settle_150 : decode cX6_settle 150 = .ok (.iaload, 1) := by decide +kernel
theorem dX6_settle_151 : decode cX6_settle 151 = .ok (.ishl, 1) := by decide +kernel
theorem dX6_settle_152 : decode cX6_settle 152 = .ok (.ior, 1) := by decide +kernel
theorem dX6_settle_153 : decode cX6_settle 153 = .ok (.istore_n 2, 1) := by decide +kernel
theorem dX6_settle_154 : decode cX6_settle 154 = .ok (.iinc 3 1, 3) := by decide +kernel
theorem dX6_settle_157 : decode cX6_settle 157 = .ok (.goto (-57), 3) := by decide +kernel
theorem dX6_settle_160 : decode cX6_settle 160 = .ok (.return_, 1) := by decide +kernel
theorem dX6_findWorths_0 : decode cX6_findWorths 0 = .ok (.iconst 0, 1) := by decide +kernel
theorem dX6_findWorths_1 : decode cX6_findWorths 1 = .ok (.istore_n 2, 1) := by decide +kernel
theorem dX6_findWorths_2 : decode cX6_findWorths 2 = .ok (.iload_n 2, 1) := by decide +kernel
theorem dX6_findWorths_3 : decode cX6_findWorths 3 = .ok (.aload_n 0, 1) := by decide +kernel
theorem dX6_findWorths_4 : decode cX6_findWorths 4 = .ok (.getfield 22, 3) := by decide +kernel
theorem dX6_findWorths_7 : decode cX6_findWorths 7 = .ok (.getfield 34, 3) := by decide +kernel
theorem dX6_findWorths_10 : decode cX6_findWorths 10 = .ok (.if_icmp .ge 24, 3) := by decide +kernel
theorem dX6_findWorths_13 : decode cX6_findWorths 13 = .ok (.aload_n 0, 1) := by decide +kernel
theorem dX6_findWorths_14 : decode cX6_findWorths 14 = .ok (.getfield 9, 3) := by decide +kernel
theorem dX6_findWorths_17 : decode cX6_findWorths 17 = .ok (.iload_n 2, 1) := by decide +kernel
theorem dX6_findWorths_18 : decode cX6_findWorths 18 = .ok (.aload_n 0, 1) := by decide +kernel
theorem dX6_findWorths_19 : decode cX6_findWorths 19 = .ok (.getfield 30, 3) := by decide +kernel
theorem dX6_findWorths_22 : decode cX6_findWorths 22 = .ok (.iload_n 1, 1) := by decide +kernel
theorem dX6_findWorths_23 : decode cX6_findWorths 23 = .ok (.iload_n 2, 1) := by decide +kernel
theorem dX6_findWorths_24 : decode cX6_findWorths 24 = .ok (.invokevirtual 54, 3) := by decide +kernel
theorem dX6_findWorths_27 : decode cX6_findWorths 27 = .ok (.lastore, 1) := by decide +kernel
theorem dX6_findWorths_28 : decode cX6_findWorths 28 = .ok (.iinc 2 1, 3) := by decide +kernel
theorem dX6_findWorths_31 : decode cX6_findWorths 31 = .ok (.goto (-29), 3) := by decide +kernel
theorem dX6_findWorths_34 : decode cX6_findWorths 34 = .ok (.return_, 1) := by decide +kernel
theorem dX6_isFree_0 : decode cX6_isFree 0 = .ok (.aload_n 0, 1) := by decide +kernel
theorem dX6_isFree_1 : decode cX6_isFree 1 = .ok (.getfield 26, 3) := by decide +kernel
theorem dX6_isFree_4 : decode cX6_isFree 4 = .ok (.iload_n 1, 1) := by decide +kernel
theorem dX6_isFree_5 : decode cX6_isFree 5 = .ok (.invokevirtual 59, 3) := by decide +kernel
theorem dX6_isFree_8 : decode cX6_isFree 8 = .ok (.ifCond .ne 15, 3) := by decide +kernel
theorem dX6_isFree_11 : decode cX6_isFree 11 = .ok (.iload_n 3, 1) := by decide +kernel
theorem dX6_isFree_12 : decode cX6_isFree 12 = .ok (.iload_n 2, 1) := by decide +kernel
theorem dX6_isFree_13 : decode cX6_isFree 13 = .ok (.ishr, 1) := by decide +kernel
theorem dX6_isFree_14 : decode cX6_isFree 14 = .ok (.iconst 1, 1) := by decide +kernel
theorem dX6_isFree_15 : decode cX6_isFree 15 = .ok (.iand, 1) := by decide +kernel
theorem dX6_isFree_16 : decode cX6_isFree 16 = .ok (.ifCond .ne 7, 3) := by decide +kernel
theorem dX6_isFree_19 : decode cX6_isFree 19 = .ok (.iconst 1, 1) := by decide +kernel
theorem dX6_isFree_20 : decode cX6_isFree 20 = .ok (.goto 4, 3) := by decide +kernel
theorem dX6_isFree_23 : decode cX6_isFree 23 = .ok (.iconst 0, 1) := by decide +kernel
theorem dX6_isFree_24 : decode cX6_isFree 24 = .ok (.ireturn, 1) := by decide +kernel
theorem dX6_withLane_0 : decode cX6_withLane 0 = .ok (.aload_n 0, 1) := by decide +kernel
theorem dX6_withLane_1 : decode cX6_withLane 1 = .ok (.getfield 9, 3) := by decide +kernel
theorem dX6_withLane_4 : decode cX6_withLane 4 = .ok (.iload_n 2, 1) := by decide +kernel
theorem dX6_withLane_5 : decode cX6_withLane 5 = .ok (.laload, 1) := by decide +kernel
theorem dX6_withLane_6 : decode cX6_withLane 6 = .ok (.aload_n 0, 1) := by decide +kernel
theorem dX6_withLane_7 : decode cX6_withLane 7 = .ok (.getfield 15, 3) := by decide +kernel
theorem dX6_withLane_10 : decode cX6_withLane 10 = .ok (.iload_n 1, 1) := by decide +kernel
theorem dX6_withLane_11 : decode cX6_withLane 11 = .ok (.iconst 1, 1) := by decide +kernel
theorem dX6_withLane_12 : decode cX6_withLane 12 = .ok (.iadd, 1) := by decide +kernel
theorem dX6_withLane_13 : decode cX6_withLane 13 = .ok (.bipush 64, 2) := by decide +kernel
theorem dX6_withLane_15 : decode cX6_withLane 15 = .ok (.imul, 1) := by decide +kernel
theorem dX6_withLane_16 : decode cX6_withLane 16 = .ok (.iload_n 3, 1) := by decide +kernel
theorem dX6_withLane_17 : decode cX6_withLane 17 = .ok (.iconst 1, 1) := by decide +kernel
theorem dX6_withLane_18 : decode cX6_withLane 18 = .ok (.iload_n 2, 1) := by decide +kernel
theorem dX6_withLane_19 : decode cX6_withLane 19 = .ok (.ishl, 1) := by decide +kernel
theorem dX6_withLane_20 : decode cX6_withLane 20 = .ok (.ior, 1) := by decide +kernel
theorem dX6_withLane_21 : decode cX6_withLane 21 = .ok (.iadd, 1) := by decide +kernel
theorem dX6_withLane_22 : decode cX6_withLane 22 = .ok (.laload, 1) := by decide +kernel
theorem dX6_withLane_23 : decode cX6_withLane 23 = .ok (.ladd, 1) := by decide +kernel
theorem dX6_withLane_24 : decode cX6_withLane 24 = .ok (.lreturn, 1) := by decide +kernel
theorem dX6_mostFrom_0 : decode cX6_mostFrom 0 = .ok (.aload_n 0, 1) := by decide +kernel
theorem dX6_mostFrom_1 : decode cX6_mostFrom 1 = .ok (.getfield 15, 3) := by decide +kernel
theorem dX6_mostFrom_4 : decode cX6_mostFrom 4 = .ok (.iload_n 1, 1) := by decide +kernel
theorem dX6_mostFrom_5 : decode cX6_mostFrom 5 = .ok (.iconst 1, 1) := by decide +kernel
theorem dX6_mostFrom_6 : decode cX6_mostFrom 6 = .ok (.iadd, 1) := by decide +kernel
theorem dX6_mostFrom_7 : decode cX6_mostFrom 7 = .ok (.bipush 64, 2) := by decide +kernel
theorem dX6_mostFrom_9 : decode cX6_mostFrom 9 = .ok (.imul, 1) := by decide +kernel
theorem dX6_mostFrom_10 : decode cX6_mostFrom 10 = .ok (.iload_n 2, 1) := by decide +kernel
theorem dX6_mostFrom_11 : decode cX6_mostFrom 11 = .ok (.iadd, 1) := by decide +kernel
theorem dX6_mostFrom_12 : decode cX6_mostFrom 12 = .ok (.laload, 1) := by decide +kernel
theorem dX6_mostFrom_13 : decode cX6_mostFrom 13 = .ok (.lstore_n 3, 1) := by decide +kernel
theorem dX6_mostFrom_14 : decode cX6_mostFrom 14 = .ok (.iconst 0, 1) := by decide +kernel
theorem dX6_mostFrom_15 : decode cX6_mostFrom 15 = .ok (.istore 5, 2) := by decide +kernel
theorem dX6_mostFrom_17 : decode cX6_mostFrom 17 = .ok (.iload 5, 2) := by decide +kernel
theorem dX6_mostFrom_19 : decode cX6_mostFrom 19 = .ok (.aload_n 0, 1) := by decide +kernel
theorem dX6_mostFrom_20 : decode cX6_mostFrom 20 = .ok (.getfield 22, 3) := by decide +kernel
theorem dX6_mostFrom_23 : decode cX6_mostFrom 23 = .ok (.getfield 34, 3) := by decide +kernel
theorem dX6_mostFrom_26 : decode cX6_mostFrom 26 = .ok (.if_icmp .ge 33, 3) := by decide +kernel
theorem dX6_mostFrom_29 : decode cX6_mostFrom 29 = .ok (.aload_n 0, 1) := by decide +kernel
theorem dX6_mostFrom_30 : decode cX6_mostFrom 30 = .ok (.iload_n 1, 1) := by decide +kernel
theorem dX6_mostFrom_31 : decode cX6_mostFrom 31 = .ok (.iload 5, 2) := by decide +kernel
theorem dX6_mostFrom_33 : decode cX6_mostFrom 33 = .ok (.iload_n 2, 1) := by decide +kernel
theorem dX6_mostFrom_34 : decode cX6_mostFrom 34 = .ok (.invokevirtual 65, 3) := by decide +kernel
theorem dX6_mostFrom_37 : decode cX6_mostFrom 37 = .ok (.ifCond .eq 16, 3) := by decide +kernel
theorem dX6_mostFrom_40 : decode cX6_mostFrom 40 = .ok (.lload_n 3, 1) := by decide +kernel
theorem dX6_mostFrom_41 : decode cX6_mostFrom 41 = .ok (.aload_n 0, 1) := by decide +kernel
theorem dX6_mostFrom_42 : decode cX6_mostFrom 42 = .ok (.iload_n 1, 1) := by decide +kernel
theorem dX6_mostFrom_43 : decode cX6_mostFrom 43 = .ok (.iload 5, 2) := by decide +kernel
theorem dX6_mostFrom_45 : decode cX6_mostFrom 45 = .ok (.iload_n 2, 1) := by decide +kernel
theorem dX6_mostFrom_46 : decode cX6_mostFrom 46 = .ok (.invokevirtual 69, 3) := by decide +kernel
theorem dX6_mostFrom_49 : decode cX6_mostFrom 49 = .ok (.invokestatic 73, 3) := by decide +kernel
theorem dX6_mostFrom_52 : decode cX6_mostFrom 52 = .ok (.lstore_n 3, 1) := by decide +kernel
theorem dX6_mostFrom_53 : decode cX6_mostFrom 53 = .ok (.iinc 5 1, 3) := by decide +kernel
theorem dX6_mostFrom_56 : decode cX6_mostFrom 56 = .ok (.goto (-39), 3) := by decide +kernel
theorem dX6_mostFrom_59 : decode cX6_mostFrom 59 = .ok (.lload_n 3, 1) := by decide +kernel
theorem dX6_mostFrom_60 : decode cX6_mostFrom 60 = .ok (.lreturn, 1) := by decide +kernel
theorem dX6_firstLaneFor_0 : decode cX6_firstLaneFor 0 = .ok (.iconst 0, 1) := by decide +kernel
theorem dX6_firstLaneFor_1 : decode cX6_firstLaneFor 1 = .ok (.istore_n 3, 1) := by decide +kernel
theorem dX6_firstLaneFor_2 : decode cX6_firstLaneFor 2 = .ok (.iload_n 3, 1) := by decide +kernel
theorem dX6_firstLaneFor_3 : decode cX6_firstLaneFor 3 = .ok (.aload_n 0, 1) := by decide +kernel
theorem dX6_firstLaneFor_4 : decode cX6_firstLaneFor 4 = .ok (.getfield 22, 3) := by decide +kernel
theorem dX6_firstLaneFor_7 : decode cX6_firstLaneFor 7 = .ok (.getfield 34, 3) := by decide +kernel
theorem dX6_firstLaneFor_10 : decode cX6_firstLaneFor 10 = .ok (.if_icmp .ge 43, 3) := by decide +kernel
theorem dX6_firstLaneFor_13 : decode cX6_firstLaneFor 13 = .ok (.aload_n 0, 1) := by decide +kernel
theorem dX6_firstLaneFor_14 : decode cX6_firstLaneFor 14 = .ok (.iload_n 1, 1) := by decide +kernel
theorem dX6_firstLaneFor_15 : decode cX6_firstLaneFor 15 = .ok (.iload_n 3, 1) := by decide +kernel
theorem dX6_firstLaneFor_16 : decode cX6_firstLaneFor 16 = .ok (.iload_n 2, 1) := by decide +kernel
theorem dX6_firstLaneFor_17 : decode cX6_firstLaneFor 17 = .ok (.invokevirtual 65, 3) := by decide +kernel
theorem dX6_firstLaneFor_20 : decode cX6_firstLaneFor 20 = .ok (.ifCond .eq 27, 3) := by decide +kernel
theorem dX6_firstLaneFor_23 : decode cX6_firstLaneFor 23 = .ok (.aload_n 0, 1) := by decide +kernel
theorem dX6_firstLaneFor_24 : decode cX6_firstLaneFor 24 = .ok (.iload_n 1, 1) := by decide +kernel
theorem dX6_firstLaneFor_25 : decode cX6_firstLaneFor 25 = .ok (.iload_n 3, 1) := by decide +kernel
theorem dX6_firstLaneFor_26 : decode cX6_firstLaneFor 26 = .ok (.iload_n 2, 1) := by decide +kernel
theorem dX6_firstLaneFor_27 : decode cX6_firstLaneFor 27 = .ok (.invokevirtual 69, 3) := by decide +kernel
theorem dX6_firstLaneFor_30 : decode cX6_firstLaneFor 30 = .ok (.aload_n 0, 1) := by decide +kernel
theorem dX6_firstLaneFor_31 : decode cX6_firstLaneFor 31 = .ok (.getfield 15, 3) := by decide +kernel
theorem dX6_firstLaneFor_34 : decode cX6_firstLaneFor 34 = .ok (.iload_n 1, 1) := by decide +kernel
theorem dX6_firstLaneFor_35 : decode cX6_firstLaneFor 35 = .ok (.bipush 64, 2) := by decide +kernel
theorem dX6_firstLaneFor_37 : decode cX6_firstLaneFor 37 = .ok (.imul, 1) := by decide +kernel
theorem dX6_firstLaneFor_38 : decode cX6_firstLaneFor 38 = .ok (.iload_n 2, 1) := by decide +kernel
theorem dX6_firstLaneFor_39 : decode cX6_firstLaneFor 39 = .ok (.iadd, 1) := by decide +kernel
theorem dX6_firstLaneFor_40 : decode cX6_firstLaneFor 40 = .ok (.laload, 1) := by decide +kernel
theorem dX6_firstLaneFor_41 : decode cX6_firstLaneFor 41 = .ok (.lcmp, 1) := by decide +kernel
theorem dX6_firstLaneFor_42 : decode cX6_firstLaneFor 42 = .ok (.ifCond .ne 5, 3) := by decide +kernel
theorem dX6_firstLaneFor_45 : decode cX6_firstLaneFor 45 = .ok (.iload_n 3, 1) := by decide +kernel
theorem dX6_firstLaneFor_46 : decode cX6_firstLaneFor 46 = .ok (.ireturn, 1) := by decide +kernel
theorem dX6_firstLaneFor_47 : decode cX6_firstLaneFor 47 = .ok (.iinc 3 1, 3) := by decide +kernel
theorem dX6_firstLaneFor_50 : decode cX6_firstLaneFor 50 = .ok (.goto (-48), 3) := by decide +kernel
theorem dX6_firstLaneFor_53 : decode cX6_firstLaneFor 53 = .ok (.bipush (-2), 2) := by decide +kernel
theorem dX6_firstLaneFor_55 : decode cX6_firstLaneFor 55 = .ok (.ireturn, 1) := by decide +kernel
theorem dX6_laneFor_0 : decode cX6_laneFor 0 = .ok (.aload_n 0, 1) := by decide +kernel
theorem dX6_laneFor_1 : decode cX6_laneFor 1 = .ok (.getfield 22, 3) := by decide +kernel
theorem dX6_laneFor_4 : decode cX6_laneFor 4 = .ok (.iload_n 1, 1) := by decide +kernel
theorem dX6_laneFor_5 : decode cX6_laneFor 5 = .ok (.invokevirtual 79, 3) := by decide +kernel
theorem dX6_laneFor_8 : decode cX6_laneFor 8 = .ok (.ifCond .eq 12, 3) := by decide +kernel
theorem dX6_laneFor_11 : decode cX6_laneFor 11 = .ok (.aload_n 0, 1) := by decide +kernel
theorem dX6_laneFor_12 : decode cX6_laneFor 12 = .ok (.getfield 18, 3) := by decide +kernel
theorem dX6_laneFor_15 : decode cX6_laneFor 15 = .ok (.iload_n 1, 1) := by decide +kernel
theorem dX6_laneFor_16 : decode cX6_laneFor 16 = .ok (.iaload, 1) := by decide +kernel
theorem dX6_laneFor_17 : decode cX6_laneFor 17 = .ok (.goto 5, 3) := by decide +kernel
theorem dX6_laneFor_20 : decode cX6_laneFor 20 = .ok (.bipush (-2), 2) := by decide +kernel
theorem dX6_laneFor_22 : decode cX6_laneFor 22 = .ok (.ireturn, 1) := by decide +kernel
theorem dX6_greatestSum_0 : decode cX6_greatestSum 0 = .ok (.aload_n 0, 1) := by decide +kernel
theorem dX6_greatestSum_1 : decode cX6_greatestSum 1 = .ok (.getfield 15, 3) := by decide +kernel
theorem dX6_greatestSum_4 : decode cX6_greatestSum 4 = .ok (.iconst 0, 1) := by decide +kernel
theorem dX6_greatestSum_5 : decode cX6_greatestSum 5 = .ok (.laload, 1) := by decide +kernel
theorem dX6_greatestSum_6 : decode cX6_greatestSum 6 = .ok (.lreturn, 1) := by decide +kernel
theorem dX6_livingLeftOut_0 : decode cX6_livingLeftOut 0 = .ok (.iconst 0, 1) := by decide +kernel
theorem dX6_livingLeftOut_1 : decode cX6_livingLeftOut 1 = .ok (.istore_n 1, 1) := by decide +kernel
theorem dX6_livingLeftOut_2 : decode cX6_livingLeftOut 2 = .ok (.iconst 0, 1) := by decide +kernel
theorem dX6_livingLeftOut_3 : decode cX6_livingLeftOut 3 = .ok (.istore_n 2, 1) := by decide +kernel
theorem dX6_livingLeftOut_4 : decode cX6_livingLeftOut 4 = .ok (.iload_n 2, 1) := by decide +kernel
theorem dX6_livingLeftOut_5 : decode cX6_livingLeftOut 5 = .ok (.aload_n 0, 1) := by decide +kernel
theorem dX6_livingLeftOut_6 : decode cX6_livingLeftOut 6 = .ok (.getfield 22, 3) := by decide +kernel
theorem dX6_livingLeftOut_9 : decode cX6_livingLeftOut 9 = .ok (.getfield 39, 3) := by decide +kernel
theorem dX6_livingLeftOut_12 : decode cX6_livingLeftOut 12 = .ok (.if_icmp .ge 39, 3) := by decide +kernel
theorem dX6_livingLeftOut_15 : decode cX6_livingLeftOut 15 = .ok (.iload_n 1, 1) := by decide +kernel
theorem dX6_livingLeftOut_16 : decode cX6_livingLeftOut 16 = .ok (.aload_n 0, 1) := by decide +kernel
theorem dX6_livingLeftOut_17 : decode cX6_livingLeftOut 17 = .ok (.getfield 18, 3) := by decide +kernel
theorem dX6_livingLeftOut_20 : decode cX6_livingLeftOut 20 = .ok (.iload_n 2, 1) := by decide +kernel
theorem dX6_livingLeftOut_21 : decode cX6_livingLeftOut 21 = .ok (.iaload, 1) := by decide +kernel
theorem dX6_livingLeftOut_22 : decode cX6_livingLeftOut 22 = .ok (.bipush (-2), 2) := by decide +kernel
theorem dX6_livingLeftOut_24 : decode cX6_livingLeftOut 24 = .ok (.if_icmp .ne 18, 3) := by decide +kernel
theorem dX6_livingLeftOut_27 : decode cX6_livingLeftOut 27 = .ok (.aload_n 0, 1) := by decide +kernel
theorem dX6_livingLeftOut_28 : decode cX6_livingLeftOut 28 = .ok (.getfield 26, 3) := by decide +kernel
theorem dX6_livingLeftOut_31 : decode cX6_livingLeftOut 31 = .ok (.iload_n 2, 1) := by decide +kernel
theorem dX6_livingLeftOut_32 : decode cX6_livingLeftOut 32 = .ok (.invokevirtual 59, 3) := by decide +kernel
theorem dX6_livingLeftOut_35 : decode cX6_livingLeftOut 35 = .ok (.ifCond .ne 7, 3) := by decide +kernel
theorem dX6_livingLeftOut_38 : decode cX6_livingLeftOut 38 = .ok (.iconst 1, 1) := by decide +kernel
theorem dX6_livingLeftOut_39 : decode cX6_livingLeftOut 39 = .ok (.goto 4, 3) := by decide +kernel
theorem dX6_livingLeftOut_42 : decode cX6_livingLeftOut 42 = .ok (.iconst 0, 1) := by decide +kernel
theorem dX6_livingLeftOut_43 : decode cX6_livingLeftOut 43 = .ok (.iadd, 1) := by decide +kernel
theorem dX6_livingLeftOut_44 : decode cX6_livingLeftOut 44 = .ok (.istore_n 1, 1) := by decide +kernel
theorem dX6_livingLeftOut_45 : decode cX6_livingLeftOut 45 = .ok (.iinc 2 1, 3) := by decide +kernel
theorem dX6_livingLeftOut_48 : decode cX6_livingLeftOut 48 = .ok (.goto (-44), 3) := by decide +kernel
theorem dX6_livingLeftOut_51 : decode cX6_livingLeftOut 51 = .ok (.iload_n 1, 1) := by decide +kernel
theorem dX6_livingLeftOut_52 : decode cX6_livingLeftOut 52 = .ok (.ireturn, 1) := by decide +kernel
theorem dX3_init_0 : decode cX3_init 0 = .ok (.aload_n 0, 1) := by decide +kernel
theorem dX3_init_1 : decode cX3_init 1 = .ok (.invokespecial 3, 3) := by decide +kernel
theorem dX3_init_4 : decode cX3_init 4 = .ok (.aload_n 0, 1) := by decide +kernel
theorem dX3_init_5 : decode cX3_init 5 = .ok (.bipush 6, 2) := by decide +kernel
theorem dX3_init_7 : decode cX3_init 7 = .ok (.newarray .int, 2) := by decide +kernel
theorem dX3_init_9 : decode cX3_init 9 = .ok (.putfield 9, 3) := by decide +kernel
theorem dX3_init_12 : decode cX3_init 12 = .ok (.aload_n 0, 1) := by decide +kernel
theorem dX3_init_13 : decode cX3_init 13 = .ok (.bipush 6, 2) := by decide +kernel
theorem dX3_init_15 : decode cX3_init 15 = .ok (.newarray .int, 2) := by decide +kernel
theorem dX3_init_17 : decode cX3_init 17 = .ok (.putfield 15, 3) := by decide +kernel
theorem dX3_init_20 : decode cX3_init 20 = .ok (.aload_n 0, 1) := by decide +kernel
theorem dX3_init_21 : decode cX3_init 21 = .ok (.aload_n 1, 1) := by decide +kernel
theorem dX3_init_22 : decode cX3_init 22 = .ok (.putfield 18, 3) := by decide +kernel
theorem dX3_init_25 : decode cX3_init 25 = .ok (.return_, 1) := by decide +kernel
theorem dX3_lostOn_0 : decode cX3_lostOn 0 = .ok (.iload_n 0, 1) := by decide +kernel
theorem dX3_lostOn_1 : decode cX3_lostOn 1 = .ok (.iload_n 1, 1) := by decide +kernel
theorem dX3_lostOn_2 : decode cX3_lostOn 2 = .ok (.imul, 1) := by decide +kernel
theorem dX3_lostOn_3 : decode cX3_lostOn 3 = .ok (.bipush 99, 2) := by decide +kernel
theorem dX3_lostOn_5 : decode cX3_lostOn 5 = .ok (.iadd, 1) := by decide +kernel
theorem dX3_lostOn_6 : decode cX3_lostOn 6 = .ok (.bipush 100, 2) := by decide +kernel
theorem dX3_lostOn_8 : decode cX3_lostOn 8 = .ok (.idiv, 1) := by decide +kernel
theorem dX3_lostOn_9 : decode cX3_lostOn 9 = .ok (.ireturn, 1) := by decide +kernel
theorem dX3_citiesOnWay_0 : decode cX3_citiesOnWay 0 = .ok (.aload_n 0, 1) := by decide +kernel
theorem dX3_citiesOnWay_1 : decode cX3_citiesOnWay 1 = .ok (.getfield 22, 3) := by decide +kernel
theorem dX3_citiesOnWay_4 : decode cX3_citiesOnWay 4 = .ok (.ireturn, 1) := by decide +kernel
theorem dX3_cityOnWay_0 : decode cX3_cityOnWay 0 = .ok (.iload_n 1, 1) := by decide +kernel
theorem dX3_cityOnWay_1 : decode cX3_cityOnWay 1 = .ok (.ifCond .lt 20, 3) := by decide +kernel
theorem dX3_cityOnWay_4 : decode cX3_cityOnWay 4 = .ok (.iload_n 1, 1) := by decide +kernel
theorem dX3_cityOnWay_5 : decode cX3_cityOnWay 5 = .ok (.aload_n 0, 1) := by decide +kernel
theorem dX3_cityOnWay_6 : decode cX3_cityOnWay 6 = .ok (.getfield 22, 3) := by decide +kernel
theorem dX3_cityOnWay_9 : decode cX3_cityOnWay 9 = .ok (.if_icmp .ge 12, 3) := by decide +kernel
theorem dX3_cityOnWay_12 : decode cX3_cityOnWay 12 = .ok (.aload_n 0, 1) := by decide +kernel
theorem dX3_cityOnWay_13 : decode cX3_cityOnWay 13 = .ok (.getfield 15, 3) := by decide +kernel
theorem dX3_cityOnWay_16 : decode cX3_cityOnWay 16 = .ok (.iload_n 1, 1) := by decide +kernel
theorem dX3_cityOnWay_17 : decode cX3_cityOnWay 17 = .ok (.iaload, 1) := by decide +kernel
theorem dX3_cityOnWay_18 : decode cX3_cityOnWay 18 = .ok (.goto 4, 3) := by decide +kernel
theorem dX3_cityOnWay_21 : decode cX3_cityOnWay 21 = .ok (.iconst (-1), 1) := by decide +kernel
theorem dX3_cityOnWay_22 : decode cX3_cityOnWay 22 = .ok (.ireturn, 1) := by decide +kernel
theorem dX3_mostThatCome_0 : decode cX3_mostThatCome 0 = .ok (.aload_n 0, 1) := by decide +kernel
theorem dX3_mostThatCome_1 : decode cX3_mostThatCome 1 = .ok (.iconst 0, 1) := by decide +kernel
theorem dX3_mostThatCome_2 : decode cX3_mostThatCome 2 = .ok (.putfield 22, 3) := by decide +kernel
theorem dX3_mostThatCome_5 : decode cX3_mostThatCome 5 = .ok (.aload_n 0, 1) := by decide +kernel
theorem dX3_mostThatCome_6 : decode cX3_mostThatCome 6 = .ok (.bipush (-2), 2) := by decide +kernel
theorem dX3_mostThatCome_8 : decode cX3_mostThatCome 8 = .ok (.putfield 26, 3) := by decide +kernel
theorem dX3_mostThatCome_11 : decode cX3_mostThatCome 11 = .ok (.aload_n 0, 1) := by decide +kernel
theorem dX3_mostThatCome_12 : decode cX3_mostThatCome 12 = .ok (.iload_n 1, 1) := by decide +kernel
theorem dX3_mostThatCome_13 : decode cX3_mostThatCome 13 = .ok (.iload_n 2, 1) := by decide +kernel
theorem dX3_mostThatCome_14 : decode cX3_mostThatCome 14 = .ok (.iload_n 3, 1) := by decide +kernel
theorem dX3_mostThatCome_15 : decode cX3_mostThatCome 15 = .ok (.iconst 0, 1) := by decide +kernel
theorem dX3_mostThatCome_16 : decode cX3_mostThatCome 16 = .ok (.iconst 1, 1) := by decide +kernel
theorem dX3_mostThatCome_17 : decode cX3_mostThatCome 17 = .ok (.iload_n 1, 1) := by decide +kernel
theorem dX3_mostThatCome_18 : decode cX3_mostThatCome 18 = .ok (.ishl, 1) := by decide +kernel
theorem dX3_mostThatCome_19 : decode cX3_mostThatCome 19 = .ok (.invokevirtual 29, 3) := by decide +kernel
theorem dX3_mostThatCome_22 : decode cX3_mostThatCome 22 = .ok (.aload_n 0, 1) := by decide +kernel
theorem dX3_mostThatCome_23 : decode cX3_mostThatCome 23 = .ok (.getfield 26, 3) := by decide +kernel
theorem dX3_mostThatCome_26 : decode cX3_mostThatCome 26 = .ok (.ireturn, 1) := by decide +kernel
theorem dX3_walk_0 : decode cX3_walk 0 = .ok (.iload 4, 2) := by decide +kernel
theorem dX3_walk_2 : decode cX3_walk 2 = .ok (.bipush 6, 2) := by decide +kernel
theorem dX3_walk_4 : decode cX3_walk 4 = .ok (.if_icmp .lt 4, 3) := by decide +kernel
theorem dX3_walk_7 : decode cX3_walk 7 = .ok (.return_, 1) := by decide +kernel
theorem dX3_walk_8 : decode cX3_walk 8 = .ok (.aload_n 0, 1) := by decide +kernel
theorem dX3_walk_9 : decode cX3_walk 9 = .ok (.getfield 9, 3) := by decide +kernel
theorem dX3_walk_12 : decode cX3_walk 12 = .ok (.iload 4, 2) := by decide +kernel
theorem dX3_walk_14 : decode cX3_walk 14 = .ok (.iload_n 1, 1) := by decide +kernel
theorem dX3_walk_15 : decode cX3_walk 15 = .ok (.iastore, 1) := by decide +kernel
theorem dX3_walk_16 : decode cX3_walk 16 = .ok (.iload_n 1, 1) := by decide +kernel
theorem dX3_walk_17 : decode cX3_walk 17 = .ok (.iload_n 2, 1) := by decide +kernel
theorem dX3_walk_18 : decode cX3_walk 18 = .ok (.if_icmp .ne 13, 3) := by decide +kernel
theorem dX3_walk_21 : decode cX3_walk 21 = .ok (.aload_n 0, 1) := by decide +kernel
theorem dX3_walk_22 : decode cX3_walk 22 = .ok (.iload_n 3, 1) := by decide +kernel
theorem dX3_walk_23 : decode cX3_walk 23 = .ok (.iload 4, 2) := by decide +kernel
theorem dX3_walk_25 : decode cX3_walk 25 = .ok (.iconst 1, 1) := by decide +kernel
theorem dX3_walk_26 : decode cX3_walk 26 = .ok (.iadd, 1) := by decide +kernel
theorem dX3_walk_27 : decode cX3_walk 27 = .ok (.invokevirtual 33, 3) := by decide +kernel
theorem dX3_walk_30 : decode cX3_walk 30 = .ok (.return_, 1) := by decide +kernel
theorem dX3_walk_31 : decode cX3_walk 31 = .ok (.iconst 0, 1) := by decide +kernel
theorem dX3_walk_32 : decode cX3_walk 32 = .ok (.istore 6, 2) := by decide +kernel
theorem dX3_walk_34 : decode cX3_walk 34 = .ok (.iload 6, 2) := by decide +kernel
theorem dX3_walk_36 : decode cX3_walk 36 = .ok (.aload_n 0, 1) := by decide +kernel
theorem dX3_walk_37 : decode cX3_walk 37 = .ok (.getfield 18, 3) := by decide +kernel
theorem dX3_walk_40 : decode cX3_walk 40 = .ok (.getfield 37, 3) := by decide +kernel
theorem dX3_walk_43 : decode cX3_walk 43 = .ok (.if_icmp .ge 63, 3) := by decide +kernel
theorem dX3_walk_46 : decode cX3_walk 46 = .ok (.aload_n 0, 1) := by decide +kernel
theorem dX3_walk_47 : decode cX3_walk 47 = .ok (.getfield 18, 3) := by decide +kernel
theorem dX3_walk_50 : decode cX3_walk 50 = .ok (.iload_n 1, 1) := by decide +kernel
theorem dX3_walk_51 : decode cX3_walk 51 = .ok (.iload 6, 2) := by decide +kernel
theorem dX3_walk_53 : decode cX3_walk 53 = .ok (.invokevirtual 40, 3) := by decide +kernel
theorem dX3_walk_56 : decode cX3_walk 56 = .ok (.istore 7, 2) := by decide +kernel
theorem dX3_walk_58 : decode cX3_walk 58 = .ok (.iload 7, 2) := by decide +kernel
theorem dX3_walk_60 : decode cX3_walk 60 = .ok (.iconst (-1), 1) := by decide +kernel
theorem dX3_walk_61 : decode cX3_walk 61 = .ok (.if_icmp .eq 39, 3) := by decide +kernel
theorem dX3_walk_64 : decode cX3_walk 64 = .ok (.iload 5, 2) := by decide +kernel
theorem dX3_walk_66 : decode cX3_walk 66 = .ok (.iload 6, 2) := by decide +kernel
theorem dX3_walk_68 : decode cX3_walk 68 = .ok (.ishr, 1) := by decide +kernel
theorem dX3_walk_69 : decode cX3_walk 69 = .ok (.iconst 1, 1) := by decide +kernel
theorem dX3_walk_70 : decode cX3_walk 70 = .ok (.iand, 1) := by decide +kernel
theorem dX3_walk_71 : decode cX3_walk 71 = .ok (.ifCond .ne 29, 3) := by decide +kernel
theorem dX3_walk_74 : decode cX3_walk 74 = .ok (.aload_n 0, 1) := by decide +kernel
theorem dX3_walk_75 : decode cX3_walk 75 = .ok (.iload 6, 2) := by decide +kernel
theorem dX3_walk_77 : decode cX3_walk 77 = .ok (.iload_n 2, 1) := by decide +kernel
theorem dX3_walk_78 : decode cX3_walk 78 = .ok (.iload_n 3, 1) := by decide +kernel
theorem dX3_walk_79 : decode cX3_walk 79 = .ok (.iload_n 3, 1) := by decide +kernel
theorem dX3_walk_80 : decode cX3_walk 80 = .ok (.iload 7, 2) := by decide +kernel
theorem dX3_walk_82 : decode cX3_walk 82 = .ok (.invokestatic 44, 3) := by decide +kernel
theorem dX3_walk_85 : decode cX3_walk 85 = .ok (.isub, 1) := by decide +kernel
theorem dX3_walk_86 : decode cX3_walk 86 = .ok (.iload 4, 2) := by decide +kernel
theorem dX3_walk_88 : decode cX3_walk 88 = .ok (.iconst 1, 1) := by decide +kernel
theorem dX3_walk_89 : decode cX3_walk 89 = .ok (.iadd, 1) := by decide +kernel
theorem dX3_walk_90 : decode cX3_walk 90 = .ok (.iload 5, 2) := by decide +kernel
theorem dX3_walk_92 : decode cX3_walk 92 = .ok (.iconst 1, 1) := by decide +kernel
theorem dX3_walk_93 : decode cX3_walk 93 = .ok (.iload 6, 2) := by decide +kernel
theorem dX3_walk_95 : decode cX3_walk 95 = .ok (.ishl, 1) := by decide +kernel
theorem dX3_walk_96 : decode cX3_walk 96 = .ok (.ior, 1) := by decide +kernel
theorem dX3_walk_97 : decode cX3_walk 97 = .ok (.invokevirtual 29, 3) := by decide +kernel
theorem dX3_walk_100 : decode cX3_walk 100 = .ok (.iinc 6 1, 3) := by decide +kernel
theorem dX3_walk_103 : decode cX3_walk 103 = .ok (.goto (-69), 3) := by decide +kernel
theorem dX3_walk_106 : decode cX3_walk 106 = .ok (.return_, 1) := by decide +kernel
theorem dX3_keepIfBetter_0 : decode cX3_keepIfBetter 0 = .ok (.iload_n 1, 1) := by decide +kernel
theorem dX3_keepIfBetter_1 : decode cX3_keepIfBetter 1 = .ok (.aload_n 0, 1) := by decide +kernel
theorem dX3_keepIfBetter_2 : decode cX3_keepIfBetter 2 = .ok (.getfield 26, 3) := by decide +kernel
theorem dX3_keepIfBetter_5 : decode cX3_keepIfBetter 5 = .ok (.if_icmp .le 32, 3) := by decide +kernel
theorem dX3_keepIfBetter_8 : decode cX3_keepIfBetter 8 = .ok (.aload_n 0, 1) := by decide +kernel
theorem dX3_keepIfBetter_9 : decode cX3_keepIfBetter 9 = .ok (.iload_n 1, 1) := by decide +kernel
theorem dX3_keepIfBetter_10 : decode cX3_keepIfBetter 10 = .ok (.putfield 26, 3) := by decide +kernel
theorem dX3_keepIfBetter_13 : decode cX3_keepIfBetter 13 = .ok (.aload_n 0, 1) := by decide +kernel
theorem dX3_keepIfBetter_14 : decode cX3_keepIfBetter 14 = .ok (.iload_n 2, 1) := by decide +kernel
theorem dX3_keepIfBetter_15 : decode cX3_keepIfBetter 15 = .ok (.putfield 22, 3) := by decide +kernel
theorem dX3_keepIfBetter_18 : decode cX3_keepIfBetter 18 = .ok (.aload_n 0, 1) := by decide +kernel
theorem dX3_keepIfBetter_19 : decode cX3_keepIfBetter 19 = .ok (.getfield 9, 3) := by decide +kernel
theorem dX3_keepIfBetter_22 : decode cX3_keepIfBetter 22 = .ok (.iconst 0, 1) := by decide +kernel
theorem dX3_keepIfBetter_23 : decode cX3_keepIfBetter 23 = .ok (.aload_n 0, 1) := by decide +kernel
theorem dX3_keepIfBetter_24 : decode cX3_keepIfBetter 24 = .ok (.getfield 15, 3) := by decide +kernel
theorem dX3_keepIfBetter_27 : decode cX3_keepIfBetter 27 = .ok (.iconst 0, 1) := by decide +kernel
theorem dX3_keepIfBetter_28 : decode cX3_keepIfBetter 28 = .ok (.iload_n 2, 1) := by decide +kernel
theorem dX3_keepIfBetter_29 : decode cX3_keepIfBetter 29 = .ok (.bipush 6, 2) := by decide +kernel
theorem dX3_keepIfBetter_31 : decode cX3_keepIfBetter 31 = .ok (.invokestatic 47, 3) := by decide +kernel
theorem dX3_keepIfBetter_34 : decode cX3_keepIfBetter 34 = .ok (.invokestatic 52, 3) := by decide +kernel
theorem dX3_keepIfBetter_37 : decode cX3_keepIfBetter 37 = .ok (.return_, 1) := by decide +kernel
theorem dX3_citiesFrom_0 : decode cX3_citiesFrom 0 = .ok (.iconst 1, 1) := by decide +kernel
theorem dX3_citiesFrom_1 : decode cX3_citiesFrom 1 = .ok (.iload_n 1, 1) := by decide +kernel
theorem dX3_citiesFrom_2 : decode cX3_citiesFrom 2 = .ok (.ishl, 1) := by decide +kernel
theorem dX3_citiesFrom_3 : decode cX3_citiesFrom 3 = .ok (.istore_n 2, 1) := by decide +kernel
theorem dX3_citiesFrom_4 : decode cX3_citiesFrom 4 = .ok (.iconst 0, 1) := by decide +kernel
theorem dX3_citiesFrom_5 : decode cX3_citiesFrom 5 = .ok (.istore_n 3, 1) := by decide +kernel
theorem dX3_citiesFrom_6 : decode cX3_citiesFrom 6 = .ok (.iload_n 3, 1) := by decide +kernel
theorem dX3_citiesFrom_7 : decode cX3_citiesFrom 7 = .ok (.aload_n 0, 1) := by decide +kernel
theorem dX3_citiesFrom_8 : decode cX3_citiesFrom 8 = .ok (.getfield 18, 3) := by decide +kernel
theorem dX3_citiesFrom_11 : decode cX3_citiesFrom 11 = .ok (.getfield 37, 3) := by decide +kernel
theorem dX3_citiesFrom_14 : decode cX3_citiesFrom 14 = .ok (.if_icmp .ge 53, 3) := by decide +kernel
theorem dX3_citiesFrom_17 : decode cX3_citiesFrom 17 = .ok (.iconst 0, 1) := by decide +kernel
theorem dX3_citiesFrom_18 : decode cX3_citiesFrom 18 = .ok (.istore 4, 2) := by decide +kernel
theorem dX3_citiesFrom_20 : decode cX3_citiesFrom 20 = .ok (.iload 4, 2) := by decide +kernel
theorem dX3_citiesFrom_22 : decode cX3_citiesFrom 22 = .ok (.aload_n 0, 1) := by decide +kernel
theorem dX3_citiesFrom_23 : decode cX3_citiesFrom 23 = .ok (.getfield 18, 3) := by decide +kernel
theorem dX3_citiesFrom_26 : decode cX3_citiesFrom 26 = .ok (.getfield 37, 3) := by decide +kernel
theorem dX3_citiesFrom_29 : decode cX3_citiesFrom 29 = .ok (.if_icmp .ge 32, 3) := by decide +kernel
theorem dX3_citiesFrom_32 : decode cX3_citiesFrom 32 = .ok (.iload_n 2, 1) := by decide +kernel
theorem dX3_citiesFrom_33 : decode cX3_citiesFrom 33 = .ok (.iload_n 2, 1) := by decide +kernel
theorem dX3_citiesFrom_34 : decode cX3_citiesFrom 34 = .ok (.iload 4, 2) := by decide +kernel
theorem dX3_citiesFrom_36 : decode cX3_citiesFrom 36 = .ok (.ishr, 1) := by decide +kernel
theorem dX3_citiesFrom_37 : decode cX3_citiesFrom 37 = .ok (.iconst 1, 1) := by decide +kernel
theorem dX3_citiesFrom_38 : decode cX3_citiesFrom 38 = .ok (.iand, 1) := by decide +kernel
theorem dX3_citiesFrom_39 : decode cX3_citiesFrom 39 = .ok (.iconst 1, 1) := by decide +kernel
theorem dX3_citiesFrom_40 : decode cX3_citiesFrom 40 = .ok (.if_icmp .ne 12, 3) := by decide +kernel
theorem dX3_citiesFrom_43 : decode cX3_citiesFrom 43 = .ok (.aload_n 0, 1) := by decide +kernel
theorem dX3_citiesFrom_44 : decode cX3_citiesFrom 44 = .ok (.iload 4, 2) := by decide +kernel
theorem dX3_citiesFrom_46 : decode cX3_citiesFrom 46 = .ok (.invokevirtual 58, 3) := by decide +kernel
theorem dX3_citiesFrom_49 : decode cX3_citiesFrom 49 = .ok (.goto 4, 3) := by decide +kernel
theorem dX3_citiesFrom_52 : decode cX3_citiesFrom 52 = .ok (.iconst 0, 1) := by decide +kernel
theorem dX3_citiesFrom_53 : decode cX3_citiesFrom 53 = .ok (.ior, 1) := by decide +kernel
theorem dX3_citiesFrom_54 : decode cX3_citiesFrom 54 = .ok (.istore_n 2, 1) := by decide +kernel
theorem dX3_citiesFrom_55 : decode cX3_citiesFrom 55 = .ok (.iinc 4 1, 3) := by decide +kernel
theorem dX3_citiesFrom_58 : decode cX3_citiesFrom 58 = .ok (.goto (-38), 3) := by decide +kernel
theorem dX3_citiesFrom_61 : decode cX3_citiesFrom 61 = .ok (.iinc 3 1, 3) := by decide +kernel
theorem dX3_citiesFrom_64 : decode cX3_citiesFrom 64 = .ok (.goto (-58), 3) := by decide +kernel
theorem dX3_citiesFrom_67 : decode cX3_citiesFrom 67 = .ok (.iload_n 2, 1) := by decide +kernel
theorem dX3_citiesFrom_68 : decode cX3_citiesFrom 68 = .ok (.ireturn, 1) := by decide +kernel
theorem dX3_neighboursOf_0 : decode cX3_neighboursOf 0 = .ok (.iconst 0, 1) := by decide +kernel
theorem dX3_neighboursOf_1 : decode cX3_neighboursOf 1 = .ok (.istore_n 2, 1) := by decide +kernel
theorem dX3_neighboursOf_2 : decode cX3_neighboursOf 2 = .ok (.iconst 0, 1) := by decide +kernel
theorem dX3_neighboursOf_3 : decode cX3_neighboursOf 3 = .ok (.istore_n 3, 1) := by decide +kernel
theorem dX3_neighboursOf_4 : decode cX3_neighboursOf 4 = .ok (.iload_n 3, 1) := by decide +kernel
theorem dX3_neighboursOf_5 : decode cX3_neighboursOf 5 = .ok (.aload_n 0, 1) := by decide +kernel
theorem dX3_neighboursOf_6 : decode cX3_neighboursOf 6 = .ok (.getfield 18, 3) := by decide +kernel
theorem dX3_neighboursOf_9 : decode cX3_neighboursOf 9 = .ok (.getfield 37, 3) := by decide +kernel
theorem dX3_neighboursOf_12 : decode cX3_neighboursOf 12 = .ok (.if_icmp .ge 32, 3) := by decide +kernel
theorem dX3_neighboursOf_15 : decode cX3_neighboursOf 15 = .ok (.iload_n 2, 1) := by decide +kernel
theorem dX3_neighboursOf_16 : decode cX3_neighboursOf 16 = .ok (.aload_n 0, 1) := by decide +kernel
theorem dX3_neighboursOf_17 : decode cX3_neighboursOf 17 = .ok (.getfield 18, 3) := by decide +kernel
theorem dX3_neighboursOf_20 : decode cX3_neighboursOf 20 = .ok (.iload_n 1, 1) := by decide +kernel
theorem dX3_neighboursOf_21 : decode cX3_neighboursOf 21 = .ok (.iload_n 3, 1) := by decide +kernel
theorem dX3_neighboursOf_22 : decode cX3_neighboursOf 22 = .ok (.invokevirtual 40, 3) := by decide +kernel
theorem dX3_neighboursOf_25 : decode cX3_neighboursOf 25 = .ok (.iconst (-1), 1) := by decide +kernel
theorem dX3_neighboursOf_26 : decode cX3_neighboursOf 26 = .ok (.if_icmp .eq 9, 3) := by decide +kernel
theorem dX3_neighboursOf_29 : decode cX3_neighboursOf 29 = .ok (.iconst 1, 1) := by decide +kernel
theorem dX3_neighboursOf_30 : decode cX3_neighboursOf 30 = .ok (.iload_n 3, 1) := by decide +kernel
theorem dX3_neighboursOf_31 : decode cX3_neighboursOf 31 = .ok (.ishl, 1) := by decide +kernel
theorem dX3_neighboursOf_32 : decode cX3_neighboursOf 32 = .ok (.goto 4, 3) := by decide +kernel
theorem dX3_neighboursOf_35 : decode cX3_neighboursOf 35 = .ok (.iconst 0, 1) := by decide +kernel
theorem dX3_neighboursOf_36 : decode cX3_neighboursOf 36 = .ok (.ior, 1) := by decide +kernel
theorem dX3_neighboursOf_37 : decode cX3_neighboursOf 37 = .ok (.istore_n 2, 1) := by decide +kernel
theorem dX3_neighboursOf_38 : decode cX3_neighboursOf 38 = .ok (.iinc 3 1, 3) := by decide +kernel
theorem dX3_neighboursOf_41 : decode cX3_neighboursOf 41 = .ok (.goto (-37), 3) := by decide +kernel
theorem dX3_neighboursOf_44 : decode cX3_neighboursOf 44 = .ok (.iload_n 2, 1) := by decide +kernel
theorem dX3_neighboursOf_45 : decode cX3_neighboursOf 45 = .ok (.ireturn, 1) := by decide +kernel
theorem dX3_dearestPass_0 : decode cX3_dearestPass 0 = .ok (.aload_n 0, 1) := by decide +kernel
theorem dX3_dearestPass_1 : decode cX3_dearestPass 1 = .ok (.iload_n 1, 1) := by decide +kernel
theorem dX3_dearestPass_2 : decode cX3_dearestPass 2 = .ok (.iload_n 2, 1) := by decide +kernel
theorem dX3_dearestPass_3 : decode cX3_dearestPass 3 = .ok (.iload_n 3, 1) := by decide +kernel
theorem dX3_dearestPass_4 : decode cX3_dearestPass 4 = .ok (.invokevirtual 62, 3) := by decide +kernel
theorem dX3_dearestPass_7 : decode cX3_dearestPass 7 = .ok (.pop, 1) := by decide +kernel
theorem dX3_dearestPass_8 : decode cX3_dearestPass 8 = .ok (.bipush (-2), 2) := by decide +kernel
theorem dX3_dearestPass_10 : decode cX3_dearestPass 10 = .ok (.istore 4, 2) := by decide +kernel
theorem dX3_dearestPass_12 : decode cX3_dearestPass 12 = .ok (.iconst 0, 1) := by decide +kernel
theorem dX3_dearestPass_13 : decode cX3_dearestPass 13 = .ok (.istore 5, 2) := by decide +kernel
theorem dX3_dearestPass_15 : decode cX3_dearestPass 15 = .ok (.iload_n 3, 1) := by decide +kernel
theorem dX3_dearestPass_16 : decode cX3_dearestPass 16 = .ok (.istore 6, 2) := by decide +kernel
theorem dX3_dearestPass_18 : decode cX3_dearestPass 18 = .ok (.iconst 0, 1) := by decide +kernel
theorem dX3_dearestPass_19 : decode cX3_dearestPass 19 = .ok (.istore 7, 2) := by decide +kernel
theorem dX3_dearestPass_21 : decode cX3_dearestPass 21 = .ok (.iload 7, 2) := by decide +kernel
theorem dX3_dearestPass_23 : decode cX3_dearestPass 23 = .ok (.iconst 1, 1) := by decide +kernel
theorem dX3_dearestPass_24 : decode cX3_dearestPass 24 = .ok (.iadd, 1) := by decide +kernel
theorem dX3_dearestPass_25 : decode cX3_dearestPass 25 = .ok (.aload_n 0, 1) := by decide +kernel
theorem dX3_dearestPass_26 : decode cX3_dearestPass 26 = .ok (.getfield 22, 3) := by decide +kernel
theorem dX3_dearestPass_29 : decode cX3_dearestPass 29 = .ok (.if_icmp .ge 79, 3) := by decide +kernel
theorem dX3_dearestPass_32 : decode cX3_dearestPass 32 = .ok (.iload 6, 2) := by decide +kernel
theorem dX3_dearestPass_34 : decode cX3_dearestPass 34 = .ok (.aload_n 0, 1) := by decide +kernel
theorem dX3_dearestPass_35 : decode cX3_dearestPass 35 = .ok (.getfield 18, 3) := by decide +kernel
theorem dX3_dearestPass_38 : decode cX3_dearestPass 38 = .ok (.aload_n 0, 1) := by decide +kernel
theorem dX3_dearestPass_39 : decode cX3_dearestPass 39 = .ok (.getfield 15, 3) := by decide +kernel
theorem dX3_dearestPass_42 : decode cX3_dearestPass 42 = .ok (.iload 7, 2) := by decide +kernel
theorem dX3_dearestPass_44 : decode cX3_dearestPass 44 = .ok (.iaload, 1) := by decide +kernel
theorem dX3_dearestPass_45 : decode cX3_dearestPass 45 = .ok (.aload_n 0, 1) := by decide +kernel
theorem dX3_dearestPass_46 : decode cX3_dearestPass 46 = .ok (.getfield 15, 3) := by decide +kernel
theorem dX3_dearestPass_49 : decode cX3_dearestPass 49 = .ok (.iload 7, 2) := by decide +kernel
theorem dX3_dearestPass_51 : decode cX3_dearestPass 51 = .ok (.iconst 1, 1) := by decide +kernel
theorem dX3_dearestPass_52 : decode cX3_dearestPass 52 = .ok (.iadd, 1) := by decide +kernel
theorem dX3_dearestPass_53 : decode cX3_dearestPass 53 = .ok (.iaload, 1) := by decide +kernel
theorem dX3_dearestPass_54 : decode cX3_dearestPass 54 = .ok (.invokevirtual 40, 3) := by decide +kernel
theorem dX3_dearestPass_57 : decode cX3_dearestPass 57 = .ok (.invokestatic 44, 3) := by decide +kernel
theorem dX3_dearestPass_60 : decode cX3_dearestPass 60 = .ok (.istore 8, 2) := by decide +kernel
theorem dX3_dearestPass_62 : decode cX3_dearestPass 62 = .ok (.iload 8, 2) := by decide +kernel
theorem dX3_dearestPass_64 : decode cX3_dearestPass 64 = .ok (.iload 5, 2) := by decide +kernel
theorem dX3_dearestPass_66 : decode cX3_dearestPass 66 = .ok (.if_icmp .le 29, 3) := by decide +kernel
theorem dX3_dearestPass_69 : decode cX3_dearestPass 69 = .ok (.bipush 10, 2) := by decide +kernel
theorem dX3_dearestPass_71 : decode cX3_dearestPass 71 = .ok (.aload_n 0, 1) := by decide +kernel
theorem dX3_dearestPass_72 : decode cX3_dearestPass 72 = .ok (.getfield 15, 3) := by decide +kernel
theorem dX3_dearestPass_75 : decode cX3_dearestPass 75 = .ok (.iload 7, 2) := by decide +kernel
theorem dX3_dearestPass_77 : decode cX3_dearestPass 77 = .ok (.iaload, 1) := by decide +kernel
theorem dX3_dearestPass_78 : decode cX3_dearestPass 78 = .ok (.imul, 1) := by decide +kernel
theorem dX3_dearestPass_79 : decode cX3_dearestPass 79 = .ok (.aload_n 0, 1) := by decide +kernel
theorem dX3_dearestPass_80 : decode cX3_dearestPass 80 = .ok (.getfield 15, 3) := by decide +kernel
theorem dX3_dearestPass_83 : decode cX3_dearestPass 83 = .ok (.iload 7, 2) := by decide +kernel
theorem dX3_dearestPass_85 : decode cX3_dearestPass 85 = .ok (.iconst 1, 1) := by decide +kernel
theorem dX3_dearestPass_86 : decode cX3_dearestPass 86 = .ok (.iadd, 1) := by decide +kernel
theorem dX3_dearestPass_87 : decode cX3_dearestPass 87 = .ok (.iaload, 1) := by decide +kernel
theorem dX3_dearestPass_88 : decode cX3_dearestPass 88 = .ok (.iadd, 1) := by decide +kernel
theorem dX3_dearestPass_89 : decode cX3_dearestPass 89 = .ok (.istore 4, 2) := by decide +kernel
theorem dX3_dearestPass_91 : decode cX3_dearestPass 91 = .ok (.iload 8, 2) := by decide +kernel
theorem dX3_dearestPass_93 : decode cX3_dearestPass 93 = .ok (.istore 5, 2) := by decide +kernel
theorem dX3_dearestPass_95 : decode cX3_dearestPass 95 = .ok (.iload 6, 2) := by decide +kernel
theorem dX3_dearestPass_97 : decode cX3_dearestPass 97 = .ok (.iload 8, 2) := by decide +kernel
theorem dX3_dearestPass_99 : decode cX3_dearestPass 99 = .ok (.isub, 1) := by decide +kernel
theorem dX3_dearestPass_100 : decode cX3_dearestPass 100 = .ok (.istore 6, 2) := by decide +kernel
theorem dX3_dearestPass_102 : decode cX3_dearestPass 102 = .ok (.iinc 7 1, 3) := by decide +kernel
theorem dX3_dearestPass_105 : decode cX3_dearestPass 105 = .ok (.goto (-84), 3) := by decide +kernel
theorem dX3_dearestPass_108 : decode cX3_dearestPass 108 = .ok (.iload 4, 2) := by decide +kernel
theorem dX3_dearestPass_110 : decode cX3_dearestPass 110 = .ok (.ireturn, 1) := by decide +kernel
theorem dX3_leastThatSetOut_0 : decode cX3_leastThatSetOut 0 = .ok (.aload_n 0, 1) := by decide +kernel
theorem dX3_leastThatSetOut_1 : decode cX3_leastThatSetOut 1 = .ok (.iload_n 1, 1) := by decide +kernel
theorem dX3_leastThatSetOut_2 : decode cX3_leastThatSetOut 2 = .ok (.iload_n 2, 1) := by decide +kernel
theorem dX3_leastThatSetOut_3 : decode cX3_leastThatSetOut 3 = .ok (.sipush 999, 3) := by decide +kernel
theorem dX3_leastThatSetOut_6 : decode cX3_leastThatSetOut 6 = .ok (.invokevirtual 62, 3) := by decide +kernel
theorem dX3_leastThatSetOut_9 : decode cX3_leastThatSetOut 9 = .ok (.iload_n 3, 1) := by decide +kernel
theorem dX3_leastThatSetOut_10 : decode cX3_leastThatSetOut 10 = .ok (.if_icmp .ge 6, 3) := by decide +kernel
theorem dX3_leastThatSetOut_13 : decode cX3_leastThatSetOut 13 = .ok (.bipush (-2), 2) := by decide +kernel
theorem dX3_leastThatSetOut_15 : decode cX3_leastThatSetOut 15 = .ok (.ireturn, 1) := by decide +kernel
theorem dX3_leastThatSetOut_16 : decode cX3_leastThatSetOut 16 = .ok (.iconst 0, 1) := by decide +kernel
theorem dX3_leastThatSetOut_17 : decode cX3_leastThatSetOut 17 = .ok (.istore 4, 2) := by decide +kernel
theorem dX3_leastThatSetOut_19 : decode cX3_leastThatSetOut 19 = .ok (.sipush 999, 3) := by decide +kernel
theorem dX3_leastThatSetOut_22 : decode cX3_leastThatSetOut 22 = .ok (.istore 5, 2) := by decide +kernel
theorem dX3_leastThatSetOut_24 : decode cX3_leastThatSetOut 24 = .ok (.iconst 0, 1) := by decide +kernel
theorem dX3_leastThatSetOut_25 : decode cX3_leastThatSetOut 25 = .ok (.istore 6, 2) := by decide +kernel
theorem dX3_leastThatSetOut_27 : decode cX3_leastThatSetOut 27 = .ok (.iload 6, 2) := by decide +kernel
theorem dX3_leastThatSetOut_29 : decode cX3_leastThatSetOut 29 = .ok (.sipush 999, 3) := by decide +kernel
theorem dX3_leastThatSetOut_32 : decode cX3_leastThatSetOut 32 = .ok (.if_icmp .ge 50, 3) := by decide +kernel
theorem dX3_leastThatSetOut_35 : decode cX3_leastThatSetOut 35 = .ok (.iload 4, 2) := by decide +kernel
theorem dX3_leastThatSetOut_37 : decode cX3_leastThatSetOut 37 = .ok (.iload 5, 2) := by decide +kernel
theorem dX3_leastThatSetOut_39 : decode cX3_leastThatSetOut 39 = .ok (.if_icmp .ge 43, 3) := by decide +kernel
theorem dX3_leastThatSetOut_42 : decode cX3_leastThatSetOut 42 = .ok (.iload 4, 2) := by decide +kernel
theorem dX3_leastThatSetOut_44 : decode cX3_leastThatSetOut 44 = .ok (.iload 5, 2) := by decide +kernel
theorem dX3_leastThatSetOut_46 : decode cX3_leastThatSetOut 46 = .ok (.iadd, 1) := by decide +kernel
theorem dX3_leastThatSetOut_47 : decode cX3_leastThatSetOut 47 = .ok (.iconst 2, 1) := by decide +kernel
theorem dX3_leastThatSetOut_48 : decode cX3_leastThatSetOut 48 = .ok (.idiv, 1) := by decide +kernel
theorem dX3_leastThatSetOut_49 : decode cX3_leastThatSetOut 49 = .ok (.istore 7, 2) := by decide +kernel
theorem dX3_leastThatSetOut_51 : decode cX3_leastThatSetOut 51 = .ok (.aload_n 0, 1) := by decide +kernel
theorem dX3_leastThatSetOut_52 : decode cX3_leastThatSetOut 52 = .ok (.iload_n 1, 1) := by decide +kernel
theorem dX3_leastThatSetOut_53 : decode cX3_leastThatSetOut 53 = .ok (.iload_n 2, 1) := by decide +kernel
theorem dX3_leastThatSetOut_54 : decode cX3_leastThatSetOut 54 = .ok (.iload 7, 2) := by decide +kernel
theorem dX3_leastThatSetOut_56 : decode cX3_leastThatSetOut 56 = .ok (.invokevirtual 62, 3) := by decide +kernel
theorem dX3_leastThatSetOut_59 : decode cX3_leastThatSetOut 59 = .ok (.iload_n 3, 1) := by decide +kernel
theorem dX3_leastThatSetOut_60 : decode cX3_leastThatSetOut 60 = .ok (.if_icmp .lt 10, 3) := by decide +kernel
theorem dX3_leastThatSetOut_63 : decode cX3_leastThatSetOut 63 = .ok (.iload 7, 2) := by decide +kernel
theorem dX3_leastThatSetOut_65 : decode cX3_leastThatSetOut 65 = .ok (.istore 5, 2) := by decide +kernel
theorem dX3_leastThatSetOut_67 : decode cX3_leastThatSetOut 67 = .ok (.goto 9, 3) := by decide +kernel
theorem dX3_leastThatSetOut_70 : decode cX3_leastThatSetOut 70 = .ok (.iload 7, 2) := by decide +kernel
theorem dX3_leastThatSetOut_72 : decode cX3_leastThatSetOut 72 = .ok (.iconst 1, 1) := by decide +kernel
theorem dX3_leastThatSetOut_73 : decode cX3_leastThatSetOut 73 = .ok (.iadd, 1) := by decide +kernel
theorem dX3_leastThatSetOut_74 : decode cX3_leastThatSetOut 74 = .ok (.istore 4, 2) := by decide +kernel
theorem dX3_leastThatSetOut_76 : decode cX3_leastThatSetOut 76 = .ok (.iinc 6 1, 3) := by decide +kernel
theorem dX3_leastThatSetOut_79 : decode cX3_leastThatSetOut 79 = .ok (.goto (-52), 3) := by decide +kernel
theorem dX3_leastThatSetOut_82 : decode cX3_leastThatSetOut 82 = .ok (.iload 5, 2) := by decide +kernel
theorem dX3_leastThatSetOut_84 : decode cX3_leastThatSetOut 84 = .ok (.ireturn, 1) := by decide +kernel
theorem dX10_init_0 : decode cX10_init 0 = .ok (.aload_n 0, 1) := by decide +kernel
theorem dX10_init_1 : decode cX10_init 1 = .ok (.invokespecial 3, 3) := by decide +kernel
theorem dX10_init_4 : decode cX10_init 4 = .ok (.aload_n 0, 1) := by decide +kernel
theorem dX10_init_5 : decode cX10_init 5 = .ok (.iconst 5, 1) := by decide +kernel
theorem dX10_init_6 : decode cX10_init 6 = .ok (.newarray .int, 2) := by decide +kernel
theorem dX10_init_8 : decode cX10_init 8 = .ok (.putfield 9, 3) := by decide +kernel
theorem dX10_init_11 : decode cX10_init 11 = .ok (.aload_n 0, 1) := by decide +kernel
theorem dX10_init_12 : decode cX10_init 12 = .ok (.iconst 5, 1) := by decide +kernel
theorem dX10_init_13 : decode cX10_init 13 = .ok (.newarray .int, 2) := by decide +kernel
theorem dX10_init_15 : decode cX10_init 15 = .ok (.putfield 15, 3) := by decide +kernel
theorem dX10_init_18 : decode cX10_init 18 = .ok (.aload_n 0, 1) := by decide +kernel
theorem dX10_init_19 : decode cX10_init 19 = .ok (.aload_n 1, 1) := by decide +kernel
theorem dX10_init_20 : decode cX10_init 20 = .ok (.putfield 18, 3) := by decide +kernel
theorem dX10_init_23 : decode cX10_init 23 = .ok (.aload_n 0, 1) := by decide +kernel
theorem dX10_init_24 : decode cX10_init 24 = .ok (.aload_n 2, 1) := by decide +kernel
theorem dX10_init_25 : decode cX10_init 25 = .ok (.putfield 22, 3) := by decide +kernel
theorem dX10_init_28 : decode cX10_init 28 = .ok (.aload_n 0, 1) := by decide +kernel
theorem dX10_init_29 : decode cX10_init 29 = .ok (.aload_n 3, 1) := by decide +kernel
theorem dX10_init_30 : decode cX10_init 30 = .ok (.putfield 26, 3) := by decide +kernel
theorem dX10_init_33 : decode cX10_init 33 = .ok (.return_, 1) := by decide +kernel
theorem dX10_turnBy_0 : decode cX10_turnBy 0 = .ok (.aload_n 0, 1) := by decide +kernel
theorem dX10_turnBy_1 : decode cX10_turnBy 1 = .ok (.getfield 22, 3) := by decide +kernel
theorem dX10_turnBy_4 : decode cX10_turnBy 4 = .ok (.iload_n 1, 1) := by decide +kernel
theorem dX10_turnBy_5 : decode cX10_turnBy 5 = .ok (.invokevirtual 30, 3) := by decide +kernel
theorem dX10_turnBy_8 : decode cX10_turnBy 8 = .ok (.ifCond .eq 5, 3) := by decide +kernel
theorem dX10_turnBy_11 : decode cX10_turnBy 11 = .ok (.iconst 0, 1) := by decide +kernel
theorem dX10_turnBy_12 : decode cX10_turnBy 12 = .ok (.ireturn, 1) := by decide +kernel
theorem dX10_turnBy_13 : decode cX10_turnBy 13 = .ok (.iconst 0, 1) := by decide +kernel
theorem dX10_turnBy_14 : decode cX10_turnBy 14 = .ok (.istore_n 2, 1) := by decide +kernel
theorem dX10_turnBy_15 : decode cX10_turnBy 15 = .ok (.iconst 0, 1) := by decide +kernel
theorem dX10_turnBy_16 : decode cX10_turnBy 16 = .ok (.istore_n 3, 1) := by decide +kernel
theorem dX10_turnBy_17 : decode cX10_turnBy 17 = .ok (.iload_n 3, 1) := by decide +kernel
theorem dX10_turnBy_18 : decode cX10_turnBy 18 = .ok (.aload_n 0, 1) := by decide +kernel
theorem dX10_turnBy_19 : decode cX10_turnBy 19 = .ok (.getfield 18, 3) := by decide +kernel
theorem dX10_turnBy_22 : decode cX10_turnBy 22 = .ok (.getfield 36, 3) := by decide +kernel
theorem dX10_turnBy_25 : decode cX10_turnBy 25 = .ok (.if_icmp .ge 69, 3) := by decide +kernel
theorem dX10_turnBy_28 : decode cX10_turnBy 28 = .ok (.aload_n 0, 1) := by decide +kernel
theorem dX10_turnBy_29 : decode cX10_turnBy 29 = .ok (.getfield 22, 3) := by decide +kernel
theorem dX10_turnBy_32 : decode cX10_turnBy 32 = .ok (.getfield 42, 3) := by decide +kernel
theorem dX10_turnBy_35 : decode cX10_turnBy 35 = .ok (.iload_n 3, 1) := by decide +kernel
theorem dX10_turnBy_36 : decode cX10_turnBy 36 = .ok (.iaload, 1) := by decide +kernel
theorem dX10_turnBy_37 : decode cX10_turnBy 37 = .ok (.aload_n 0, 1) := by decide +kernel
theorem dX10_turnBy_38 : decode cX10_turnBy 38 = .ok (.getfield 22, 3) := by decide +kernel
theorem dX10_turnBy_41 : decode cX10_turnBy 41 = .ok (.getfield 42, 3) := by decide +kernel
theorem dX10_turnBy_44 : decode cX10_turnBy 44 = .ok (.iload_n 1, 1) := by decide +kernel
theorem dX10_turnBy_45 : decode cX10_turnBy 45 = .ok (.iaload, 1) := by decide +kernel
theorem dX10_turnBy_46 : decode cX10_turnBy 46 = .ok (.isub, 1) := by decide +kernel
theorem dX10_turnBy_47 : decode cX10_turnBy 47 = .ok (.invokestatic 45, 3) := by decide +kernel
theorem dX10_turnBy_50 : decode cX10_turnBy 50 = .ok (.istore 4, 2) := by decide +kernel
theorem dX10_turnBy_52 : decode cX10_turnBy 52 = .ok (.iload 4, 2) := by decide +kernel
theorem dX10_turnBy_54 : decode cX10_turnBy 54 = .ok (.iconst 1, 1) := by decide +kernel
theorem dX10_turnBy_55 : decode cX10_turnBy 55 = .ok (.if_icmp .gt 33, 3) := by decide +kernel
theorem dX10_turnBy_58 : decode cX10_turnBy 58 = .ok (.aload_n 0, 1) := by decide +kernel
theorem dX10_turnBy_59 : decode cX10_turnBy 59 = .ok (.getfield 22, 3) := by decide +kernel
theorem dX10_turnBy_62 : decode cX10_turnBy 62 = .ok (.iload_n 3, 1) := by decide +kernel
theorem dX10_turnBy_63 : decode cX10_turnBy 63 = .ok (.invokevirtual 30, 3) := by decide +kernel
theorem dX10_turnBy_66 : decode cX10_turnBy 66 = .ok (.ifCond .ne 22, 3) := by decide +kernel
theorem dX10_turnBy_69 : decode cX10_turnBy 69 = .ok (.aload_n 0, 1) := by decide +kernel
theorem dX10_turnBy_70 : decode cX10_turnBy 70 = .ok (.getfield 26, 3) := by decide +kernel
theorem dX10_turnBy_73 : decode cX10_turnBy 73 = .ok (.iload_n 3, 1) := by decide +kernel
theorem dX10_turnBy_74 : decode cX10_turnBy 74 = .ok (.invokevirtual 51, 3) := by decide +kernel
theorem dX10_turnBy_77 : decode cX10_turnBy 77 = .ok (.bipush 50, 2) := by decide +kernel
theorem dX10_turnBy_79 : decode cX10_turnBy 79 = .ok (.if_icmp .ge 9, 3) := by decide +kernel
theorem dX10_turnBy_82 : decode cX10_turnBy 82 = .ok (.iload_n 2, 1) := by decide +kernel
theorem dX10_turnBy_83 : decode cX10_turnBy 83 = .ok (.iconst 1, 1) := by decide +kernel
theorem dX10_turnBy_84 : decode cX10_turnBy 84 = .ok (.iload_n 3, 1) := by decide +kernel
theorem dX10_turnBy_85 : decode cX10_turnBy 85 = .ok (.ishl, 1) := by decide +kernel
theorem dX10_turnBy_86 : decode cX10_turnBy 86 = .ok (.ior, 1) := by decide +kernel
theorem dX10_turnBy_87 : decode cX10_turnBy 87 = .ok (.istore_n 2, 1) := by decide +kernel
theorem dX10_turnBy_88 : decode cX10_turnBy 88 = .ok (.iinc 3 1, 3) := by decide +kernel
theorem dX10_turnBy_91 : decode cX10_turnBy 91 = .ok (.goto (-74), 3) := by decide +kernel
theorem dX10_turnBy_94 : decode cX10_turnBy 94 = .ok (.iload_n 2, 1) := by decide +kernel
theorem dX10_turnBy_95 : decode cX10_turnBy 95 = .ok (.ireturn, 1) := by decide +kernel
theorem dX10_turnBySet_0 : decode cX10_turnBySet 0 = .ok (.iconst 0, 1) := by decide +kernel
theorem dX10_turnBySet_1 : decode cX10_turnBySet 1 = .ok (.istore_n 2, 1) := by decide +kernel
theorem dX10_turnBySet_2 : decode cX10_turnBySet 2 = .ok (.iconst 0, 1) := by decide +kernel
theorem dX10_turnBySet_3 : decode cX10_turnBySet 3 = .ok (.istore_n 3, 1) := by decide +kernel
theorem dX10_turnBySet_4 : decode cX10_turnBySet 4 = .ok (.iload_n 3, 1) := by decide +kernel
theorem dX10_turnBySet_5 : decode cX10_turnBySet 5 = .ok (.aload_n 0, 1) := by decide +kernel
theorem dX10_turnBySet_6 : decode cX10_turnBySet 6 = .ok (.getfield 18, 3) := by decide +kernel
theorem dX10_turnBySet_9 : decode cX10_turnBySet 9 = .ok (.getfield 36, 3) := by decide +kernel
theorem dX10_turnBySet_12 : decode cX10_turnBySet 12 = .ok (.if_icmp .ge 31, 3) := by decide +kernel
theorem dX10_turnBySet_15 : decode cX10_turnBySet 15 = .ok (.iload_n 2, 1) := by decide +kernel
theorem dX10_turnBySet_16 : decode cX10_turnBySet 16 = .ok (.iload_n 1, 1) := by decide +kernel
theorem dX10_turnBySet_17 : decode cX10_turnBySet 17 = .ok (.iload_n 3, 1) := by decide +kernel
theorem dX10_turnBySet_18 : decode cX10_turnBySet 18 = .ok (.ishr, 1) := by decide +kernel
theorem dX10_turnBySet_19 : decode cX10_turnBySet 19 = .ok (.iconst 1, 1) := by decide +kernel
theorem dX10_turnBySet_20 : decode cX10_turnBySet 20 = .ok (.iand, 1) := by decide +kernel
theorem dX10_turnBySet_21 : decode cX10_turnBySet 21 = .ok (.iconst 1, 1) := by decide +kernel
theorem dX10_turnBySet_22 : decode cX10_turnBySet 22 = .ok (.if_icmp .ne 12, 3) := by decide +kernel
theorem dX10_turnBySet_25 : decode cX10_turnBySet 25 = .ok (.aload_n 0, 1) := by decide +kernel
theorem dX10_turnBySet_26 : decode cX10_turnBySet 26 = .ok (.getfield 9, 3) := by decide +kernel
theorem dX10_turnBySet_29 : decode cX10_turnBySet 29 = .ok (.iload_n 3, 1) := by decide +kernel
theorem dX10_turnBySet_30 : decode cX10_turnBySet 30 = .ok (.iaload, 1) := by decide +kernel
theorem dX10_turnBySet_31 : decode cX10_turnBySet 31 = .ok (.goto 4, 3) := by decide +kernel
theorem dX10_turnBySet_34 : decode cX10_turnBySet 34 = .ok (.iconst 0, 1) := by decide +kernel
theorem dX10_turnBySet_35 : decode cX10_turnBySet 35 = .ok (.ior, 1) := by decide +kernel
theorem dX10_turnBySet_36 : decode cX10_turnBySet 36 = .ok (.istore_n 2, 1) := by decide +kernel
theorem dX10_turnBySet_37 : decode cX10_turnBySet 37 = .ok (.iinc 3 1, 3) := by decide +kernel
theorem dX10_turnBySet_40 : decode cX10_turnBySet 40 = .ok (.goto (-36), 3) := by decide +kernel
theorem dX10_turnBySet_43 : decode cX10_turnBySet 43 = .ok (.iload_n 2, 1) := by decide +kernel
theorem dX10_turnBySet_44 : decode cX10_turnBySet 44 = .ok (.ireturn, 1) := by decide +kernel
theorem dX10_findSets_0 : decode cX10_findSets 0 = .ok (.aload_n 0, 1) := by decide +kernel
theorem dX10_findSets_1 : decode cX10_findSets 1 = .ok (.iconst 0, 1) := by decide +kernel
theorem dX10_findSets_2 : decode cX10_findSets 2 = .ok (.putfield 56, 3) := by decide +kernel
theorem dX10_findSets_5 : decode cX10_findSets 5 = .ok (.aload_n 0, 1) := by decide +kernel
theorem dX10_findSets_6 : decode cX10_findSets 6 = .ok (.iconst 0, 1) := by decide +kernel
theorem dX10_findSets_7 : decode cX10_findSets 7 = .ok (.putfield 59, 3) := by decide +kernel
theorem dX10_findSets_10 : decode cX10_findSets 10 = .ok (.aload_n 0, 1) := by decide +kernel
theorem dX10_findSets_11 : decode cX10_findSets 11 = .ok (.iconst 1, 1) := by decide +kernel
theorem dX10_findSets_12 : decode cX10_findSets 12 = .ok (.aload_n 0, 1) := by decide +kernel
theorem dX10_findSets_13 : decode cX10_findSets 13 = .ok (.getfield 18, 3) := by decide +kernel
theorem dX10_findSets_16 : decode cX10_findSets 16 = .ok (.getfield 36, 3) := by decide +kernel
theorem dX10_findSets_19 : decode cX10_findSets 19 = .ok (.ishl, 1) := by decide +kernel
theorem dX10_findSets_20 : decode cX10_findSets 20 = .ok (.iconst 1, 1) := by decide +kernel
theorem dX10_findSets_21 : decode cX10_findSets 21 = .ok (.isub, 1) := by decide +kernel
theorem dX10_findSets_22 : decode cX10_findSets 22 = .ok (.putfield 62, 3) := by decide +kernel
theorem dX10_findSets_25 : decode cX10_findSets 25 = .ok (.iconst 0, 1) := by decide +kernel
theorem dX10_findSets_26 : decode cX10_findSets 26 = .ok (.istore_n 1, 1) := by decide +kernel
theorem dX10_findSets_27 : decode cX10_findSets 27 = .ok (.iload_n 1, 1) := by decide +kernel
theorem dX10_findSets_28 : decode cX10_findSets 28 = .ok (.aload_n 0, 1) := by decide +kernel
theorem dX10_findSets_29 : decode cX10_findSets 29 = .ok (.getfield 18, 3) := by decide +kernel
theorem dX10_findSets_32 : decode cX10_findSets 32 = .ok (.getfield 36, 3) := by decide +kernel
theorem dX10_findSets_35 : decode cX10_findSets 35 = .ok (.if_icmp .ge 27, 3) := by decide +kernel
theorem dX10_findSets_38 : decode cX10_findSets 38 = .ok (.aload_n 0, 1) := by decide +kernel
theorem dX10_findSets_39 : decode cX10_findSets 39 = .ok (.getfield 9, 3) := by decide +kernel
theorem dX10_findSets_42 : decode cX10_findSets 42 = .ok (.iload_n 1, 1) := by decide +kernel
theorem dX10_findSets_43 : decode cX10_findSets 43 = .ok (.aload_n 0, 1) := by decide +kernel
theorem dX10_findSets_44 : decode cX10_findSets 44 = .ok (.iload_n 1, 1) := by decide +kernel
theorem dX10_findSets_45 : decode cX10_findSets 45 = .ok (.invokevirtual 65, 3) := by decide +kernel
theorem dX10_findSets_48 : decode cX10_findSets 48 = .ok (.iastore, 1) := by decide +kernel
theorem dX10_findSets_49 : decode cX10_findSets 49 = .ok (.aload_n 0, 1) := by decide +kernel
theorem dX10_findSets_50 : decode cX10_findSets 50 = .ok (.getfield 15, 3) := by decide +kernel
theorem dX10_findSets_53 : decode cX10_findSets 53 = .ok (.iload_n 1, 1) := by decide +kernel
theorem dX10_findSets_54 : decode cX10_findSets 54 = .ok (.iconst 0, 1) := by decide +kernel
theorem dX10_findSets_55 : decode cX10_findSets 55 = .ok (.iastore, 1) := by decide +kernel
theorem dX10_findSets_56 : decode cX10_findSets 56 = .ok (.iinc 1 1, 3) := by decide +kernel
theorem dX10_findSets_59 : decode cX10_findSets 59 = .ok (.goto (-32), 3) := by decide +kernel
theorem dX10_findSets_62 : decode cX10_findSets 62 = .ok (.iconst 1, 1) := by decide +kernel
theorem dX10_findSets_63 : decode cX10_findSets 63 = .ok (.istore_n 1, 1) := by decide +kernel
theorem dX10_findSets_64 : decode cX10_findSets 64 = .ok (.iload_n 1, 1) := by decide +kernel
theorem dX10_findSets_65 : decode cX10_findSets 65 = .ok (.iconst 1, 1) := by decide +kernel
theorem dX10_findSets_66 : decode cX10_findSets 66 = .ok (.aload_n 0, 1) := by decide +kernel
theorem dX10_findSets_67 : decode cX10_findSets 67 = .ok (.getfield 18, 3) := by decide +kernel
theorem dX10_findSets_70 : decode cX10_findSets 70 = .ok (.getfield 36, 3) := by decide +kernel
theorem dX10_findSets_73 : decode cX10_findSets 73 = .ok (.ishl, 1) := by decide +kernel
theorem dX10_findSets_74 : decode cX10_findSets 74 = .ok (.if_icmp .ge 41, 3) := by decide +kernel
theorem dX10_findSets_77 : decode cX10_findSets 77 = .ok (.iload_n 1, 1) := by decide +kernel
theorem dX10_findSets_78 : decode cX10_findSets 78 = .ok (.aload_n 0, 1) := by decide +kernel
theorem dX10_findSets_79 : decode cX10_findSets 79 = .ok (.getfield 22, 3) := by decide +kernel
theorem dX10_findSets_82 : decode cX10_findSets 82 = .ok (.getfield 68, 3) := by decide +kernel
theorem dX10_findSets_85 : decode cX10_findSets 85 = .ok (.iand, 1) := by decide +kernel
theorem dX10_findSets_86 : decode cX10_findSets 86 = .ok (.ifCond .ne 23, 3) := by decide +kernel
theorem dX10_findSets_89 : decode cX10_findSets 89 = .ok (.aload_n 0, 1) := by decide +kernel
theorem dX10_findSets_90 : decode cX10_findSets 90 = .ok (.iload_n 1, 1) := by decide +kernel
theorem dX10_findSets_91 : decode cX10_findSets 91 = .ok (.invokevirtual 71, 3) := by decide +kernel
theorem dX10_findSets_94 : decode cX10_findSets 94 = .ok (.aload_n 0, 1) := by decide +kernel
theorem dX10_findSets_95 : decode cX10_findSets 95 = .ok (.getfield 18, 3) := by decide +kernel
theorem dX10_findSets_98 : decode cX10_findSets 98 = .ok (.getfield 74, 3) := by decide +kernel
theorem dX10_findSets_101 : decode cX10_findSets 101 = .ok (.if_icmp .ne 8, 3) := by decide +kernel
theorem dX10_findSets_104 : decode cX10_findSets 104 = .ok (.aload_n 0, 1) := by decide +kernel
theorem dX10_findSets_105 : decode cX10_findSets 105 = .ok (.iload_n 1, 1) := by decide +kernel
theorem dX10_findSets_106 : decode cX10_findSets 106 = .ok (.invokevirtual 77, 3) := by decide +kernel
theorem dX10_findSets_109 : decode cX10_findSets 109 = .ok (.iinc 1 1, 3) := by decide +kernel
theorem dX10_findSets_112 : decode cX10_findSets 112 = .ok (.goto (-48), 3) := by decide +kernel
theorem dX10_findSets_115 : decode cX10_findSets 115 = .ok (.aload_n 0, 1) := by decide +kernel
theorem dX10_findSets_116 : decode cX10_findSets 116 = .ok (.aload_n 0, 1) := by decide +kernel
theorem dX10_findSets_117 : decode cX10_findSets 117 = .ok (.getfield 56, 3) := by decide +kernel
theorem dX10_findSets_120 : decode cX10_findSets 120 = .ok (.ifCond .ne 7, 3) := by decide +kernel
theorem dX10_findSets_123 : decode cX10_findSets 123 = .ok (.iconst 0, 1) := by decide +kernel
theorem dX10_findSets_124 : decode cX10_findSets 124 = .ok (.goto 7, 3) := by decide +kernel
theorem dX10_findSets_127 : decode cX10_findSets 127 = .ok (.aload_n 0, 1) := by decide +kernel
theorem dX10_findSets_128 : decode cX10_findSets 128 = .ok (.getfield 62, 3) := by decide +kernel
theorem dX10_findSets_131 : decode cX10_findSets 131 = .ok (.putfield 62, 3) := by decide +kernel
theorem dX10_findSets_134 : decode cX10_findSets 134 = .ok (.return_, 1) := by decide +kernel
theorem dX10_count_0 : decode cX10_count 0 = .ok (.aload_n 0, 1) := by decide +kernel
theorem dX10_count_1 : decode cX10_count 1 = .ok (.dup, 1) := by decide +kernel
theorem dX10_count_2 : decode cX10_count 2 = .ok (.getfield 56, 3) := by decide +kernel
theorem dX10_count_5 : decode cX10_count 5 = .ok (.iconst 1, 1) := by decide +kernel
theorem dX10_count_6 : decode cX10_count 6 = .ok (.iadd, 1) := by decide +kernel
theorem dX10_count_7 : decode cX10_count 7 = .ok (.putfield 56, 3) := by decide +kernel
theorem dX10_count_10 : decode cX10_count 10 = .ok (.aload_n 0, 1) := by decide +kernel
theorem dX10_count_11 : decode cX10_count 11 = .ok (.dup, 1) := by decide +kernel
theorem dX10_count_12 : decode cX10_count 12 = .ok (.getfield 59, 3) := by decide +kernel
theorem dX10_count_15 : decode cX10_count 15 = .ok (.iload_n 1, 1) := by decide +kernel
theorem dX10_count_16 : decode cX10_count 16 = .ok (.ior, 1) := by decide +kernel
theorem dX10_count_17 : decode cX10_count 17 = .ok (.putfield 59, 3) := by decide +kernel
theorem dX10_count_20 : decode cX10_count 20 = .ok (.aload_n 0, 1) := by decide +kernel
theorem dX10_count_21 : decode cX10_count 21 = .ok (.dup, 1) := by decide +kernel
theorem dX10_count_22 : decode cX10_count 22 = .ok (.getfield 62, 3) := by decide +kernel
theorem dX10_count_25 : decode cX10_count 25 = .ok (.iload_n 1, 1) := by decide +kernel
theorem dX10_count_26 : decode cX10_count 26 = .ok (.iand, 1) := by decide +kernel
theorem dX10_count_27 : decode cX10_count 27 = .ok (.putfield 62, 3) := by decide +kernel
theorem dX10_count_30 : decode cX10_count 30 = .ok (.iconst 0, 1) := by decide +kernel
theorem dX10_count_31 : decode cX10_count 31 = .ok (.istore_n 2, 1) := by decide +kernel
theorem dX10_count_32 : decode cX10_count 32 = .ok (.iload_n 2, 1) := by decide +kernel
theorem dX10_count_33 : decode cX10_count 33 = .ok (.aload_n 0, 1) := by decide +kernel
theorem dX10_count_34 : decode cX10_count 34 = .ok (.getfield 18, 3) := by decide +kernel
theorem dX10_count_37 : decode cX10_count 37 = .ok (.getfield 36, 3) := by decide +kernel
theorem dX10_count_40 : decode cX10_count 40 = .ok (.if_icmp .ge 23, 3) := by decide +kernel
theorem dX10_count_43 : decode cX10_count 43 = .ok (.aload_n 0, 1) := by decide +kernel
theorem dX10_count_44 : decode cX10_count 44 = .ok (.getfield 15, 3) := by decide +kernel
theorem dX10_count_47 : decode cX10_count 47 = .ok (.iload_n 2, 1) := by decide +kernel
theorem dX10_count_48 : decode cX10_count 48 = .ok (.dup2, 1) := by decide +kernel
theorem dX10_count_49 : decode cX10_count 49 = .ok (.iaload, 1) := by decide +kernel
theorem dX10_count_50 : decode cX10_count 50 = .ok (.iload_n 1, 1) := by decide +kernel
theorem dX10_count_51 : decode cX10_count 51 = .ok (.iload_n 2, 1) := by decide +kernel
theorem dX10_count_52 : decode cX10_count 52 = .ok (.ishr, 1) := by decide +kernel
theorem dX10_count_53 : decode cX10_count 53 = .ok (.iconst 1, 1) := by decide +kernel
theorem dX10_count_54 : decode cX10_count 54 = .ok (.iand, 1) := by decide +kernel
theorem dX10_count_55 : decode cX10_count 55 = .ok (.iadd, 1) := by decide +kernel
theorem dX10_count_56 : decode cX10_count 56 = .ok (.iastore, 1) := by decide +kernel
theorem dX10_count_57 : decode cX10_count 57 = .ok (.iinc 2 1, 3) := by decide +kernel
theorem dX10_count_60 : decode cX10_count 60 = .ok (.goto (-28), 3) := by decide +kernel
theorem dX10_count_63 : decode cX10_count 63 = .ok (.return_, 1) := by decide +kernel
theorem dX10_bestToAsk_0 : decode cX10_bestToAsk 0 = .ok (.bipush (-2), 2) := by decide +kernel
theorem dX10_bestToAsk_2 : decode cX10_bestToAsk 2 = .ok (.istore_n 1, 1) := by decide +kernel
theorem dX10_bestToAsk_3 : decode cX10_bestToAsk 3 = .ok (.aload_n 0, 1) := by decide +kernel
theorem dX10_bestToAsk_4 : decode cX10_bestToAsk 4 = .ok (.getfield 56, 3) := by decide +kernel
theorem dX10_bestToAsk_7 : decode cX10_bestToAsk 7 = .ok (.istore_n 2, 1) := by decide +kernel
theorem dX10_bestToAsk_8 : decode cX10_bestToAsk 8 = .ok (.iconst 0, 1) := by decide +kernel
theorem dX10_bestToAsk_9 : decode cX10_bestToAsk 9 = .ok (.istore_n 3, 1) := by decide +kernel
theorem dX10_bestToAsk_10 : decode cX10_bestToAsk 10 = .ok (.iload_n 3, 1) := by decide +kernel
theorem dX10_bestToAsk_11 : decode cX10_bestToAsk 11 = .ok (.aload_n 0, 1) := by decide +kernel
theorem dX10_bestToAsk_12 : decode cX10_bestToAsk 12 = .ok (.getfield 18, 3) := by decide +kernel
theorem dX10_bestToAsk_15 : decode cX10_bestToAsk 15 = .ok (.getfield 36, 3) := by decide +kernel
theorem dX10_bestToAsk_18 : decode cX10_bestToAsk 18 = .ok (.if_icmp .ge 55, 3) := by decide +kernel
theorem dX10_bestToAsk_21 : decode cX10_bestToAsk 21 = .ok (.aload_n 0, 1) := by decide +kernel
theorem dX10_bestToAsk_22 : decode cX10_bestToAsk 22 = .ok (.getfield 56, 3) := by decide +kernel
theorem dX10_bestToAsk_25 : decode cX10_bestToAsk 25 = .ok (.ifCond .le 48, 3) := by decide +kernel
theorem dX10_bestToAsk_28 : decode cX10_bestToAsk 28 = .ok (.aload_n 0, 1) := by decide +kernel
theorem dX10_bestToAsk_29 : decode cX10_bestToAsk 29 = .ok (.getfield 15, 3) := by decide +kernel
theorem dX10_bestToAsk_32 : decode cX10_bestToAsk 32 = .ok (.iload_n 3, 1) := by decide +kernel
theorem dX10_bestToAsk_33 : decode cX10_bestToAsk 33 = .ok (.iaload, 1) := by decide +kernel
theorem dX10_bestToAsk_34 : decode cX10_bestToAsk 34 = .ok (.aload_n 0, 1) := by decide +kernel
theorem dX10_bestToAsk_35 : decode cX10_bestToAsk 35 = .ok (.getfield 56, 3) := by decide +kernel
theorem dX10_bestToAsk_38 : decode cX10_bestToAsk 38 = .ok (.aload_n 0, 1) := by decide +kernel
theorem dX10_bestToAsk_39 : decode cX10_bestToAsk 39 = .ok (.getfield 15, 3) := by decide +kernel
theorem dX10_bestToAsk_42 : decode cX10_bestToAsk 42 = .ok (.iload_n 3, 1) := by decide +kernel
theorem dX10_bestToAsk_43 : decode cX10_bestToAsk 43 = .ok (.iaload, 1) := by decide +kernel
theorem dX10_bestToAsk_44 : decode cX10_bestToAsk 44 = .ok (.isub, 1) := by decide +kernel
theorem dX10_bestToAsk_45 : decode cX10_bestToAsk 45 = .ok (.invokestatic 81, 3) := by decide +kernel
theorem dX10_bestToAsk_48 : decode cX10_bestToAsk 48 = .ok (.istore 4, 2) := by decide +kernel
theorem dX10_bestToAsk_50 : decode cX10_bestToAsk 50 = .ok (.iload_n 1, 1) := by decide +kernel
theorem dX10_bestToAsk_51 : decode cX10_bestToAsk 51 = .ok (.bipush (-2), 2) := by decide +kernel
theorem dX10_bestToAsk_53 : decode cX10_bestToAsk 53 = .ok (.if_icmp .eq 9, 3) := by decide +kernel
theorem dX10_bestToAsk_56 : decode cX10_bestToAsk 56 = .ok (.iload 4, 2) := by decide +kernel
theorem dX10_bestToAsk_58 : decode cX10_bestToAsk 58 = .ok (.iload_n 2, 1) := by decide +kernel
theorem dX10_bestToAsk_59 : decode cX10_bestToAsk 59 = .ok (.if_icmp .ge 8, 3) := by decide +kernel
theorem dX10_bestToAsk_62 : decode cX10_bestToAsk 62 = .ok (.iload_n 3, 1) := by decide +kernel
theorem dX10_bestToAsk_63 : decode cX10_bestToAsk 63 = .ok (.istore_n 1, 1) := by decide +kernel
theorem dX10_bestToAsk_64 : decode cX10_bestToAsk 64 = .ok (.iload 4, 2) := by decide +kernel
theorem dX10_bestToAsk_66 : decode cX10_bestToAsk 66 = .ok (.istore_n 2, 1) := by decide +kernel
theorem dX10_bestToAsk_67 : decode cX10_bestToAsk 67 = .ok (.iinc 3 1, 3) := by decide +kernel
theorem dX10_bestToAsk_70 : decode cX10_bestToAsk 70 = .ok (.goto (-60), 3) := by decide +kernel
theorem dX10_bestToAsk_73 : decode cX10_bestToAsk 73 = .ok (.iload_n 1, 1) := by decide +kernel
theorem dX10_bestToAsk_74 : decode cX10_bestToAsk 74 = .ok (.ireturn, 1) := by decide +kernel
theorem dX0_init_0 : decode cX0_init 0 = .ok (.aload_n 0, 1) := by decide +kernel
theorem dX0_init_1 : decode cX0_init 1 = .ok (.invokespecial 3, 3) := by decide +kernel
theorem dX0_init_4 : decode cX0_init 4 = .ok (.aload_n 0, 1) := by decide +kernel
theorem dX0_init_5 : decode cX0_init 5 = .ok (.bipush 6, 2) := by decide +kernel
theorem dX0_init_7 : decode cX0_init 7 = .ok (.newarray .int, 2) := by decide +kernel
theorem dX0_init_9 : decode cX0_init 9 = .ok (.putfield 9, 3) := by decide +kernel
theorem dX0_init_12 : decode cX0_init 12 = .ok (.aload_n 0, 1) := by decide +kernel
theorem dX0_init_13 : decode cX0_init 13 = .ok (.iconst 5, 1) := by decide +kernel
theorem dX0_init_14 : decode cX0_init 14 = .ok (.newarray .int, 2) := by decide +kernel
theorem dX0_init_16 : decode cX0_init 16 = .ok (.putfield 15, 3) := by decide +kernel
theorem dX0_init_19 : decode cX0_init 19 = .ok (.aload_n 0, 1) := by decide +kernel
theorem dX0_init_20 : decode cX0_init 20 = .ok (.aload_n 1, 1) := by decide +kernel
theorem dX0_init_21 : decode cX0_init 21 = .ok (.putfield 18, 3) := by decide +kernel
theorem dX0_init_24 : decode cX0_init 24 = .ok (.aload_n 0, 1) := by decide +kernel
theorem dX0_init_25 : decode cX0_init 25 = .ok (.aload_n 2, 1) := by decide +kernel
theorem dX0_init_26 : decode cX0_init 26 = .ok (.putfield 22, 3) := by decide +kernel
theorem dX0_init_29 : decode cX0_init 29 = .ok (.aload_n 0, 1) := by decide +kernel
theorem dX0_init_30 : decode cX0_init 30 = .ok (.aload_n 3, 1) := by decide +kernel
theorem dX0_init_31 : decode cX0_init 31 = .ok (.putfield 26, 3) := by decide +kernel
theorem dX0_init_34 : decode cX0_init 34 = .ok (.return_, 1) := by decide +kernel
theorem dX0_fightFrom_0 : decode cX0_fightFrom 0 = .ok (.aload_n 0, 1) := by decide +kernel
theorem dX0_fightFrom_1 : decode cX0_fightFrom 1 = .ok (.getfield 22, 3) := by decide +kernel
theorem dX0_fightFrom_4 : decode cX0_fightFrom 4 = .ok (.getfield 30, 3) := by decide +kernel
theorem dX0_fightFrom_7 : decode cX0_fightFrom 7 = .ok (.iconst 0, 1) := by decide +kernel
theorem dX0_fightFrom_8 : decode cX0_fightFrom 8 = .ok (.aload_n 0, 1) := by decide +kernel
theorem dX0_fightFrom_9 : decode cX0_fightFrom 9 = .ok (.getfield 9, 3) := by decide +kernel
theorem dX0_fightFrom_12 : decode cX0_fightFrom 12 = .ok (.iconst 0, 1) := by decide +kernel
theorem dX0_fightFrom_13 : decode cX0_fightFrom 13 = .ok (.bipush 6, 2) := by decide +kernel
theorem dX0_fightFrom_15 : decode cX0_fightFrom 15 = .ok (.invokestatic 35, 3) := by decide +kernel
theorem dX0_fightFrom_18 : decode cX0_fightFrom 18 = .ok (.aload_n 0, 1) := by decide +kernel
theorem dX0_fightFrom_19 : decode cX0_fightFrom 19 = .ok (.iload_n 1, 1) := by decide +kernel
theorem dX0_fightFrom_20 : decode cX0_fightFrom 20 = .ok (.putfield 41, 3) := by decide +kernel
theorem dX0_fightFrom_23 : decode cX0_fightFrom 23 = .ok (.aload_n 0, 1) := by decide +kernel
theorem dX0_fightFrom_24 : decode cX0_fightFrom 24 = .ok (.iconst 0, 1) := by decide +kernel
theorem dX0_fightFrom_25 : decode cX0_fightFrom 25 = .ok (.putfield 45, 3) := by decide +kernel
theorem dX0_fightFrom_28 : decode cX0_fightFrom 28 = .ok (.aload_n 0, 1) := by decide +kernel
theorem dX0_fightFrom_29 : decode cX0_fightFrom 29 = .ok (.iconst 0, 1) := by decide +kernel
theorem dX0_fightFrom_30 : decode cX0_fightFrom 30 = .ok (.putfield 48, 3) := by decide +kernel
theorem dX0_fightFrom_33 : decode cX0_fightFrom 33 = .ok (.aload_n 0, 1) := by decide +kernel
theorem dX0_fightFrom_34 : decode cX0_fightFrom 34 = .ok (.iconst 0, 1) := by decide +kernel
theorem dX0_fightFrom_35 : decode cX0_fightFrom 35 = .ok (.putfield 51, 3) := by decide +kernel
theorem dX0_fightFrom_38 : decode cX0_fightFrom 38 = .ok (.iconst 0, 1) := by decide +kernel
theorem dX0_fightFrom_39 : decode cX0_fightFrom 39 = .ok (.istore_n 2, 1) := by decide +kernel
theorem dX0_fightFrom_40 : decode cX0_fightFrom 40 = .ok (.iload_n 2, 1) := by decide +kernel
theorem dX0_fightFrom_41 : decode cX0_fightFrom 41 = .ok (.aload_n 0, 1) := by decide +kernel
theorem dX0_fightFrom_42 : decode cX0_fightFrom 42 = .ok (.getfield 18, 3) := by decide +kernel
theorem dX0_fightFrom_45 : decode cX0_fightFrom 45 = .ok (.getfield 54, 3) := by decide +kernel
theorem dX0_fightFrom_48 : decode cX0_fightFrom 48 = .ok (.if_icmp .ge 25, 3) := by decide +kernel
theorem dX0_fightFrom_51 : decode cX0_fightFrom 51 = .ok (.aload_n 0, 1) := by decide +kernel
theorem dX0_fightFrom_52 : decode cX0_fightFrom 52 = .ok (.getfield 22, 3) := by decide +kernel
theorem dX0_fightFrom_55 : decode cX0_fightFrom 55 = .ok (.iload_n 2, 1) := by decide +kernel
theorem dX0_fightFrom_56 : decode cX0_fightFrom 56 = .ok (.invokevirtual 59, 3) := by decide +kernel
theorem dX0_fightFrom_59 : decode cX0_fightFrom 59 = .ok (.ifCond .ne 8, 3) := by decide +kernel
theorem dX0_fightFrom_62 : decode cX0_fightFrom 62 = .ok (.aload_n 0, 1) := by decide +kernel
theorem dX0_fightFrom_63 : decode cX0_fightFrom 63 = .ok (.iload_n 2, 1) := by decide +kernel
theorem dX0_fightFrom_64 : decode cX0_fightFrom 64 = .ok (.invokevirtual 63, 3) := by decide +kernel
theorem dX0_fightFrom_67 : decode cX0_fightFrom 67 = .ok (.iinc 2 1, 3) := by decide +kernel
theorem dX0_fightFrom_70 : decode cX0_fightFrom 70 = .ok (.goto (-30), 3) := by decide +kernel
theorem dX0_fightFrom_73 : decode cX0_fightFrom 73 = .ok (.return_, 1) := by decide +kernel
theorem dX0_leaveBehind_0 : decode cX0_leaveBehind 0 = .ok (.aload_n 0, 1) := by decide +kernel
theorem dX0_leaveBehind_1 : decode cX0_leaveBehind 1 = .ok (.getfield 9, 3) := by decide +kernel
theorem dX0_leaveBehind_4 : decode cX0_leaveBehind 4 = .ok (.iconst 0, 1) := by decide +kernel
theorem dX0_leaveBehind_5 : decode cX0_leaveBehind 5 = .ok (.aload_n 0, 1) := by decide +kernel
theorem dX0_leaveBehind_6 : decode cX0_leaveBehind 6 = .ok (.getfield 22, 3) := by decide +kernel
theorem dX0_leaveBehind_9 : decode cX0_leaveBehind 9 = .ok (.getfield 30, 3) := by decide +kernel
theorem dX0_leaveBehind_12 : decode cX0_leaveBehind 12 = .ok (.iconst 0, 1) := by decide +kernel
theorem dX0_leaveBehind_13 : decode cX0_leaveBehind 13 = .ok (.bipush 6, 2) := by decide +kernel
theorem dX0_leaveBehind_15 : decode cX0_leaveBehind 15 = .ok (.invokestatic 35, 3) := by decide +kernel
theorem dX0_leaveBehind_18 : decode cX0_leaveBehind 18 = .ok (.aload_n 0, 1) := by decide +kernel
theorem dX0_leaveBehind_19 : decode cX0_leaveBehind 19 = .ok (.getfield 22, 3) := by decide +kernel
theorem dX0_leaveBehind_22 : decode cX0_leaveBehind 22 = .ok (.aload_n 0, 1) := by decide +kernel
theorem dX0_leaveBehind_23 : decode cX0_leaveBehind 23 = .ok (.getfield 41, 3) := by decide +kernel
theorem dX0_leaveBehind_26 : decode cX0_leaveBehind 26 = .ok (.putfield 67, 3) := by decide +kernel
theorem dX0_leaveBehind_29 : decode cX0_leaveBehind 29 = .ok (.return_, 1) := by decide +kernel
theorem dX0_fightMany_0 : decode cX0_fightMany 0 = .ok (.aload_n 0, 1) := by decide +kernel
theorem dX0_fightMany_1 : decode cX0_fightMany 1 = .ok (.iconst 0, 1) := by decide +kernel
theorem dX0_fightMany_2 : decode cX0_fightMany 2 = .ok (.putfield 68, 3) := by decide +kernel
theorem dX0_fightMany_5 : decode cX0_fightMany 5 = .ok (.aload_n 0, 1) := by decide +kernel
theorem dX0_fightMany_6 : decode cX0_fightMany 6 = .ok (.iconst 0, 1) := by decide +kernel
theorem dX0_fightMany_7 : decode cX0_fightMany 7 = .ok (.putfield 71, 3) := by decide +kernel
theorem dX0_fightMany_10 : decode cX0_fightMany 10 = .ok (.aload_n 0, 1) := by decide +kernel
theorem dX0_fightMany_11 : decode cX0_fightMany 11 = .ok (.iconst 0, 1) := by decide +kernel
theorem dX0_fightMany_12 : decode cX0_fightMany 12 = .ok (.putfield 74, 3) := by decide +kernel
theorem dX0_fightMany_15 : decode cX0_fightMany 15 = .ok (.iconst 0, 1) := by decide +kernel
theorem dX0_fightMany_16 : decode cX0_fightMany 16 = .ok (.istore_n 3, 1) := by decide +kernel
theorem dX0_fightMany_17 : decode cX0_fightMany 17 = .ok (.iload_n 3, 1) := by decide +kernel
theorem dX0_fightMany_18 : decode cX0_fightMany 18 = .ok (.aload_n 0, 1) := by decide +kernel
theorem dX0_fightMany_19 : decode cX0_fightMany 19 = .ok (.getfield 18, 3) := by decide +kernel
theorem dX0_fightMany_22 : decode cX0_fightMany 22 = .ok (.getfield 54, 3) := by decide +kernel
theorem dX0_fightMany_25 : decode cX0_fightMany 25 = .ok (.if_icmp .ge 16, 3) := by decide +kernel
theorem dX0_fightMany_28 : decode cX0_fightMany 28 = .ok (.aload_n 0, 1) := by decide +kernel
theorem dX0_fightMany_29 : decode cX0_fightMany 29 = .ok (.getfield 15, 3) := by decide +kernel
theorem dX0_fightMany_32 : decode cX0_fightMany 32 = .ok (.iload_n 3, 1) := by decide +kernel
theorem dX0_fightMany_33 : decode cX0_fightMany 33 = .ok (.iconst 0, 1) := by decide +kernel
theorem dX0_fightMany_34 : decode cX0_fightMany 34 = .ok (.iastore, 1) := by decide +kernel
theorem dX0_fightMany_35 : decode cX0_fightMany 35 = .ok (.iinc 3 1, 3) := by decide +kernel
theorem dX0_fightMany_38 : decode cX0_fightMany 38 = .ok (.goto (-21), 3) := by decide +kernel
theorem dX0_fightMany_41 : decode cX0_fightMany 41 = .ok (.aload_n 0, 1) := by decide +kernel
theorem dX0_fightMany_42 : decode cX0_fightMany 42 = .ok (.iload_n 1, 1) := by decide +kernel
theorem dX0_fightMany_43 : decode cX0_fightMany 43 = .ok (.putfield 41, 3) := by decide +kernel
theorem dX0_fightMany_46 : decode cX0_fightMany 46 = .ok (.iconst 0, 1) := by decide +kernel
theorem dX0_fightMany_47 : decode cX0_fightMany 47 = .ok (.istore_n 3, 1) := by decide +kernel
theorem dX0_fightMany_48 : decode cX0_fightMany 48 = .ok (.iload_n 3, 1) := by decide +kernel
theorem dX0_fightMany_49 : decode cX0_fightMany 49 = .ok (.iload_n 2, 1) := by decide +kernel
theorem dX0_fightMany_50 : decode cX0_fightMany 50 = .ok (.if_icmp .ge 108, 3) := by decide +kernel
theorem dX0_fightMany_53 : decode cX0_fightMany 53 = .ok (.aload_n 0, 1) := by decide +kernel
theorem dX0_fightMany_54 : decode cX0_fightMany 54 = .ok (.aload_n 0, 1) := by decide +kernel
theorem dX0_fightMany_55 : decode cX0_fightMany 55 = .ok (.getfield 41, 3) := by decide +kernel
theorem dX0_fightMany_58 : decode cX0_fightMany 58 = .ok (.invokevirtual 77, 3) := by decide +kernel
theorem dX0_fightMany_61 : decode cX0_fightMany 61 = .ok (.aload_n 0, 1) := by decide +kernel
theorem dX0_fightMany_62 : decode cX0_fightMany 62 = .ok (.dup, 1) := by decide +kernel
theorem dX0_fightMany_63 : decode cX0_fightMany 63 = .ok (.getfield 68, 3) := by decide +kernel
theorem dX0_fightMany_66 : decode cX0_fightMany 66 = .ok (.aload_n 0, 1) := by decide +kernel
theorem dX0_fightMany_67 : decode cX0_fightMany 67 = .ok (.getfield 45, 3) := by decide +kernel
theorem dX0_fightMany_70 : decode cX0_fightMany 70 = .ok (.iadd, 1) := by decide +kernel
theorem dX0_fightMany_71 : decode cX0_fightMany 71 = .ok (.putfield 68, 3) := by decide +kernel
theorem dX0_fightMany_74 : decode cX0_fightMany 74 = .ok (.aload_n 0, 1) := by decide +kernel
theorem dX0_fightMany_75 : decode cX0_fightMany 75 = .ok (.dup, 1) := by decide +kernel
theorem dX0_fightMany_76 : decode cX0_fightMany 76 = .ok (.getfield 71, 3) := by decide +kernel
theorem dX0_fightMany_79 : decode cX0_fightMany 79 = .ok (.aload_n 0, 1) := by decide +kernel
theorem dX0_fightMany_80 : decode cX0_fightMany 80 = .ok (.getfield 48, 3) := by decide +kernel
theorem dX0_fightMany_83 : decode cX0_fightMany 83 = .ok (.iadd, 1) := by decide +kernel
theorem dX0_fightMany_84 : decode cX0_fightMany 84 = .ok (.putfield 71, 3) := by decide +kernel
theorem dX0_fightMany_87 : decode cX0_fightMany 87 = .ok (.aload_n 0, 1) := by decide +kernel
theorem dX0_fightMany_88 : decode cX0_fightMany 88 = .ok (.dup, 1) := by decide +kernel
theorem dX0_fightMany_89 : decode cX0_fightMany 89 = .ok (.getfield 74, 3) := by decide +kernel
theorem dX0_fightMany_92 : decode cX0_fightMany 92 = .ok (.aload_n 0, 1) := by decide +kernel
theorem dX0_fightMany_93 : decode cX0_fightMany 93 = .ok (.getfield 45, 3) := by decide +kernel
theorem dX0_fightMany_96 : decode cX0_fightMany 96 = .ok (.aload_n 0, 1) := by decide +kernel
theorem dX0_fightMany_97 : decode cX0_fightMany 97 = .ok (.getfield 48, 3) := by decide +kernel
theorem dX0_fightMany_100 : decode cX0_fightMany 100 = .ok (.if_icmp .le 7, 3) := by decide +kernel
theorem dX0_fightMany_103 : decode cX0_fightMany 103 = .ok (.iconst 1, 1) := by decide +kernel
theorem dX0_fightMany_104 : decode cX0_fightMany 104 = .ok (.goto 4, 3) := by decide +kernel
theorem dX0_fightMany_107 : decode cX0_fightMany 107 = .ok (.iconst 0, 1) := by decide +kernel
theorem dX0_fightMany_108 : decode cX0_fightMany 108 = .ok (.iadd, 1) := by decide +kernel
theorem dX0_fightMany_109 : decode cX0_fightMany 109 = .ok (.putfield 74, 3) := by decide +kernel
theorem dX0_fightMany_112 : decode cX0_fightMany 112 = .ok (.iconst 0, 1) := by decide +kernel
theorem dX0_fightMany_113 : decode cX0_fightMany 113 = .ok (.istore 4, 2) := by decide +kernel
theorem dX0_fightMany_115 : decode cX0_fightMany 115 = .ok (.iload 4, 2) := by decide +kernel
theorem dX0_fightMany_117 : decode cX0_fightMany 117 = .ok (.aload_n 0, 1) := by decide +kernel
theorem dX0_fightMany_118 : decode cX0_fightMany 118 = .ok (.getfield 18, 3) := by decide +kernel
theorem dX0_fightMany_121 : decode cX0_fightMany 121 = .ok (.getfield 54, 3) := by decide +kernel
theorem dX0_fightMany_124 : decode cX0_fightMany 124 = .ok (.if_icmp .ge 28, 3) := by decide +kernel
theorem dX0_fightMany_127 : decode cX0_fightMany 127 = .ok (.aload_n 0, 1) := by decide +kernel
theorem dX0_fightMany_128 : decode cX0_fightMany 128 = .ok (.getfield 15, 3) := by decide +kernel
theorem dX0_fightMany_131 : decode cX0_fightMany 131 = .ok (.iload 4, 2) := by decide +kernel
theorem dX0_fightMany_133 : decode cX0_fightMany 133 = .ok (.dup2, 1) := by decide +kernel
theorem dX0_fightMany_134 : decode cX0_fightMany 134 = .ok (.iaload, 1) := by decide +kernel
theorem dX0_fightMany_135 : decode cX0_fightMany 135 = .ok (.aload_n 0, 1) := by decide +kernel
theorem dX0_fightMany_136 : decode cX0_fightMany 136 = .ok (.getfield 51, 3) := by decide +kernel
theorem dX0_fightMany_139 : decode cX0_fightMany 139 = .ok (.iload 4, 2) := by decide +kernel
theorem dX0_fightMany_141 : decode cX0_fightMany 141 = .ok (.ishr, 1) := by decide +kernel
theorem dX0_fightMany_142 : decode cX0_fightMany 142 = .ok (.iconst 1, 1) := by decide +kernel
theorem dX0_fightMany_143 : decode cX0_fightMany 143 = .ok (.iand, 1) := by decide +kernel
theorem dX0_fightMany_144 : decode cX0_fightMany 144 = .ok (.iadd, 1) := by decide +kernel
theorem dX0_fightMany_145 : decode cX0_fightMany 145 = .ok (.iastore, 1) := by decide +kernel
theorem dX0_fightMany_146 : decode cX0_fightMany 146 = .ok (.iinc 4 1, 3) := by decide +kernel
theorem dX0_fightMany_149 : decode cX0_fightMany 149 = .ok (.goto (-34), 3) := by decide +kernel
theorem dX0_fightMany_152 : decode cX0_fightMany 152 = .ok (.iinc 3 1, 3) := by decide +kernel
theorem dX0_fightMany_155 : decode cX0_fightMany 155 = .ok (.goto (-107), 3) := by decide +kernel
theorem dX0_fightMany_158 : decode cX0_fightMany 158 = .ok (.return_, 1) := by decide +kernel
theorem dX0_charge_0 : decode cX0_charge 0 = .ok (.aload_n 0, 1) := by decide +kernel
theorem dX0_charge_1 : decode cX0_charge 1 = .ok (.getfield 26, 3) := by decide +kernel
theorem dX0_charge_4 : decode cX0_charge 4 = .ok (.iload_n 1, 1) := by decide +kernel
theorem dX0_charge_5 : decode cX0_charge 5 = .ok (.invokevirtual 80, 3) := by decide +kernel
theorem dX0_charge_8 : decode cX0_charge 8 = .ok (.istore_n 2, 1) := by decide +kernel
theorem dX0_charge_9 : decode cX0_charge 9 = .ok (.aload_n 0, 1) := by decide +kernel
theorem dX0_charge_10 : decode cX0_charge 10 = .ok (.aload_n 0, 1) := by decide +kernel
theorem dX0_charge_11 : decode cX0_charge 11 = .ok (.getfield 26, 3) := by decide +kernel
theorem dX0_charge_14 : decode cX0_charge 14 = .ok (.iload_n 1, 1) := by decide +kernel
theorem dX0_charge_15 : decode cX0_charge 15 = .ok (.invokevirtual 86, 3) := by decide +kernel
theorem dX0_charge_18 : decode cX0_charge 18 = .ok (.invokevirtual 89, 3) := by decide +kernel
theorem dX0_charge_21 : decode cX0_charge 21 = .ok (.ifCond .ne 17, 3) := by decide +kernel
theorem dX0_charge_24 : decode cX0_charge 24 = .ok (.aload_n 0, 1) := by decide +kernel
theorem dX0_charge_25 : decode cX0_charge 25 = .ok (.dup, 1) := by decide +kernel
theorem dX0_charge_26 : decode cX0_charge 26 = .ok (.getfield 48, 3) := by decide +kernel
theorem dX0_charge_29 : decode cX0_charge 29 = .ok (.iload_n 2, 1) := by decide +kernel
theorem dX0_charge_30 : decode cX0_charge 30 = .ok (.invokestatic 92, 3) := by decide +kernel
theorem dX0_charge_33 : decode cX0_charge 33 = .ok (.iadd, 1) := by decide +kernel
theorem dX0_charge_34 : decode cX0_charge 34 = .ok (.putfield 48, 3) := by decide +kernel
theorem dX0_charge_37 : decode cX0_charge 37 = .ok (.return_, 1) := by decide +kernel
theorem dX0_charge_38 : decode cX0_charge 38 = .ok (.aload_n 0, 1) := by decide +kernel
theorem dX0_charge_39 : decode cX0_charge 39 = .ok (.dup, 1) := by decide +kernel
theorem dX0_charge_40 : decode cX0_charge 40 = .ok (.getfield 51, 3) := by decide +kernel
theorem dX0_charge_43 : decode cX0_charge 43 = .ok (.iconst 1, 1) := by decide +kernel
theorem dX0_charge_44 : decode cX0_charge 44 = .ok (.iload_n 1, 1) := by decide +kernel
theorem dX0_charge_45 : decode cX0_charge 45 = .ok (.ishl, 1) := by decide +kernel
theorem dX0_charge_46 : decode cX0_charge 46 = .ok (.ior, 1) := by decide +kernel
theorem dX0_charge_47 : decode cX0_charge 47 = .ok (.putfield 51, 3) := by decide +kernel
theorem dX0_charge_50 : decode cX0_charge 50 = .ok (.aload_n 0, 1) := by decide +kernel
theorem dX0_charge_51 : decode cX0_charge 51 = .ok (.getfield 22, 3) := by decide +kernel
theorem dX0_charge_54 : decode cX0_charge 54 = .ok (.getfield 95, 3) := by decide +kernel
theorem dX0_charge_57 : decode cX0_charge 57 = .ok (.iload_n 1, 1) := by decide +kernel
theorem dX0_charge_58 : decode cX0_charge 58 = .ok (.iaload, 1) := by decide +kernel
theorem dX0_charge_59 : decode cX0_charge 59 = .ok (.istore_n 3, 1) := by decide +kernel
theorem dX0_charge_60 : decode cX0_charge 60 = .ok (.aload_n 0, 1) := by decide +kernel
theorem dX0_charge_61 : decode cX0_charge 61 = .ok (.getfield 18, 3) := by decide +kernel
theorem dX0_charge_64 : decode cX0_charge 64 = .ok (.getfield 98, 3) := by decide +kernel
theorem dX0_charge_67 : decode cX0_charge 67 = .ok (.iload_n 1, 1) := by decide +kernel
theorem dX0_charge_68 : decode cX0_charge 68 = .ok (.iaload, 1) := by decide +kernel
theorem dX0_charge_69 : decode cX0_charge 69 = .ok (.iload_n 2, 1) := by decide +kernel
theorem dX0_charge_70 : decode cX0_charge 70 = .ok (.aload_n 0, 1) := by decide +kernel
theorem dX0_charge_71 : decode cX0_charge 71 = .ok (.getfield 18, 3) := by decide +kernel
theorem dX0_charge_74 : decode cX0_charge 74 = .ok (.getfield 101, 3) := by decide +kernel
theorem dX0_charge_77 : decode cX0_charge 77 = .ok (.iload_n 3, 1) := by decide +kernel
theorem dX0_charge_78 : decode cX0_charge 78 = .ok (.iaload, 1) := by decide +kernel
theorem dX0_charge_79 : decode cX0_charge 79 = .ok (.aload_n 0, 1) := by decide +kernel
theorem dX0_charge_80 : decode cX0_charge 80 = .ok (.getfield 9, 3) := by decide +kernel
theorem dX0_charge_83 : decode cX0_charge 83 = .ok (.iload_n 3, 1) := by decide +kernel
theorem dX0_charge_84 : decode cX0_charge 84 = .ok (.iaload, 1) := by decide +kernel
theorem dX0_charge_85 : decode cX0_charge 85 = .ok (.invokestatic 104, 3) := by decide +kernel
theorem dX0_charge_88 : decode cX0_charge 88 = .ok (.istore 4, 2) := by decide +kernel
theorem dX0_charge_90 : decode cX0_charge 90 = .ok (.aload_n 0, 1) := by decide +kernel
theorem dX0_charge_91 : decode cX0_charge 91 = .ok (.dup, 1) := by decide +kernel
theorem dX0_charge_92 : decode cX0_charge 92 = .ok (.getfield 45, 3) := by decide +kernel
theorem dX0_charge_95 : decode cX0_charge 95 = .ok (.iload 4, 2) := by decide +kernel
theorem dX0_charge_97 : decode cX0_charge 97 = .ok (.iadd, 1) := by decide +kernel
theorem dX0_charge_98 : decode cX0_charge 98 = .ok (.putfield 45, 3) := by decide +kernel
theorem dX0_charge_101 : decode cX0_charge 101 = .ok (.aload_n 0, 1) := by decide +kernel
theorem dX0_charge_102 : decode cX0_charge 102 = .ok (.dup, 1) := by decide +kernel
theorem dX0_charge_103 : decode cX0_charge 103 = .ok (.getfield 48, 3) := by decide +kernel
theorem dX0_charge_106 : decode cX0_charge 106 = .ok (.aload_n 0, 1) := by decide +kernel
theorem dX0_charge_107 : decode cX0_charge 107 = .ok (.getfield 18, 3) := by decide +kernel
theorem dX0_charge_110 : decode cX0_charge 110 = .ok (.getfield 98, 3) := by decide +kernel
theorem dX0_charge_113 : decode cX0_charge 113 = .ok (.iload_n 1, 1) := by decide +kernel
theorem dX0_charge_114 : decode cX0_charge 114 = .ok (.iaload, 1) := by decide +kernel
theorem dX0_charge_115 : decode cX0_charge 115 = .ok (.iload_n 2, 1) := by decide +kernel
theorem dX0_charge_116 : decode cX0_charge 116 = .ok (.aload_n 0, 1) := by decide +kernel
theorem dX0_charge_117 : decode cX0_charge 117 = .ok (.getfield 18, 3) := by decide +kernel
theorem dX0_charge_120 : decode cX0_charge 120 = .ok (.getfield 101, 3) := by decide +kernel
theorem dX0_charge_123 : decode cX0_charge 123 = .ok (.iload_n 3, 1) := by decide +kernel
theorem dX0_charge_124 : decode cX0_charge 124 = .ok (.iaload, 1) := by decide +kernel
theorem dX0_charge_125 : decode cX0_charge 125 = .ok (.aload_n 0, 1) := by decide +kernel
theorem dX0_charge_126 : decode cX0_charge 126 = .ok (.getfield 9, 3) := by decide +kernel
theorem dX0_charge_129 : decode cX0_charge 129 = .ok (.iload_n 3, 1) := by decide +kernel
theorem dX0_charge_130 : decode cX0_charge 130 = .ok (.iaload, 1) := by decide +kernel
theorem dX0_charge_131 : decode cX0_charge 131 = .ok (.invokestatic 107, 3) := by decide +kernel
theorem dX0_charge_134 : decode cX0_charge 134 = .ok (.iadd, 1) := by decide +kernel
theorem dX0_charge_135 : decode cX0_charge 135 = .ok (.putfield 48, 3) := by decide +kernel
theorem dX0_charge_138 : decode cX0_charge 138 = .ok (.aload_n 0, 1) := by decide +kernel
theorem dX0_charge_139 : decode cX0_charge 139 = .ok (.getfield 18, 3) := by decide +kernel
theorem dX0_charge_142 : decode cX0_charge 142 = .ok (.getfield 101, 3) := by decide +kernel
theorem dX0_charge_145 : decode cX0_charge 145 = .ok (.iload_n 3, 1) := by decide +kernel
theorem dX0_charge_146 : decode cX0_charge 146 = .ok (.iaload, 1) := by decide +kernel
theorem dX0_charge_147 : decode cX0_charge 147 = .ok (.iconst 2, 1) := by decide +kernel
theorem dX0_charge_148 : decode cX0_charge 148 = .ok (.if_icmp .ne 14, 3) := by decide +kernel
theorem dX0_charge_151 : decode cX0_charge 151 = .ok (.aload_n 0, 1) := by decide +kernel
theorem dX0_charge_152 : decode cX0_charge 152 = .ok (.getfield 9, 3) := by decide +kernel
theorem dX0_charge_155 : decode cX0_charge 155 = .ok (.iload_n 3, 1) := by decide +kernel
theorem dX0_charge_156 : decode cX0_charge 156 = .ok (.dup2, 1) := by decide +kernel
theorem dX0_charge_157 : decode cX0_charge 157 = .ok (.iaload, 1) := by decide +kernel
theorem dX0_charge_158 : decode cX0_charge 158 = .ok (.iload 4, 2) := by decide +kernel
theorem dX0_charge_160 : decode cX0_charge 160 = .ok (.isub, 1) := by decide +kernel
theorem dX0_charge_161 : decode cX0_charge 161 = .ok (.iastore, 1) := by decide +kernel
theorem dX0_charge_162 : decode cX0_charge 162 = .ok (.return_, 1) := by decide +kernel
theorem dX0_holdsAllSteps_0 : decode cX0_holdsAllSteps 0 = .ok (.iconst 0, 1) := by decide +kernel
theorem dX0_holdsAllSteps_1 : decode cX0_holdsAllSteps 1 = .ok (.istore_n 2, 1) := by decide +kernel
theorem dX0_holdsAllSteps_2 : decode cX0_holdsAllSteps 2 = .ok (.iload_n 2, 1) := by decide +kernel
theorem dX0_holdsAllSteps_3 : decode cX0_holdsAllSteps 3 = .ok (.aload_n 0, 1) := by decide +kernel
theorem dX0_holdsAllSteps_4 : decode cX0_holdsAllSteps 4 = .ok (.getfield 18, 3) := by decide +kernel
theorem dX0_holdsAllSteps_7 : decode cX0_holdsAllSteps 7 = .ok (.getfield 109, 3) := by decide +kernel
theorem dX0_holdsAllSteps_10 : decode cX0_holdsAllSteps 10 = .ok (.if_icmp .ge 39, 3) := by decide +kernel
theorem dX0_holdsAllSteps_13 : decode cX0_holdsAllSteps 13 = .ok (.aload_n 0, 1) := by decide +kernel
theorem dX0_holdsAllSteps_14 : decode cX0_holdsAllSteps 14 = .ok (.bipush 75, 2) := by decide +kernel
theorem dX0_holdsAllSteps_16 : decode cX0_holdsAllSteps 16 = .ok (.aload_n 0, 1) := by decide +kernel
theorem dX0_holdsAllSteps_17 : decode cX0_holdsAllSteps 17 = .ok (.getfield 41, 3) := by decide +kernel
theorem dX0_holdsAllSteps_20 : decode cX0_holdsAllSteps 20 = .ok (.imul, 1) := by decide +kernel
theorem dX0_holdsAllSteps_21 : decode cX0_holdsAllSteps 21 = .ok (.bipush 74, 2) := by decide +kernel
theorem dX0_holdsAllSteps_23 : decode cX0_holdsAllSteps 23 = .ok (.iadd, 1) := by decide +kernel
theorem dX0_holdsAllSteps_24 : decode cX0_holdsAllSteps 24 = .ok (.ldc 112, 2) := by decide +kernel
theorem dX0_holdsAllSteps_26 : decode cX0_holdsAllSteps 26 = .ok (.irem, 1) := by decide +kernel
theorem dX0_holdsAllSteps_27 : decode cX0_holdsAllSteps 27 = .ok (.putfield 41, 3) := by decide +kernel
theorem dX0_holdsAllSteps_30 : decode cX0_holdsAllSteps 30 = .ok (.aload_n 0, 1) := by decide +kernel
theorem dX0_holdsAllSteps_31 : decode cX0_holdsAllSteps 31 = .ok (.getfield 41, 3) := by decide +kernel
theorem dX0_holdsAllSteps_34 : decode cX0_holdsAllSteps 34 = .ok (.bipush 100, 2) := by decide +kernel
theorem dX0_holdsAllSteps_36 : decode cX0_holdsAllSteps 36 = .ok (.irem, 1) := by decide +kernel
theorem dX0_holdsAllSteps_37 : decode cX0_holdsAllSteps 37 = .ok (.iload_n 1, 1) := by decide +kernel
theorem dX0_holdsAllSteps_38 : decode cX0_holdsAllSteps 38 = .ok (.if_icmp .lt 5, 3) := by decide +kernel
theorem dX0_holdsAllSteps_41 : decode cX0_holdsAllSteps 41 = .ok (.iconst 0, 1) := by decide +kernel
theorem dX0_holdsAllSteps_42 : decode cX0_holdsAllSteps 42 = .ok (.ireturn, 1) := by decide +kernel
theorem dX0_holdsAllSteps_43 : decode cX0_holdsAllSteps 43 = .ok (.iinc 2 1, 3) := by decide +kernel
theorem dX0_holdsAllSteps_46 : decode cX0_holdsAllSteps 46 = .ok (.goto (-44), 3) := by decide +kernel
theorem dX0_holdsAllSteps_49 : decode cX0_holdsAllSteps 49 = .ok (.iconst 1, 1) := by decide +kernel
theorem dX0_holdsAllSteps_50 : decode cX0_holdsAllSteps 50 = .ok (.ireturn, 1) := by decide +kernel
