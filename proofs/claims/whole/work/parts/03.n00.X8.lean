theorem dX8_init_0 : decode cX8_init 0 = .ok (.aload_n 0, 1) := by decide +kernel
theorem dX8_init_1 : decode cX8_init 1 = .ok (.invokespecial 3, 3) := by decide +kernel
theorem dX8_init_4 : decode cX8_init 4 = .ok (.aload_n 0, 1) := by decide +kernel
theorem dX8_init_5 : decode cX8_init 5 = .ok (.bipush 6, 2) := by decide +kernel
theorem dX8_init_7 : decode cX8_init 7 = .ok (.newarray .int, 2) := by decide +kernel
theorem dX8_init_9 : decode cX8_init 9 = .ok (.putfield 9, 3) := by decide +kernel
theorem dX8_init_12 : decode cX8_init 12 = .ok (.aload_n 0, 1) := by decide +kernel
theorem dX8_init_13 : decode cX8_init 13 = .ok (.iconst 5, 1) := by decide +kernel
theorem dX8_init_14 : decode cX8_init 14 = .ok (.newarray .int, 2) := by decide +kernel
theorem dX8_init_16 : decode cX8_init 16 = .ok (.putfield 15, 3) := by decide +kernel
theorem dX8_init_19 : decode cX8_init 19 = .ok (.aload_n 0, 1) := by decide +kernel
theorem dX8_init_20 : decode cX8_init 20 = .ok (.iconst 5, 1) := by decide +kernel
theorem dX8_init_21 : decode cX8_init 21 = .ok (.newarray .int, 2) := by decide +kernel
theorem dX8_init_23 : decode cX8_init 23 = .ok (.putfield 18, 3) := by decide +kernel
theorem dX8_init_26 : decode cX8_init 26 = .ok (.return_, 1) := by decide +kernel
theorem dX8_begin_0 : decode cX8_begin 0 = .ok (.aload_n 1, 1) := by decide +kernel
theorem dX8_begin_1 : decode cX8_begin 1 = .ok (.getfield 21, 3) := by decide +kernel
theorem dX8_begin_4 : decode cX8_begin 4 = .ok (.iconst 0, 1) := by decide +kernel
theorem dX8_begin_5 : decode cX8_begin 5 = .ok (.aload_n 0, 1) := by decide +kernel
theorem dX8_begin_6 : decode cX8_begin 6 = .ok (.getfield 9, 3) := by decide +kernel
theorem dX8_begin_9 : decode cX8_begin 9 = .ok (.iconst 0, 1) := by decide +kernel
theorem dX8_begin_10 : decode cX8_begin 10 = .ok (.bipush 6, 2) := by decide +kernel
theorem dX8_begin_12 : decode cX8_begin 12 = .ok (.invokestatic 26, 3) := by decide +kernel
theorem dX8_begin_15 : decode cX8_begin 15 = .ok (.aload_n 1, 1) := by decide +kernel
theorem dX8_begin_16 : decode cX8_begin 16 = .ok (.getfield 32, 3) := by decide +kernel
theorem dX8_begin_19 : decode cX8_begin 19 = .ok (.iconst 0, 1) := by decide +kernel
theorem dX8_begin_20 : decode cX8_begin 20 = .ok (.aload_n 0, 1) := by decide +kernel
theorem dX8_begin_21 : decode cX8_begin 21 = .ok (.getfield 15, 3) := by decide +kernel
theorem dX8_begin_24 : decode cX8_begin 24 = .ok (.iconst 0, 1) := by decide +kernel
theorem dX8_begin_25 : decode cX8_begin 25 = .ok (.iconst 5, 1) := by decide +kernel
theorem dX8_begin_26 : decode cX8_begin 26 = .ok (.invokestatic 26, 3) := by decide +kernel
theorem dX8_begin_29 : decode cX8_begin 29 = .ok (.iconst 0, 1) := by decide +kernel
theorem dX8_begin_30 : decode cX8_begin 30 = .ok (.istore_n 2, 1) := by decide +kernel
theorem dX8_begin_31 : decode cX8_begin 31 = .ok (.iload_n 2, 1) := by decide +kernel
theorem dX8_begin_32 : decode cX8_begin 32 = .ok (.iconst 5, 1) := by decide +kernel
theorem dX8_begin_33 : decode cX8_begin 33 = .ok (.if_icmp .ge 16, 3) := by decide +kernel
theorem dX8_begin_36 : decode cX8_begin 36 = .ok (.aload_n 0, 1) := by decide +kernel
theorem dX8_begin_37 : decode cX8_begin 37 = .ok (.getfield 18, 3) := by decide +kernel
theorem dX8_begin_40 : decode cX8_begin 40 = .ok (.iload_n 2, 1) := by decide +kernel
theorem dX8_begin_41 : decode cX8_begin 41 = .ok (.iconst 0, 1) := by decide +kernel
theorem dX8_begin_42 : decode cX8_begin 42 = .ok (.iastore, 1) := by decide +kernel
theorem dX8_begin_43 : decode cX8_begin 43 = .ok (.iinc 2 1, 3) := by decide +kernel
theorem dX8_begin_46 : decode cX8_begin 46 = .ok (.goto (-15), 3) := by decide +kernel
theorem dX8_begin_49 : decode cX8_begin 49 = .ok (.aload_n 0, 1) := by decide +kernel
theorem dX8_begin_50 : decode cX8_begin 50 = .ok (.iconst 0, 1) := by decide +kernel
theorem dX8_begin_51 : decode cX8_begin 51 = .ok (.putfield 35, 3) := by decide +kernel
theorem dX8_begin_54 : decode cX8_begin 54 = .ok (.aload_n 0, 1) := by decide +kernel
theorem dX8_begin_55 : decode cX8_begin 55 = .ok (.iconst 0, 1) := by decide +kernel
theorem dX8_begin_56 : decode cX8_begin 56 = .ok (.putfield 39, 3) := by decide +kernel
theorem dX8_begin_59 : decode cX8_begin 59 = .ok (.aload_n 0, 1) := by decide +kernel
theorem dX8_begin_60 : decode cX8_begin 60 = .ok (.iconst 0, 1) := by decide +kernel
theorem dX8_begin_61 : decode cX8_begin 61 = .ok (.putfield 43, 3) := by decide +kernel
theorem dX8_begin_64 : decode cX8_begin 64 = .ok (.return_, 1) := by decide +kernel
theorem dX8_copyOf_0 : decode cX8_copyOf 0 = .ok (.aload_n 1, 1) := by decide +kernel
theorem dX8_copyOf_1 : decode cX8_copyOf 1 = .ok (.getfield 9, 3) := by decide +kernel
theorem dX8_copyOf_4 : decode cX8_copyOf 4 = .ok (.iconst 0, 1) := by decide +kernel
theorem dX8_copyOf_5 : decode cX8_copyOf 5 = .ok (.aload_n 0, 1) := by decide +kernel
theorem dX8_copyOf_6 : decode cX8_copyOf 6 = .ok (.getfield 9, 3) := by decide +kernel
theorem dX8_copyOf_9 : decode cX8_copyOf 9 = .ok (.iconst 0, 1) := by decide +kernel
theorem dX8_copyOf_10 : decode cX8_copyOf 10 = .ok (.bipush 6, 2) := by decide +kernel
theorem dX8_copyOf_12 : decode cX8_copyOf 12 = .ok (.invokestatic 26, 3) := by decide +kernel
theorem dX8_copyOf_15 : decode cX8_copyOf 15 = .ok (.aload_n 1, 1) := by decide +kernel
theorem dX8_copyOf_16 : decode cX8_copyOf 16 = .ok (.getfield 15, 3) := by decide +kernel
theorem dX8_copyOf_19 : decode cX8_copyOf 19 = .ok (.iconst 0, 1) := by decide +kernel
theorem dX8_copyOf_20 : decode cX8_copyOf 20 = .ok (.aload_n 0, 1) := by decide +kernel
theorem dX8_copyOf_21 : decode cX8_copyOf 21 = .ok (.getfield 15, 3) := by decide +kernel
theorem dX8_copyOf_24 : decode cX8_copyOf 24 = .ok (.iconst 0, 1) := by decide +kernel
theorem dX8_copyOf_25 : decode cX8_copyOf 25 = .ok (.iconst 5, 1) := by decide +kernel
theorem dX8_copyOf_26 : decode cX8_copyOf 26 = .ok (.invokestatic 26, 3) := by decide +kernel
theorem dX8_copyOf_29 : decode cX8_copyOf 29 = .ok (.aload_n 1, 1) := by decide +kernel
theorem dX8_copyOf_30 : decode cX8_copyOf 30 = .ok (.getfield 18, 3) := by decide +kernel
theorem dX8_copyOf_33 : decode cX8_copyOf 33 = .ok (.iconst 0, 1) := by decide +kernel
theorem dX8_copyOf_34 : decode cX8_copyOf 34 = .ok (.aload_n 0, 1) := by decide +kernel
theorem dX8_copyOf_35 : decode cX8_copyOf 35 = .ok (.getfield 18, 3) := by decide +kernel
theorem dX8_copyOf_38 : decode cX8_copyOf 38 = .ok (.iconst 0, 1) := by decide +kernel
theorem dX8_copyOf_39 : decode cX8_copyOf 39 = .ok (.iconst 5, 1) := by decide +kernel
theorem dX8_copyOf_40 : decode cX8_copyOf 40 = .ok (.invokestatic 26, 3) := by decide +kernel
theorem dX8_copyOf_43 : decode cX8_copyOf 43 = .ok (.aload_n 0, 1) := by decide +kernel
theorem dX8_copyOf_44 : decode cX8_copyOf 44 = .ok (.aload_n 1, 1) := by decide +kernel
theorem dX8_copyOf_45 : decode cX8_copyOf 45 = .ok (.getfield 35, 3) := by decide +kernel
theorem dX8_copyOf_48 : decode cX8_copyOf 48 = .ok (.putfield 35, 3) := by decide +kernel
theorem dX8_copyOf_51 : decode cX8_copyOf 51 = .ok (.aload_n 0, 1) := by decide +kernel
theorem dX8_copyOf_52 : decode cX8_copyOf 52 = .ok (.aload_n 1, 1) := by decide +kernel
theorem dX8_copyOf_53 : decode cX8_copyOf 53 = .ok (.getfield 39, 3) := by decide +kernel
theorem dX8_copyOf_56 : decode cX8_copyOf 56 = .ok (.putfield 39, 3) := by decide +kernel
theorem dX8_copyOf_59 : decode cX8_copyOf 59 = .ok (.aload_n 0, 1) := by decide +kernel
theorem dX8_copyOf_60 : decode cX8_copyOf 60 = .ok (.aload_n 1, 1) := by decide +kernel
theorem dX8_copyOf_61 : decode cX8_copyOf 61 = .ok (.getfield 43, 3) := by decide +kernel
theorem dX8_copyOf_64 : decode cX8_copyOf 64 = .ok (.putfield 43, 3) := by decide +kernel
theorem dX8_copyOf_67 : decode cX8_copyOf 67 = .ok (.return_, 1) := by decide +kernel
theorem dX8_isDead_0 : decode cX8_isDead 0 = .ok (.aload_n 0, 1) := by decide +kernel
theorem dX8_isDead_1 : decode cX8_isDead 1 = .ok (.getfield 35, 3) := by decide +kernel
theorem dX8_isDead_4 : decode cX8_isDead 4 = .ok (.iload_n 1, 1) := by decide +kernel
theorem dX8_isDead_5 : decode cX8_isDead 5 = .ok (.ishr, 1) := by decide +kernel
theorem dX8_isDead_6 : decode cX8_isDead 6 = .ok (.iconst 1, 1) := by decide +kernel
theorem dX8_isDead_7 : decode cX8_isDead 7 = .ok (.iand, 1) := by decide +kernel
theorem dX8_isDead_8 : decode cX8_isDead 8 = .ok (.iconst 1, 1) := by decide +kernel
theorem dX8_isDead_9 : decode cX8_isDead 9 = .ok (.if_icmp .ne 7, 3) := by decide +kernel
theorem dX8_isDead_12 : decode cX8_isDead 12 = .ok (.iconst 1, 1) := by decide +kernel
theorem dX8_isDead_13 : decode cX8_isDead 13 = .ok (.goto 4, 3) := by decide +kernel
theorem dX8_isDead_16 : decode cX8_isDead 16 = .ok (.iconst 0, 1) := by decide +kernel
theorem dX8_isDead_17 : decode cX8_isDead 17 = .ok (.ireturn, 1) := by decide +kernel
set_option maxRecDepth 20000 in
theorem ggX8_livingIn_X8_isDead : GoodIn wsX8_livingIn wsX8_isDead := goodIn_r _ [6, 7, 8, 9, 10, 11, 12, 13] (by decide +kernel) (by decide +kernel)
set_option maxRecDepth 20000 in
theorem gX8_livingIn_X8_isDead : GoodIn wsX8_livingIn (wsV RX8 46 RX8 yX8_isDead wsX8_isDead) := goodIn_app (goodIn_of _ (by decide +kernel)) ggX8_livingIn_X8_isDead
theorem dX8_livingIn_0 : decode cX8_livingIn 0 = .ok (.iconst 0, 1) := by decide +kernel
theorem dX8_livingIn_1 : decode cX8_livingIn 1 = .ok (.istore_n 3, 1) := by decide +kernel
theorem dX8_livingIn_2 : decode cX8_livingIn 2 = .ok (.iconst 0, 1) := by decide +kernel
theorem dX8_livingIn_3 : decode cX8_livingIn 3 = .ok (.istore 4, 2) := by decide +kernel
theorem dX8_livingIn_5 : decode cX8_livingIn 5 = .ok (.iload 4, 2) := by decide +kernel
theorem dX8_livingIn_7 : decode cX8_livingIn 7 = .ok (.iload_n 2, 1) := by decide +kernel
theorem dX8_livingIn_8 : decode cX8_livingIn 8 = .ok (.if_icmp .ge 42, 3) := by decide +kernel
theorem dX8_livingIn_11 : decode cX8_livingIn 11 = .ok (.iload 4, 2) := by decide +kernel
theorem dX8_livingIn_13 : decode cX8_livingIn 13 = .ok (.iconst 5, 1) := by decide +kernel
theorem dX8_livingIn_14 : decode cX8_livingIn 14 = .ok (.if_icmp .ge 36, 3) := by decide +kernel
theorem dX8_livingIn_17 : decode cX8_livingIn 17 = .ok (.aload_n 0, 1) := by decide +kernel
theorem dX8_livingIn_18 : decode cX8_livingIn 18 = .ok (.getfield 15, 3) := by decide +kernel
theorem dX8_livingIn_21 : decode cX8_livingIn 21 = .ok (.iload 4, 2) := by decide +kernel
theorem dX8_livingIn_23 : decode cX8_livingIn 23 = .ok (.iaload, 1) := by decide +kernel
theorem dX8_livingIn_24 : decode cX8_livingIn 24 = .ok (.iload_n 1, 1) := by decide +kernel
theorem dX8_livingIn_25 : decode cX8_livingIn 25 = .ok (.if_icmp .ne 19, 3) := by decide +kernel
theorem dX8_livingIn_28 : decode cX8_livingIn 28 = .ok (.aload_n 0, 1) := by decide +kernel
theorem dX8_livingIn_29 : decode cX8_livingIn 29 = .ok (.iload 4, 2) := by decide +kernel
theorem dX8_livingIn_31 : decode cX8_livingIn 31 = .ok (.invokevirtual 46, 3) := by decide +kernel
theorem dX8_livingIn_34 : decode cX8_livingIn 34 = .ok (.ifCond .ne 10, 3) := by decide +kernel
theorem dX8_livingIn_37 : decode cX8_livingIn 37 = .ok (.iload_n 3, 1) := by decide +kernel
theorem dX8_livingIn_38 : decode cX8_livingIn 38 = .ok (.iconst 1, 1) := by decide +kernel
theorem dX8_livingIn_39 : decode cX8_livingIn 39 = .ok (.iload 4, 2) := by decide +kernel
theorem dX8_livingIn_41 : decode cX8_livingIn 41 = .ok (.ishl, 1) := by decide +kernel
theorem dX8_livingIn_42 : decode cX8_livingIn 42 = .ok (.ior, 1) := by decide +kernel
theorem dX8_livingIn_43 : decode cX8_livingIn 43 = .ok (.istore_n 3, 1) := by decide +kernel
theorem dX8_livingIn_44 : decode cX8_livingIn 44 = .ok (.iinc 4 1, 3) := by decide +kernel
theorem dX8_livingIn_47 : decode cX8_livingIn 47 = .ok (.goto (-42), 3) := by decide +kernel
theorem dX8_livingIn_50 : decode cX8_livingIn 50 = .ok (.iload_n 3, 1) := by decide +kernel
theorem dX8_livingIn_51 : decode cX8_livingIn 51 = .ok (.ireturn, 1) := by decide +kernel
