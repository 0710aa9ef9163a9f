theorem dX4_init_0 : decode cX4_init 0 = .ok (.aload_n 0, 1) := by decide +kernel
theorem dX4_init_1 : decode cX4_init 1 = .ok (.invokespecial 3, 3) := by decide +kernel
theorem dX4_init_4 : decode cX4_init 4 = .ok (.aload_n 0, 1) := by decide +kernel
theorem dX4_init_5 : decode cX4_init 5 = .ok (.aload_n 1, 1) := by decide +kernel
theorem dX4_init_6 : decode cX4_init 6 = .ok (.putfield 9, 3) := by decide +kernel
theorem dX4_init_9 : decode cX4_init 9 = .ok (.aload_n 0, 1) := by decide +kernel
theorem dX4_init_10 : decode cX4_init 10 = .ok (.aload_n 2, 1) := by decide +kernel
theorem dX4_init_11 : decode cX4_init 11 = .ok (.putfield 15, 3) := by decide +kernel
theorem dX4_init_14 : decode cX4_init 14 = .ok (.return_, 1) := by decide +kernel
theorem dX4_firstForce_0 : decode cX4_firstForce 0 = .ok (.iload_n 0, 1) := by decide +kernel
theorem dX4_firstForce_1 : decode cX4_firstForce 1 = .ok (.iconst 1, 1) := by decide +kernel
theorem dX4_firstForce_2 : decode cX4_firstForce 2 = .ok (.if_icmp .ne 7, 3) := by decide +kernel
theorem dX4_firstForce_5 : decode cX4_firstForce 5 = .ok (.iconst 5, 1) := by decide +kernel
theorem dX4_firstForce_6 : decode cX4_firstForce 6 = .ok (.goto 25, 3) := by decide +kernel
theorem dX4_firstForce_9 : decode cX4_firstForce 9 = .ok (.iload_n 0, 1) := by decide +kernel
theorem dX4_firstForce_10 : decode cX4_firstForce 10 = .ok (.iconst 2, 1) := by decide +kernel
theorem dX4_firstForce_11 : decode cX4_firstForce 11 = .ok (.if_icmp .ne 8, 3) := by decide +kernel
theorem dX4_firstForce_14 : decode cX4_firstForce 14 = .ok (.bipush 30, 2) := by decide +kernel
theorem dX4_firstForce_16 : decode cX4_firstForce 16 = .ok (.goto 15, 3) := by decide +kernel
theorem dX4_firstForce_19 : decode cX4_firstForce 19 = .ok (.iload_n 0, 1) := by decide +kernel
theorem dX4_firstForce_20 : decode cX4_firstForce 20 = .ok (.iconst 3, 1) := by decide +kernel
theorem dX4_firstForce_21 : decode cX4_firstForce 21 = .ok (.if_icmp .ne 8, 3) := by decide +kernel
theorem dX4_firstForce_24 : decode cX4_firstForce 24 = .ok (.bipush 25, 2) := by decide +kernel
theorem dX4_firstForce_26 : decode cX4_firstForce 26 = .ok (.goto 5, 3) := by decide +kernel
theorem dX4_firstForce_29 : decode cX4_firstForce 29 = .ok (.bipush 20, 2) := by decide +kernel
theorem dX4_firstForce_31 : decode cX4_firstForce 31 = .ok (.ireturn, 1) := by decide +kernel
theorem dX4_holdBy_0 : decode cX4_holdBy 0 = .ok (.iload_n 0, 1) := by decide +kernel
theorem dX4_holdBy_1 : decode cX4_holdBy 1 = .ok (.tableswitch 58 1 3 #[27, 36, 46], 27) := by decide +kernel
theorem dX4_holdBy_28 : decode cX4_holdBy 28 = .ok (.iconst 0, 1) := by decide +kernel
theorem dX4_holdBy_29 : decode cX4_holdBy 29 = .ok (.iload_n 1, 1) := by decide +kernel
theorem dX4_holdBy_30 : decode cX4_holdBy 30 = .ok (.bipush 20, 2) := by decide +kernel
theorem dX4_holdBy_32 : decode cX4_holdBy 32 = .ok (.isub, 1) := by decide +kernel
theorem dX4_holdBy_33 : decode cX4_holdBy 33 = .ok (.invokestatic 19, 3) := by decide +kernel
theorem dX4_holdBy_36 : decode cX4_holdBy 36 = .ok (.ireturn, 1) := by decide +kernel
theorem dX4_holdBy_37 : decode cX4_holdBy 37 = .ok (.bipush 100, 2) := by decide +kernel
theorem dX4_holdBy_39 : decode cX4_holdBy 39 = .ok (.iload_n 1, 1) := by decide +kernel
theorem dX4_holdBy_40 : decode cX4_holdBy 40 = .ok (.bipush 20, 2) := by decide +kernel
theorem dX4_holdBy_42 : decode cX4_holdBy 42 = .ok (.iadd, 1) := by decide +kernel
theorem dX4_holdBy_43 : decode cX4_holdBy 43 = .ok (.invokestatic 25, 3) := by decide +kernel
theorem dX4_holdBy_46 : decode cX4_holdBy 46 = .ok (.ireturn, 1) := by decide +kernel
theorem dX4_holdBy_47 : decode cX4_holdBy 47 = .ok (.iload_n 2, 1) := by decide +kernel
theorem dX4_holdBy_48 : decode cX4_holdBy 48 = .ok (.ifCond .eq 9, 3) := by decide +kernel
theorem dX4_holdBy_51 : decode cX4_holdBy 51 = .ok (.iload_n 1, 1) := by decide +kernel
theorem dX4_holdBy_52 : decode cX4_holdBy 52 = .ok (.iconst 2, 1) := by decide +kernel
theorem dX4_holdBy_53 : decode cX4_holdBy 53 = .ok (.idiv, 1) := by decide +kernel
theorem dX4_holdBy_54 : decode cX4_holdBy 54 = .ok (.goto 4, 3) := by decide +kernel
theorem dX4_holdBy_57 : decode cX4_holdBy 57 = .ok (.iload_n 1, 1) := by decide +kernel
theorem dX4_holdBy_58 : decode cX4_holdBy 58 = .ok (.ireturn, 1) := by decide +kernel
theorem dX4_holdBy_59 : decode cX4_holdBy 59 = .ok (.iload_n 1, 1) := by decide +kernel
theorem dX4_holdBy_60 : decode cX4_holdBy 60 = .ok (.ireturn, 1) := by decide +kernel
set_option maxRecDepth 20000 in
theorem ggX4_forceOf_X8_isDead : GoodIn wsX4_forceOf wsX8_isDead := goodIn_r _ [11, 12, 33, 34, 35, 36, 37, 38] (by decide +kernel) (by decide +kernel)
set_option maxRecDepth 20000 in
theorem gX4_forceOf_X8_isDead : GoodIn wsX4_forceOf (wsV RX4 28 RX8 yX8_isDead wsX8_isDead) := goodIn_app (goodIn_of _ (by decide +kernel)) ggX4_forceOf_X8_isDead
set_option maxRecDepth 20000 in
theorem ggX4_forceOf_X4_firstForce : GoodIn wsX4_forceOf wsX4_firstForce := goodIn_r _ [16] (by decide +kernel) (by decide +kernel)
set_option maxRecDepth 20000 in
theorem gX4_forceOf_X4_firstForce : GoodIn wsX4_forceOf (va_wsS RX4 40 yX4_firstForce wsX4_firstForce) := goodIn_app (goodIn_of _ (by decide +kernel)) ggX4_forceOf_X4_firstForce
theorem dX4_forceOf_0 : decode cX4_forceOf 0 = .ok (.aload_n 0, 1) := by decide +kernel
theorem dX4_forceOf_1 : decode cX4_forceOf 1 = .ok (.getfield 15, 3) := by decide +kernel
theorem dX4_forceOf_4 : decode cX4_forceOf 4 = .ok (.iload_n 1, 1) := by decide +kernel
theorem dX4_forceOf_5 : decode cX4_forceOf 5 = .ok (.invokevirtual 28, 3) := by decide +kernel
theorem dX4_forceOf_8 : decode cX4_forceOf 8 = .ok (.ifCond .eq 7, 3) := by decide +kernel
theorem dX4_forceOf_11 : decode cX4_forceOf 11 = .ok (.iconst 0, 1) := by decide +kernel
theorem dX4_forceOf_12 : decode cX4_forceOf 12 = .ok (.goto 29, 3) := by decide +kernel
theorem dX4_forceOf_15 : decode cX4_forceOf 15 = .ok (.iconst 0, 1) := by decide +kernel
theorem dX4_forceOf_16 : decode cX4_forceOf 16 = .ok (.aload_n 0, 1) := by decide +kernel
theorem dX4_forceOf_17 : decode cX4_forceOf 17 = .ok (.getfield 9, 3) := by decide +kernel
theorem dX4_forceOf_20 : decode cX4_forceOf 20 = .ok (.getfield 34, 3) := by decide +kernel
theorem dX4_forceOf_23 : decode cX4_forceOf 23 = .ok (.iload_n 1, 1) := by decide +kernel
theorem dX4_forceOf_24 : decode cX4_forceOf 24 = .ok (.iaload, 1) := by decide +kernel
theorem dX4_forceOf_25 : decode cX4_forceOf 25 = .ok (.invokestatic 40, 3) := by decide +kernel
theorem dX4_forceOf_28 : decode cX4_forceOf 28 = .ok (.aload_n 0, 1) := by decide +kernel
theorem dX4_forceOf_29 : decode cX4_forceOf 29 = .ok (.getfield 15, 3) := by decide +kernel
theorem dX4_forceOf_32 : decode cX4_forceOf 32 = .ok (.getfield 44, 3) := by decide +kernel
theorem dX4_forceOf_35 : decode cX4_forceOf 35 = .ok (.iload_n 1, 1) := by decide +kernel
theorem dX4_forceOf_36 : decode cX4_forceOf 36 = .ok (.iaload, 1) := by decide +kernel
theorem dX4_forceOf_37 : decode cX4_forceOf 37 = .ok (.isub, 1) := by decide +kernel
theorem dX4_forceOf_38 : decode cX4_forceOf 38 = .ok (.invokestatic 19, 3) := by decide +kernel
theorem dX4_forceOf_41 : decode cX4_forceOf 41 = .ok (.ireturn, 1) := by decide +kernel
set_option maxRecDepth 20000 in
theorem ggX4_holdOf_X4_holdBy : GoodIn wsX4_holdOf wsX4_holdBy := goodIn_r _ [6, 7, 8, 9, 10, 11, 12, 13] (by decide +kernel) (by decide +kernel)
set_option maxRecDepth 20000 in
theorem gX4_holdOf_X4_holdBy : GoodIn wsX4_holdOf (va_wsS RX4 54 yX4_holdBy wsX4_holdBy) := goodIn_app (goodIn_of _ (by decide +kernel)) ggX4_holdOf_X4_holdBy
theorem dX4_holdOf_0 : decode cX4_holdOf 0 = .ok (.aload_n 0, 1) := by decide +kernel
theorem dX4_holdOf_1 : decode cX4_holdOf 1 = .ok (.getfield 9, 3) := by decide +kernel
theorem dX4_holdOf_4 : decode cX4_holdOf 4 = .ok (.getfield 34, 3) := by decide +kernel
theorem dX4_holdOf_7 : decode cX4_holdOf 7 = .ok (.iload_n 1, 1) := by decide +kernel
theorem dX4_holdOf_8 : decode cX4_holdOf 8 = .ok (.iaload, 1) := by decide +kernel
theorem dX4_holdOf_9 : decode cX4_holdOf 9 = .ok (.aload_n 0, 1) := by decide +kernel
theorem dX4_holdOf_10 : decode cX4_holdOf 10 = .ok (.getfield 9, 3) := by decide +kernel
theorem dX4_holdOf_13 : decode cX4_holdOf 13 = .ok (.getfield 47, 3) := by decide +kernel
theorem dX4_holdOf_16 : decode cX4_holdOf 16 = .ok (.iload_n 1, 1) := by decide +kernel
theorem dX4_holdOf_17 : decode cX4_holdOf 17 = .ok (.iaload, 1) := by decide +kernel
theorem dX4_holdOf_18 : decode cX4_holdOf 18 = .ok (.aload_n 0, 1) := by decide +kernel
theorem dX4_holdOf_19 : decode cX4_holdOf 19 = .ok (.getfield 15, 3) := by decide +kernel
theorem dX4_holdOf_22 : decode cX4_holdOf 22 = .ok (.getfield 50, 3) := by decide +kernel
theorem dX4_holdOf_25 : decode cX4_holdOf 25 = .ok (.invokestatic 54, 3) := by decide +kernel
theorem dX4_holdOf_28 : decode cX4_holdOf 28 = .ok (.ireturn, 1) := by decide +kernel
theorem dX4_foeHarm_0 : decode cX4_foeHarm 0 = .ok (.iload_n 2, 1) := by decide +kernel
theorem dX4_foeHarm_1 : decode cX4_foeHarm 1 = .ok (.tableswitch 71 1 3 #[27, 39, 52], 27) := by decide +kernel
theorem dX4_foeHarm_28 : decode cX4_foeHarm 28 = .ok (.iload_n 0, 1) := by decide +kernel
theorem dX4_foeHarm_29 : decode cX4_foeHarm 29 = .ok (.iconst 2, 1) := by decide +kernel
theorem dX4_foeHarm_30 : decode cX4_foeHarm 30 = .ok (.if_icmp .ne 8, 3) := by decide +kernel
theorem dX4_foeHarm_33 : decode cX4_foeHarm 33 = .ok (.bipush 10, 2) := by decide +kernel
theorem dX4_foeHarm_35 : decode cX4_foeHarm 35 = .ok (.goto 4, 3) := by decide +kernel
theorem dX4_foeHarm_38 : decode cX4_foeHarm 38 = .ok (.iconst 0, 1) := by decide +kernel
theorem dX4_foeHarm_39 : decode cX4_foeHarm 39 = .ok (.ireturn, 1) := by decide +kernel
theorem dX4_foeHarm_40 : decode cX4_foeHarm 40 = .ok (.iload_n 1, 1) := by decide +kernel
theorem dX4_foeHarm_41 : decode cX4_foeHarm 41 = .ok (.iload_n 3, 1) := by decide +kernel
theorem dX4_foeHarm_42 : decode cX4_foeHarm 42 = .ok (.if_icmp .le 7, 3) := by decide +kernel
theorem dX4_foeHarm_45 : decode cX4_foeHarm 45 = .ok (.iload_n 3, 1) := by decide +kernel
theorem dX4_foeHarm_46 : decode cX4_foeHarm 46 = .ok (.goto 6, 3) := by decide +kernel
theorem dX4_foeHarm_49 : decode cX4_foeHarm 49 = .ok (.iload_n 1, 1) := by decide +kernel
theorem dX4_foeHarm_50 : decode cX4_foeHarm 50 = .ok (.iconst 2, 1) := by decide +kernel
theorem dX4_foeHarm_51 : decode cX4_foeHarm 51 = .ok (.idiv, 1) := by decide +kernel
theorem dX4_foeHarm_52 : decode cX4_foeHarm 52 = .ok (.ireturn, 1) := by decide +kernel
theorem dX4_foeHarm_53 : decode cX4_foeHarm 53 = .ok (.iload_n 3, 1) := by decide +kernel
theorem dX4_foeHarm_54 : decode cX4_foeHarm 54 = .ok (.bipush 8, 2) := by decide +kernel
theorem dX4_foeHarm_56 : decode cX4_foeHarm 56 = .ok (.if_icmp .ge 8, 3) := by decide +kernel
theorem dX4_foeHarm_59 : decode cX4_foeHarm 59 = .ok (.bipush 15, 2) := by decide +kernel
theorem dX4_foeHarm_61 : decode cX4_foeHarm 61 = .ok (.goto 10, 3) := by decide +kernel
theorem dX4_foeHarm_64 : decode cX4_foeHarm 64 = .ok (.iconst 0, 1) := by decide +kernel
theorem dX4_foeHarm_65 : decode cX4_foeHarm 65 = .ok (.iload_n 1, 1) := by decide +kernel
theorem dX4_foeHarm_66 : decode cX4_foeHarm 66 = .ok (.iload_n 3, 1) := by decide +kernel
theorem dX4_foeHarm_67 : decode cX4_foeHarm 67 = .ok (.isub, 1) := by decide +kernel
theorem dX4_foeHarm_68 : decode cX4_foeHarm 68 = .ok (.invokestatic 19, 3) := by decide +kernel
theorem dX4_foeHarm_71 : decode cX4_foeHarm 71 = .ok (.ireturn, 1) := by decide +kernel
theorem dX4_foeHarm_72 : decode cX4_foeHarm 72 = .ok (.iconst 0, 1) := by decide +kernel
theorem dX4_foeHarm_73 : decode cX4_foeHarm 73 = .ok (.ireturn, 1) := by decide +kernel
theorem dX4_ownHarm_0 : decode cX4_ownHarm 0 = .ok (.iload_n 2, 1) := by decide +kernel
theorem dX4_ownHarm_1 : decode cX4_ownHarm 1 = .ok (.lookupswitch 49 #[(1, 27), (2, 38)], 27) := by decide +kernel
theorem dX4_ownHarm_28 : decode cX4_ownHarm 28 = .ok (.iload_n 0, 1) := by decide +kernel
theorem dX4_ownHarm_29 : decode cX4_ownHarm 29 = .ok (.iconst 2, 1) := by decide +kernel
theorem dX4_ownHarm_30 : decode cX4_ownHarm 30 = .ok (.if_icmp .ne 7, 3) := by decide +kernel
theorem dX4_ownHarm_33 : decode cX4_ownHarm 33 = .ok (.iconst 0, 1) := by decide +kernel
theorem dX4_ownHarm_34 : decode cX4_ownHarm 34 = .ok (.goto 4, 3) := by decide +kernel
theorem dX4_ownHarm_37 : decode cX4_ownHarm 37 = .ok (.iload_n 1, 1) := by decide +kernel
theorem dX4_ownHarm_38 : decode cX4_ownHarm 38 = .ok (.ireturn, 1) := by decide +kernel
theorem dX4_ownHarm_39 : decode cX4_ownHarm 39 = .ok (.iload_n 1, 1) := by decide +kernel
theorem dX4_ownHarm_40 : decode cX4_ownHarm 40 = .ok (.iload_n 3, 1) := by decide +kernel
theorem dX4_ownHarm_41 : decode cX4_ownHarm 41 = .ok (.if_icmp .le 7, 3) := by decide +kernel
theorem dX4_ownHarm_44 : decode cX4_ownHarm 44 = .ok (.iconst 0, 1) := by decide +kernel
theorem dX4_ownHarm_45 : decode cX4_ownHarm 45 = .ok (.goto 4, 3) := by decide +kernel
theorem dX4_ownHarm_48 : decode cX4_ownHarm 48 = .ok (.iload_n 1, 1) := by decide +kernel
theorem dX4_ownHarm_49 : decode cX4_ownHarm 49 = .ok (.ireturn, 1) := by decide +kernel
theorem dX4_ownHarm_50 : decode cX4_ownHarm 50 = .ok (.iconst 0, 1) := by decide +kernel
theorem dX4_ownHarm_51 : decode cX4_ownHarm 51 = .ok (.ireturn, 1) := by decide +kernel
theorem dX4_turningHarm_0 : decode cX4_turningHarm 0 = .ok (.iload_n 0, 1) := by decide +kernel
theorem dX4_turningHarm_1 : decode cX4_turningHarm 1 = .ok (.iconst 2, 1) := by decide +kernel
theorem dX4_turningHarm_2 : decode cX4_turningHarm 2 = .ok (.idiv, 1) := by decide +kernel
theorem dX4_turningHarm_3 : decode cX4_turningHarm 3 = .ok (.ireturn, 1) := by decide +kernel
set_option maxRecDepth 20000 in
theorem ggX4_harmIn_X8_isDead : GoodIn wsX4_harmIn wsX8_isDead := goodIn_r _ [7, 8, 43, 44, 45, 46, 47, 48] (by decide +kernel) (by decide +kernel)
set_option maxRecDepth 20000 in
theorem gX4_harmIn_X8_isDead : GoodIn wsX4_harmIn (wsV RX4 28 RX8 yX8_isDead wsX8_isDead) := goodIn_app (goodIn_of _ (by decide +kernel)) ggX4_harmIn_X8_isDead
set_option maxRecDepth 20000 in
theorem ggX4_harmIn_X4_forceOf : GoodIn wsX4_harmIn wsX4_forceOf := goodIn_r _ [13, 1, 2, 14, 15, 16, 17, 3, 4, 5, 6, 7, 8, 18, 19, 12, 20, 27, 28, 29, 30, 31, 32, 33, 34, 35, 36, 37, 38, 39, 40, 41, 42, 43, 44, 45, 46, 47, 48] (by decide +kernel) (by decide +kernel)
set_option maxRecDepth 20000 in
theorem gX4_harmIn_X4_forceOf : GoodIn wsX4_harmIn (wsV RX4 58 RX4 yX4_forceOf wsX4_forceOf) := goodIn_app (goodIn_of _ (by decide +kernel)) ggX4_harmIn_X4_forceOf
set_option maxRecDepth 20000 in
theorem ggX4_harmIn_X4_ownHarm : GoodIn wsX4_harmIn wsX4_ownHarm := goodIn_r _ [23] (by decide +kernel) (by decide +kernel)
set_option maxRecDepth 20000 in
theorem gX4_harmIn_X4_ownHarm : GoodIn wsX4_harmIn (va_wsS RX4 67 yX4_ownHarm wsX4_ownHarm) := goodIn_app (goodIn_of _ (by decide +kernel)) ggX4_harmIn_X4_ownHarm
set_option maxRecDepth 20000 in
theorem ggX4_harmIn_X4_foeHarm : GoodIn wsX4_harmIn wsX4_foeHarm := goodIn_r _ [26, 14, 15, 16, 17] (by decide +kernel) (by decide +kernel)
set_option maxRecDepth 20000 in
theorem gX4_harmIn_X4_foeHarm : GoodIn wsX4_harmIn (va_wsS RX4 71 yX4_foeHarm wsX4_foeHarm) := goodIn_app (goodIn_of _ (by decide +kernel)) ggX4_harmIn_X4_foeHarm
theorem dX4_harmIn_0 : decode cX4_harmIn 0 = .ok (.aload_n 0, 1) := by decide +kernel
theorem dX4_harmIn_1 : decode cX4_harmIn 1 = .ok (.getfield 15, 3) := by decide +kernel
theorem dX4_harmIn_4 : decode cX4_harmIn 4 = .ok (.iload_n 1, 1) := by decide +kernel
theorem dX4_harmIn_5 : decode cX4_harmIn 5 = .ok (.invokevirtual 28, 3) := by decide +kernel
theorem dX4_harmIn_8 : decode cX4_harmIn 8 = .ok (.ifCond .eq 5, 3) := by decide +kernel
theorem dX4_harmIn_11 : decode cX4_harmIn 11 = .ok (.iconst 0, 1) := by decide +kernel
theorem dX4_harmIn_12 : decode cX4_harmIn 12 = .ok (.ireturn, 1) := by decide +kernel
theorem dX4_harmIn_13 : decode cX4_harmIn 13 = .ok (.aload_n 0, 1) := by decide +kernel
theorem dX4_harmIn_14 : decode cX4_harmIn 14 = .ok (.iload_n 1, 1) := by decide +kernel
theorem dX4_harmIn_15 : decode cX4_harmIn 15 = .ok (.invokevirtual 58, 3) := by decide +kernel
theorem dX4_harmIn_18 : decode cX4_harmIn 18 = .ok (.istore 4, 2) := by decide +kernel
theorem dX4_harmIn_20 : decode cX4_harmIn 20 = .ok (.iload_n 3, 1) := by decide +kernel
theorem dX4_harmIn_21 : decode cX4_harmIn 21 = .ok (.ifCond .eq 38, 3) := by decide +kernel
theorem dX4_harmIn_24 : decode cX4_harmIn 24 = .ok (.aload_n 0, 1) := by decide +kernel
theorem dX4_harmIn_25 : decode cX4_harmIn 25 = .ok (.getfield 9, 3) := by decide +kernel
theorem dX4_harmIn_28 : decode cX4_harmIn 28 = .ok (.getfield 34, 3) := by decide +kernel
theorem dX4_harmIn_31 : decode cX4_harmIn 31 = .ok (.iload_n 1, 1) := by decide +kernel
theorem dX4_harmIn_32 : decode cX4_harmIn 32 = .ok (.iaload, 1) := by decide +kernel
theorem dX4_harmIn_33 : decode cX4_harmIn 33 = .ok (.iload 4, 2) := by decide +kernel
theorem dX4_harmIn_35 : decode cX4_harmIn 35 = .ok (.aload_n 0, 1) := by decide +kernel
theorem dX4_harmIn_36 : decode cX4_harmIn 36 = .ok (.getfield 9, 3) := by decide +kernel
theorem dX4_harmIn_39 : decode cX4_harmIn 39 = .ok (.getfield 61, 3) := by decide +kernel
theorem dX4_harmIn_42 : decode cX4_harmIn 42 = .ok (.iload_n 2, 1) := by decide +kernel
theorem dX4_harmIn_43 : decode cX4_harmIn 43 = .ok (.iaload, 1) := by decide +kernel
theorem dX4_harmIn_44 : decode cX4_harmIn 44 = .ok (.aload_n 0, 1) := by decide +kernel
theorem dX4_harmIn_45 : decode cX4_harmIn 45 = .ok (.getfield 15, 3) := by decide +kernel
theorem dX4_harmIn_48 : decode cX4_harmIn 48 = .ok (.getfield 64, 3) := by decide +kernel
theorem dX4_harmIn_51 : decode cX4_harmIn 51 = .ok (.iload_n 2, 1) := by decide +kernel
theorem dX4_harmIn_52 : decode cX4_harmIn 52 = .ok (.iaload, 1) := by decide +kernel
theorem dX4_harmIn_53 : decode cX4_harmIn 53 = .ok (.invokestatic 67, 3) := by decide +kernel
theorem dX4_harmIn_56 : decode cX4_harmIn 56 = .ok (.goto 35, 3) := by decide +kernel
theorem dX4_harmIn_59 : decode cX4_harmIn 59 = .ok (.aload_n 0, 1) := by decide +kernel
theorem dX4_harmIn_60 : decode cX4_harmIn 60 = .ok (.getfield 9, 3) := by decide +kernel
theorem dX4_harmIn_63 : decode cX4_harmIn 63 = .ok (.getfield 34, 3) := by decide +kernel
theorem dX4_harmIn_66 : decode cX4_harmIn 66 = .ok (.iload_n 1, 1) := by decide +kernel
theorem dX4_harmIn_67 : decode cX4_harmIn 67 = .ok (.iaload, 1) := by decide +kernel
theorem dX4_harmIn_68 : decode cX4_harmIn 68 = .ok (.iload 4, 2) := by decide +kernel
theorem dX4_harmIn_70 : decode cX4_harmIn 70 = .ok (.aload_n 0, 1) := by decide +kernel
theorem dX4_harmIn_71 : decode cX4_harmIn 71 = .ok (.getfield 9, 3) := by decide +kernel
theorem dX4_harmIn_74 : decode cX4_harmIn 74 = .ok (.getfield 61, 3) := by decide +kernel
theorem dX4_harmIn_77 : decode cX4_harmIn 77 = .ok (.iload_n 2, 1) := by decide +kernel
theorem dX4_harmIn_78 : decode cX4_harmIn 78 = .ok (.iaload, 1) := by decide +kernel
theorem dX4_harmIn_79 : decode cX4_harmIn 79 = .ok (.aload_n 0, 1) := by decide +kernel
theorem dX4_harmIn_80 : decode cX4_harmIn 80 = .ok (.getfield 15, 3) := by decide +kernel
theorem dX4_harmIn_83 : decode cX4_harmIn 83 = .ok (.getfield 64, 3) := by decide +kernel
theorem dX4_harmIn_86 : decode cX4_harmIn 86 = .ok (.iload_n 2, 1) := by decide +kernel
theorem dX4_harmIn_87 : decode cX4_harmIn 87 = .ok (.iaload, 1) := by decide +kernel
theorem dX4_harmIn_88 : decode cX4_harmIn 88 = .ok (.invokestatic 71, 3) := by decide +kernel
theorem dX4_harmIn_91 : decode cX4_harmIn 91 = .ok (.ireturn, 1) := by decide +kernel
theorem dX4_power_0 : decode cX4_power 0 = .ok (.lconst 1, 1) := by decide +kernel
theorem dX4_power_1 : decode cX4_power 1 = .ok (.lstore_n 2, 1) := by decide +kernel
theorem dX4_power_2 : decode cX4_power 2 = .ok (.iconst 0, 1) := by decide +kernel
theorem dX4_power_3 : decode cX4_power 3 = .ok (.istore 4, 2) := by decide +kernel
theorem dX4_power_5 : decode cX4_power 5 = .ok (.iload 4, 2) := by decide +kernel
theorem dX4_power_7 : decode cX4_power 7 = .ok (.aload_n 0, 1) := by decide +kernel
theorem dX4_power_8 : decode cX4_power 8 = .ok (.getfield 9, 3) := by decide +kernel
theorem dX4_power_11 : decode cX4_power 11 = .ok (.getfield 74, 3) := by decide +kernel
theorem dX4_power_14 : decode cX4_power 14 = .ok (.if_icmp .ge 14, 3) := by decide +kernel
theorem dX4_power_17 : decode cX4_power 17 = .ok (.lload_n 2, 1) := by decide +kernel
theorem dX4_power_18 : decode cX4_power 18 = .ok (.iload_n 1, 1) := by decide +kernel
theorem dX4_power_19 : decode cX4_power 19 = .ok (.i2l, 1) := by decide +kernel
theorem dX4_power_20 : decode cX4_power 20 = .ok (.lmul, 1) := by decide +kernel
theorem dX4_power_21 : decode cX4_power 21 = .ok (.lstore_n 2, 1) := by decide +kernel
theorem dX4_power_22 : decode cX4_power 22 = .ok (.iinc 4 1, 3) := by decide +kernel
theorem dX4_power_25 : decode cX4_power 25 = .ok (.goto (-20), 3) := by decide +kernel
theorem dX4_power_28 : decode cX4_power 28 = .ok (.lload_n 2, 1) := by decide +kernel
theorem dX4_power_29 : decode cX4_power 29 = .ok (.lreturn, 1) := by decide +kernel
set_option maxRecDepth 20000 in
theorem ggX4_full_X4_power : GoodIn wsX4_full wsX4_power := goodIn_r _ [5, 6, 7, 8, 9, 10, 11, 12, 13, 14, 15, 16, 17, 18, 19, 20, 21, 22] (by decide +kernel) (by decide +kernel)
set_option maxRecDepth 20000 in
theorem gX4_full_X4_power : GoodIn wsX4_full (wsV RX4 78 RX4 yX4_power wsX4_power) := goodIn_app (goodIn_of _ (by decide +kernel)) ggX4_full_X4_power
theorem dX4_full_0 : decode cX4_full 0 = .ok (.aload_n 0, 1) := by decide +kernel
theorem dX4_full_1 : decode cX4_full 1 = .ok (.bipush 100, 2) := by decide +kernel
theorem dX4_full_3 : decode cX4_full 3 = .ok (.invokevirtual 78, 3) := by decide +kernel
theorem dX4_full_6 : decode cX4_full 6 = .ok (.lreturn, 1) := by decide +kernel
set_option maxRecDepth 20000 in
theorem ggX4_acrossOverFull_X8_isDead : GoodIn wsX4_acrossOverFull wsX8_isDead := goodIn_r _ [6, 7, 30, 31, 32, 33, 34, 35] (by decide +kernel) (by decide +kernel)
set_option maxRecDepth 20000 in
theorem gX4_acrossOverFull_X8_isDead : GoodIn wsX4_acrossOverFull (wsV RX4 28 RX8 yX8_isDead wsX8_isDead) := goodIn_app (goodIn_of _ (by decide +kernel)) ggX4_acrossOverFull_X8_isDead
set_option maxRecDepth 20000 in
theorem ggX4_acrossOverFull_X4_holdOf : GoodIn wsX4_acrossOverFull wsX4_holdOf := goodIn_r _ [12, 13, 1, 14, 15, 11, 16, 17, 18, 19, 20, 21, 22, 23, 28, 29, 36, 37, 38, 39, 40, 41, 42, 43, 44, 45, 46, 47, 48, 49, 30, 31, 32, 33, 34, 35] (by decide +kernel) (by decide +kernel)
set_option maxRecDepth 20000 in
theorem gX4_acrossOverFull_X4_holdOf : GoodIn wsX4_acrossOverFull (wsV RX4 82 RX4 yX4_holdOf wsX4_holdOf) := goodIn_app (goodIn_of _ (by decide +kernel)) ggX4_acrossOverFull_X4_holdOf
set_option maxRecDepth 20000 in
theorem ggX4_acrossOverFull_X4_power : GoodIn wsX4_acrossOverFull wsX4_power := goodIn_r _ [27, 13, 28, 29, 36, 37, 38, 39, 40, 41, 42, 43, 44, 45, 46, 47, 48, 49] (by decide +kernel) (by decide +kernel)
set_option maxRecDepth 20000 in
theorem gX4_acrossOverFull_X4_power : GoodIn wsX4_acrossOverFull (wsV RX4 78 RX4 yX4_power wsX4_power) := goodIn_app (goodIn_of _ (by decide +kernel)) ggX4_acrossOverFull_X4_power
theorem dX4_acrossOverFull_0 : decode cX4_acrossOverFull 0 = .ok (.aload_n 0, 1) := by decide +kernel
theorem dX4_acrossOverFull_1 : decode cX4_acrossOverFull 1 = .ok (.getfield 15, 3) := by decide +kernel
theorem dX4_acrossOverFull_4 : decode cX4_acrossOverFull 4 = .ok (.iload_n 1, 1) := by decide +kernel
theorem dX4_acrossOverFull_5 : decode cX4_acrossOverFull 5 = .ok (.invokevirtual 28, 3) := by decide +kernel
theorem dX4_acrossOverFull_8 : decode cX4_acrossOverFull 8 = .ok (.ifCond .eq 7, 3) := by decide +kernel
theorem dX4_acrossOverFull_11 : decode cX4_acrossOverFull 11 = .ok (.lconst 0, 1) := by decide +kernel
theorem dX4_acrossOverFull_12 : decode cX4_acrossOverFull 12 = .ok (.goto 12, 3) := by decide +kernel
theorem dX4_acrossOverFull_15 : decode cX4_acrossOverFull 15 = .ok (.aload_n 0, 1) := by decide +kernel
theorem dX4_acrossOverFull_16 : decode cX4_acrossOverFull 16 = .ok (.aload_n 0, 1) := by decide +kernel
theorem dX4_acrossOverFull_17 : decode cX4_acrossOverFull 17 = .ok (.iload_n 1, 1) := by decide +kernel
theorem dX4_acrossOverFull_18 : decode cX4_acrossOverFull 18 = .ok (.invokevirtual 82, 3) := by decide +kernel
theorem dX4_acrossOverFull_21 : decode cX4_acrossOverFull 21 = .ok (.invokevirtual 78, 3) := by decide +kernel
theorem dX4_acrossOverFull_24 : decode cX4_acrossOverFull 24 = .ok (.lreturn, 1) := by decide +kernel
set_option maxRecDepth 20000 in
theorem ggX4_meanIn_X4_acrossOverFull : GoodIn wsX4_meanIn wsX4_acrossOverFull := goodIn_r _ [5, 6, 7, 8, 9, 10, 11, 12, 13, 14, 15, 4, 16, 17, 18, 19, 20, 21, 22, 23, 24, 25, 26, 27, 28, 29, 30, 31, 56, 57, 58, 59, 60, 61, 62, 63, 64, 65, 66, 67, 68, 69, 70, 71, 72, 73, 74, 75, 76, 77] (by decide +kernel) (by decide +kernel)
set_option maxRecDepth 20000 in
theorem gX4_meanIn_X4_acrossOverFull : GoodIn wsX4_meanIn (wsV RX4 85 RX4 yX4_acrossOverFull wsX4_acrossOverFull) := goodIn_app (goodIn_of _ (by decide +kernel)) ggX4_meanIn_X4_acrossOverFull
set_option maxRecDepth 20000 in
theorem ggX4_meanIn_X4_full : GoodIn wsX4_meanIn wsX4_full := goodIn_r _ [35, 28, 29, 30, 4, 31, 17, 56, 57, 64, 65, 66, 67, 68, 69, 70, 71, 72, 73, 74, 75, 76, 77] (by decide +kernel) (by decide +kernel)
set_option maxRecDepth 20000 in
theorem gX4_meanIn_X4_full : GoodIn wsX4_meanIn (wsV RX4 88 RX4 yX4_full wsX4_full) := goodIn_app (goodIn_of _ (by decide +kernel)) ggX4_meanIn_X4_full
set_option maxRecDepth 20000 in
theorem ggX4_meanIn_X4_forceOf : GoodIn wsX4_meanIn wsX4_forceOf := goodIn_r _ [39, 6, 17, 21, 22, 23, 24, 7, 8, 9, 10, 11, 12, 40, 41, 4, 42, 56, 57, 64, 65, 66, 67, 68, 69, 70, 71, 72, 73, 74, 75, 76, 77, 58, 59, 60, 61, 62, 63] (by decide +kernel) (by decide +kernel)
set_option maxRecDepth 20000 in
theorem gX4_meanIn_X4_forceOf : GoodIn wsX4_meanIn (wsV RX4 58 RX4 yX4_forceOf wsX4_forceOf) := goodIn_app (goodIn_of _ (by decide +kernel)) ggX4_meanIn_X4_forceOf
set_option maxRecDepth 20000 in
theorem ggX4_meanIn_X4_turningHarm : GoodIn wsX4_meanIn wsX4_turningHarm := goodIn_r _ [45] (by decide +kernel) (by decide +kernel)
set_option maxRecDepth 20000 in
theorem gX4_meanIn_X4_turningHarm : GoodIn wsX4_meanIn (va_wsS RX4 92 yX4_turningHarm wsX4_turningHarm) := goodIn_app (goodIn_of _ (by decide +kernel)) ggX4_meanIn_X4_turningHarm
set_option maxRecDepth 20000 in
theorem ggX4_meanIn_X4_harmIn : GoodIn wsX4_meanIn wsX4_harmIn := goodIn_r _ [49, 6, 17, 7, 8, 9, 10, 11, 12, 36, 37, 38, 4, 39, 21, 22, 23, 24, 40, 41, 42, 50, 51, 52, 53, 54, 55, 56, 57, 64, 65, 66, 67, 68, 69, 70, 71, 72, 73, 74, 75, 76, 77, 58, 59, 60, 61, 62, 63] (by decide +kernel) (by decide +kernel)
set_option maxRecDepth 20000 in
theorem gX4_meanIn_X4_harmIn : GoodIn wsX4_meanIn (wsV RX4 95 RX4 yX4_harmIn wsX4_harmIn) := goodIn_app (goodIn_of _ (by decide +kernel)) ggX4_meanIn_X4_harmIn
theorem dX4_meanIn_0 : decode cX4_meanIn 0 = .ok (.aload_n 0, 1) := by decide +kernel
theorem dX4_meanIn_1 : decode cX4_meanIn 1 = .ok (.iload_n 1, 1) := by decide +kernel
theorem dX4_meanIn_2 : decode cX4_meanIn 2 = .ok (.invokevirtual 85, 3) := by decide +kernel
theorem dX4_meanIn_5 : decode cX4_meanIn 5 = .ok (.lstore 4, 2) := by decide +kernel
theorem dX4_meanIn_7 : decode cX4_meanIn 7 = .ok (.iload_n 3, 1) := by decide +kernel
theorem dX4_meanIn_8 : decode cX4_meanIn 8 = .ok (.ifCond .eq 23, 3) := by decide +kernel
theorem dX4_meanIn_11 : decode cX4_meanIn 11 = .ok (.aload_n 0, 1) := by decide +kernel
theorem dX4_meanIn_12 : decode cX4_meanIn 12 = .ok (.invokevirtual 88, 3) := by decide +kernel
theorem dX4_meanIn_15 : decode cX4_meanIn 15 = .ok (.lload 4, 2) := by decide +kernel
theorem dX4_meanIn_17 : decode cX4_meanIn 17 = .ok (.lsub, 1) := by decide +kernel
theorem dX4_meanIn_18 : decode cX4_meanIn 18 = .ok (.aload_n 0, 1) := by decide +kernel
theorem dX4_meanIn_19 : decode cX4_meanIn 19 = .ok (.iload_n 1, 1) := by decide +kernel
theorem dX4_meanIn_20 : decode cX4_meanIn 20 = .ok (.invokevirtual 58, 3) := by decide +kernel
theorem dX4_meanIn_23 : decode cX4_meanIn 23 = .ok (.invokestatic 92, 3) := by decide +kernel
theorem dX4_meanIn_26 : decode cX4_meanIn 26 = .ok (.i2l, 1) := by decide +kernel
theorem dX4_meanIn_27 : decode cX4_meanIn 27 = .ok (.lmul, 1) := by decide +kernel
theorem dX4_meanIn_28 : decode cX4_meanIn 28 = .ok (.goto 4, 3) := by decide +kernel
theorem dX4_meanIn_31 : decode cX4_meanIn 31 = .ok (.lconst 0, 1) := by decide +kernel
theorem dX4_meanIn_32 : decode cX4_meanIn 32 = .ok (.lstore 6, 2) := by decide +kernel
theorem dX4_meanIn_34 : decode cX4_meanIn 34 = .ok (.lload 4, 2) := by decide +kernel
theorem dX4_meanIn_36 : decode cX4_meanIn 36 = .ok (.aload_n 0, 1) := by decide +kernel
theorem dX4_meanIn_37 : decode cX4_meanIn 37 = .ok (.iload_n 1, 1) := by decide +kernel
theorem dX4_meanIn_38 : decode cX4_meanIn 38 = .ok (.iload_n 2, 1) := by decide +kernel
theorem dX4_meanIn_39 : decode cX4_meanIn 39 = .ok (.iload_n 3, 1) := by decide +kernel
theorem dX4_meanIn_40 : decode cX4_meanIn 40 = .ok (.invokevirtual 95, 3) := by decide +kernel
theorem dX4_meanIn_43 : decode cX4_meanIn 43 = .ok (.i2l, 1) := by decide +kernel
theorem dX4_meanIn_44 : decode cX4_meanIn 44 = .ok (.lmul, 1) := by decide +kernel
theorem dX4_meanIn_45 : decode cX4_meanIn 45 = .ok (.lload 6, 2) := by decide +kernel
theorem dX4_meanIn_47 : decode cX4_meanIn 47 = .ok (.ladd, 1) := by decide +kernel
theorem dX4_meanIn_48 : decode cX4_meanIn 48 = .ok (.lreturn, 1) := by decide +kernel
set_option maxRecDepth 20000 in
theorem ggX4_worthBy_X8_isDead : GoodIn wsX4_worthBy wsX8_isDead := goodIn_r _ [7, 8, 54, 55, 56, 57, 58, 59] (by decide +kernel) (by decide +kernel)
set_option maxRecDepth 20000 in
theorem gX4_worthBy_X8_isDead : GoodIn wsX4_worthBy (wsV RX4 28 RX8 yX8_isDead wsX8_isDead) := goodIn_app (goodIn_of _ (by decide +kernel)) ggX4_worthBy_X8_isDead
set_option maxRecDepth 20000 in
theorem ggX4_worthBy_X4_forceOf : GoodIn wsX4_worthBy wsX4_forceOf := goodIn_r _ [13, 1, 2, 14, 15, 16, 17, 3, 4, 5, 6, 7, 8, 18, 19, 12, 20, 38, 39, 40, 41, 42, 43, 44, 45, 46, 47, 48, 49, 50, 51, 52, 53, 54, 55, 56, 57, 58, 59] (by decide +kernel) (by decide +kernel)
set_option maxRecDepth 20000 in
theorem gX4_worthBy_X4_forceOf : GoodIn wsX4_worthBy (wsV RX4 58 RX4 yX4_forceOf wsX4_forceOf) := goodIn_app (goodIn_of _ (by decide +kernel)) ggX4_worthBy_X4_forceOf
set_option maxRecDepth 20000 in
theorem ggX4_worthBy_X4_power : GoodIn wsX4_worthBy wsX4_power := goodIn_r _ [24, 2, 38, 39, 40, 41, 42, 43, 44, 45, 46, 47, 48, 49, 50, 51, 52, 53] (by decide +kernel) (by decide +kernel)
set_option maxRecDepth 20000 in
theorem gX4_worthBy_X4_power : GoodIn wsX4_worthBy (wsV RX4 78 RX4 yX4_power wsX4_power) := goodIn_app (goodIn_of _ (by decide +kernel)) ggX4_worthBy_X4_power
set_option maxRecDepth 20000 in
theorem ggX4_worthBy_X4_foeHarm : GoodIn wsX4_worthBy wsX4_foeHarm := goodIn_r _ [27, 14, 15, 16, 17] (by decide +kernel) (by decide +kernel)
set_option maxRecDepth 20000 in
theorem gX4_worthBy_X4_foeHarm : GoodIn wsX4_worthBy (va_wsS RX4 71 yX4_foeHarm wsX4_foeHarm) := goodIn_app (goodIn_of _ (by decide +kernel)) ggX4_worthBy_X4_foeHarm
set_option maxRecDepth 20000 in
theorem ggX4_worthBy_X4_ownHarm : GoodIn wsX4_worthBy wsX4_ownHarm := goodIn_r _ [30] (by decide +kernel) (by decide +kernel)
set_option maxRecDepth 20000 in
theorem gX4_worthBy_X4_ownHarm : GoodIn wsX4_worthBy (va_wsS RX4 67 yX4_ownHarm wsX4_ownHarm) := goodIn_app (goodIn_of _ (by decide +kernel)) ggX4_worthBy_X4_ownHarm
set_option maxRecDepth 20000 in
theorem ggX4_worthBy_X4_full : GoodIn wsX4_worthBy wsX4_full := goodIn_r _ [34, 21, 22, 23, 12, 24, 2, 38, 39, 40, 41, 42, 43, 44, 45, 46, 47, 48, 49, 50, 51, 52, 53] (by decide +kernel) (by decide +kernel)
set_option maxRecDepth 20000 in
theorem gX4_worthBy_X4_full : GoodIn wsX4_worthBy (wsV RX4 88 RX4 yX4_full wsX4_full) := goodIn_app (goodIn_of _ (by decide +kernel)) ggX4_worthBy_X4_full
set_option maxRecDepth 20000 in
theorem ggX4_worthBy_X4_turningHarm : GoodIn wsX4_worthBy wsX4_turningHarm := goodIn_r _ [37] (by decide +kernel) (by decide +kernel)
set_option maxRecDepth 20000 in
theorem gX4_worthBy_X4_turningHarm : GoodIn wsX4_worthBy (va_wsS RX4 92 yX4_turningHarm wsX4_turningHarm) := goodIn_app (goodIn_of _ (by decide +kernel)) ggX4_worthBy_X4_turningHarm
theorem dX4_worthBy_0 : decode cX4_worthBy 0 = .ok (.aload_n 0, 1) := by decide +kernel
theorem dX4_worthBy_1 : decode cX4_worthBy 1 = .ok (.getfield 15, 3) := by decide +kernel
theorem dX4_worthBy_4 : decode cX4_worthBy 4 = .ok (.iload_n 1, 1) := by decide +kernel
theorem dX4_worthBy_5 : decode cX4_worthBy 5 = .ok (.invokevirtual 28, 3) := by decide +kernel
theorem dX4_worthBy_8 : decode cX4_worthBy 8 = .ok (.ifCond .eq 5, 3) := by decide +kernel
theorem dX4_worthBy_11 : decode cX4_worthBy 11 = .ok (.lconst 0, 1) := by decide +kernel
theorem dX4_worthBy_12 : decode cX4_worthBy 12 = .ok (.lreturn, 1) := by decide +kernel
theorem dX4_worthBy_13 : decode cX4_worthBy 13 = .ok (.aload_n 0, 1) := by decide +kernel
theorem dX4_worthBy_14 : decode cX4_worthBy 14 = .ok (.getfield 9, 3) := by decide +kernel
theorem dX4_worthBy_17 : decode cX4_worthBy 17 = .ok (.getfield 34, 3) := by decide +kernel
theorem dX4_worthBy_20 : decode cX4_worthBy 20 = .ok (.iload_n 1, 1) := by decide +kernel
theorem dX4_worthBy_21 : decode cX4_worthBy 21 = .ok (.iaload, 1) := by decide +kernel
theorem dX4_worthBy_22 : decode cX4_worthBy 22 = .ok (.istore 5, 2) := by decide +kernel
theorem dX4_worthBy_24 : decode cX4_worthBy 24 = .ok (.aload_n 0, 1) := by decide +kernel
theorem dX4_worthBy_25 : decode cX4_worthBy 25 = .ok (.iload_n 1, 1) := by decide +kernel
theorem dX4_worthBy_26 : decode cX4_worthBy 26 = .ok (.invokevirtual 58, 3) := by decide +kernel
theorem dX4_worthBy_29 : decode cX4_worthBy 29 = .ok (.istore 6, 2) := by decide +kernel
theorem dX4_worthBy_31 : decode cX4_worthBy 31 = .ok (.aload_n 0, 1) := by decide +kernel
theorem dX4_worthBy_32 : decode cX4_worthBy 32 = .ok (.iload 4, 2) := by decide +kernel
theorem dX4_worthBy_34 : decode cX4_worthBy 34 = .ok (.invokevirtual 78, 3) := by decide +kernel
theorem dX4_worthBy_37 : decode cX4_worthBy 37 = .ok (.lstore 7, 2) := by decide +kernel
theorem dX4_worthBy_39 : decode cX4_worthBy 39 = .ok (.iload 5, 2) := by decide +kernel
theorem dX4_worthBy_41 : decode cX4_worthBy 41 = .ok (.iload 6, 2) := by decide +kernel
theorem dX4_worthBy_43 : decode cX4_worthBy 43 = .ok (.iload_n 2, 1) := by decide +kernel
theorem dX4_worthBy_44 : decode cX4_worthBy 44 = .ok (.iload_n 3, 1) := by decide +kernel
theorem dX4_worthBy_45 : decode cX4_worthBy 45 = .ok (.invokestatic 71, 3) := by decide +kernel
theorem dX4_worthBy_48 : decode cX4_worthBy 48 = .ok (.iload 5, 2) := by decide +kernel
theorem dX4_worthBy_50 : decode cX4_worthBy 50 = .ok (.iload 6, 2) := by decide +kernel
theorem dX4_worthBy_52 : decode cX4_worthBy 52 = .ok (.iload_n 2, 1) := by decide +kernel
theorem dX4_worthBy_53 : decode cX4_worthBy 53 = .ok (.iload_n 3, 1) := by decide +kernel
theorem dX4_worthBy_54 : decode cX4_worthBy 54 = .ok (.invokestatic 67, 3) := by decide +kernel
theorem dX4_worthBy_57 : decode cX4_worthBy 57 = .ok (.isub, 1) := by decide +kernel
theorem dX4_worthBy_58 : decode cX4_worthBy 58 = .ok (.istore 9, 2) := by decide +kernel
theorem dX4_worthBy_60 : decode cX4_worthBy 60 = .ok (.lload 7, 2) := by decide +kernel
theorem dX4_worthBy_62 : decode cX4_worthBy 62 = .ok (.iload 9, 2) := by decide +kernel
theorem dX4_worthBy_64 : decode cX4_worthBy 64 = .ok (.i2l, 1) := by decide +kernel
theorem dX4_worthBy_65 : decode cX4_worthBy 65 = .ok (.lmul, 1) := by decide +kernel
theorem dX4_worthBy_66 : decode cX4_worthBy 66 = .ok (.aload_n 0, 1) := by decide +kernel
theorem dX4_worthBy_67 : decode cX4_worthBy 67 = .ok (.invokevirtual 88, 3) := by decide +kernel
theorem dX4_worthBy_70 : decode cX4_worthBy 70 = .ok (.lload 7, 2) := by decide +kernel
theorem dX4_worthBy_72 : decode cX4_worthBy 72 = .ok (.lsub, 1) := by decide +kernel
theorem dX4_worthBy_73 : decode cX4_worthBy 73 = .ok (.iload 6, 2) := by decide +kernel
theorem dX4_worthBy_75 : decode cX4_worthBy 75 = .ok (.invokestatic 92, 3) := by decide +kernel
theorem dX4_worthBy_78 : decode cX4_worthBy 78 = .ok (.i2l, 1) := by decide +kernel
theorem dX4_worthBy_79 : decode cX4_worthBy 79 = .ok (.lmul, 1) := by decide +kernel
theorem dX4_worthBy_80 : decode cX4_worthBy 80 = .ok (.lsub, 1) := by decide +kernel
theorem dX4_worthBy_81 : decode cX4_worthBy 81 = .ok (.lreturn, 1) := by decide +kernel
set_option maxRecDepth 20000 in
theorem ggX4_worthIn_X4_holdOf : GoodIn wsX4_worthIn wsX4_holdOf := goodIn_r _ [7, 1, 2, 8, 9, 6, 10, 11, 12, 13, 14, 15, 16, 17, 52, 53, 54, 55, 56, 57, 58, 59, 60, 61, 62, 63, 64, 65, 66, 67, 68, 69, 70, 71, 72, 73] (by decide +kernel) (by decide +kernel)
set_option maxRecDepth 20000 in
theorem gX4_worthIn_X4_holdOf : GoodIn wsX4_worthIn (wsV RX4 82 RX4 yX4_holdOf wsX4_holdOf) := goodIn_app (goodIn_of _ (by decide +kernel)) ggX4_worthIn_X4_holdOf
set_option maxRecDepth 20000 in
theorem ggX4_worthIn_X4_worthBy : GoodIn wsX4_worthIn wsX4_worthBy := goodIn_r _ [21, 2, 1, 22, 23, 24, 25, 26, 27, 28, 29, 30, 6, 31, 11, 12, 13, 14, 32, 33, 34, 35, 36, 37, 38, 39, 40, 41, 42, 43, 44, 45, 46, 47, 48, 49, 50, 51, 52, 53, 54, 55, 56, 57, 58, 59, 60, 61, 62, 63, 64, 65, 66, 67, 68, 69, 70, 71, 72, 73] (by decide +kernel) (by decide +kernel)
set_option maxRecDepth 20000 in
theorem gX4_worthIn_X4_worthBy : GoodIn wsX4_worthIn (wsV RX4 98 RX4 yX4_worthBy wsX4_worthBy) := goodIn_app (goodIn_of _ (by decide +kernel)) ggX4_worthIn_X4_worthBy
theorem dX4_worthIn_0 : decode cX4_worthIn 0 = .ok (.aload_n 0, 1) := by decide +kernel
theorem dX4_worthIn_1 : decode cX4_worthIn 1 = .ok (.iload_n 1, 1) := by decide +kernel
theorem dX4_worthIn_2 : decode cX4_worthIn 2 = .ok (.aload_n 0, 1) := by decide +kernel
theorem dX4_worthIn_3 : decode cX4_worthIn 3 = .ok (.getfield 9, 3) := by decide +kernel
theorem dX4_worthIn_6 : decode cX4_worthIn 6 = .ok (.getfield 61, 3) := by decide +kernel
theorem dX4_worthIn_9 : decode cX4_worthIn 9 = .ok (.iload_n 2, 1) := by decide +kernel
theorem dX4_worthIn_10 : decode cX4_worthIn 10 = .ok (.iaload, 1) := by decide +kernel
theorem dX4_worthIn_11 : decode cX4_worthIn 11 = .ok (.aload_n 0, 1) := by decide +kernel
theorem dX4_worthIn_12 : decode cX4_worthIn 12 = .ok (.getfield 15, 3) := by decide +kernel
theorem dX4_worthIn_15 : decode cX4_worthIn 15 = .ok (.getfield 64, 3) := by decide +kernel
theorem dX4_worthIn_18 : decode cX4_worthIn 18 = .ok (.iload_n 2, 1) := by decide +kernel
theorem dX4_worthIn_19 : decode cX4_worthIn 19 = .ok (.iaload, 1) := by decide +kernel
theorem dX4_worthIn_20 : decode cX4_worthIn 20 = .ok (.aload_n 0, 1) := by decide +kernel
theorem dX4_worthIn_21 : decode cX4_worthIn 21 = .ok (.iload_n 1, 1) := by decide +kernel
theorem dX4_worthIn_22 : decode cX4_worthIn 22 = .ok (.invokevirtual 82, 3) := by decide +kernel
theorem dX4_worthIn_25 : decode cX4_worthIn 25 = .ok (.invokevirtual 98, 3) := by decide +kernel
theorem dX4_worthIn_28 : decode cX4_worthIn 28 = .ok (.lreturn, 1) := by decide +kernel
set_option maxRecDepth 20000 in
theorem ggX4_worthInOpen_X4_holdOf : GoodIn wsX4_worthInOpen wsX4_holdOf := goodIn_r _ [5, 6, 7, 8, 9, 4, 10, 11, 12, 13, 14, 15, 16, 17, 52, 53, 54, 55, 56, 57, 58, 59, 60, 61, 62, 63, 64, 65, 66, 67, 68, 69, 70, 71, 72, 73] (by decide +kernel) (by decide +kernel)
set_option maxRecDepth 20000 in
theorem gX4_worthInOpen_X4_holdOf : GoodIn wsX4_worthInOpen (wsV RX4 82 RX4 yX4_holdOf wsX4_holdOf) := goodIn_app (goodIn_of _ (by decide +kernel)) ggX4_worthInOpen_X4_holdOf
set_option maxRecDepth 20000 in
theorem ggX4_worthInOpen_X4_worthBy : GoodIn wsX4_worthInOpen wsX4_worthBy := goodIn_r _ [21, 7, 6, 22, 23, 24, 25, 26, 27, 28, 29, 30, 4, 31, 11, 12, 13, 14, 32, 33, 34, 35, 36, 37, 38, 39, 40, 41, 42, 43, 44, 45, 46, 47, 48, 49, 50, 51, 52, 53, 54, 55, 56, 57, 58, 59, 60, 61, 62, 63, 64, 65, 66, 67, 68, 69, 70, 71, 72, 73] (by decide +kernel) (by decide +kernel)
set_option maxRecDepth 20000 in
theorem gX4_worthInOpen_X4_worthBy : GoodIn wsX4_worthInOpen (wsV RX4 98 RX4 yX4_worthBy wsX4_worthBy) := goodIn_app (goodIn_of _ (by decide +kernel)) ggX4_worthInOpen_X4_worthBy
theorem dX4_worthInOpen_0 : decode cX4_worthInOpen 0 = .ok (.aload_n 0, 1) := by decide +kernel
theorem dX4_worthInOpen_1 : decode cX4_worthInOpen 1 = .ok (.iload_n 1, 1) := by decide +kernel
theorem dX4_worthInOpen_2 : decode cX4_worthInOpen 2 = .ok (.iconst 0, 1) := by decide +kernel
theorem dX4_worthInOpen_3 : decode cX4_worthInOpen 3 = .ok (.iconst 0, 1) := by decide +kernel
theorem dX4_worthInOpen_4 : decode cX4_worthInOpen 4 = .ok (.aload_n 0, 1) := by decide +kernel
theorem dX4_worthInOpen_5 : decode cX4_worthInOpen 5 = .ok (.iload_n 1, 1) := by decide +kernel
theorem dX4_worthInOpen_6 : decode cX4_worthInOpen 6 = .ok (.invokevirtual 82, 3) := by decide +kernel
theorem dX4_worthInOpen_9 : decode cX4_worthInOpen 9 = .ok (.invokevirtual 98, 3) := by decide +kernel
theorem dX4_worthInOpen_12 : decode cX4_worthInOpen 12 = .ok (.lreturn, 1) := by decide +kernel
set_option maxRecDepth 20000 in
theorem ggX4_sumOfMeans_X4_meanIn : GoodIn wsX4_sumOfMeans wsX4_meanIn := goodIn_r _ [7, 8, 9, 10, 6, 11, 2, 12, 13, 14, 15, 16, 17, 18, 19, 20, 21, 1, 22, 23, 24, 25, 26, 27, 28, 29, 30, 31, 32, 33, 34, 35, 36, 37, 38, 39, 40, 41, 42, 43, 44, 45, 46, 47, 48, 49, 50, 51, 52, 53, 54, 55, 56, 57, 58, 59, 60, 61, 76, 77, 78, 79, 80, 81, 62, 63, 64, 65, 66, 67, 68, 69, 70, 71, 72, 73, 74, 75] (by decide +kernel) (by decide +kernel)
set_option maxRecDepth 20000 in
theorem gX4_sumOfMeans_X4_meanIn : GoodIn wsX4_sumOfMeans (wsV RX4 108 RX4 yX4_meanIn wsX4_meanIn) := goodIn_app (goodIn_of _ (by decide +kernel)) ggX4_sumOfMeans_X4_meanIn
theorem dX4_sumOfMeans_0 : decode cX4_sumOfMeans 0 = .ok (.lconst 0, 1) := by decide +kernel
theorem dX4_sumOfMeans_1 : decode cX4_sumOfMeans 1 = .ok (.lstore_n 2, 1) := by decide +kernel
theorem dX4_sumOfMeans_2 : decode cX4_sumOfMeans 2 = .ok (.iconst 0, 1) := by decide +kernel
theorem dX4_sumOfMeans_3 : decode cX4_sumOfMeans 3 = .ok (.istore 4, 2) := by decide +kernel
theorem dX4_sumOfMeans_5 : decode cX4_sumOfMeans 5 = .ok (.iload 4, 2) := by decide +kernel
theorem dX4_sumOfMeans_7 : decode cX4_sumOfMeans 7 = .ok (.aload_n 0, 1) := by decide +kernel
theorem dX4_sumOfMeans_8 : decode cX4_sumOfMeans 8 = .ok (.getfield 9, 3) := by decide +kernel
theorem dX4_sumOfMeans_11 : decode cX4_sumOfMeans 11 = .ok (.getfield 102, 3) := by decide +kernel
theorem dX4_sumOfMeans_14 : decode cX4_sumOfMeans 14 = .ok (.if_icmp .ge 29, 3) := by decide +kernel
theorem dX4_sumOfMeans_17 : decode cX4_sumOfMeans 17 = .ok (.lload_n 2, 1) := by decide +kernel
theorem dX4_sumOfMeans_18 : decode cX4_sumOfMeans 18 = .ok (.aload_n 0, 1) := by decide +kernel
theorem dX4_sumOfMeans_19 : decode cX4_sumOfMeans 19 = .ok (.iload 4, 2) := by decide +kernel
theorem dX4_sumOfMeans_21 : decode cX4_sumOfMeans 21 = .ok (.aload_n 0, 1) := by decide +kernel
theorem dX4_sumOfMeans_22 : decode cX4_sumOfMeans 22 = .ok (.getfield 15, 3) := by decide +kernel
theorem dX4_sumOfMeans_25 : decode cX4_sumOfMeans 25 = .ok (.getfield 105, 3) := by decide +kernel
theorem dX4_sumOfMeans_28 : decode cX4_sumOfMeans 28 = .ok (.iload 4, 2) := by decide +kernel
theorem dX4_sumOfMeans_30 : decode cX4_sumOfMeans 30 = .ok (.iaload, 1) := by decide +kernel
theorem dX4_sumOfMeans_31 : decode cX4_sumOfMeans 31 = .ok (.iload_n 1, 1) := by decide +kernel
theorem dX4_sumOfMeans_32 : decode cX4_sumOfMeans 32 = .ok (.invokevirtual 108, 3) := by decide +kernel
theorem dX4_sumOfMeans_35 : decode cX4_sumOfMeans 35 = .ok (.ladd, 1) := by decide +kernel
theorem dX4_sumOfMeans_36 : decode cX4_sumOfMeans 36 = .ok (.lstore_n 2, 1) := by decide +kernel
theorem dX4_sumOfMeans_37 : decode cX4_sumOfMeans 37 = .ok (.iinc 4 1, 3) := by decide +kernel
theorem dX4_sumOfMeans_40 : decode cX4_sumOfMeans 40 = .ok (.goto (-35), 3) := by decide +kernel
theorem dX4_sumOfMeans_43 : decode cX4_sumOfMeans 43 = .ok (.lload_n 2, 1) := by decide +kernel
theorem dX4_sumOfMeans_44 : decode cX4_sumOfMeans 44 = .ok (.lreturn, 1) := by decide +kernel
set_option maxRecDepth 20000 in
theorem ggX4_laneOfMostWorth_X4_worthIn : GoodIn wsX4_laneOfMostWorth wsX4_worthIn := goodIn_r _ [6, 1, 7, 8, 9, 10, 5, 11, 12, 13, 14, 15, 16, 17, 18, 19, 20, 21, 22, 23, 24, 25, 26, 27, 28, 29, 30, 31, 32, 33, 34, 35, 36, 37, 38, 39, 40, 41, 42, 43, 44, 45, 46, 47, 48, 49, 50, 51, 52, 53, 54, 55, 56, 57, 58, 59, 60, 61, 62, 63, 64, 65, 66, 67, 68, 69, 70, 71, 72, 73, 74, 75, 76, 77] (by decide +kernel) (by decide +kernel)
set_option maxRecDepth 20000 in
theorem gX4_laneOfMostWorth_X4_worthIn : GoodIn wsX4_laneOfMostWorth (wsV RX4 112 RX4 yX4_worthIn wsX4_worthIn) := goodIn_app (goodIn_of _ (by decide +kernel)) ggX4_laneOfMostWorth_X4_worthIn
theorem dX4_laneOfMostWorth_0 : decode cX4_laneOfMostWorth 0 = .ok (.iconst 0, 1) := by decide +kernel
theorem dX4_laneOfMostWorth_1 : decode cX4_laneOfMostWorth 1 = .ok (.istore_n 2, 1) := by decide +kernel
theorem dX4_laneOfMostWorth_2 : decode cX4_laneOfMostWorth 2 = .ok (.aload_n 0, 1) := by decide +kernel
theorem dX4_laneOfMostWorth_3 : decode cX4_laneOfMostWorth 3 = .ok (.iload_n 1, 1) := by decide +kernel
theorem dX4_laneOfMostWorth_4 : decode cX4_laneOfMostWorth 4 = .ok (.iconst 0, 1) := by decide +kernel
theorem dX4_laneOfMostWorth_5 : decode cX4_laneOfMostWorth 5 = .ok (.invokevirtual 112, 3) := by decide +kernel
theorem dX4_laneOfMostWorth_8 : decode cX4_laneOfMostWorth 8 = .ok (.lstore_n 3, 1) := by decide +kernel
theorem dX4_laneOfMostWorth_9 : decode cX4_laneOfMostWorth 9 = .ok (.iconst 1, 1) := by decide +kernel
theorem dX4_laneOfMostWorth_10 : decode cX4_laneOfMostWorth 10 = .ok (.istore 5, 2) := by decide +kernel
theorem dX4_laneOfMostWorth_12 : decode cX4_laneOfMostWorth 12 = .ok (.iload 5, 2) := by decide +kernel
theorem dX4_laneOfMostWorth_14 : decode cX4_laneOfMostWorth 14 = .ok (.aload_n 0, 1) := by decide +kernel
theorem dX4_laneOfMostWorth_15 : decode cX4_laneOfMostWorth 15 = .ok (.getfield 9, 3) := by decide +kernel
theorem dX4_laneOfMostWorth_18 : decode cX4_laneOfMostWorth 18 = .ok (.getfield 116, 3) := by decide +kernel
theorem dX4_laneOfMostWorth_21 : decode cX4_laneOfMostWorth 21 = .ok (.if_icmp .ge 31, 3) := by decide +kernel
theorem dX4_laneOfMostWorth_24 : decode cX4_laneOfMostWorth 24 = .ok (.aload_n 0, 1) := by decide +kernel
theorem dX4_laneOfMostWorth_25 : decode cX4_laneOfMostWorth 25 = .ok (.iload_n 1, 1) := by decide +kernel
theorem dX4_laneOfMostWorth_26 : decode cX4_laneOfMostWorth 26 = .ok (.iload 5, 2) := by decide +kernel
theorem dX4_laneOfMostWorth_28 : decode cX4_laneOfMostWorth 28 = .ok (.invokevirtual 112, 3) := by decide +kernel
theorem dX4_laneOfMostWorth_31 : decode cX4_laneOfMostWorth 31 = .ok (.lstore 6, 2) := by decide +kernel
theorem dX4_laneOfMostWorth_33 : decode cX4_laneOfMostWorth 33 = .ok (.lload 6, 2) := by decide +kernel
theorem dX4_laneOfMostWorth_35 : decode cX4_laneOfMostWorth 35 = .ok (.lload_n 3, 1) := by decide +kernel
theorem dX4_laneOfMostWorth_36 : decode cX4_laneOfMostWorth 36 = .ok (.lcmp, 1) := by decide +kernel
theorem dX4_laneOfMostWorth_37 : decode cX4_laneOfMostWorth 37 = .ok (.ifCond .le 9, 3) := by decide +kernel
theorem dX4_laneOfMostWorth_40 : decode cX4_laneOfMostWorth 40 = .ok (.iload 5, 2) := by decide +kernel
theorem dX4_laneOfMostWorth_42 : decode cX4_laneOfMostWorth 42 = .ok (.istore_n 2, 1) := by decide +kernel
theorem dX4_laneOfMostWorth_43 : decode cX4_laneOfMostWorth 43 = .ok (.lload 6, 2) := by decide +kernel
theorem dX4_laneOfMostWorth_45 : decode cX4_laneOfMostWorth 45 = .ok (.lstore_n 3, 1) := by decide +kernel
theorem dX4_laneOfMostWorth_46 : decode cX4_laneOfMostWorth 46 = .ok (.iinc 5 1, 3) := by decide +kernel
theorem dX4_laneOfMostWorth_49 : decode cX4_laneOfMostWorth 49 = .ok (.goto (-37), 3) := by decide +kernel
theorem dX4_laneOfMostWorth_52 : decode cX4_laneOfMostWorth 52 = .ok (.iload_n 2, 1) := by decide +kernel
theorem dX4_laneOfMostWorth_53 : decode cX4_laneOfMostWorth 53 = .ok (.ireturn, 1) := by decide +kernel
set_option maxRecDepth 20000 in
theorem ggX4_beastOfMostOwnHarm_X4_meanIn : GoodIn wsX4_beastOfMostOwnHarm wsX4_meanIn := goodIn_r _ [7, 8, 9, 10, 6, 11, 2, 12, 13, 14, 15, 16, 17, 18, 19, 20, 21, 1, 22, 23, 24, 25, 26, 27, 28, 29, 30, 31, 32, 33, 34, 35, 36, 37, 38, 39, 40, 41, 42, 43, 44, 45, 46, 47, 48, 49, 50, 51, 52, 53, 54, 55, 56, 57, 58, 59, 60, 61, 76, 77, 78, 79, 80, 81, 62, 63, 64, 65, 66, 67, 68, 69, 70, 71, 72, 73, 74, 75] (by decide +kernel) (by decide +kernel)
set_option maxRecDepth 20000 in
theorem gX4_beastOfMostOwnHarm_X4_meanIn : GoodIn wsX4_beastOfMostOwnHarm (wsV RX4 108 RX4 yX4_meanIn wsX4_meanIn) := goodIn_app (goodIn_of _ (by decide +kernel)) ggX4_beastOfMostOwnHarm_X4_meanIn
theorem dX4_beastOfMostOwnHarm_0 : decode cX4_beastOfMostOwnHarm 0 = .ok (.bipush (-2), 2) := by decide +kernel
theorem dX4_beastOfMostOwnHarm_2 : decode cX4_beastOfMostOwnHarm 2 = .ok (.istore_n 1, 1) := by decide +kernel
theorem dX4_beastOfMostOwnHarm_3 : decode cX4_beastOfMostOwnHarm 3 = .ok (.lconst 0, 1) := by decide +kernel
theorem dX4_beastOfMostOwnHarm_4 : decode cX4_beastOfMostOwnHarm 4 = .ok (.lstore_n 2, 1) := by decide +kernel
theorem dX4_beastOfMostOwnHarm_5 : decode cX4_beastOfMostOwnHarm 5 = .ok (.iconst 0, 1) := by decide +kernel
theorem dX4_beastOfMostOwnHarm_6 : decode cX4_beastOfMostOwnHarm 6 = .ok (.istore 4, 2) := by decide +kernel
theorem dX4_beastOfMostOwnHarm_8 : decode cX4_beastOfMostOwnHarm 8 = .ok (.iload 4, 2) := by decide +kernel
theorem dX4_beastOfMostOwnHarm_10 : decode cX4_beastOfMostOwnHarm 10 = .ok (.aload_n 0, 1) := by decide +kernel
theorem dX4_beastOfMostOwnHarm_11 : decode cX4_beastOfMostOwnHarm 11 = .ok (.getfield 9, 3) := by decide +kernel
theorem dX4_beastOfMostOwnHarm_14 : decode cX4_beastOfMostOwnHarm 14 = .ok (.getfield 102, 3) := by decide +kernel
theorem dX4_beastOfMostOwnHarm_17 : decode cX4_beastOfMostOwnHarm 17 = .ok (.if_icmp .ge 41, 3) := by decide +kernel
theorem dX4_beastOfMostOwnHarm_20 : decode cX4_beastOfMostOwnHarm 20 = .ok (.aload_n 0, 1) := by decide +kernel
theorem dX4_beastOfMostOwnHarm_21 : decode cX4_beastOfMostOwnHarm 21 = .ok (.iload 4, 2) := by decide +kernel
theorem dX4_beastOfMostOwnHarm_23 : decode cX4_beastOfMostOwnHarm 23 = .ok (.aload_n 0, 1) := by decide +kernel
theorem dX4_beastOfMostOwnHarm_24 : decode cX4_beastOfMostOwnHarm 24 = .ok (.getfield 15, 3) := by decide +kernel
theorem dX4_beastOfMostOwnHarm_27 : decode cX4_beastOfMostOwnHarm 27 = .ok (.getfield 105, 3) := by decide +kernel
theorem dX4_beastOfMostOwnHarm_30 : decode cX4_beastOfMostOwnHarm 30 = .ok (.iload 4, 2) := by decide +kernel
theorem dX4_beastOfMostOwnHarm_32 : decode cX4_beastOfMostOwnHarm 32 = .ok (.iaload, 1) := by decide +kernel
theorem dX4_beastOfMostOwnHarm_33 : decode cX4_beastOfMostOwnHarm 33 = .ok (.iconst 1, 1) := by decide +kernel
theorem dX4_beastOfMostOwnHarm_34 : decode cX4_beastOfMostOwnHarm 34 = .ok (.invokevirtual 108, 3) := by decide +kernel
theorem dX4_beastOfMostOwnHarm_37 : decode cX4_beastOfMostOwnHarm 37 = .ok (.lstore 5, 2) := by decide +kernel
theorem dX4_beastOfMostOwnHarm_39 : decode cX4_beastOfMostOwnHarm 39 = .ok (.lload 5, 2) := by decide +kernel
theorem dX4_beastOfMostOwnHarm_41 : decode cX4_beastOfMostOwnHarm 41 = .ok (.lload_n 2, 1) := by decide +kernel
theorem dX4_beastOfMostOwnHarm_42 : decode cX4_beastOfMostOwnHarm 42 = .ok (.lcmp, 1) := by decide +kernel
theorem dX4_beastOfMostOwnHarm_43 : decode cX4_beastOfMostOwnHarm 43 = .ok (.ifCond .le 9, 3) := by decide +kernel
theorem dX4_beastOfMostOwnHarm_46 : decode cX4_beastOfMostOwnHarm 46 = .ok (.iload 4, 2) := by decide +kernel
theorem dX4_beastOfMostOwnHarm_48 : decode cX4_beastOfMostOwnHarm 48 = .ok (.istore_n 1, 1) := by decide +kernel
theorem dX4_beastOfMostOwnHarm_49 : decode cX4_beastOfMostOwnHarm 49 = .ok (.lload 5, 2) := by decide +kernel
theorem dX4_beastOfMostOwnHarm_51 : decode cX4_beastOfMostOwnHarm 51 = .ok (.lstore_n 2, 1) := by decide +kernel
theorem dX4_beastOfMostOwnHarm_52 : decode cX4_beastOfMostOwnHarm 52 = .ok (.iinc 4 1, 3) := by decide +kernel
theorem dX4_beastOfMostOwnHarm_55 : decode cX4_beastOfMostOwnHarm 55 = .ok (.goto (-47), 3) := by decide +kernel
theorem dX4_beastOfMostOwnHarm_58 : decode cX4_beastOfMostOwnHarm 58 = .ok (.iload_n 1, 1) := by decide +kernel
theorem dX4_beastOfMostOwnHarm_59 : decode cX4_beastOfMostOwnHarm 59 = .ok (.ireturn, 1) := by decide +kernel
set_option maxRecDepth 20000 in
theorem ggX4_beastBetterDead_X4_worthIn : GoodIn wsX4_beastBetterDead wsX4_worthIn := goodIn_r _ [7, 1, 2, 8, 9, 10, 6, 11, 12, 13, 14, 15, 16, 17, 18, 19, 20, 21, 22, 23, 24, 25, 26, 27, 28, 29, 30, 31, 32, 33, 34, 35, 36, 37, 38, 39, 40, 41, 42, 43, 44, 45, 46, 47, 48, 49, 50, 51, 52, 53, 54, 55, 56, 57, 58, 59, 60, 61, 62, 63, 64, 65, 66, 67, 68, 69, 70, 71, 72, 73, 74, 75, 76, 77] (by decide +kernel) (by decide +kernel)
set_option maxRecDepth 20000 in
theorem gX4_beastBetterDead_X4_worthIn : GoodIn wsX4_beastBetterDead (wsV RX4 112 RX4 yX4_worthIn wsX4_worthIn) := goodIn_app (goodIn_of _ (by decide +kernel)) ggX4_beastBetterDead_X4_worthIn
theorem dX4_beastBetterDead_0 : decode cX4_beastBetterDead 0 = .ok (.bipush (-2), 2) := by decide +kernel
theorem dX4_beastBetterDead_2 : decode cX4_beastBetterDead 2 = .ok (.istore_n 1, 1) := by decide +kernel
theorem dX4_beastBetterDead_3 : decode cX4_beastBetterDead 3 = .ok (.lconst 0, 1) := by decide +kernel
theorem dX4_beastBetterDead_4 : decode cX4_beastBetterDead 4 = .ok (.lstore_n 2, 1) := by decide +kernel
theorem dX4_beastBetterDead_5 : decode cX4_beastBetterDead 5 = .ok (.iconst 0, 1) := by decide +kernel
theorem dX4_beastBetterDead_6 : decode cX4_beastBetterDead 6 = .ok (.istore 4, 2) := by decide +kernel
theorem dX4_beastBetterDead_8 : decode cX4_beastBetterDead 8 = .ok (.iload 4, 2) := by decide +kernel
theorem dX4_beastBetterDead_10 : decode cX4_beastBetterDead 10 = .ok (.aload_n 0, 1) := by decide +kernel
theorem dX4_beastBetterDead_11 : decode cX4_beastBetterDead 11 = .ok (.getfield 9, 3) := by decide +kernel
theorem dX4_beastBetterDead_14 : decode cX4_beastBetterDead 14 = .ok (.getfield 102, 3) := by decide +kernel
theorem dX4_beastBetterDead_17 : decode cX4_beastBetterDead 17 = .ok (.if_icmp .ge 40, 3) := by decide +kernel
theorem dX4_beastBetterDead_20 : decode cX4_beastBetterDead 20 = .ok (.aload_n 0, 1) := by decide +kernel
theorem dX4_beastBetterDead_21 : decode cX4_beastBetterDead 21 = .ok (.iload 4, 2) := by decide +kernel
theorem dX4_beastBetterDead_23 : decode cX4_beastBetterDead 23 = .ok (.aload_n 0, 1) := by decide +kernel
theorem dX4_beastBetterDead_24 : decode cX4_beastBetterDead 24 = .ok (.getfield 15, 3) := by decide +kernel
theorem dX4_beastBetterDead_27 : decode cX4_beastBetterDead 27 = .ok (.getfield 105, 3) := by decide +kernel
theorem dX4_beastBetterDead_30 : decode cX4_beastBetterDead 30 = .ok (.iload 4, 2) := by decide +kernel
theorem dX4_beastBetterDead_32 : decode cX4_beastBetterDead 32 = .ok (.iaload, 1) := by decide +kernel
theorem dX4_beastBetterDead_33 : decode cX4_beastBetterDead 33 = .ok (.invokevirtual 112, 3) := by decide +kernel
theorem dX4_beastBetterDead_36 : decode cX4_beastBetterDead 36 = .ok (.lstore 5, 2) := by decide +kernel
theorem dX4_beastBetterDead_38 : decode cX4_beastBetterDead 38 = .ok (.lload 5, 2) := by decide +kernel
theorem dX4_beastBetterDead_40 : decode cX4_beastBetterDead 40 = .ok (.lload_n 2, 1) := by decide +kernel
theorem dX4_beastBetterDead_41 : decode cX4_beastBetterDead 41 = .ok (.lcmp, 1) := by decide +kernel
theorem dX4_beastBetterDead_42 : decode cX4_beastBetterDead 42 = .ok (.ifCond .ge 9, 3) := by decide +kernel
theorem dX4_beastBetterDead_45 : decode cX4_beastBetterDead 45 = .ok (.iload 4, 2) := by decide +kernel
theorem dX4_beastBetterDead_47 : decode cX4_beastBetterDead 47 = .ok (.istore_n 1, 1) := by decide +kernel
theorem dX4_beastBetterDead_48 : decode cX4_beastBetterDead 48 = .ok (.lload 5, 2) := by decide +kernel
theorem dX4_beastBetterDead_50 : decode cX4_beastBetterDead 50 = .ok (.lstore_n 2, 1) := by decide +kernel
theorem dX4_beastBetterDead_51 : decode cX4_beastBetterDead 51 = .ok (.iinc 4 1, 3) := by decide +kernel
theorem dX4_beastBetterDead_54 : decode cX4_beastBetterDead 54 = .ok (.goto (-46), 3) := by decide +kernel
theorem dX4_beastBetterDead_57 : decode cX4_beastBetterDead 57 = .ok (.iload_n 1, 1) := by decide +kernel
theorem dX4_beastBetterDead_58 : decode cX4_beastBetterDead 58 = .ok (.ireturn, 1) := by decide +kernel
set_option maxRecDepth 20000 in
theorem ggX4_leastMood_X4_holdBy : GoodIn wsX4_leastMood wsX4_holdBy := goodIn_r _ [6, 7, 8, 9, 10, 11, 12, 13] (by decide +kernel) (by decide +kernel)
set_option maxRecDepth 20000 in
theorem gX4_leastMood_X4_holdBy : GoodIn wsX4_leastMood (va_wsS RX4 54 yX4_holdBy wsX4_holdBy) := goodIn_app (goodIn_of _ (by decide +kernel)) ggX4_leastMood_X4_holdBy
set_option maxRecDepth 20000 in
theorem ggX4_leastMood_X4_worthBy : GoodIn wsX4_leastMood wsX4_worthBy := goodIn_r _ [17, 2, 1, 18, 19, 20, 21, 22, 23, 24, 25, 26, 5, 27, 7, 8, 9, 10, 28, 29, 30, 31, 32, 33, 34, 35, 36, 37, 38, 39, 40, 41, 42, 43, 44, 45, 46, 47, 48, 49, 50, 51, 52, 53, 54, 55, 56, 57, 58, 59, 60, 61, 62, 63, 64, 65, 66, 67, 68, 69] (by decide +kernel) (by decide +kernel)
set_option maxRecDepth 20000 in
theorem gX4_leastMood_X4_worthBy : GoodIn wsX4_leastMood (wsV RX4 98 RX4 yX4_worthBy wsX4_worthBy) := goodIn_app (goodIn_of _ (by decide +kernel)) ggX4_leastMood_X4_worthBy
theorem dX4_leastMood_0 : decode cX4_leastMood 0 = .ok (.iconst 0, 1) := by decide +kernel
theorem dX4_leastMood_1 : decode cX4_leastMood 1 = .ok (.istore_n 3, 1) := by decide +kernel
theorem dX4_leastMood_2 : decode cX4_leastMood 2 = .ok (.iload_n 3, 1) := by decide +kernel
theorem dX4_leastMood_3 : decode cX4_leastMood 3 = .ok (.bipush 100, 2) := by decide +kernel
theorem dX4_leastMood_5 : decode cX4_leastMood 5 = .ok (.if_icmp .gt 63, 3) := by decide +kernel
theorem dX4_leastMood_8 : decode cX4_leastMood 8 = .ok (.aload_n 0, 1) := by decide +kernel
theorem dX4_leastMood_9 : decode cX4_leastMood 9 = .ok (.getfield 9, 3) := by decide +kernel
theorem dX4_leastMood_12 : decode cX4_leastMood 12 = .ok (.getfield 34, 3) := by decide +kernel
theorem dX4_leastMood_15 : decode cX4_leastMood 15 = .ok (.iload_n 1, 1) := by decide +kernel
theorem dX4_leastMood_16 : decode cX4_leastMood 16 = .ok (.iaload, 1) := by decide +kernel
theorem dX4_leastMood_17 : decode cX4_leastMood 17 = .ok (.iload_n 3, 1) := by decide +kernel
theorem dX4_leastMood_18 : decode cX4_leastMood 18 = .ok (.aload_n 0, 1) := by decide +kernel
theorem dX4_leastMood_19 : decode cX4_leastMood 19 = .ok (.getfield 15, 3) := by decide +kernel
theorem dX4_leastMood_22 : decode cX4_leastMood 22 = .ok (.getfield 50, 3) := by decide +kernel
theorem dX4_leastMood_25 : decode cX4_leastMood 25 = .ok (.invokestatic 54, 3) := by decide +kernel
theorem dX4_leastMood_28 : decode cX4_leastMood 28 = .ok (.istore 4, 2) := by decide +kernel
theorem dX4_leastMood_30 : decode cX4_leastMood 30 = .ok (.aload_n 0, 1) := by decide +kernel
theorem dX4_leastMood_31 : decode cX4_leastMood 31 = .ok (.iload_n 1, 1) := by decide +kernel
theorem dX4_leastMood_32 : decode cX4_leastMood 32 = .ok (.aload_n 0, 1) := by decide +kernel
theorem dX4_leastMood_33 : decode cX4_leastMood 33 = .ok (.getfield 9, 3) := by decide +kernel
theorem dX4_leastMood_36 : decode cX4_leastMood 36 = .ok (.getfield 61, 3) := by decide +kernel
theorem dX4_leastMood_39 : decode cX4_leastMood 39 = .ok (.iload_n 2, 1) := by decide +kernel
theorem dX4_leastMood_40 : decode cX4_leastMood 40 = .ok (.iaload, 1) := by decide +kernel
theorem dX4_leastMood_41 : decode cX4_leastMood 41 = .ok (.aload_n 0, 1) := by decide +kernel
theorem dX4_leastMood_42 : decode cX4_leastMood 42 = .ok (.getfield 15, 3) := by decide +kernel
theorem dX4_leastMood_45 : decode cX4_leastMood 45 = .ok (.getfield 64, 3) := by decide +kernel
theorem dX4_leastMood_48 : decode cX4_leastMood 48 = .ok (.iload_n 2, 1) := by decide +kernel
theorem dX4_leastMood_49 : decode cX4_leastMood 49 = .ok (.iaload, 1) := by decide +kernel
theorem dX4_leastMood_50 : decode cX4_leastMood 50 = .ok (.iload 4, 2) := by decide +kernel
theorem dX4_leastMood_52 : decode cX4_leastMood 52 = .ok (.invokevirtual 98, 3) := by decide +kernel
theorem dX4_leastMood_55 : decode cX4_leastMood 55 = .ok (.lconst 0, 1) := by decide +kernel
theorem dX4_leastMood_56 : decode cX4_leastMood 56 = .ok (.lcmp, 1) := by decide +kernel
theorem dX4_leastMood_57 : decode cX4_leastMood 57 = .ok (.ifCond .le 5, 3) := by decide +kernel
theorem dX4_leastMood_60 : decode cX4_leastMood 60 = .ok (.iload_n 3, 1) := by decide +kernel
theorem dX4_leastMood_61 : decode cX4_leastMood 61 = .ok (.ireturn, 1) := by decide +kernel
theorem dX4_leastMood_62 : decode cX4_leastMood 62 = .ok (.iinc 3 1, 3) := by decide +kernel
theorem dX4_leastMood_65 : decode cX4_leastMood 65 = .ok (.goto (-63), 3) := by decide +kernel
theorem dX4_leastMood_68 : decode cX4_leastMood 68 = .ok (.bipush (-2), 2) := by decide +kernel
theorem dX4_leastMood_70 : decode cX4_leastMood 70 = .ok (.ireturn, 1) := by decide +kernel
set_option maxRecDepth 20000 in
theorem ggX4_leastWeeks_X4_anyGainsByHorse : GoodIn wsX4_leastWeeks wsX4_anyGainsByHorse := goodIn_r _ [5, 6, 7, 8, 9, 4, 10, 11, 12, 13, 14, 15, 16, 17, 18, 19, 20, 21, 22, 23, 24, 25, 26, 27, 28, 29, 30, 31, 32, 33, 34, 35, 36, 37, 38, 39, 40, 41, 42, 43, 44, 45, 46, 47, 48, 49, 50, 51, 52, 53, 54, 55, 56, 57, 58, 59, 60, 61, 62, 63, 64, 65, 66, 67, 68, 69, 70, 71, 72, 73, 74, 75, 76, 77] (by decide +kernel) (by decide +kernel)
set_option maxRecDepth 20000 in
theorem gX4_leastWeeks_X4_anyGainsByHorse : GoodIn wsX4_leastWeeks (wsV RX4 119 RX4 yX4_anyGainsByHorse wsX4_anyGainsByHorse) := goodIn_app (goodIn_of _ (by decide +kernel)) ggX4_leastWeeks_X4_anyGainsByHorse
theorem dX4_leastWeeks_0 : decode cX4_leastWeeks 0 = .ok (.iconst 0, 1) := by decide +kernel
theorem dX4_leastWeeks_1 : decode cX4_leastWeeks 1 = .ok (.istore_n 1, 1) := by decide +kernel
theorem dX4_leastWeeks_2 : decode cX4_leastWeeks 2 = .ok (.iload_n 1, 1) := by decide +kernel
theorem dX4_leastWeeks_3 : decode cX4_leastWeeks 3 = .ok (.bipush 30, 2) := by decide +kernel
theorem dX4_leastWeeks_5 : decode cX4_leastWeeks 5 = .ok (.if_icmp .gt 19, 3) := by decide +kernel
theorem dX4_leastWeeks_8 : decode cX4_leastWeeks 8 = .ok (.aload_n 0, 1) := by decide +kernel
theorem dX4_leastWeeks_9 : decode cX4_leastWeeks 9 = .ok (.iload_n 1, 1) := by decide +kernel
theorem dX4_leastWeeks_10 : decode cX4_leastWeeks 10 = .ok (.invokevirtual 119, 3) := by decide +kernel
theorem dX4_leastWeeks_13 : decode cX4_leastWeeks 13 = .ok (.ifCond .ne 5, 3) := by decide +kernel
theorem dX4_leastWeeks_16 : decode cX4_leastWeeks 16 = .ok (.iload_n 1, 1) := by decide +kernel
theorem dX4_leastWeeks_17 : decode cX4_leastWeeks 17 = .ok (.ireturn, 1) := by decide +kernel
theorem dX4_leastWeeks_18 : decode cX4_leastWeeks 18 = .ok (.iinc 1 1, 3) := by decide +kernel
theorem dX4_leastWeeks_21 : decode cX4_leastWeeks 21 = .ok (.goto (-19), 3) := by decide +kernel
theorem dX4_leastWeeks_24 : decode cX4_leastWeeks 24 = .ok (.bipush (-2), 2) := by decide +kernel
theorem dX4_leastWeeks_26 : decode cX4_leastWeeks 26 = .ok (.ireturn, 1) := by decide +kernel
set_option maxRecDepth 20000 in
theorem ggX4_anyGainsByHorse_X4_holdOf : GoodIn wsX4_anyGainsByHorse wsX4_holdOf := goodIn_r _ [6, 1, 7, 8, 9, 5, 10, 11, 12, 13, 14, 15, 16, 17, 52, 53, 54, 55, 56, 57, 58, 59, 60, 61, 62, 63, 64, 65, 66, 67, 68, 69, 70, 71, 72, 73] (by decide +kernel) (by decide +kernel)
set_option maxRecDepth 20000 in
theorem gX4_anyGainsByHorse_X4_holdOf : GoodIn wsX4_anyGainsByHorse (wsV RX4 82 RX4 yX4_holdOf wsX4_holdOf) := goodIn_app (goodIn_of _ (by decide +kernel)) ggX4_anyGainsByHorse_X4_holdOf
set_option maxRecDepth 20000 in
theorem ggX4_anyGainsByHorse_X4_worthBy : GoodIn wsX4_anyGainsByHorse wsX4_worthBy := goodIn_r _ [21, 7, 1, 22, 23, 24, 25, 26, 27, 28, 29, 30, 5, 31, 11, 12, 13, 14, 32, 33, 34, 35, 36, 37, 38, 39, 40, 41, 42, 43, 44, 45, 46, 47, 48, 49, 50, 51, 52, 53, 54, 55, 56, 57, 58, 59, 60, 61, 62, 63, 64, 65, 66, 67, 68, 69, 70, 71, 72, 73] (by decide +kernel) (by decide +kernel)
set_option maxRecDepth 20000 in
theorem gX4_anyGainsByHorse_X4_worthBy : GoodIn wsX4_anyGainsByHorse (wsV RX4 98 RX4 yX4_worthBy wsX4_worthBy) := goodIn_app (goodIn_of _ (by decide +kernel)) ggX4_anyGainsByHorse_X4_worthBy
theorem dX4_anyGainsByHorse_0 : decode cX4_anyGainsByHorse 0 = .ok (.iconst 0, 1) := by decide +kernel
theorem dX4_anyGainsByHorse_1 : decode cX4_anyGainsByHorse 1 = .ok (.istore_n 2, 1) := by decide +kernel
theorem dX4_anyGainsByHorse_2 : decode cX4_anyGainsByHorse 2 = .ok (.iload_n 2, 1) := by decide +kernel
theorem dX4_anyGainsByHorse_3 : decode cX4_anyGainsByHorse 3 = .ok (.aload_n 0, 1) := by decide +kernel
theorem dX4_anyGainsByHorse_4 : decode cX4_anyGainsByHorse 4 = .ok (.getfield 9, 3) := by decide +kernel
theorem dX4_anyGainsByHorse_7 : decode cX4_anyGainsByHorse 7 = .ok (.getfield 102, 3) := by decide +kernel
theorem dX4_anyGainsByHorse_10 : decode cX4_anyGainsByHorse 10 = .ok (.if_icmp .ge 28, 3) := by decide +kernel
theorem dX4_anyGainsByHorse_13 : decode cX4_anyGainsByHorse 13 = .ok (.aload_n 0, 1) := by decide +kernel
theorem dX4_anyGainsByHorse_14 : decode cX4_anyGainsByHorse 14 = .ok (.iload_n 2, 1) := by decide +kernel
theorem dX4_anyGainsByHorse_15 : decode cX4_anyGainsByHorse 15 = .ok (.iconst 3, 1) := by decide +kernel
theorem dX4_anyGainsByHorse_16 : decode cX4_anyGainsByHorse 16 = .ok (.iload_n 1, 1) := by decide +kernel
theorem dX4_anyGainsByHorse_17 : decode cX4_anyGainsByHorse 17 = .ok (.aload_n 0, 1) := by decide +kernel
theorem dX4_anyGainsByHorse_18 : decode cX4_anyGainsByHorse 18 = .ok (.iload_n 2, 1) := by decide +kernel
theorem dX4_anyGainsByHorse_19 : decode cX4_anyGainsByHorse 19 = .ok (.invokevirtual 82, 3) := by decide +kernel
theorem dX4_anyGainsByHorse_22 : decode cX4_anyGainsByHorse 22 = .ok (.invokevirtual 98, 3) := by decide +kernel
theorem dX4_anyGainsByHorse_25 : decode cX4_anyGainsByHorse 25 = .ok (.lconst 0, 1) := by decide +kernel
theorem dX4_anyGainsByHorse_26 : decode cX4_anyGainsByHorse 26 = .ok (.lcmp, 1) := by decide +kernel
theorem dX4_anyGainsByHorse_27 : decode cX4_anyGainsByHorse 27 = .ok (.ifCond .le 5, 3) := by decide +kernel
theorem dX4_anyGainsByHorse_30 : decode cX4_anyGainsByHorse 30 = .ok (.iconst 1, 1) := by decide +kernel
theorem dX4_anyGainsByHorse_31 : decode cX4_anyGainsByHorse 31 = .ok (.ireturn, 1) := by decide +kernel
theorem dX4_anyGainsByHorse_32 : decode cX4_anyGainsByHorse 32 = .ok (.iinc 2 1, 3) := by decide +kernel
theorem dX4_anyGainsByHorse_35 : decode cX4_anyGainsByHorse 35 = .ok (.goto (-33), 3) := by decide +kernel
theorem dX4_anyGainsByHorse_38 : decode cX4_anyGainsByHorse 38 = .ok (.iconst 0, 1) := by decide +kernel
theorem dX4_anyGainsByHorse_39 : decode cX4_anyGainsByHorse 39 = .ok (.ireturn, 1) := by decide +kernel
set_option maxRecDepth 20000 in
theorem ggX4_told_X4_full : GoodIn wsX4_told wsX4_full := goodIn_r _ [9, 10, 11, 12, 8, 13, 14, 18, 19, 20, 21, 22, 23, 24, 25, 26, 27, 28, 29, 30, 31, 32, 33] (by decide +kernel) (by decide +kernel)
set_option maxRecDepth 20000 in
theorem gX4_told_X4_full : GoodIn wsX4_told (wsV RX4 88 RX4 yX4_full wsX4_full) := goodIn_app (goodIn_of _ (by decide +kernel)) ggX4_told_X4_full
set_option maxRecDepth 20000 in
theorem ggX4_told_X4_commonDivisor : GoodIn wsX4_told wsX4_commonDivisor := goodIn_r _ [17] (by decide +kernel) (by decide +kernel)
set_option maxRecDepth 20000 in
theorem gX4_told_X4_commonDivisor : GoodIn wsX4_told (va_wsS RX4 126 yX4_commonDivisor wsX4_commonDivisor) := goodIn_app (goodIn_of _ (by decide +kernel)) ggX4_told_X4_commonDivisor
theorem dX4_told_0 : decode cX4_told 0 = .ok (.aload_n 0, 1) := by decide +kernel
theorem dX4_told_1 : decode cX4_told 1 = .ok (.invokevirtual 88, 3) := by decide +kernel
theorem dX4_told_4 : decode cX4_told 4 = .ok (.lstore 4, 2) := by decide +kernel
theorem dX4_told_6 : decode cX4_told 6 = .ok (.lload_n 1, 1) := by decide +kernel
theorem dX4_told_7 : decode cX4_told 7 = .ok (.invokestatic 122, 3) := by decide +kernel
theorem dX4_told_10 : decode cX4_told 10 = .ok (.lload 4, 2) := by decide +kernel
theorem dX4_told_12 : decode cX4_told 12 = .ok (.invokestatic 126, 3) := by decide +kernel
theorem dX4_told_15 : decode cX4_told 15 = .ok (.lstore 6, 2) := by decide +kernel
theorem dX4_told_17 : decode cX4_told 17 = .ok (.iload_n 3, 1) := by decide +kernel
theorem dX4_told_18 : decode cX4_told 18 = .ok (.ifCond .eq 8, 3) := by decide +kernel
theorem dX4_told_21 : decode cX4_told 21 = .ok (.lload 4, 2) := by decide +kernel
theorem dX4_told_23 : decode cX4_told 23 = .ok (.goto 4, 3) := by decide +kernel
theorem dX4_told_26 : decode cX4_told 26 = .ok (.lload_n 1, 1) := by decide +kernel
theorem dX4_told_27 : decode cX4_told 27 = .ok (.lstore 8, 2) := by decide +kernel
theorem dX4_told_29 : decode cX4_told 29 = .ok (.lload 6, 2) := by decide +kernel
theorem dX4_told_31 : decode cX4_told 31 = .ok (.lconst 1, 1) := by decide +kernel
theorem dX4_told_32 : decode cX4_told 32 = .ok (.lcmp, 1) := by decide +kernel
theorem dX4_told_33 : decode cX4_told 33 = .ok (.ifCond .le 11, 3) := by decide +kernel
theorem dX4_told_36 : decode cX4_told 36 = .ok (.lload 8, 2) := by decide +kernel
theorem dX4_told_38 : decode cX4_told 38 = .ok (.lload 6, 2) := by decide +kernel
theorem dX4_told_40 : decode cX4_told 40 = .ok (.ldiv, 1) := by decide +kernel
theorem dX4_told_41 : decode cX4_told 41 = .ok (.goto 5, 3) := by decide +kernel
theorem dX4_told_44 : decode cX4_told 44 = .ok (.lload 8, 2) := by decide +kernel
theorem dX4_told_46 : decode cX4_told 46 = .ok (.lreturn, 1) := by decide +kernel
theorem dX4_commonDivisor_0 : decode cX4_commonDivisor 0 = .ok (.lload_n 0, 1) := by decide +kernel
theorem dX4_commonDivisor_1 : decode cX4_commonDivisor 1 = .ok (.lstore 4, 2) := by decide +kernel
theorem dX4_commonDivisor_3 : decode cX4_commonDivisor 3 = .ok (.lload_n 2, 1) := by decide +kernel
theorem dX4_commonDivisor_4 : decode cX4_commonDivisor 4 = .ok (.lstore 6, 2) := by decide +kernel
theorem dX4_commonDivisor_6 : decode cX4_commonDivisor 6 = .ok (.iconst 0, 1) := by decide +kernel
theorem dX4_commonDivisor_7 : decode cX4_commonDivisor 7 = .ok (.istore 8, 2) := by decide +kernel
theorem dX4_commonDivisor_9 : decode cX4_commonDivisor 9 = .ok (.iload 8, 2) := by decide +kernel
theorem dX4_commonDivisor_11 : decode cX4_commonDivisor 11 = .ok (.sipush 128, 3) := by decide +kernel
theorem dX4_commonDivisor_14 : decode cX4_commonDivisor 14 = .ok (.if_icmp .ge 31, 3) := by decide +kernel
theorem dX4_commonDivisor_17 : decode cX4_commonDivisor 17 = .ok (.lload 6, 2) := by decide +kernel
theorem dX4_commonDivisor_19 : decode cX4_commonDivisor 19 = .ok (.lconst 0, 1) := by decide +kernel
theorem dX4_commonDivisor_20 : decode cX4_commonDivisor 20 = .ok (.lcmp, 1) := by decide +kernel
theorem dX4_commonDivisor_21 : decode cX4_commonDivisor 21 = .ok (.ifCond .eq 24, 3) := by decide +kernel
theorem dX4_commonDivisor_24 : decode cX4_commonDivisor 24 = .ok (.lload 4, 2) := by decide +kernel
theorem dX4_commonDivisor_26 : decode cX4_commonDivisor 26 = .ok (.lload 6, 2) := by decide +kernel
theorem dX4_commonDivisor_28 : decode cX4_commonDivisor 28 = .ok (.lrem, 1) := by decide +kernel
theorem dX4_commonDivisor_29 : decode cX4_commonDivisor 29 = .ok (.lstore 9, 2) := by decide +kernel
theorem dX4_commonDivisor_31 : decode cX4_commonDivisor 31 = .ok (.lload 6, 2) := by decide +kernel
theorem dX4_commonDivisor_33 : decode cX4_commonDivisor 33 = .ok (.lstore 4, 2) := by decide +kernel
theorem dX4_commonDivisor_35 : decode cX4_commonDivisor 35 = .ok (.lload 9, 2) := by decide +kernel
theorem dX4_commonDivisor_37 : decode cX4_commonDivisor 37 = .ok (.lstore 6, 2) := by decide +kernel
theorem dX4_commonDivisor_39 : decode cX4_commonDivisor 39 = .ok (.iinc 8 1, 3) := by decide +kernel
theorem dX4_commonDivisor_42 : decode cX4_commonDivisor 42 = .ok (.goto (-33), 3) := by decide +kernel
theorem dX4_commonDivisor_45 : decode cX4_commonDivisor 45 = .ok (.lload 4, 2) := by decide +kernel
theorem dX4_commonDivisor_47 : decode cX4_commonDivisor 47 = .ok (.lreturn, 1) := by decide +kernel
