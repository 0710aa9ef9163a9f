theorem dX2_init_0 : decode cX2_init 0 = .ok (.aload_n 0, 1) := by decide +kernel
theorem dX2_init_1 : decode cX2_init 1 = .ok (.invokespecial 3, 3) := by decide +kernel
theorem dX2_init_4 : decode cX2_init 4 = .ok (.aload_n 0, 1) := by decide +kernel
theorem dX2_init_5 : decode cX2_init 5 = .ok (.bipush 6, 2) := by decide +kernel
theorem dX2_init_7 : decode cX2_init 7 = .ok (.newarray .int, 2) := by decide +kernel
theorem dX2_init_9 : decode cX2_init 9 = .ok (.putfield 9, 3) := by decide +kernel
theorem dX2_init_12 : decode cX2_init 12 = .ok (.aload_n 0, 1) := by decide +kernel
theorem dX2_init_13 : decode cX2_init 13 = .ok (.bipush 6, 2) := by decide +kernel
theorem dX2_init_15 : decode cX2_init 15 = .ok (.newarray .int, 2) := by decide +kernel
theorem dX2_init_17 : decode cX2_init 17 = .ok (.putfield 15, 3) := by decide +kernel
theorem dX2_init_20 : decode cX2_init 20 = .ok (.aload_n 0, 1) := by decide +kernel
theorem dX2_init_21 : decode cX2_init 21 = .ok (.iconst 5, 1) := by decide +kernel
theorem dX2_init_22 : decode cX2_init 22 = .ok (.newarray .int, 2) := by decide +kernel
theorem dX2_init_24 : decode cX2_init 24 = .ok (.putfield 18, 3) := by decide +kernel
theorem dX2_init_27 : decode cX2_init 27 = .ok (.aload_n 0, 1) := by decide +kernel
theorem dX2_init_28 : decode cX2_init 28 = .ok (.iconst 5, 1) := by decide +kernel
theorem dX2_init_29 : decode cX2_init 29 = .ok (.newarray .int, 2) := by decide +kernel
theorem dX2_init_31 : decode cX2_init 31 = .ok (.putfield 21, 3) := by decide +kernel
theorem dX2_init_34 : decode cX2_init 34 = .ok (.aload_n 0, 1) := by decide +kernel
theorem dX2_init_35 : decode cX2_init 35 = .ok (.iconst 5, 1) := by decide +kernel
theorem dX2_init_36 : decode cX2_init 36 = .ok (.newarray .int, 2) := by decide +kernel
theorem dX2_init_38 : decode cX2_init 38 = .ok (.putfield 24, 3) := by decide +kernel
theorem dX2_init_41 : decode cX2_init 41 = .ok (.aload_n 0, 1) := by decide +kernel
theorem dX2_init_42 : decode cX2_init 42 = .ok (.iconst 5, 1) := by decide +kernel
theorem dX2_init_43 : decode cX2_init 43 = .ok (.newarray .int, 2) := by decide +kernel
theorem dX2_init_45 : decode cX2_init 45 = .ok (.putfield 27, 3) := by decide +kernel
theorem dX2_init_48 : decode cX2_init 48 = .ok (.aload_n 0, 1) := by decide +kernel
theorem dX2_init_49 : decode cX2_init 49 = .ok (.bipush 36, 2) := by decide +kernel
theorem dX2_init_51 : decode cX2_init 51 = .ok (.newarray .int, 2) := by decide +kernel
theorem dX2_init_53 : decode cX2_init 53 = .ok (.putfield 30, 3) := by decide +kernel
theorem dX2_init_56 : decode cX2_init 56 = .ok (.return_, 1) := by decide +kernel
theorem dX2_clear_0 : decode cX2_clear 0 = .ok (.aload_n 0, 1) := by decide +kernel
theorem dX2_clear_1 : decode cX2_clear 1 = .ok (.iconst 0, 1) := by decide +kernel
theorem dX2_clear_2 : decode cX2_clear 2 = .ok (.putfield 33, 3) := by decide +kernel
theorem dX2_clear_5 : decode cX2_clear 5 = .ok (.aload_n 0, 1) := by decide +kernel
theorem dX2_clear_6 : decode cX2_clear 6 = .ok (.iconst 0, 1) := by decide +kernel
theorem dX2_clear_7 : decode cX2_clear 7 = .ok (.putfield 37, 3) := by decide +kernel
theorem dX2_clear_10 : decode cX2_clear 10 = .ok (.aload_n 0, 1) := by decide +kernel
theorem dX2_clear_11 : decode cX2_clear 11 = .ok (.iconst 0, 1) := by decide +kernel
theorem dX2_clear_12 : decode cX2_clear 12 = .ok (.putfield 40, 3) := by decide +kernel
theorem dX2_clear_15 : decode cX2_clear 15 = .ok (.aload_n 0, 1) := by decide +kernel
theorem dX2_clear_16 : decode cX2_clear 16 = .ok (.iconst 0, 1) := by decide +kernel
theorem dX2_clear_17 : decode cX2_clear 17 = .ok (.putfield 43, 3) := by decide +kernel
theorem dX2_clear_20 : decode cX2_clear 20 = .ok (.aload_n 0, 1) := by decide +kernel
theorem dX2_clear_21 : decode cX2_clear 21 = .ok (.iconst 0, 1) := by decide +kernel
theorem dX2_clear_22 : decode cX2_clear 22 = .ok (.putfield 46, 3) := by decide +kernel
theorem dX2_clear_25 : decode cX2_clear 25 = .ok (.aload_n 0, 1) := by decide +kernel
theorem dX2_clear_26 : decode cX2_clear 26 = .ok (.iconst 0, 1) := by decide +kernel
theorem dX2_clear_27 : decode cX2_clear 27 = .ok (.putfield 49, 3) := by decide +kernel
theorem dX2_clear_30 : decode cX2_clear 30 = .ok (.aload_n 0, 1) := by decide +kernel
theorem dX2_clear_31 : decode cX2_clear 31 = .ok (.iconst 0, 1) := by decide +kernel
theorem dX2_clear_32 : decode cX2_clear 32 = .ok (.putfield 52, 3) := by decide +kernel
theorem dX2_clear_35 : decode cX2_clear 35 = .ok (.iconst 0, 1) := by decide +kernel
theorem dX2_clear_36 : decode cX2_clear 36 = .ok (.istore_n 1, 1) := by decide +kernel
theorem dX2_clear_37 : decode cX2_clear 37 = .ok (.iload_n 1, 1) := by decide +kernel
theorem dX2_clear_38 : decode cX2_clear 38 = .ok (.bipush 6, 2) := by decide +kernel
theorem dX2_clear_40 : decode cX2_clear 40 = .ok (.if_icmp .ge 23, 3) := by decide +kernel
theorem dX2_clear_43 : decode cX2_clear 43 = .ok (.aload_n 0, 1) := by decide +kernel
theorem dX2_clear_44 : decode cX2_clear 44 = .ok (.getfield 9, 3) := by decide +kernel
theorem dX2_clear_47 : decode cX2_clear 47 = .ok (.iload_n 1, 1) := by decide +kernel
theorem dX2_clear_48 : decode cX2_clear 48 = .ok (.iconst 0, 1) := by decide +kernel
theorem dX2_clear_49 : decode cX2_clear 49 = .ok (.iastore, 1) := by decide +kernel
theorem dX2_clear_50 : decode cX2_clear 50 = .ok (.aload_n 0, 1) := by decide +kernel
theorem dX2_clear_51 : decode cX2_clear 51 = .ok (.getfield 15, 3) := by decide +kernel
theorem dX2_clear_54 : decode cX2_clear 54 = .ok (.iload_n 1, 1) := by decide +kernel
theorem dX2_clear_55 : decode cX2_clear 55 = .ok (.iconst 0, 1) := by decide +kernel
theorem dX2_clear_56 : decode cX2_clear 56 = .ok (.iastore, 1) := by decide +kernel
theorem dX2_clear_57 : decode cX2_clear 57 = .ok (.iinc 1 1, 3) := by decide +kernel
theorem dX2_clear_60 : decode cX2_clear 60 = .ok (.goto (-23), 3) := by decide +kernel
theorem dX2_clear_63 : decode cX2_clear 63 = .ok (.iconst 0, 1) := by decide +kernel
theorem dX2_clear_64 : decode cX2_clear 64 = .ok (.istore_n 1, 1) := by decide +kernel
theorem dX2_clear_65 : decode cX2_clear 65 = .ok (.iload_n 1, 1) := by decide +kernel
theorem dX2_clear_66 : decode cX2_clear 66 = .ok (.aload_n 0, 1) := by decide +kernel
theorem dX2_clear_67 : decode cX2_clear 67 = .ok (.getfield 30, 3) := by decide +kernel
theorem dX2_clear_70 : decode cX2_clear 70 = .ok (.arraylength, 1) := by decide +kernel
theorem dX2_clear_71 : decode cX2_clear 71 = .ok (.if_icmp .ge 16, 3) := by decide +kernel
theorem dX2_clear_74 : decode cX2_clear 74 = .ok (.aload_n 0, 1) := by decide +kernel
theorem dX2_clear_75 : decode cX2_clear 75 = .ok (.getfield 30, 3) := by decide +kernel
theorem dX2_clear_78 : decode cX2_clear 78 = .ok (.iload_n 1, 1) := by decide +kernel
theorem dX2_clear_79 : decode cX2_clear 79 = .ok (.iconst 0, 1) := by decide +kernel
theorem dX2_clear_80 : decode cX2_clear 80 = .ok (.iastore, 1) := by decide +kernel
theorem dX2_clear_81 : decode cX2_clear 81 = .ok (.iinc 1 1, 3) := by decide +kernel
theorem dX2_clear_84 : decode cX2_clear 84 = .ok (.goto (-19), 3) := by decide +kernel
theorem dX2_clear_87 : decode cX2_clear 87 = .ok (.return_, 1) := by decide +kernel
theorem dX2_copyOf_0 : decode cX2_copyOf 0 = .ok (.aload_n 0, 1) := by decide +kernel
theorem dX2_copyOf_1 : decode cX2_copyOf 1 = .ok (.aload_n 1, 1) := by decide +kernel
theorem dX2_copyOf_2 : decode cX2_copyOf 2 = .ok (.getfield 33, 3) := by decide +kernel
theorem dX2_copyOf_5 : decode cX2_copyOf 5 = .ok (.putfield 33, 3) := by decide +kernel
theorem dX2_copyOf_8 : decode cX2_copyOf 8 = .ok (.aload_n 0, 1) := by decide +kernel
theorem dX2_copyOf_9 : decode cX2_copyOf 9 = .ok (.aload_n 1, 1) := by decide +kernel
theorem dX2_copyOf_10 : decode cX2_copyOf 10 = .ok (.getfield 37, 3) := by decide +kernel
theorem dX2_copyOf_13 : decode cX2_copyOf 13 = .ok (.putfield 37, 3) := by decide +kernel
theorem dX2_copyOf_16 : decode cX2_copyOf 16 = .ok (.aload_n 0, 1) := by decide +kernel
theorem dX2_copyOf_17 : decode cX2_copyOf 17 = .ok (.aload_n 1, 1) := by decide +kernel
theorem dX2_copyOf_18 : decode cX2_copyOf 18 = .ok (.getfield 40, 3) := by decide +kernel
theorem dX2_copyOf_21 : decode cX2_copyOf 21 = .ok (.putfield 40, 3) := by decide +kernel
theorem dX2_copyOf_24 : decode cX2_copyOf 24 = .ok (.aload_n 0, 1) := by decide +kernel
theorem dX2_copyOf_25 : decode cX2_copyOf 25 = .ok (.aload_n 1, 1) := by decide +kernel
theorem dX2_copyOf_26 : decode cX2_copyOf 26 = .ok (.getfield 43, 3) := by decide +kernel
theorem dX2_copyOf_29 : decode cX2_copyOf 29 = .ok (.putfield 43, 3) := by decide +kernel
theorem dX2_copyOf_32 : decode cX2_copyOf 32 = .ok (.aload_n 0, 1) := by decide +kernel
theorem dX2_copyOf_33 : decode cX2_copyOf 33 = .ok (.aload_n 1, 1) := by decide +kernel
theorem dX2_copyOf_34 : decode cX2_copyOf 34 = .ok (.getfield 46, 3) := by decide +kernel
theorem dX2_copyOf_37 : decode cX2_copyOf 37 = .ok (.putfield 46, 3) := by decide +kernel
theorem dX2_copyOf_40 : decode cX2_copyOf 40 = .ok (.aload_n 0, 1) := by decide +kernel
theorem dX2_copyOf_41 : decode cX2_copyOf 41 = .ok (.aload_n 1, 1) := by decide +kernel
theorem dX2_copyOf_42 : decode cX2_copyOf 42 = .ok (.getfield 49, 3) := by decide +kernel
theorem dX2_copyOf_45 : decode cX2_copyOf 45 = .ok (.putfield 49, 3) := by decide +kernel
theorem dX2_copyOf_48 : decode cX2_copyOf 48 = .ok (.aload_n 0, 1) := by decide +kernel
theorem dX2_copyOf_49 : decode cX2_copyOf 49 = .ok (.aload_n 1, 1) := by decide +kernel
theorem dX2_copyOf_50 : decode cX2_copyOf 50 = .ok (.getfield 52, 3) := by decide +kernel
theorem dX2_copyOf_53 : decode cX2_copyOf 53 = .ok (.putfield 52, 3) := by decide +kernel
theorem dX2_copyOf_56 : decode cX2_copyOf 56 = .ok (.aload_n 1, 1) := by decide +kernel
theorem dX2_copyOf_57 : decode cX2_copyOf 57 = .ok (.getfield 9, 3) := by decide +kernel
theorem dX2_copyOf_60 : decode cX2_copyOf 60 = .ok (.iconst 0, 1) := by decide +kernel
theorem dX2_copyOf_61 : decode cX2_copyOf 61 = .ok (.aload_n 0, 1) := by decide +kernel
theorem dX2_copyOf_62 : decode cX2_copyOf 62 = .ok (.getfield 9, 3) := by decide +kernel
theorem dX2_copyOf_65 : decode cX2_copyOf 65 = .ok (.iconst 0, 1) := by decide +kernel
theorem dX2_copyOf_66 : decode cX2_copyOf 66 = .ok (.bipush 6, 2) := by decide +kernel
theorem dX2_copyOf_68 : decode cX2_copyOf 68 = .ok (.invokestatic 55, 3) := by decide +kernel
theorem dX2_copyOf_71 : decode cX2_copyOf 71 = .ok (.aload_n 1, 1) := by decide +kernel
theorem dX2_copyOf_72 : decode cX2_copyOf 72 = .ok (.getfield 15, 3) := by decide +kernel
theorem dX2_copyOf_75 : decode cX2_copyOf 75 = .ok (.iconst 0, 1) := by decide +kernel
theorem dX2_copyOf_76 : decode cX2_copyOf 76 = .ok (.aload_n 0, 1) := by decide +kernel
theorem dX2_copyOf_77 : decode cX2_copyOf 77 = .ok (.getfield 15, 3) := by decide +kernel
theorem dX2_copyOf_80 : decode cX2_copyOf 80 = .ok (.iconst 0, 1) := by decide +kernel
theorem dX2_copyOf_81 : decode cX2_copyOf 81 = .ok (.bipush 6, 2) := by decide +kernel
theorem dX2_copyOf_83 : decode cX2_copyOf 83 = .ok (.invokestatic 55, 3) := by decide +kernel
theorem dX2_copyOf_86 : decode cX2_copyOf 86 = .ok (.aload_n 1, 1) := by decide +kernel
theorem dX2_copyOf_87 : decode cX2_copyOf 87 = .ok (.getfield 18, 3) := by decide +kernel
theorem dX2_copyOf_90 : decode cX2_copyOf 90 = .ok (.iconst 0, 1) := by decide +kernel
theorem dX2_copyOf_91 : decode cX2_copyOf 91 = .ok (.aload_n 0, 1) := by decide +kernel
theorem dX2_copyOf_92 : decode cX2_copyOf 92 = .ok (.getfield 18, 3) := by decide +kernel
theorem dX2_copyOf_95 : decode cX2_copyOf 95 = .ok (.iconst 0, 1) := by decide +kernel
theorem dX2_copyOf_96 : decode cX2_copyOf 96 = .ok (.iconst 5, 1) := by decide +kernel
theorem dX2_copyOf_97 : decode cX2_copyOf 97 = .ok (.invokestatic 55, 3) := by decide +kernel
theorem dX2_copyOf_100 : decode cX2_copyOf 100 = .ok (.aload_n 1, 1) := by decide +kernel
theorem dX2_copyOf_101 : decode cX2_copyOf 101 = .ok (.getfield 21, 3) := by decide +kernel
theorem dX2_copyOf_104 : decode cX2_copyOf 104 = .ok (.iconst 0, 1) := by decide +kernel
theorem dX2_copyOf_105 : decode cX2_copyOf 105 = .ok (.aload_n 0, 1) := by decide +kernel
theorem dX2_copyOf_106 : decode cX2_copyOf 106 = .ok (.getfield 21, 3) := by decide +kernel
theorem dX2_copyOf_109 : decode cX2_copyOf 109 = .ok (.iconst 0, 1) := by decide +kernel
theorem dX2_copyOf_110 : decode cX2_copyOf 110 = .ok (.iconst 5, 1) := by decide +kernel
theorem dX2_copyOf_111 : decode cX2_copyOf 111 = .ok (.invokestatic 55, 3) := by decide +kernel
theorem dX2_copyOf_114 : decode cX2_copyOf 114 = .ok (.aload_n 1, 1) := by decide +kernel
theorem dX2_copyOf_115 : decode cX2_copyOf 115 = .ok (.getfield 24, 3) := by decide +kernel
theorem dX2_copyOf_118 : decode cX2_copyOf 118 = .ok (.iconst 0, 1) := by decide +kernel
theorem dX2_copyOf_119 : decode cX2_copyOf 119 = .ok (.aload_n 0, 1) := by decide +kernel
theorem dX2_copyOf_120 : decode cX2_copyOf 120 = .ok (.getfield 24, 3) := by decide +kernel
theorem dX2_copyOf_123 : decode cX2_copyOf 123 = .ok (.iconst 0, 1) := by decide +kernel
theorem dX2_copyOf_124 : decode cX2_copyOf 124 = .ok (.iconst 5, 1) := by decide +kernel
theorem dX2_copyOf_125 : decode cX2_copyOf 125 = .ok (.invokestatic 55, 3) := by decide +kernel
theorem dX2_copyOf_128 : decode cX2_copyOf 128 = .ok (.aload_n 1, 1) := by decide +kernel
theorem dX2_copyOf_129 : decode cX2_copyOf 129 = .ok (.getfield 27, 3) := by decide +kernel
theorem dX2_copyOf_132 : decode cX2_copyOf 132 = .ok (.iconst 0, 1) := by decide +kernel
theorem dX2_copyOf_133 : decode cX2_copyOf 133 = .ok (.aload_n 0, 1) := by decide +kernel
theorem dX2_copyOf_134 : decode cX2_copyOf 134 = .ok (.getfield 27, 3) := by decide +kernel
theorem dX2_copyOf_137 : decode cX2_copyOf 137 = .ok (.iconst 0, 1) := by decide +kernel
theorem dX2_copyOf_138 : decode cX2_copyOf 138 = .ok (.iconst 5, 1) := by decide +kernel
theorem dX2_copyOf_139 : decode cX2_copyOf 139 = .ok (.invokestatic 55, 3) := by decide +kernel
theorem dX2_copyOf_142 : decode cX2_copyOf 142 = .ok (.aload_n 1, 1) := by decide +kernel
theorem dX2_copyOf_143 : decode cX2_copyOf 143 = .ok (.getfield 30, 3) := by decide +kernel
theorem dX2_copyOf_146 : decode cX2_copyOf 146 = .ok (.iconst 0, 1) := by decide +kernel
theorem dX2_copyOf_147 : decode cX2_copyOf 147 = .ok (.aload_n 0, 1) := by decide +kernel
theorem dX2_copyOf_148 : decode cX2_copyOf 148 = .ok (.getfield 30, 3) := by decide +kernel
theorem dX2_copyOf_151 : decode cX2_copyOf 151 = .ok (.iconst 0, 1) := by decide +kernel
theorem dX2_copyOf_152 : decode cX2_copyOf 152 = .ok (.aload_n 0, 1) := by decide +kernel
theorem dX2_copyOf_153 : decode cX2_copyOf 153 = .ok (.getfield 30, 3) := by decide +kernel
theorem dX2_copyOf_156 : decode cX2_copyOf 156 = .ok (.arraylength, 1) := by decide +kernel
theorem dX2_copyOf_157 : decode cX2_copyOf 157 = .ok (.invokestatic 55, 3) := by decide +kernel
theorem dX2_copyOf_160 : decode cX2_copyOf 160 = .ok (.return_, 1) := by decide +kernel
theorem dX2_isTold_0 : decode cX2_isTold 0 = .ok (.aload_n 0, 1) := by decide +kernel
theorem dX2_isTold_1 : decode cX2_isTold 1 = .ok (.getfield 33, 3) := by decide +kernel
theorem dX2_isTold_4 : decode cX2_isTold 4 = .ok (.ifCond .le 7, 3) := by decide +kernel
theorem dX2_isTold_7 : decode cX2_isTold 7 = .ok (.iconst 1, 1) := by decide +kernel
theorem dX2_isTold_8 : decode cX2_isTold 8 = .ok (.goto 4, 3) := by decide +kernel
theorem dX2_isTold_11 : decode cX2_isTold 11 = .ok (.iconst 0, 1) := by decide +kernel
theorem dX2_isTold_12 : decode cX2_isTold 12 = .ok (.ireturn, 1) := by decide +kernel
theorem dX2_hasLane_0 : decode cX2_hasLane 0 = .ok (.iload_n 1, 1) := by decide +kernel
theorem dX2_hasLane_1 : decode cX2_hasLane 1 = .ok (.ifCond .lt 15, 3) := by decide +kernel
theorem dX2_hasLane_4 : decode cX2_hasLane 4 = .ok (.iload_n 1, 1) := by decide +kernel
theorem dX2_hasLane_5 : decode cX2_hasLane 5 = .ok (.aload_n 0, 1) := by decide +kernel
theorem dX2_hasLane_6 : decode cX2_hasLane 6 = .ok (.getfield 33, 3) := by decide +kernel
theorem dX2_hasLane_9 : decode cX2_hasLane 9 = .ok (.if_icmp .ge 7, 3) := by decide +kernel
theorem dX2_hasLane_12 : decode cX2_hasLane 12 = .ok (.iconst 1, 1) := by decide +kernel
theorem dX2_hasLane_13 : decode cX2_hasLane 13 = .ok (.goto 4, 3) := by decide +kernel
theorem dX2_hasLane_16 : decode cX2_hasLane 16 = .ok (.iconst 0, 1) := by decide +kernel
theorem dX2_hasLane_17 : decode cX2_hasLane 17 = .ok (.ireturn, 1) := by decide +kernel
theorem dX2_hasBeast_0 : decode cX2_hasBeast 0 = .ok (.iload_n 1, 1) := by decide +kernel
theorem dX2_hasBeast_1 : decode cX2_hasBeast 1 = .ok (.ifCond .lt 15, 3) := by decide +kernel
theorem dX2_hasBeast_4 : decode cX2_hasBeast 4 = .ok (.iload_n 1, 1) := by decide +kernel
theorem dX2_hasBeast_5 : decode cX2_hasBeast 5 = .ok (.aload_n 0, 1) := by decide +kernel
theorem dX2_hasBeast_6 : decode cX2_hasBeast 6 = .ok (.getfield 43, 3) := by decide +kernel
theorem dX2_hasBeast_9 : decode cX2_hasBeast 9 = .ok (.if_icmp .ge 7, 3) := by decide +kernel
theorem dX2_hasBeast_12 : decode cX2_hasBeast 12 = .ok (.iconst 1, 1) := by decide +kernel
theorem dX2_hasBeast_13 : decode cX2_hasBeast 13 = .ok (.goto 4, 3) := by decide +kernel
theorem dX2_hasBeast_16 : decode cX2_hasBeast 16 = .ok (.iconst 0, 1) := by decide +kernel
theorem dX2_hasBeast_17 : decode cX2_hasBeast 17 = .ok (.ireturn, 1) := by decide +kernel
theorem dX2_hasCity_0 : decode cX2_hasCity 0 = .ok (.iload_n 1, 1) := by decide +kernel
theorem dX2_hasCity_1 : decode cX2_hasCity 1 = .ok (.ifCond .lt 15, 3) := by decide +kernel
theorem dX2_hasCity_4 : decode cX2_hasCity 4 = .ok (.iload_n 1, 1) := by decide +kernel
theorem dX2_hasCity_5 : decode cX2_hasCity 5 = .ok (.aload_n 0, 1) := by decide +kernel
theorem dX2_hasCity_6 : decode cX2_hasCity 6 = .ok (.getfield 46, 3) := by decide +kernel
theorem dX2_hasCity_9 : decode cX2_hasCity 9 = .ok (.if_icmp .ge 7, 3) := by decide +kernel
theorem dX2_hasCity_12 : decode cX2_hasCity 12 = .ok (.iconst 1, 1) := by decide +kernel
theorem dX2_hasCity_13 : decode cX2_hasCity 13 = .ok (.goto 4, 3) := by decide +kernel
theorem dX2_hasCity_16 : decode cX2_hasCity 16 = .ok (.iconst 0, 1) := by decide +kernel
theorem dX2_hasCity_17 : decode cX2_hasCity 17 = .ok (.ireturn, 1) := by decide +kernel
theorem dX2_isLaneTold_0 : decode cX2_isLaneTold 0 = .ok (.aload_n 0, 1) := by decide +kernel
theorem dX2_isLaneTold_1 : decode cX2_isLaneTold 1 = .ok (.getfield 40, 3) := by decide +kernel
theorem dX2_isLaneTold_4 : decode cX2_isLaneTold 4 = .ok (.iload_n 1, 1) := by decide +kernel
theorem dX2_isLaneTold_5 : decode cX2_isLaneTold 5 = .ok (.ishr, 1) := by decide +kernel
theorem dX2_isLaneTold_6 : decode cX2_isLaneTold 6 = .ok (.iconst 1, 1) := by decide +kernel
theorem dX2_isLaneTold_7 : decode cX2_isLaneTold 7 = .ok (.iand, 1) := by decide +kernel
theorem dX2_isLaneTold_8 : decode cX2_isLaneTold 8 = .ok (.iconst 1, 1) := by decide +kernel
theorem dX2_isLaneTold_9 : decode cX2_isLaneTold 9 = .ok (.if_icmp .ne 7, 3) := by decide +kernel
theorem dX2_isLaneTold_12 : decode cX2_isLaneTold 12 = .ok (.iconst 1, 1) := by decide +kernel
theorem dX2_isLaneTold_13 : decode cX2_isLaneTold 13 = .ok (.goto 4, 3) := by decide +kernel
theorem dX2_isLaneTold_16 : decode cX2_isLaneTold 16 = .ok (.iconst 0, 1) := by decide +kernel
theorem dX2_isLaneTold_17 : decode cX2_isLaneTold 17 = .ok (.ireturn, 1) := by decide +kernel
theorem dX2_hasTurned_0 : decode cX2_hasTurned 0 = .ok (.aload_n 0, 1) := by decide +kernel
theorem dX2_hasTurned_1 : decode cX2_hasTurned 1 = .ok (.getfield 52, 3) := by decide +kernel
theorem dX2_hasTurned_4 : decode cX2_hasTurned 4 = .ok (.iload_n 1, 1) := by decide +kernel
theorem dX2_hasTurned_5 : decode cX2_hasTurned 5 = .ok (.ishr, 1) := by decide +kernel
theorem dX2_hasTurned_6 : decode cX2_hasTurned 6 = .ok (.iconst 1, 1) := by decide +kernel
theorem dX2_hasTurned_7 : decode cX2_hasTurned 7 = .ok (.iand, 1) := by decide +kernel
theorem dX2_hasTurned_8 : decode cX2_hasTurned 8 = .ok (.iconst 1, 1) := by decide +kernel
theorem dX2_hasTurned_9 : decode cX2_hasTurned 9 = .ok (.if_icmp .ne 7, 3) := by decide +kernel
theorem dX2_hasTurned_12 : decode cX2_hasTurned 12 = .ok (.iconst 1, 1) := by decide +kernel
theorem dX2_hasTurned_13 : decode cX2_hasTurned 13 = .ok (.goto 4, 3) := by decide +kernel
theorem dX2_hasTurned_16 : decode cX2_hasTurned 16 = .ok (.iconst 0, 1) := by decide +kernel
theorem dX2_hasTurned_17 : decode cX2_hasTurned 17 = .ok (.ireturn, 1) := by decide +kernel
set_option maxRecDepth 20000 in
theorem ggX2_lossBetween_X2_hasCity : GoodIn wsX2_lossBetween wsX2_hasCity := goodIn_r _ [6, 7, 8, 9, 10, 11, 12, 13, 14, 15, 16, 17, 18, 19, 20, 21] (by decide +kernel) (by decide +kernel)
set_option maxRecDepth 20000 in
theorem gX2_lossBetween_X2_hasCity : GoodIn wsX2_lossBetween (wsV RX2 61 RX2 yX2_hasCity wsX2_hasCity) := goodIn_app (goodIn_of _ (by decide +kernel)) ggX2_lossBetween_X2_hasCity
theorem dX2_lossBetween_0 : decode cX2_lossBetween 0 = .ok (.aload_n 0, 1) := by decide +kernel
theorem dX2_lossBetween_1 : decode cX2_lossBetween 1 = .ok (.iload_n 1, 1) := by decide +kernel
theorem dX2_lossBetween_2 : decode cX2_lossBetween 2 = .ok (.invokevirtual 61, 3) := by decide +kernel
theorem dX2_lossBetween_5 : decode cX2_lossBetween 5 = .ok (.ifCond .eq 27, 3) := by decide +kernel
theorem dX2_lossBetween_8 : decode cX2_lossBetween 8 = .ok (.aload_n 0, 1) := by decide +kernel
theorem dX2_lossBetween_9 : decode cX2_lossBetween 9 = .ok (.iload_n 2, 1) := by decide +kernel
theorem dX2_lossBetween_10 : decode cX2_lossBetween 10 = .ok (.invokevirtual 61, 3) := by decide +kernel
theorem dX2_lossBetween_13 : decode cX2_lossBetween 13 = .ok (.ifCond .eq 19, 3) := by decide +kernel
theorem dX2_lossBetween_16 : decode cX2_lossBetween 16 = .ok (.aload_n 0, 1) := by decide +kernel
theorem dX2_lossBetween_17 : decode cX2_lossBetween 17 = .ok (.getfield 30, 3) := by decide +kernel
theorem dX2_lossBetween_20 : decode cX2_lossBetween 20 = .ok (.iload_n 1, 1) := by decide +kernel
theorem dX2_lossBetween_21 : decode cX2_lossBetween 21 = .ok (.bipush 6, 2) := by decide +kernel
theorem dX2_lossBetween_23 : decode cX2_lossBetween 23 = .ok (.imul, 1) := by decide +kernel
theorem dX2_lossBetween_24 : decode cX2_lossBetween 24 = .ok (.iload_n 2, 1) := by decide +kernel
theorem dX2_lossBetween_25 : decode cX2_lossBetween 25 = .ok (.iadd, 1) := by decide +kernel
theorem dX2_lossBetween_26 : decode cX2_lossBetween 26 = .ok (.iaload, 1) := by decide +kernel
theorem dX2_lossBetween_27 : decode cX2_lossBetween 27 = .ok (.iconst 1, 1) := by decide +kernel
theorem dX2_lossBetween_28 : decode cX2_lossBetween 28 = .ok (.isub, 1) := by decide +kernel
theorem dX2_lossBetween_29 : decode cX2_lossBetween 29 = .ok (.goto 4, 3) := by decide +kernel
theorem dX2_lossBetween_32 : decode cX2_lossBetween 32 = .ok (.iconst (-1), 1) := by decide +kernel
theorem dX2_lossBetween_33 : decode cX2_lossBetween 33 = .ok (.ireturn, 1) := by decide +kernel
set_option maxRecDepth 20000 in
theorem ggX2_tellLane_X2_hasLane : GoodIn wsX2_tellLane wsX2_hasLane := goodIn_r _ [8, 9, 10, 11, 12, 13, 14, 15, 16, 17, 18, 19, 20, 21, 22, 23] (by decide +kernel) (by decide +kernel)
set_option maxRecDepth 20000 in
theorem gX2_tellLane_X2_hasLane : GoodIn wsX2_tellLane (wsV RX2 65 RX2 yX2_hasLane wsX2_hasLane) := goodIn_app (goodIn_of _ (by decide +kernel)) ggX2_tellLane_X2_hasLane
theorem dX2_tellLane_0 : decode cX2_tellLane 0 = .ok (.aload_n 0, 1) := by decide +kernel
theorem dX2_tellLane_1 : decode cX2_tellLane 1 = .ok (.iload_n 1, 1) := by decide +kernel
theorem dX2_tellLane_2 : decode cX2_tellLane 2 = .ok (.invokevirtual 65, 3) := by decide +kernel
theorem dX2_tellLane_5 : decode cX2_tellLane 5 = .ok (.ifCond .eq 29, 3) := by decide +kernel
theorem dX2_tellLane_8 : decode cX2_tellLane 8 = .ok (.aload_n 0, 1) := by decide +kernel
theorem dX2_tellLane_9 : decode cX2_tellLane 9 = .ok (.dup, 1) := by decide +kernel
theorem dX2_tellLane_10 : decode cX2_tellLane 10 = .ok (.getfield 40, 3) := by decide +kernel
theorem dX2_tellLane_13 : decode cX2_tellLane 13 = .ok (.iconst 1, 1) := by decide +kernel
theorem dX2_tellLane_14 : decode cX2_tellLane 14 = .ok (.iload_n 1, 1) := by decide +kernel
theorem dX2_tellLane_15 : decode cX2_tellLane 15 = .ok (.ishl, 1) := by decide +kernel
theorem dX2_tellLane_16 : decode cX2_tellLane 16 = .ok (.ior, 1) := by decide +kernel
theorem dX2_tellLane_17 : decode cX2_tellLane 17 = .ok (.putfield 40, 3) := by decide +kernel
theorem dX2_tellLane_20 : decode cX2_tellLane 20 = .ok (.aload_n 0, 1) := by decide +kernel
theorem dX2_tellLane_21 : decode cX2_tellLane 21 = .ok (.getfield 9, 3) := by decide +kernel
theorem dX2_tellLane_24 : decode cX2_tellLane 24 = .ok (.iload_n 1, 1) := by decide +kernel
theorem dX2_tellLane_25 : decode cX2_tellLane 25 = .ok (.iload_n 2, 1) := by decide +kernel
theorem dX2_tellLane_26 : decode cX2_tellLane 26 = .ok (.iastore, 1) := by decide +kernel
theorem dX2_tellLane_27 : decode cX2_tellLane 27 = .ok (.aload_n 0, 1) := by decide +kernel
theorem dX2_tellLane_28 : decode cX2_tellLane 28 = .ok (.getfield 15, 3) := by decide +kernel
theorem dX2_tellLane_31 : decode cX2_tellLane 31 = .ok (.iload_n 1, 1) := by decide +kernel
theorem dX2_tellLane_32 : decode cX2_tellLane 32 = .ok (.iload_n 3, 1) := by decide +kernel
theorem dX2_tellLane_33 : decode cX2_tellLane 33 = .ok (.iastore, 1) := by decide +kernel
theorem dX2_tellLane_34 : decode cX2_tellLane 34 = .ok (.return_, 1) := by decide +kernel
theorem dX2_addBeast_0 : decode cX2_addBeast 0 = .ok (.aload_n 0, 1) := by decide +kernel
theorem dX2_addBeast_1 : decode cX2_addBeast 1 = .ok (.getfield 43, 3) := by decide +kernel
theorem dX2_addBeast_4 : decode cX2_addBeast 4 = .ok (.iconst 5, 1) := by decide +kernel
theorem dX2_addBeast_5 : decode cX2_addBeast 5 = .ok (.if_icmp .ge 54, 3) := by decide +kernel
theorem dX2_addBeast_8 : decode cX2_addBeast 8 = .ok (.aload_n 0, 1) := by decide +kernel
theorem dX2_addBeast_9 : decode cX2_addBeast 9 = .ok (.getfield 18, 3) := by decide +kernel
theorem dX2_addBeast_12 : decode cX2_addBeast 12 = .ok (.aload_n 0, 1) := by decide +kernel
theorem dX2_addBeast_13 : decode cX2_addBeast 13 = .ok (.getfield 43, 3) := by decide +kernel
theorem dX2_addBeast_16 : decode cX2_addBeast 16 = .ok (.iload_n 1, 1) := by decide +kernel
theorem dX2_addBeast_17 : decode cX2_addBeast 17 = .ok (.iastore, 1) := by decide +kernel
theorem dX2_addBeast_18 : decode cX2_addBeast 18 = .ok (.aload_n 0, 1) := by decide +kernel
theorem dX2_addBeast_19 : decode cX2_addBeast 19 = .ok (.getfield 21, 3) := by decide +kernel
theorem dX2_addBeast_22 : decode cX2_addBeast 22 = .ok (.aload_n 0, 1) := by decide +kernel
theorem dX2_addBeast_23 : decode cX2_addBeast 23 = .ok (.getfield 43, 3) := by decide +kernel
theorem dX2_addBeast_26 : decode cX2_addBeast 26 = .ok (.iload_n 2, 1) := by decide +kernel
theorem dX2_addBeast_27 : decode cX2_addBeast 27 = .ok (.iastore, 1) := by decide +kernel
theorem dX2_addBeast_28 : decode cX2_addBeast 28 = .ok (.aload_n 0, 1) := by decide +kernel
theorem dX2_addBeast_29 : decode cX2_addBeast 29 = .ok (.getfield 24, 3) := by decide +kernel
theorem dX2_addBeast_32 : decode cX2_addBeast 32 = .ok (.aload_n 0, 1) := by decide +kernel
theorem dX2_addBeast_33 : decode cX2_addBeast 33 = .ok (.getfield 43, 3) := by decide +kernel
theorem dX2_addBeast_36 : decode cX2_addBeast 36 = .ok (.iload_n 3, 1) := by decide +kernel
theorem dX2_addBeast_37 : decode cX2_addBeast 37 = .ok (.iastore, 1) := by decide +kernel
theorem dX2_addBeast_38 : decode cX2_addBeast 38 = .ok (.aload_n 0, 1) := by decide +kernel
theorem dX2_addBeast_39 : decode cX2_addBeast 39 = .ok (.getfield 27, 3) := by decide +kernel
theorem dX2_addBeast_42 : decode cX2_addBeast 42 = .ok (.aload_n 0, 1) := by decide +kernel
theorem dX2_addBeast_43 : decode cX2_addBeast 43 = .ok (.getfield 43, 3) := by decide +kernel
theorem dX2_addBeast_46 : decode cX2_addBeast 46 = .ok (.iload 4, 2) := by decide +kernel
theorem dX2_addBeast_48 : decode cX2_addBeast 48 = .ok (.iastore, 1) := by decide +kernel
theorem dX2_addBeast_49 : decode cX2_addBeast 49 = .ok (.aload_n 0, 1) := by decide +kernel
theorem dX2_addBeast_50 : decode cX2_addBeast 50 = .ok (.dup, 1) := by decide +kernel
theorem dX2_addBeast_51 : decode cX2_addBeast 51 = .ok (.getfield 43, 3) := by decide +kernel
theorem dX2_addBeast_54 : decode cX2_addBeast 54 = .ok (.iconst 1, 1) := by decide +kernel
theorem dX2_addBeast_55 : decode cX2_addBeast 55 = .ok (.iadd, 1) := by decide +kernel
theorem dX2_addBeast_56 : decode cX2_addBeast 56 = .ok (.putfield 43, 3) := by decide +kernel
theorem dX2_addBeast_59 : decode cX2_addBeast 59 = .ok (.return_, 1) := by decide +kernel
set_option maxRecDepth 20000 in
theorem ggX2_addPass_X2_hasCity : GoodIn wsX2_addPass wsX2_hasCity := goodIn_r _ [7, 8, 9, 10, 11, 12, 13, 14, 15, 16, 17, 18, 19, 20, 21, 22] (by decide +kernel) (by decide +kernel)
set_option maxRecDepth 20000 in
theorem gX2_addPass_X2_hasCity : GoodIn wsX2_addPass (wsV RX2 61 RX2 yX2_hasCity wsX2_hasCity) := goodIn_app (goodIn_of _ (by decide +kernel)) ggX2_addPass_X2_hasCity
theorem dX2_addPass_0 : decode cX2_addPass 0 = .ok (.aload_n 0, 1) := by decide +kernel
theorem dX2_addPass_1 : decode cX2_addPass 1 = .ok (.iload_n 1, 1) := by decide +kernel
theorem dX2_addPass_2 : decode cX2_addPass 2 = .ok (.invokevirtual 61, 3) := by decide +kernel
theorem dX2_addPass_5 : decode cX2_addPass 5 = .ok (.ifCond .eq 49, 3) := by decide +kernel
theorem dX2_addPass_8 : decode cX2_addPass 8 = .ok (.aload_n 0, 1) := by decide +kernel
theorem dX2_addPass_9 : decode cX2_addPass 9 = .ok (.iload_n 2, 1) := by decide +kernel
theorem dX2_addPass_10 : decode cX2_addPass 10 = .ok (.invokevirtual 61, 3) := by decide +kernel
theorem dX2_addPass_13 : decode cX2_addPass 13 = .ok (.ifCond .eq 41, 3) := by decide +kernel
theorem dX2_addPass_16 : decode cX2_addPass 16 = .ok (.aload_n 0, 1) := by decide +kernel
theorem dX2_addPass_17 : decode cX2_addPass 17 = .ok (.getfield 30, 3) := by decide +kernel
theorem dX2_addPass_20 : decode cX2_addPass 20 = .ok (.iload_n 1, 1) := by decide +kernel
theorem dX2_addPass_21 : decode cX2_addPass 21 = .ok (.bipush 6, 2) := by decide +kernel
theorem dX2_addPass_23 : decode cX2_addPass 23 = .ok (.imul, 1) := by decide +kernel
theorem dX2_addPass_24 : decode cX2_addPass 24 = .ok (.iload_n 2, 1) := by decide +kernel
theorem dX2_addPass_25 : decode cX2_addPass 25 = .ok (.iadd, 1) := by decide +kernel
theorem dX2_addPass_26 : decode cX2_addPass 26 = .ok (.iload_n 3, 1) := by decide +kernel
theorem dX2_addPass_27 : decode cX2_addPass 27 = .ok (.iconst 1, 1) := by decide +kernel
theorem dX2_addPass_28 : decode cX2_addPass 28 = .ok (.iadd, 1) := by decide +kernel
theorem dX2_addPass_29 : decode cX2_addPass 29 = .ok (.iastore, 1) := by decide +kernel
theorem dX2_addPass_30 : decode cX2_addPass 30 = .ok (.aload_n 0, 1) := by decide +kernel
theorem dX2_addPass_31 : decode cX2_addPass 31 = .ok (.getfield 30, 3) := by decide +kernel
theorem dX2_addPass_34 : decode cX2_addPass 34 = .ok (.iload_n 2, 1) := by decide +kernel
theorem dX2_addPass_35 : decode cX2_addPass 35 = .ok (.bipush 6, 2) := by decide +kernel
theorem dX2_addPass_37 : decode cX2_addPass 37 = .ok (.imul, 1) := by decide +kernel
theorem dX2_addPass_38 : decode cX2_addPass 38 = .ok (.iload_n 1, 1) := by decide +kernel
theorem dX2_addPass_39 : decode cX2_addPass 39 = .ok (.iadd, 1) := by decide +kernel
theorem dX2_addPass_40 : decode cX2_addPass 40 = .ok (.iload_n 3, 1) := by decide +kernel
theorem dX2_addPass_41 : decode cX2_addPass 41 = .ok (.iconst 1, 1) := by decide +kernel
theorem dX2_addPass_42 : decode cX2_addPass 42 = .ok (.iadd, 1) := by decide +kernel
theorem dX2_addPass_43 : decode cX2_addPass 43 = .ok (.iastore, 1) := by decide +kernel
theorem dX2_addPass_44 : decode cX2_addPass 44 = .ok (.aload_n 0, 1) := by decide +kernel
theorem dX2_addPass_45 : decode cX2_addPass 45 = .ok (.dup, 1) := by decide +kernel
theorem dX2_addPass_46 : decode cX2_addPass 46 = .ok (.getfield 49, 3) := by decide +kernel
theorem dX2_addPass_49 : decode cX2_addPass 49 = .ok (.iconst 1, 1) := by decide +kernel
theorem dX2_addPass_50 : decode cX2_addPass 50 = .ok (.iadd, 1) := by decide +kernel
theorem dX2_addPass_51 : decode cX2_addPass 51 = .ok (.putfield 49, 3) := by decide +kernel
theorem dX2_addPass_54 : decode cX2_addPass 54 = .ok (.return_, 1) := by decide +kernel
