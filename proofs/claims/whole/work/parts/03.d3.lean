theorem dX12_init_0 : decode cX12_init 0 = .ok (.aload_n 0, 1) := by decide +kernel
theorem dX12_init_1 : decode cX12_init 1 = .ok (.invokespecial 3, 3) := by decide +kernel
theorem dX12_init_4 : decode cX12_init 4 = .ok (.aload_n 0, 1) := by decide +kernel
theorem dX12_init_5 : decode cX12_init 5 = .ok (.bipush 6, 2) := by decide +kernel
theorem dX12_init_7 : decode cX12_init 7 = .ok (.newarray .int, 2) := by decide +kernel
theorem dX12_init_9 : decode cX12_init 9 = .ok (.putfield 9, 3) := by decide +kernel
theorem dX12_init_12 : decode cX12_init 12 = .ok (.aload_n 0, 1) := by decide +kernel
theorem dX12_init_13 : decode cX12_init 13 = .ok (.bipush 6, 2) := by decide +kernel
theorem dX12_init_15 : decode cX12_init 15 = .ok (.newarray .int, 2) := by decide +kernel
theorem dX12_init_17 : decode cX12_init 17 = .ok (.putfield 15, 3) := by decide +kernel
theorem dX12_init_20 : decode cX12_init 20 = .ok (.aload_n 0, 1) := by decide +kernel
theorem dX12_init_21 : decode cX12_init 21 = .ok (.iconst 5, 1) := by decide +kernel
theorem dX12_init_22 : decode cX12_init 22 = .ok (.newarray .int, 2) := by decide +kernel
theorem dX12_init_24 : decode cX12_init 24 = .ok (.putfield 18, 3) := by decide +kernel
theorem dX12_init_27 : decode cX12_init 27 = .ok (.aload_n 0, 1) := by decide +kernel
theorem dX12_init_28 : decode cX12_init 28 = .ok (.iconst 5, 1) := by decide +kernel
theorem dX12_init_29 : decode cX12_init 29 = .ok (.newarray .int, 2) := by decide +kernel
theorem dX12_init_31 : decode cX12_init 31 = .ok (.putfield 21, 3) := by decide +kernel
theorem dX12_init_34 : decode cX12_init 34 = .ok (.aload_n 0, 1) := by decide +kernel
theorem dX12_init_35 : decode cX12_init 35 = .ok (.iconst 5, 1) := by decide +kernel
theorem dX12_init_36 : decode cX12_init 36 = .ok (.newarray .int, 2) := by decide +kernel
theorem dX12_init_38 : decode cX12_init 38 = .ok (.putfield 24, 3) := by decide +kernel
theorem dX12_init_41 : decode cX12_init 41 = .ok (.aload_n 0, 1) := by decide +kernel
theorem dX12_init_42 : decode cX12_init 42 = .ok (.iconst 5, 1) := by decide +kernel
theorem dX12_init_43 : decode cX12_init 43 = .ok (.newarray .int, 2) := by decide +kernel
theorem dX12_init_45 : decode cX12_init 45 = .ok (.putfield 27, 3) := by decide +kernel
theorem dX12_init_48 : decode cX12_init 48 = .ok (.aload_n 0, 1) := by decide +kernel
theorem dX12_init_49 : decode cX12_init 49 = .ok (.bipush 36, 2) := by decide +kernel
theorem dX12_init_51 : decode cX12_init 51 = .ok (.newarray .int, 2) := by decide +kernel
theorem dX12_init_53 : decode cX12_init 53 = .ok (.putfield 30, 3) := by decide +kernel
theorem dX12_init_56 : decode cX12_init 56 = .ok (.aload_n 0, 1) := by decide +kernel
theorem dX12_init_57 : decode cX12_init 57 = .ok (.bipush 11, 2) := by decide +kernel
theorem dX12_init_59 : decode cX12_init 59 = .ok (.newarray .long, 2) := by decide +kernel
theorem dX12_init_61 : decode cX12_init 61 = .ok (.putfield 33, 3) := by decide +kernel
theorem dX12_init_64 : decode cX12_init 64 = .ok (.aload_n 0, 1) := by decide +kernel
theorem dX12_init_65 : decode cX12_init 65 = .ok (.bipush 11, 2) := by decide +kernel
theorem dX12_init_67 : decode cX12_init 67 = .ok (.newarray .int, 2) := by decide +kernel
theorem dX12_init_69 : decode cX12_init 69 = .ok (.putfield 37, 3) := by decide +kernel
theorem dX12_init_72 : decode cX12_init 72 = .ok (.aload_n 0, 1) := by decide +kernel
theorem dX12_init_73 : decode cX12_init 73 = .ok (.bipush 11, 2) := by decide +kernel
theorem dX12_init_75 : decode cX12_init 75 = .ok (.newarray .int, 2) := by decide +kernel
theorem dX12_init_77 : decode cX12_init 77 = .ok (.putfield 40, 3) := by decide +kernel
theorem dX12_init_80 : decode cX12_init 80 = .ok (.return_, 1) := by decide +kernel
theorem dX12_find_0 : decode cX12_find 0 = .ok (.iconst 0, 1) := by decide +kernel
theorem dX12_find_1 : decode cX12_find 1 = .ok (.istore_n 3, 1) := by decide +kernel
theorem dX12_find_2 : decode cX12_find 2 = .ok (.iload_n 3, 1) := by decide +kernel
theorem dX12_find_3 : decode cX12_find 3 = .ok (.aload_n 0, 1) := by decide +kernel
theorem dX12_find_4 : decode cX12_find 4 = .ok (.getfield 43, 3) := by decide +kernel
theorem dX12_find_7 : decode cX12_find 7 = .ok (.if_icmp .ge 22, 3) := by decide +kernel
theorem dX12_find_10 : decode cX12_find 10 = .ok (.aload_n 0, 1) := by decide +kernel
theorem dX12_find_11 : decode cX12_find 11 = .ok (.getfield 33, 3) := by decide +kernel
theorem dX12_find_14 : decode cX12_find 14 = .ok (.iload_n 3, 1) := by decide +kernel
theorem dX12_find_15 : decode cX12_find 15 = .ok (.laload, 1) := by decide +kernel
theorem dX12_find_16 : decode cX12_find 16 = .ok (.lload_n 1, 1) := by decide +kernel
theorem dX12_find_17 : decode cX12_find 17 = .ok (.lcmp, 1) := by decide +kernel
theorem dX12_find_18 : decode cX12_find 18 = .ok (.ifCond .ne 5, 3) := by decide +kernel
theorem dX12_find_21 : decode cX12_find 21 = .ok (.iload_n 3, 1) := by decide +kernel
theorem dX12_find_22 : decode cX12_find 22 = .ok (.ireturn, 1) := by decide +kernel
theorem dX12_find_23 : decode cX12_find 23 = .ok (.iinc 3 1, 3) := by decide +kernel
theorem dX12_find_26 : decode cX12_find 26 = .ok (.goto (-24), 3) := by decide +kernel
theorem dX12_find_29 : decode cX12_find 29 = .ok (.iconst (-1), 1) := by decide +kernel
theorem dX12_find_30 : decode cX12_find 30 = .ok (.ireturn, 1) := by decide +kernel
theorem dX13_init_0 : decode cX13_init 0 = .ok (.aload_n 0, 1) := by decide +kernel
theorem dX13_init_1 : decode cX13_init 1 = .ok (.invokespecial 3, 3) := by decide +kernel
theorem dX13_init_4 : decode cX13_init 4 = .ok (.aload_n 0, 1) := by decide +kernel
theorem dX13_init_5 : decode cX13_init 5 = .ok (.iconst (-1), 1) := by decide +kernel
theorem dX13_init_6 : decode cX13_init 6 = .ok (.putfield 9, 3) := by decide +kernel
theorem dX13_init_9 : decode cX13_init 9 = .ok (.aload_n 0, 1) := by decide +kernel
theorem dX13_init_10 : decode cX13_init 10 = .ok (.sipush 900, 3) := by decide +kernel
theorem dX13_init_13 : decode cX13_init 13 = .ok (.newarray .byte, 2) := by decide +kernel
theorem dX13_init_15 : decode cX13_init 15 = .ok (.putfield 13, 3) := by decide +kernel
theorem dX13_init_18 : decode cX13_init 18 = .ok (.aload_n 0, 1) := by decide +kernel
theorem dX13_init_19 : decode cX13_init 19 = .ok (.bipush 19, 2) := by decide +kernel
theorem dX13_init_21 : decode cX13_init 21 = .ok (.newarray .int, 2) := by decide +kernel
theorem dX13_init_23 : decode cX13_init 23 = .ok (.putfield 17, 3) := by decide +kernel
theorem dX13_init_26 : decode cX13_init 26 = .ok (.aload_n 0, 1) := by decide +kernel
theorem dX13_init_27 : decode cX13_init 27 = .ok (.bipush 19, 2) := by decide +kernel
theorem dX13_init_29 : decode cX13_init 29 = .ok (.newarray .int, 2) := by decide +kernel
theorem dX13_init_31 : decode cX13_init 31 = .ok (.putfield 21, 3) := by decide +kernel
theorem dX13_init_34 : decode cX13_init 34 = .ok (.aload_n 0, 1) := by decide +kernel
theorem dX13_init_35 : decode cX13_init 35 = .ok (.sipush 304, 3) := by decide +kernel
theorem dX13_init_38 : decode cX13_init 38 = .ok (.newarray .int, 2) := by decide +kernel
theorem dX13_init_40 : decode cX13_init 40 = .ok (.putfield 24, 3) := by decide +kernel
theorem dX13_init_43 : decode cX13_init 43 = .ok (.aload_n 0, 1) := by decide +kernel
theorem dX13_init_44 : decode cX13_init 44 = .ok (.bipush 57, 2) := by decide +kernel
theorem dX13_init_46 : decode cX13_init 46 = .ok (.newarray .int, 2) := by decide +kernel
theorem dX13_init_48 : decode cX13_init 48 = .ok (.putfield 27, 3) := by decide +kernel
theorem dX13_init_51 : decode cX13_init 51 = .ok (.aload_n 0, 1) := by decide +kernel
theorem dX13_init_52 : decode cX13_init 52 = .ok (.iconst 5, 1) := by decide +kernel
theorem dX13_init_53 : decode cX13_init 53 = .ok (.newarray .int, 2) := by decide +kernel
theorem dX13_init_55 : decode cX13_init 55 = .ok (.putfield 30, 3) := by decide +kernel
theorem dX13_init_58 : decode cX13_init 58 = .ok (.aload_n 0, 1) := by decide +kernel
theorem dX13_init_59 : decode cX13_init 59 = .ok (.iconst 5, 1) := by decide +kernel
theorem dX13_init_60 : decode cX13_init 60 = .ok (.newarray .int, 2) := by decide +kernel
theorem dX13_init_62 : decode cX13_init 62 = .ok (.putfield 33, 3) := by decide +kernel
theorem dX13_init_65 : decode cX13_init 65 = .ok (.aload_n 0, 1) := by decide +kernel
theorem dX13_init_66 : decode cX13_init 66 = .ok (.bipush 6, 2) := by decide +kernel
theorem dX13_init_68 : decode cX13_init 68 = .ok (.newarray .int, 2) := by decide +kernel
theorem dX13_init_70 : decode cX13_init 70 = .ok (.putfield 36, 3) := by decide +kernel
theorem dX13_init_73 : decode cX13_init 73 = .ok (.aload_n 0, 1) := by decide +kernel
theorem dX13_init_74 : decode cX13_init 74 = .ok (.bipush 6, 2) := by decide +kernel
theorem dX13_init_76 : decode cX13_init 76 = .ok (.newarray .int, 2) := by decide +kernel
theorem dX13_init_78 : decode cX13_init 78 = .ok (.putfield 39, 3) := by decide +kernel
theorem dX13_init_81 : decode cX13_init 81 = .ok (.aload_n 0, 1) := by decide +kernel
theorem dX13_init_82 : decode cX13_init 82 = .ok (.bipush 6, 2) := by decide +kernel
theorem dX13_init_84 : decode cX13_init 84 = .ok (.newarray .int, 2) := by decide +kernel
theorem dX13_init_86 : decode cX13_init 86 = .ok (.putfield 42, 3) := by decide +kernel
theorem dX13_init_89 : decode cX13_init 89 = .ok (.aload_n 0, 1) := by decide +kernel
theorem dX13_init_90 : decode cX13_init 90 = .ok (.iconst 5, 1) := by decide +kernel
theorem dX13_init_91 : decode cX13_init 91 = .ok (.newarray .int, 2) := by decide +kernel
theorem dX13_init_93 : decode cX13_init 93 = .ok (.putfield 45, 3) := by decide +kernel
theorem dX13_init_96 : decode cX13_init 96 = .ok (.return_, 1) := by decide +kernel
theorem dX13_thrown_0 : decode cX13_thrown 0 = .ok (.aload_n 0, 1) := by decide +kernel
theorem dX13_thrown_1 : decode cX13_thrown 1 = .ok (.getfield 48, 3) := by decide +kernel
theorem dX13_thrown_4 : decode cX13_thrown 4 = .ok (.ireturn, 1) := by decide +kernel
theorem dX13_refused_0 : decode cX13_refused 0 = .ok (.aload_n 0, 1) := by decide +kernel
theorem dX13_refused_1 : decode cX13_refused 1 = .ok (.iload_n 1, 1) := by decide +kernel
theorem dX13_refused_2 : decode cX13_refused 2 = .ok (.putfield 51, 3) := by decide +kernel
theorem dX13_refused_5 : decode cX13_refused 5 = .ok (.aload_n 0, 1) := by decide +kernel
theorem dX13_refused_6 : decode cX13_refused 6 = .ok (.iconst (-1), 1) := by decide +kernel
theorem dX13_refused_7 : decode cX13_refused 7 = .ok (.putfield 9, 3) := by decide +kernel
theorem dX13_refused_10 : decode cX13_refused 10 = .ok (.iconst (-1), 1) := by decide +kernel
theorem dX13_refused_11 : decode cX13_refused 11 = .ok (.ireturn, 1) := by decide +kernel
theorem dX13_lost_0 : decode cX13_lost 0 = .ok (.aload_n 0, 1) := by decide +kernel
theorem dX13_lost_1 : decode cX13_lost 1 = .ok (.iload_n 1, 1) := by decide +kernel
theorem dX13_lost_2 : decode cX13_lost 2 = .ok (.invokevirtual 54, 3) := by decide +kernel
theorem dX13_lost_5 : decode cX13_lost 5 = .ok (.pop, 1) := by decide +kernel
theorem dX13_lost_6 : decode cX13_lost 6 = .ok (.ldc2_w 58, 3) := by decide +kernel
theorem dX13_lost_9 : decode cX13_lost 9 = .ok (.lreturn, 1) := by decide +kernel
theorem dX13_denied_0 : decode cX13_denied 0 = .ok (.aload_n 0, 1) := by decide +kernel
theorem dX13_denied_1 : decode cX13_denied 1 = .ok (.iload_n 1, 1) := by decide +kernel
theorem dX13_denied_2 : decode cX13_denied 2 = .ok (.invokevirtual 54, 3) := by decide +kernel
theorem dX13_denied_5 : decode cX13_denied 5 = .ok (.pop, 1) := by decide +kernel
theorem dX13_denied_6 : decode cX13_denied 6 = .ok (.iconst 0, 1) := by decide +kernel
theorem dX13_denied_7 : decode cX13_denied 7 = .ok (.ireturn, 1) := by decide +kernel
theorem dX13_good_0 : decode cX13_good 0 = .ok (.aload_n 0, 1) := by decide +kernel
theorem dX13_good_1 : decode cX13_good 1 = .ok (.iconst 0, 1) := by decide +kernel
theorem dX13_good_2 : decode cX13_good 2 = .ok (.putfield 51, 3) := by decide +kernel
theorem dX13_good_5 : decode cX13_good 5 = .ok (.aload_n 0, 1) := by decide +kernel
theorem dX13_good_6 : decode cX13_good 6 = .ok (.iconst (-1), 1) := by decide +kernel
theorem dX13_good_7 : decode cX13_good 7 = .ok (.putfield 9, 3) := by decide +kernel
theorem dX13_good_10 : decode cX13_good 10 = .ok (.iload_n 1, 1) := by decide +kernel
theorem dX13_good_11 : decode cX13_good 11 = .ok (.ireturn, 1) := by decide +kernel
theorem dX13_granted_0 : decode cX13_granted 0 = .ok (.aload_n 0, 1) := by decide +kernel
theorem dX13_granted_1 : decode cX13_granted 1 = .ok (.iconst 0, 1) := by decide +kernel
theorem dX13_granted_2 : decode cX13_granted 2 = .ok (.invokevirtual 60, 3) := by decide +kernel
theorem dX13_granted_5 : decode cX13_granted 5 = .ok (.pop, 1) := by decide +kernel
theorem dX13_granted_6 : decode cX13_granted 6 = .ok (.iconst 1, 1) := by decide +kernel
theorem dX13_granted_7 : decode cX13_granted 7 = .ok (.ireturn, 1) := by decide +kernel
theorem dX13_in_0 : decode cX13_in 0 = .ok (.iload_n 0, 1) := by decide +kernel
theorem dX13_in_1 : decode cX13_in 1 = .ok (.iload_n 1, 1) := by decide +kernel
theorem dX13_in_2 : decode cX13_in 2 = .ok (.if_icmp .lt 12, 3) := by decide +kernel
theorem dX13_in_5 : decode cX13_in 5 = .ok (.iload_n 0, 1) := by decide +kernel
theorem dX13_in_6 : decode cX13_in 6 = .ok (.iload_n 2, 1) := by decide +kernel
theorem dX13_in_7 : decode cX13_in 7 = .ok (.if_icmp .gt 7, 3) := by decide +kernel
theorem dX13_in_10 : decode cX13_in 10 = .ok (.iconst 1, 1) := by decide +kernel
theorem dX13_in_11 : decode cX13_in 11 = .ok (.goto 4, 3) := by decide +kernel
theorem dX13_in_14 : decode cX13_in 14 = .ok (.iconst 0, 1) := by decide +kernel
theorem dX13_in_15 : decode cX13_in 15 = .ok (.ireturn, 1) := by decide +kernel
theorem dX13_bit_0 : decode cX13_bit 0 = .ok (.iload_n 0, 1) := by decide +kernel
theorem dX13_bit_1 : decode cX13_bit 1 = .ok (.iload_n 1, 1) := by decide +kernel
theorem dX13_bit_2 : decode cX13_bit 2 = .ok (.ishr, 1) := by decide +kernel
theorem dX13_bit_3 : decode cX13_bit 3 = .ok (.iconst 1, 1) := by decide +kernel
theorem dX13_bit_4 : decode cX13_bit 4 = .ok (.iand, 1) := by decide +kernel
theorem dX13_bit_5 : decode cX13_bit 5 = .ok (.iconst 1, 1) := by decide +kernel
theorem dX13_bit_6 : decode cX13_bit 6 = .ok (.if_icmp .ne 7, 3) := by decide +kernel
theorem dX13_bit_9 : decode cX13_bit 9 = .ok (.iconst 1, 1) := by decide +kernel
theorem dX13_bit_10 : decode cX13_bit 10 = .ok (.goto 4, 3) := by decide +kernel
theorem dX13_bit_13 : decode cX13_bit 13 = .ok (.iconst 0, 1) := by decide +kernel
theorem dX13_bit_14 : decode cX13_bit 14 = .ok (.ireturn, 1) := by decide +kernel
theorem dX13_bits_0 : decode cX13_bits 0 = .ok (.iconst 0, 1) := by decide +kernel
theorem dX13_bits_1 : decode cX13_bits 1 = .ok (.istore_n 1, 1) := by decide +kernel
theorem dX13_bits_2 : decode cX13_bits 2 = .ok (.iload_n 0, 1) := by decide +kernel
theorem dX13_bits_3 : decode cX13_bits 3 = .ok (.istore_n 2, 1) := by decide +kernel
theorem dX13_bits_4 : decode cX13_bits 4 = .ok (.iload_n 2, 1) := by decide +kernel
theorem dX13_bits_5 : decode cX13_bits 5 = .ok (.ifCond .eq 15, 3) := by decide +kernel
theorem dX13_bits_8 : decode cX13_bits 8 = .ok (.iinc 1 1, 3) := by decide +kernel
theorem dX13_bits_11 : decode cX13_bits 11 = .ok (.iload_n 2, 1) := by decide +kernel
theorem dX13_bits_12 : decode cX13_bits 12 = .ok (.iload_n 2, 1) := by decide +kernel
theorem dX13_bits_13 : decode cX13_bits 13 = .ok (.iconst 1, 1) := by decide +kernel
theorem dX13_bits_14 : decode cX13_bits 14 = .ok (.isub, 1) := by decide +kernel
theorem dX13_bits_15 : decode cX13_bits 15 = .ok (.iand, 1) := by decide +kernel
theorem dX13_bits_16 : decode cX13_bits 16 = .ok (.istore_n 2, 1) := by decide +kernel
theorem dX13_bits_17 : decode cX13_bits 17 = .ok (.goto (-13), 3) := by decide +kernel
theorem dX13_bits_20 : decode cX13_bits 20 = .ok (.iload_n 1, 1) := by decide +kernel
theorem dX13_bits_21 : decode cX13_bits 21 = .ok (.ireturn, 1) := by decide +kernel
theorem dX13_common_0 : decode cX13_common 0 = .ok (.lload_n 0, 1) := by decide +kernel
theorem dX13_common_1 : decode cX13_common 1 = .ok (.lconst 0, 1) := by decide +kernel
theorem dX13_common_2 : decode cX13_common 2 = .ok (.lcmp, 1) := by decide +kernel
theorem dX13_common_3 : decode cX13_common 3 = .ok (.ifCond .ge 8, 3) := by decide +kernel
theorem dX13_common_6 : decode cX13_common 6 = .ok (.lload_n 0, 1) := by decide +kernel
theorem dX13_common_7 : decode cX13_common 7 = .ok (.lneg, 1) := by decide +kernel
theorem dX13_common_8 : decode cX13_common 8 = .ok (.goto 4, 3) := by decide +kernel
theorem dX13_common_11 : decode cX13_common 11 = .ok (.lload_n 0, 1) := by decide +kernel
theorem dX13_common_12 : decode cX13_common 12 = .ok (.lstore 4, 2) := by decide +kernel
theorem dX13_common_14 : decode cX13_common 14 = .ok (.lload_n 2, 1) := by decide +kernel
theorem dX13_common_15 : decode cX13_common 15 = .ok (.lstore 6, 2) := by decide +kernel
theorem dX13_common_17 : decode cX13_common 17 = .ok (.lload 6, 2) := by decide +kernel
theorem dX13_common_19 : decode cX13_common 19 = .ok (.lconst 0, 1) := by decide +kernel
theorem dX13_common_20 : decode cX13_common 20 = .ok (.lcmp, 1) := by decide +kernel
theorem dX13_common_21 : decode cX13_common 21 = .ok (.ifCond .eq 21, 3) := by decide +kernel
theorem dX13_common_24 : decode cX13_common 24 = .ok (.lload 4, 2) := by decide +kernel
theorem dX13_common_26 : decode cX13_common 26 = .ok (.lload 6, 2) := by decide +kernel
theorem dX13_common_28 : decode cX13_common 28 = .ok (.lrem, 1) := by decide +kernel
theorem dX13_common_29 : decode cX13_common 29 = .ok (.lstore 8, 2) := by decide +kernel
theorem dX13_common_31 : decode cX13_common 31 = .ok (.lload 6, 2) := by decide +kernel
theorem dX13_common_33 : decode cX13_common 33 = .ok (.lstore 4, 2) := by decide +kernel
theorem dX13_common_35 : decode cX13_common 35 = .ok (.lload 8, 2) := by decide +kernel
theorem dX13_common_37 : decode cX13_common 37 = .ok (.lstore 6, 2) := by decide +kernel
theorem dX13_common_39 : decode cX13_common 39 = .ok (.goto (-22), 3) := by decide +kernel
theorem dX13_common_42 : decode cX13_common 42 = .ok (.lload 4, 2) := by decide +kernel
theorem dX13_common_44 : decode cX13_common 44 = .ok (.lreturn, 1) := by decide +kernel
theorem dX13_fraction_0 : decode cX13_fraction 0 = .ok (.aload_n 0, 1) := by decide +kernel
theorem dX13_fraction_1 : decode cX13_fraction 1 = .ok (.iconst 0, 1) := by decide +kernel
theorem dX13_fraction_2 : decode cX13_fraction 2 = .ok (.invokevirtual 60, 3) := by decide +kernel
theorem dX13_fraction_5 : decode cX13_fraction 5 = .ok (.pop, 1) := by decide +kernel
theorem dX13_fraction_6 : decode cX13_fraction 6 = .ok (.iload 5, 2) := by decide +kernel
theorem dX13_fraction_8 : decode cX13_fraction 8 = .ok (.ifCond .eq 7, 3) := by decide +kernel
theorem dX13_fraction_11 : decode cX13_fraction 11 = .ok (.lload_n 3, 1) := by decide +kernel
theorem dX13_fraction_12 : decode cX13_fraction 12 = .ok (.goto 4, 3) := by decide +kernel
theorem dX13_fraction_15 : decode cX13_fraction 15 = .ok (.lload_n 1, 1) := by decide +kernel
theorem dX13_fraction_16 : decode cX13_fraction 16 = .ok (.lload_n 1, 1) := by decide +kernel
theorem dX13_fraction_17 : decode cX13_fraction 17 = .ok (.lload_n 3, 1) := by decide +kernel
theorem dX13_fraction_18 : decode cX13_fraction 18 = .ok (.invokestatic 63, 3) := by decide +kernel
theorem dX13_fraction_21 : decode cX13_fraction 21 = .ok (.ldiv, 1) := by decide +kernel
theorem dX13_fraction_22 : decode cX13_fraction 22 = .ok (.lreturn, 1) := by decide +kernel
theorem dX13_power_0 : decode cX13_power 0 = .ok (.lconst 1, 1) := by decide +kernel
theorem dX13_power_1 : decode cX13_power 1 = .ok (.lstore_n 3, 1) := by decide +kernel
theorem dX13_power_2 : decode cX13_power 2 = .ok (.iconst 0, 1) := by decide +kernel
theorem dX13_power_3 : decode cX13_power 3 = .ok (.istore 5, 2) := by decide +kernel
theorem dX13_power_5 : decode cX13_power 5 = .ok (.iload 5, 2) := by decide +kernel
theorem dX13_power_7 : decode cX13_power 7 = .ok (.iload_n 2, 1) := by decide +kernel
theorem dX13_power_8 : decode cX13_power 8 = .ok (.if_icmp .ge 13, 3) := by decide +kernel
theorem dX13_power_11 : decode cX13_power 11 = .ok (.lload_n 3, 1) := by decide +kernel
theorem dX13_power_12 : decode cX13_power 12 = .ok (.lload_n 0, 1) := by decide +kernel
theorem dX13_power_13 : decode cX13_power 13 = .ok (.lmul, 1) := by decide +kernel
theorem dX13_power_14 : decode cX13_power 14 = .ok (.lstore_n 3, 1) := by decide +kernel
theorem dX13_power_15 : decode cX13_power 15 = .ok (.iinc 5 1, 3) := by decide +kernel
theorem dX13_power_18 : decode cX13_power 18 = .ok (.goto (-13), 3) := by decide +kernel
theorem dX13_power_21 : decode cX13_power 21 = .ok (.lload_n 3, 1) := by decide +kernel
theorem dX13_power_22 : decode cX13_power 22 = .ok (.lreturn, 1) := by decide +kernel
theorem dX13_byteAt_0 : decode cX13_byteAt 0 = .ok (.iload_n 1, 1) := by decide +kernel
theorem dX13_byteAt_1 : decode cX13_byteAt 1 = .ok (.aload_n 0, 1) := by decide +kernel
theorem dX13_byteAt_2 : decode cX13_byteAt 2 = .ok (.getfield 67, 3) := by decide +kernel
theorem dX13_byteAt_5 : decode cX13_byteAt 5 = .ok (.if_icmp .ge 16, 3) := by decide +kernel
theorem dX13_byteAt_8 : decode cX13_byteAt 8 = .ok (.aload_n 0, 1) := by decide +kernel
theorem dX13_byteAt_9 : decode cX13_byteAt 9 = .ok (.getfield 13, 3) := by decide +kernel
theorem dX13_byteAt_12 : decode cX13_byteAt 12 = .ok (.iload_n 1, 1) := by decide +kernel
theorem dX13_byteAt_13 : decode cX13_byteAt 13 = .ok (.baload, 1) := by decide +kernel
theorem dX13_byteAt_14 : decode cX13_byteAt 14 = .ok (.sipush 255, 3) := by decide +kernel
theorem dX13_byteAt_17 : decode cX13_byteAt 17 = .ok (.iand, 1) := by decide +kernel
theorem dX13_byteAt_18 : decode cX13_byteAt 18 = .ok (.goto 4, 3) := by decide +kernel
theorem dX13_byteAt_21 : decode cX13_byteAt 21 = .ok (.iconst (-1), 1) := by decide +kernel
theorem dX13_byteAt_22 : decode cX13_byteAt 22 = .ok (.ireturn, 1) := by decide +kernel
theorem dX13_isLetter_0 : decode cX13_isLetter 0 = .ok (.iload_n 0, 1) := by decide +kernel
theorem dX13_isLetter_1 : decode cX13_isLetter 1 = .ok (.bipush 97, 2) := by decide +kernel
theorem dX13_isLetter_3 : decode cX13_isLetter 3 = .ok (.if_icmp .lt 13, 3) := by decide +kernel
theorem dX13_isLetter_6 : decode cX13_isLetter 6 = .ok (.iload_n 0, 1) := by decide +kernel
theorem dX13_isLetter_7 : decode cX13_isLetter 7 = .ok (.bipush 122, 2) := by decide +kernel
theorem dX13_isLetter_9 : decode cX13_isLetter 9 = .ok (.if_icmp .gt 7, 3) := by decide +kernel
theorem dX13_isLetter_12 : decode cX13_isLetter 12 = .ok (.iconst 1, 1) := by decide +kernel
theorem dX13_isLetter_13 : decode cX13_isLetter 13 = .ok (.goto 4, 3) := by decide +kernel
theorem dX13_isLetter_16 : decode cX13_isLetter 16 = .ok (.iconst 0, 1) := by decide +kernel
theorem dX13_isLetter_17 : decode cX13_isLetter 17 = .ok (.ireturn, 1) := by decide +kernel
theorem dX13_isDigit_0 : decode cX13_isDigit 0 = .ok (.iload_n 0, 1) := by decide +kernel
theorem dX13_isDigit_1 : decode cX13_isDigit 1 = .ok (.bipush 48, 2) := by decide +kernel
theorem dX13_isDigit_3 : decode cX13_isDigit 3 = .ok (.if_icmp .lt 13, 3) := by decide +kernel
theorem dX13_isDigit_6 : decode cX13_isDigit 6 = .ok (.iload_n 0, 1) := by decide +kernel
theorem dX13_isDigit_7 : decode cX13_isDigit 7 = .ok (.bipush 57, 2) := by decide +kernel
theorem dX13_isDigit_9 : decode cX13_isDigit 9 = .ok (.if_icmp .gt 7, 3) := by decide +kernel
theorem dX13_isDigit_12 : decode cX13_isDigit 12 = .ok (.iconst 1, 1) := by decide +kernel
theorem dX13_isDigit_13 : decode cX13_isDigit 13 = .ok (.goto 4, 3) := by decide +kernel
theorem dX13_isDigit_16 : decode cX13_isDigit 16 = .ok (.iconst 0, 1) := by decide +kernel
theorem dX13_isDigit_17 : decode cX13_isDigit 17 = .ok (.ireturn, 1) := by decide +kernel
theorem dX13_packed_0 : decode cX13_packed 0 = .ok (.lconst 0, 1) := by decide +kernel
theorem dX13_packed_1 : decode cX13_packed 1 = .ok (.lstore_n 1, 1) := by decide +kernel
theorem dX13_packed_2 : decode cX13_packed 2 = .ok (.iconst 0, 1) := by decide +kernel
theorem dX13_packed_3 : decode cX13_packed 3 = .ok (.istore_n 3, 1) := by decide +kernel
theorem dX13_packed_4 : decode cX13_packed 4 = .ok (.iload_n 3, 1) := by decide +kernel
theorem dX13_packed_5 : decode cX13_packed 5 = .ok (.aload_n 0, 1) := by decide +kernel
theorem dX13_packed_6 : decode cX13_packed 6 = .ok (.invokevirtual 70, 3) := by decide +kernel
theorem dX13_packed_9 : decode cX13_packed 9 = .ok (.if_icmp .ge 27, 3) := by decide +kernel
theorem dX13_packed_12 : decode cX13_packed 12 = .ok (.ldc2_w 76, 3) := by decide +kernel
theorem dX13_packed_15 : decode cX13_packed 15 = .ok (.lload_n 1, 1) := by decide +kernel
theorem dX13_packed_16 : decode cX13_packed 16 = .ok (.lmul, 1) := by decide +kernel
theorem dX13_packed_17 : decode cX13_packed 17 = .ok (.aload_n 0, 1) := by decide +kernel
theorem dX13_packed_18 : decode cX13_packed 18 = .ok (.iload_n 3, 1) := by decide +kernel
theorem dX13_packed_19 : decode cX13_packed 19 = .ok (.invokevirtual 78, 3) := by decide +kernel
theorem dX13_packed_22 : decode cX13_packed 22 = .ok (.bipush 97, 2) := by decide +kernel
theorem dX13_packed_24 : decode cX13_packed 24 = .ok (.isub, 1) := by decide +kernel
theorem dX13_packed_25 : decode cX13_packed 25 = .ok (.iconst 1, 1) := by decide +kernel
theorem dX13_packed_26 : decode cX13_packed 26 = .ok (.iadd, 1) := by decide +kernel
theorem dX13_packed_27 : decode cX13_packed 27 = .ok (.i2l, 1) := by decide +kernel
theorem dX13_packed_28 : decode cX13_packed 28 = .ok (.ladd, 1) := by decide +kernel
theorem dX13_packed_29 : decode cX13_packed 29 = .ok (.lstore_n 1, 1) := by decide +kernel
theorem dX13_packed_30 : decode cX13_packed 30 = .ok (.iinc 3 1, 3) := by decide +kernel
theorem dX13_packed_33 : decode cX13_packed 33 = .ok (.goto (-29), 3) := by decide +kernel
theorem dX13_packed_36 : decode cX13_packed 36 = .ok (.lload_n 1, 1) := by decide +kernel
theorem dX13_packed_37 : decode cX13_packed 37 = .ok (.lreturn, 1) := by decide +kernel
theorem dX13_goesOn_0 : decode cX13_goesOn 0 = .ok (.aload_n 0, 1) := by decide +kernel
theorem dX13_goesOn_1 : decode cX13_goesOn 1 = .ok (.getfield 82, 3) := by decide +kernel
theorem dX13_goesOn_4 : decode cX13_goesOn 4 = .ok (.iconst 5, 1) := by decide +kernel
theorem dX13_goesOn_5 : decode cX13_goesOn 5 = .ok (.if_icmp .ne 4, 3) := by decide +kernel
theorem dX13_goesOn_8 : decode cX13_goesOn 8 = .ok (.return_, 1) := by decide +kernel
theorem dX13_goesOn_9 : decode cX13_goesOn 9 = .ok (.aload_n 0, 1) := by decide +kernel
theorem dX13_goesOn_10 : decode cX13_goesOn 10 = .ok (.aload_n 0, 1) := by decide +kernel
theorem dX13_goesOn_11 : decode cX13_goesOn 11 = .ok (.getfield 85, 3) := by decide +kernel
theorem dX13_goesOn_14 : decode cX13_goesOn 14 = .ok (.invokevirtual 88, 3) := by decide +kernel
theorem dX13_goesOn_17 : decode cX13_goesOn 17 = .ok (.bipush 32, 2) := by decide +kernel
theorem dX13_goesOn_19 : decode cX13_goesOn 19 = .ok (.if_icmp .ne 16, 3) := by decide +kernel
theorem dX13_goesOn_22 : decode cX13_goesOn 22 = .ok (.aload_n 0, 1) := by decide +kernel
theorem dX13_goesOn_23 : decode cX13_goesOn 23 = .ok (.dup, 1) := by decide +kernel
theorem dX13_goesOn_24 : decode cX13_goesOn 24 = .ok (.getfield 85, 3) := by decide +kernel
theorem dX13_goesOn_27 : decode cX13_goesOn 27 = .ok (.iconst 1, 1) := by decide +kernel
theorem dX13_goesOn_28 : decode cX13_goesOn 28 = .ok (.iadd, 1) := by decide +kernel
theorem dX13_goesOn_29 : decode cX13_goesOn 29 = .ok (.putfield 85, 3) := by decide +kernel
theorem dX13_goesOn_32 : decode cX13_goesOn 32 = .ok (.goto (-23), 3) := by decide +kernel
theorem dX13_goesOn_35 : decode cX13_goesOn 35 = .ok (.aload_n 0, 1) := by decide +kernel
theorem dX13_goesOn_36 : decode cX13_goesOn 36 = .ok (.aload_n 0, 1) := by decide +kernel
theorem dX13_goesOn_37 : decode cX13_goesOn 37 = .ok (.getfield 85, 3) := by decide +kernel
theorem dX13_goesOn_40 : decode cX13_goesOn 40 = .ok (.putfield 91, 3) := by decide +kernel
theorem dX13_goesOn_43 : decode cX13_goesOn 43 = .ok (.aload_n 0, 1) := by decide +kernel
theorem dX13_goesOn_44 : decode cX13_goesOn 44 = .ok (.iconst 0, 1) := by decide +kernel
theorem dX13_goesOn_45 : decode cX13_goesOn 45 = .ok (.putfield 82, 3) := by decide +kernel
theorem dX13_goesOn_48 : decode cX13_goesOn 48 = .ok (.aload_n 0, 1) := by decide +kernel
theorem dX13_goesOn_49 : decode cX13_goesOn 49 = .ok (.aload_n 0, 1) := by decide +kernel
theorem dX13_goesOn_50 : decode cX13_goesOn 50 = .ok (.getfield 85, 3) := by decide +kernel
theorem dX13_goesOn_53 : decode cX13_goesOn 53 = .ok (.invokevirtual 88, 3) := by decide +kernel
theorem dX13_goesOn_56 : decode cX13_goesOn 56 = .ok (.istore_n 1, 1) := by decide +kernel
theorem dX13_goesOn_57 : decode cX13_goesOn 57 = .ok (.iconst 0, 1) := by decide +kernel
theorem dX13_goesOn_58 : decode cX13_goesOn 58 = .ok (.istore_n 2, 1) := by decide +kernel
theorem dX13_goesOn_59 : decode cX13_goesOn 59 = .ok (.iload_n 1, 1) := by decide +kernel
theorem dX13_goesOn_60 : decode cX13_goesOn 60 = .ok (.iconst (-1), 1) := by decide +kernel
theorem dX13_goesOn_61 : decode cX13_goesOn 61 = .ok (.if_icmp .ne 11, 3) := by decide +kernel
theorem dX13_goesOn_64 : decode cX13_goesOn 64 = .ok (.aload_n 0, 1) := by decide +kernel
theorem dX13_goesOn_65 : decode cX13_goesOn 65 = .ok (.iconst 1, 1) := by decide +kernel
theorem dX13_goesOn_66 : decode cX13_goesOn 66 = .ok (.putfield 82, 3) := by decide +kernel
theorem dX13_goesOn_69 : decode cX13_goesOn 69 = .ok (.goto 196, 3) := by decide +kernel
theorem dX13_goesOn_72 : decode cX13_goesOn 72 = .ok (.iload_n 1, 1) := by decide +kernel
theorem dX13_goesOn_73 : decode cX13_goesOn 73 = .ok (.invokestatic 94, 3) := by decide +kernel
theorem dX13_goesOn_76 : decode cX13_goesOn 76 = .ok (.ifCond .eq 85, 3) := by decide +kernel
theorem dX13_goesOn_79 : decode cX13_goesOn 79 = .ok (.aload_n 0, 1) := by decide +kernel
theorem dX13_goesOn_80 : decode cX13_goesOn 80 = .ok (.lconst 0, 1) := by decide +kernel
theorem dX13_goesOn_81 : decode cX13_goesOn 81 = .ok (.putfield 98, 3) := by decide +kernel
theorem dX13_goesOn_84 : decode cX13_goesOn 84 = .ok (.aload_n 0, 1) := by decide +kernel
theorem dX13_goesOn_85 : decode cX13_goesOn 85 = .ok (.aload_n 0, 1) := by decide +kernel
theorem dX13_goesOn_86 : decode cX13_goesOn 86 = .ok (.getfield 85, 3) := by decide +kernel
theorem dX13_goesOn_89 : decode cX13_goesOn 89 = .ok (.invokevirtual 88, 3) := by decide +kernel
theorem dX13_goesOn_92 : decode cX13_goesOn 92 = .ok (.invokestatic 94, 3) := by decide +kernel
theorem dX13_goesOn_95 : decode cX13_goesOn 95 = .ok (.ifCond .eq 52, 3) := by decide +kernel
theorem dX13_goesOn_98 : decode cX13_goesOn 98 = .ok (.iload_n 2, 1) := by decide +kernel
theorem dX13_goesOn_99 : decode cX13_goesOn 99 = .ok (.bipush 8, 2) := by decide +kernel
theorem dX13_goesOn_101 : decode cX13_goesOn 101 = .ok (.if_icmp .ge 30, 3) := by decide +kernel
theorem dX13_goesOn_104 : decode cX13_goesOn 104 = .ok (.aload_n 0, 1) := by decide +kernel
theorem dX13_goesOn_105 : decode cX13_goesOn 105 = .ok (.ldc2_w 76, 3) := by decide +kernel
theorem dX13_goesOn_108 : decode cX13_goesOn 108 = .ok (.aload_n 0, 1) := by decide +kernel
theorem dX13_goesOn_109 : decode cX13_goesOn 109 = .ok (.getfield 98, 3) := by decide +kernel
theorem dX13_goesOn_112 : decode cX13_goesOn 112 = .ok (.lmul, 1) := by decide +kernel
theorem dX13_goesOn_113 : decode cX13_goesOn 113 = .ok (.aload_n 0, 1) := by decide +kernel
theorem dX13_goesOn_114 : decode cX13_goesOn 114 = .ok (.aload_n 0, 1) := by decide +kernel
theorem dX13_goesOn_115 : decode cX13_goesOn 115 = .ok (.getfield 85, 3) := by decide +kernel
theorem dX13_goesOn_118 : decode cX13_goesOn 118 = .ok (.invokevirtual 88, 3) := by decide +kernel
theorem dX13_goesOn_121 : decode cX13_goesOn 121 = .ok (.bipush 97, 2) := by decide +kernel
theorem dX13_goesOn_123 : decode cX13_goesOn 123 = .ok (.isub, 1) := by decide +kernel
theorem dX13_goesOn_124 : decode cX13_goesOn 124 = .ok (.iconst 1, 1) := by decide +kernel
theorem dX13_goesOn_125 : decode cX13_goesOn 125 = .ok (.iadd, 1) := by decide +kernel
theorem dX13_goesOn_126 : decode cX13_goesOn 126 = .ok (.i2l, 1) := by decide +kernel
theorem dX13_goesOn_127 : decode cX13_goesOn 127 = .ok (.ladd, 1) := by decide +kernel
theorem dX13_goesOn_128 : decode cX13_goesOn 128 = .ok (.putfield 98, 3) := by decide +kernel
theorem dX13_goesOn_131 : decode cX13_goesOn 131 = .ok (.iinc 2 1, 3) := by decide +kernel
theorem dX13_goesOn_134 : decode cX13_goesOn 134 = .ok (.aload_n 0, 1) := by decide +kernel
theorem dX13_goesOn_135 : decode cX13_goesOn 135 = .ok (.dup, 1) := by decide +kernel
theorem dX13_goesOn_136 : decode cX13_goesOn 136 = .ok (.getfield 85, 3) := by decide +kernel
theorem dX13_goesOn_139 : decode cX13_goesOn 139 = .ok (.iconst 1, 1) := by decide +kernel
theorem dX13_goesOn_140 : decode cX13_goesOn 140 = .ok (.iadd, 1) := by decide +kernel
theorem dX13_goesOn_141 : decode cX13_goesOn 141 = .ok (.putfield 85, 3) := by decide +kernel
theorem dX13_goesOn_144 : decode cX13_goesOn 144 = .ok (.goto (-60), 3) := by decide +kernel
theorem dX13_goesOn_147 : decode cX13_goesOn 147 = .ok (.iload_n 2, 1) := by decide +kernel
theorem dX13_goesOn_148 : decode cX13_goesOn 148 = .ok (.bipush 8, 2) := by decide +kernel
theorem dX13_goesOn_150 : decode cX13_goesOn 150 = .ok (.if_icmp .gt 115, 3) := by decide +kernel
theorem dX13_goesOn_153 : decode cX13_goesOn 153 = .ok (.aload_n 0, 1) := by decide +kernel
theorem dX13_goesOn_154 : decode cX13_goesOn 154 = .ok (.iconst 2, 1) := by decide +kernel
theorem dX13_goesOn_155 : decode cX13_goesOn 155 = .ok (.putfield 82, 3) := by decide +kernel
theorem dX13_goesOn_158 : decode cX13_goesOn 158 = .ok (.goto 107, 3) := by decide +kernel
theorem dX13_goesOn_161 : decode cX13_goesOn 161 = .ok (.iload_n 1, 1) := by decide +kernel
theorem dX13_goesOn_162 : decode cX13_goesOn 162 = .ok (.invokestatic 102, 3) := by decide +kernel
theorem dX13_goesOn_165 : decode cX13_goesOn 165 = .ok (.ifCond .eq 79, 3) := by decide +kernel
theorem dX13_goesOn_168 : decode cX13_goesOn 168 = .ok (.aload_n 0, 1) := by decide +kernel
theorem dX13_goesOn_169 : decode cX13_goesOn 169 = .ok (.iconst 0, 1) := by decide +kernel
theorem dX13_goesOn_170 : decode cX13_goesOn 170 = .ok (.putfield 105, 3) := by decide +kernel
theorem dX13_goesOn_173 : decode cX13_goesOn 173 = .ok (.aload_n 0, 1) := by decide +kernel
theorem dX13_goesOn_174 : decode cX13_goesOn 174 = .ok (.aload_n 0, 1) := by decide +kernel
theorem dX13_goesOn_175 : decode cX13_goesOn 175 = .ok (.getfield 85, 3) := by decide +kernel
theorem dX13_goesOn_178 : decode cX13_goesOn 178 = .ok (.invokevirtual 88, 3) := by decide +kernel
theorem dX13_goesOn_181 : decode cX13_goesOn 181 = .ok (.invokestatic 102, 3) := by decide +kernel
theorem dX13_goesOn_184 : decode cX13_goesOn 184 = .ok (.ifCond .eq 47, 3) := by decide +kernel
theorem dX13_goesOn_187 : decode cX13_goesOn 187 = .ok (.iload_n 2, 1) := by decide +kernel
theorem dX13_goesOn_188 : decode cX13_goesOn 188 = .ok (.iconst 3, 1) := by decide +kernel
theorem dX13_goesOn_189 : decode cX13_goesOn 189 = .ok (.if_icmp .ge 26, 3) := by decide +kernel
theorem dX13_goesOn_192 : decode cX13_goesOn 192 = .ok (.aload_n 0, 1) := by decide +kernel
theorem dX13_goesOn_193 : decode cX13_goesOn 193 = .ok (.bipush 10, 2) := by decide +kernel
theorem dX13_goesOn_195 : decode cX13_goesOn 195 = .ok (.aload_n 0, 1) := by decide +kernel
theorem dX13_goesOn_196 : decode cX13_goesOn 196 = .ok (.getfield 105, 3) := by decide +kernel
theorem dX13_goesOn_199 : decode cX13_goesOn 199 = .ok (.imul, 1) := by decide +kernel
theorem dX13_goesOn_200 : decode cX13_goesOn 200 = .ok (.aload_n 0, 1) := by decide +kernel
theorem dX13_goesOn_201 : decode cX13_goesOn 201 = .ok (.aload_n 0, 1) := by decide +kernel
theorem dX13_goesOn_202 : decode cX13_goesOn 202 = .ok (.getfield 85, 3) := by decide +kernel
theorem dX13_goesOn_205 : decode cX13_goesOn 205 = .ok (.invokevirtual 88, 3) := by decide +kernel
theorem dX13_goesOn_208 : decode cX13_goesOn 208 = .ok (.iadd, 1) := by decide +kernel
theorem dX13_goesOn_209 : decode cX13_goesOn 209 = .ok (.bipush 48, 2) := by decide +kernel
theorem dX13_goesOn_211 : decode cX13_goesOn 211 = .ok (.isub, 1) := by decide +kernel
theorem dX13_goesOn_212 : decode cX13_goesOn 212 = .ok (.putfield 105, 3) := by decide +kernel
theorem dX13_goesOn_215 : decode cX13_goesOn 215 = .ok (.iinc 2 1, 3) := by decide +kernel
theorem dX13_goesOn_218 : decode cX13_goesOn 218 = .ok (.aload_n 0, 1) := by decide +kernel
theorem dX13_goesOn_219 : decode cX13_goesOn 219 = .ok (.dup, 1) := by decide +kernel
theorem dX13_goesOn_220 : decode cX13_goesOn 220 = .ok (.getfield 85, 3) := by decide +kernel
theorem dX13_goesOn_223 : decode cX13_goesOn 223 = .ok (.iconst 1, 1) := by decide +kernel
theorem dX13_goesOn_224 : decode cX13_goesOn 224 = .ok (.iadd, 1) := by decide +kernel
theorem dX13_goesOn_225 : decode cX13_goesOn 225 = .ok (.putfield 85, 3) := by decide +kernel
theorem dX13_goesOn_228 : decode cX13_goesOn 228 = .ok (.goto (-55), 3) := by decide +kernel
theorem dX13_goesOn_231 : decode cX13_goesOn 231 = .ok (.iload_n 2, 1) := by decide +kernel
theorem dX13_goesOn_232 : decode cX13_goesOn 232 = .ok (.iconst 3, 1) := by decide +kernel
theorem dX13_goesOn_233 : decode cX13_goesOn 233 = .ok (.if_icmp .gt 32, 3) := by decide +kernel
theorem dX13_goesOn_236 : decode cX13_goesOn 236 = .ok (.aload_n 0, 1) := by decide +kernel
theorem dX13_goesOn_237 : decode cX13_goesOn 237 = .ok (.iconst 3, 1) := by decide +kernel
theorem dX13_goesOn_238 : decode cX13_goesOn 238 = .ok (.putfield 82, 3) := by decide +kernel
theorem dX13_goesOn_241 : decode cX13_goesOn 241 = .ok (.goto 24, 3) := by decide +kernel
theorem dX13_goesOn_244 : decode cX13_goesOn 244 = .ok (.iload_n 1, 1) := by decide +kernel
theorem dX13_goesOn_245 : decode cX13_goesOn 245 = .ok (.bipush 59, 2) := by decide +kernel
theorem dX13_goesOn_247 : decode cX13_goesOn 247 = .ok (.if_icmp .ne 18, 3) := by decide +kernel
theorem dX13_goesOn_250 : decode cX13_goesOn 250 = .ok (.aload_n 0, 1) := by decide +kernel
theorem dX13_goesOn_251 : decode cX13_goesOn 251 = .ok (.iconst 4, 1) := by decide +kernel
theorem dX13_goesOn_252 : decode cX13_goesOn 252 = .ok (.putfield 82, 3) := by decide +kernel
theorem dX13_goesOn_255 : decode cX13_goesOn 255 = .ok (.aload_n 0, 1) := by decide +kernel
theorem dX13_goesOn_256 : decode cX13_goesOn 256 = .ok (.dup, 1) := by decide +kernel
theorem dX13_goesOn_257 : decode cX13_goesOn 257 = .ok (.getfield 85, 3) := by decide +kernel
theorem dX13_goesOn_260 : decode cX13_goesOn 260 = .ok (.iconst 1, 1) := by decide +kernel
theorem dX13_goesOn_261 : decode cX13_goesOn 261 = .ok (.iadd, 1) := by decide +kernel
theorem dX13_goesOn_262 : decode cX13_goesOn 262 = .ok (.putfield 85, 3) := by decide +kernel
theorem dX13_goesOn_265 : decode cX13_goesOn 265 = .ok (.return_, 1) := by decide +kernel
theorem dX13_flaw_0 : decode cX13_flaw 0 = .ok (.aload_n 0, 1) := by decide +kernel
theorem dX13_flaw_1 : decode cX13_flaw 1 = .ok (.getfield 82, 3) := by decide +kernel
theorem dX13_flaw_4 : decode cX13_flaw 4 = .ok (.iconst 5, 1) := by decide +kernel
theorem dX13_flaw_5 : decode cX13_flaw 5 = .ok (.if_icmp .ne 4, 3) := by decide +kernel
theorem dX13_flaw_8 : decode cX13_flaw 8 = .ok (.return_, 1) := by decide +kernel
theorem dX13_flaw_9 : decode cX13_flaw 9 = .ok (.aload_n 0, 1) := by decide +kernel
theorem dX13_flaw_10 : decode cX13_flaw 10 = .ok (.iload_n 1, 1) := by decide +kernel
theorem dX13_flaw_11 : decode cX13_flaw 11 = .ok (.putfield 108, 3) := by decide +kernel
theorem dX13_flaw_14 : decode cX13_flaw 14 = .ok (.aload_n 0, 1) := by decide +kernel
theorem dX13_flaw_15 : decode cX13_flaw 15 = .ok (.aload_n 0, 1) := by decide +kernel
theorem dX13_flaw_16 : decode cX13_flaw 16 = .ok (.getfield 91, 3) := by decide +kernel
theorem dX13_flaw_19 : decode cX13_flaw 19 = .ok (.putfield 111, 3) := by decide +kernel
theorem dX13_flaw_22 : decode cX13_flaw 22 = .ok (.aload_n 0, 1) := by decide +kernel
theorem dX13_flaw_23 : decode cX13_flaw 23 = .ok (.iconst 5, 1) := by decide +kernel
theorem dX13_flaw_24 : decode cX13_flaw 24 = .ok (.putfield 82, 3) := by decide +kernel
theorem dX13_flaw_27 : decode cX13_flaw 27 = .ok (.return_, 1) := by decide +kernel
theorem dX13_isWord_0 : decode cX13_isWord 0 = .ok (.aload_n 0, 1) := by decide +kernel
theorem dX13_isWord_1 : decode cX13_isWord 1 = .ok (.getfield 82, 3) := by decide +kernel
theorem dX13_isWord_4 : decode cX13_isWord 4 = .ok (.iconst 2, 1) := by decide +kernel
theorem dX13_isWord_5 : decode cX13_isWord 5 = .ok (.if_icmp .ne 19, 3) := by decide +kernel
theorem dX13_isWord_8 : decode cX13_isWord 8 = .ok (.aload_n 0, 1) := by decide +kernel
theorem dX13_isWord_9 : decode cX13_isWord 9 = .ok (.getfield 98, 3) := by decide +kernel
theorem dX13_isWord_12 : decode cX13_isWord 12 = .ok (.aload_n 1, 1) := by decide +kernel
theorem dX13_isWord_13 : decode cX13_isWord 13 = .ok (.invokestatic 114, 3) := by decide +kernel
theorem dX13_isWord_16 : decode cX13_isWord 16 = .ok (.lcmp, 1) := by decide +kernel
theorem dX13_isWord_17 : decode cX13_isWord 17 = .ok (.ifCond .ne 7, 3) := by decide +kernel
theorem dX13_isWord_20 : decode cX13_isWord 20 = .ok (.iconst 1, 1) := by decide +kernel
theorem dX13_isWord_21 : decode cX13_isWord 21 = .ok (.goto 4, 3) := by decide +kernel
theorem dX13_isWord_24 : decode cX13_isWord 24 = .ok (.iconst 0, 1) := by decide +kernel
theorem dX13_isWord_25 : decode cX13_isWord 25 = .ok (.ireturn, 1) := by decide +kernel
theorem dX13_eatsSemicolon_0 : decode cX13_eatsSemicolon 0 = .ok (.aload_n 0, 1) := by decide +kernel
theorem dX13_eatsSemicolon_1 : decode cX13_eatsSemicolon 1 = .ok (.getfield 82, 3) := by decide +kernel
theorem dX13_eatsSemicolon_4 : decode cX13_eatsSemicolon 4 = .ok (.iconst 4, 1) := by decide +kernel
theorem dX13_eatsSemicolon_5 : decode cX13_eatsSemicolon 5 = .ok (.if_icmp .ne 7, 3) := by decide +kernel
theorem dX13_eatsSemicolon_8 : decode cX13_eatsSemicolon 8 = .ok (.iconst 1, 1) := by decide +kernel
theorem dX13_eatsSemicolon_9 : decode cX13_eatsSemicolon 9 = .ok (.goto 4, 3) := by decide +kernel
theorem dX13_eatsSemicolon_12 : decode cX13_eatsSemicolon 12 = .ok (.iconst 0, 1) := by decide +kernel
theorem dX13_eatsSemicolon_13 : decode cX13_eatsSemicolon 13 = .ok (.istore_n 1, 1) := by decide +kernel
theorem dX13_eatsSemicolon_14 : decode cX13_eatsSemicolon 14 = .ok (.iload_n 1, 1) := by decide +kernel
theorem dX13_eatsSemicolon_15 : decode cX13_eatsSemicolon 15 = .ok (.ifCond .eq 7, 3) := by decide +kernel
theorem dX13_eatsSemicolon_18 : decode cX13_eatsSemicolon 18 = .ok (.aload_n 0, 1) := by decide +kernel
theorem dX13_eatsSemicolon_19 : decode cX13_eatsSemicolon 19 = .ok (.invokevirtual 118, 3) := by decide +kernel
theorem dX13_eatsSemicolon_22 : decode cX13_eatsSemicolon 22 = .ok (.iload_n 1, 1) := by decide +kernel
theorem dX13_eatsSemicolon_23 : decode cX13_eatsSemicolon 23 = .ok (.ireturn, 1) := by decide +kernel
theorem dX13_needs_0 : decode cX13_needs 0 = .ok (.aload_n 0, 1) := by decide +kernel
theorem dX13_needs_1 : decode cX13_needs 1 = .ok (.aload_n 1, 1) := by decide +kernel
theorem dX13_needs_2 : decode cX13_needs 2 = .ok (.invokevirtual 121, 3) := by decide +kernel
theorem dX13_needs_5 : decode cX13_needs 5 = .ok (.ifCond .ne 8, 3) := by decide +kernel
theorem dX13_needs_8 : decode cX13_needs 8 = .ok (.aload_n 0, 1) := by decide +kernel
theorem dX13_needs_9 : decode cX13_needs 9 = .ok (.iconst 1, 1) := by decide +kernel
theorem dX13_needs_10 : decode cX13_needs 10 = .ok (.invokevirtual 125, 3) := by decide +kernel
theorem dX13_needs_13 : decode cX13_needs 13 = .ok (.aload_n 0, 1) := by decide +kernel
theorem dX13_needs_14 : decode cX13_needs 14 = .ok (.invokevirtual 118, 3) := by decide +kernel
theorem dX13_needs_17 : decode cX13_needs 17 = .ok (.return_, 1) := by decide +kernel
theorem dX13_bounded_0 : decode cX13_bounded 0 = .ok (.aload_n 0, 1) := by decide +kernel
theorem dX13_bounded_1 : decode cX13_bounded 1 = .ok (.getfield 82, 3) := by decide +kernel
theorem dX13_bounded_4 : decode cX13_bounded 4 = .ok (.iconst 3, 1) := by decide +kernel
theorem dX13_bounded_5 : decode cX13_bounded 5 = .ok (.if_icmp .eq 11, 3) := by decide +kernel
theorem dX13_bounded_8 : decode cX13_bounded 8 = .ok (.aload_n 0, 1) := by decide +kernel
theorem dX13_bounded_9 : decode cX13_bounded 9 = .ok (.iconst 1, 1) := by decide +kernel
theorem dX13_bounded_10 : decode cX13_bounded 10 = .ok (.invokevirtual 125, 3) := by decide +kernel
theorem dX13_bounded_13 : decode cX13_bounded 13 = .ok (.goto 20, 3) := by decide +kernel
theorem dX13_bounded_16 : decode cX13_bounded 16 = .ok (.aload_n 0, 1) := by decide +kernel
theorem dX13_bounded_17 : decode cX13_bounded 17 = .ok (.getfield 105, 3) := by decide +kernel
theorem dX13_bounded_20 : decode cX13_bounded 20 = .ok (.iload_n 1, 1) := by decide +kernel
theorem dX13_bounded_21 : decode cX13_bounded 21 = .ok (.iload_n 2, 1) := by decide +kernel
theorem dX13_bounded_22 : decode cX13_bounded 22 = .ok (.invokestatic 129, 3) := by decide +kernel
theorem dX13_bounded_25 : decode cX13_bounded 25 = .ok (.ifCond .ne 8, 3) := by decide +kernel
theorem dX13_bounded_28 : decode cX13_bounded 28 = .ok (.aload_n 0, 1) := by decide +kernel
theorem dX13_bounded_29 : decode cX13_bounded 29 = .ok (.iconst 4, 1) := by decide +kernel
theorem dX13_bounded_30 : decode cX13_bounded 30 = .ok (.invokevirtual 125, 3) := by decide +kernel
theorem dX13_bounded_33 : decode cX13_bounded 33 = .ok (.aload_n 0, 1) := by decide +kernel
theorem dX13_bounded_34 : decode cX13_bounded 34 = .ok (.getfield 82, 3) := by decide +kernel
theorem dX13_bounded_37 : decode cX13_bounded 37 = .ok (.iconst 5, 1) := by decide +kernel
theorem dX13_bounded_38 : decode cX13_bounded 38 = .ok (.if_icmp .ne 7, 3) := by decide +kernel
theorem dX13_bounded_41 : decode cX13_bounded 41 = .ok (.iload_n 1, 1) := by decide +kernel
theorem dX13_bounded_42 : decode cX13_bounded 42 = .ok (.goto 7, 3) := by decide +kernel
theorem dX13_bounded_45 : decode cX13_bounded 45 = .ok (.aload_n 0, 1) := by decide +kernel
theorem dX13_bounded_46 : decode cX13_bounded 46 = .ok (.getfield 105, 3) := by decide +kernel
theorem dX13_bounded_49 : decode cX13_bounded 49 = .ok (.ireturn, 1) := by decide +kernel
theorem dX13_readWhole_0 : decode cX13_readWhole 0 = .ok (.aload_n 0, 1) := by decide +kernel
theorem dX13_readWhole_1 : decode cX13_readWhole 1 = .ok (.iload_n 1, 1) := by decide +kernel
theorem dX13_readWhole_2 : decode cX13_readWhole 2 = .ok (.iload_n 2, 1) := by decide +kernel
theorem dX13_readWhole_3 : decode cX13_readWhole 3 = .ok (.invokevirtual 133, 3) := by decide +kernel
theorem dX13_readWhole_6 : decode cX13_readWhole 6 = .ok (.istore_n 3, 1) := by decide +kernel
theorem dX13_readWhole_7 : decode cX13_readWhole 7 = .ok (.aload_n 0, 1) := by decide +kernel
theorem dX13_readWhole_8 : decode cX13_readWhole 8 = .ok (.invokevirtual 118, 3) := by decide +kernel
theorem dX13_readWhole_11 : decode cX13_readWhole 11 = .ok (.iload_n 3, 1) := by decide +kernel
theorem dX13_readWhole_12 : decode cX13_readWhole 12 = .ok (.ireturn, 1) := by decide +kernel
theorem dX13_readPart_0 : decode cX13_readPart 0 = .ok (.aload_n 0, 1) := by decide +kernel
theorem dX13_readPart_1 : decode cX13_readPart 1 = .ok (.aload_n 1, 1) := by decide +kernel
theorem dX13_readPart_2 : decode cX13_readPart 2 = .ok (.invokevirtual 137, 3) := by decide +kernel
theorem dX13_readPart_5 : decode cX13_readPart 5 = .ok (.aload_n 0, 1) := by decide +kernel
theorem dX13_readPart_6 : decode cX13_readPart 6 = .ok (.iload_n 2, 1) := by decide +kernel
theorem dX13_readPart_7 : decode cX13_readPart 7 = .ok (.iload_n 3, 1) := by decide +kernel
theorem dX13_readPart_8 : decode cX13_readPart 8 = .ok (.invokevirtual 141, 3) := by decide +kernel
theorem dX13_readPart_11 : decode cX13_readPart 11 = .ok (.ireturn, 1) := by decide +kernel
theorem dX13_isName_0 : decode cX13_isName 0 = .ok (.aload_n 0, 1) := by decide +kernel
theorem dX13_isName_1 : decode cX13_isName 1 = .ok (.getfield 82, 3) := by decide +kernel
theorem dX13_isName_4 : decode cX13_isName 4 = .ok (.iconst 2, 1) := by decide +kernel
theorem dX13_isName_5 : decode cX13_isName 5 = .ok (.if_icmp .ne 30, 3) := by decide +kernel
theorem dX13_isName_8 : decode cX13_isName 8 = .ok (.aload_n 0, 1) := by decide +kernel
theorem dX13_isName_9 : decode cX13_isName 9 = .ok (.ldc 144, 2) := by decide +kernel
theorem dX13_isName_11 : decode cX13_isName 11 = .ok (.invokevirtual 121, 3) := by decide +kernel
theorem dX13_isName_14 : decode cX13_isName 14 = .ok (.ifCond .ne 21, 3) := by decide +kernel
theorem dX13_isName_17 : decode cX13_isName 17 = .ok (.aload_n 0, 1) := by decide +kernel
theorem dX13_isName_18 : decode cX13_isName 18 = .ok (.ldc 146, 2) := by decide +kernel
theorem dX13_isName_20 : decode cX13_isName 20 = .ok (.invokevirtual 121, 3) := by decide +kernel
theorem dX13_isName_23 : decode cX13_isName 23 = .ok (.ifCond .ne 12, 3) := by decide +kernel
theorem dX13_isName_26 : decode cX13_isName 26 = .ok (.aload_n 0, 1) := by decide +kernel
theorem dX13_isName_27 : decode cX13_isName 27 = .ok (.ldc 148, 2) := by decide +kernel
theorem dX13_isName_29 : decode cX13_isName 29 = .ok (.invokevirtual 121, 3) := by decide +kernel
theorem dX13_isName_32 : decode cX13_isName 32 = .ok (.ifCond .eq 5, 3) := by decide +kernel
theorem dX13_isName_35 : decode cX13_isName 35 = .ok (.iconst 0, 1) := by decide +kernel
theorem dX13_isName_36 : decode cX13_isName 36 = .ok (.ireturn, 1) := by decide +kernel
theorem dX13_isName_37 : decode cX13_isName 37 = .ok (.aload_n 0, 1) := by decide +kernel
theorem dX13_isName_38 : decode cX13_isName 38 = .ok (.ldc 150, 2) := by decide +kernel
theorem dX13_isName_40 : decode cX13_isName 40 = .ok (.invokevirtual 121, 3) := by decide +kernel
theorem dX13_isName_43 : decode cX13_isName 43 = .ok (.ifCond .ne 25, 3) := by decide +kernel
theorem dX13_isName_46 : decode cX13_isName 46 = .ok (.aload_n 0, 1) := by decide +kernel
theorem dX13_isName_47 : decode cX13_isName 47 = .ok (.ldc 152, 2) := by decide +kernel
theorem dX13_isName_49 : decode cX13_isName 49 = .ok (.invokevirtual 121, 3) := by decide +kernel
theorem dX13_isName_52 : decode cX13_isName 52 = .ok (.ifCond .ne 16, 3) := by decide +kernel
theorem dX13_isName_55 : decode cX13_isName 55 = .ok (.aload_n 0, 1) := by decide +kernel
theorem dX13_isName_56 : decode cX13_isName 56 = .ok (.ldc 154, 2) := by decide +kernel
theorem dX13_isName_58 : decode cX13_isName 58 = .ok (.invokevirtual 121, 3) := by decide +kernel
theorem dX13_isName_61 : decode cX13_isName 61 = .ok (.ifCond .ne 7, 3) := by decide +kernel
theorem dX13_isName_64 : decode cX13_isName 64 = .ok (.iconst 1, 1) := by decide +kernel
theorem dX13_isName_65 : decode cX13_isName 65 = .ok (.goto 4, 3) := by decide +kernel
theorem dX13_isName_68 : decode cX13_isName 68 = .ok (.iconst 0, 1) := by decide +kernel
theorem dX13_isName_69 : decode cX13_isName 69 = .ok (.ireturn, 1) := by decide +kernel
theorem dX13_lineBegins_0 : decode cX13_lineBegins 0 = .ok (.iload_n 1, 1) := by decide +kernel
theorem dX13_lineBegins_1 : decode cX13_lineBegins 1 = .ok (.iload_n 2, 1) := by decide +kernel
theorem dX13_lineBegins_2 : decode cX13_lineBegins 2 = .ok (.if_icmp .ne 8, 3) := by decide +kernel
theorem dX13_lineBegins_5 : decode cX13_lineBegins 5 = .ok (.aload_n 0, 1) := by decide +kernel
theorem dX13_lineBegins_6 : decode cX13_lineBegins 6 = .ok (.iconst 5, 1) := by decide +kernel
theorem dX13_lineBegins_7 : decode cX13_lineBegins 7 = .ok (.invokevirtual 125, 3) := by decide +kernel
theorem dX13_lineBegins_10 : decode cX13_lineBegins 10 = .ok (.aload_n 0, 1) := by decide +kernel
theorem dX13_lineBegins_11 : decode cX13_lineBegins 11 = .ok (.getfield 156, 3) := by decide +kernel
theorem dX13_lineBegins_14 : decode cX13_lineBegins 14 = .ok (.getfield 160, 3) := by decide +kernel
theorem dX13_lineBegins_17 : decode cX13_lineBegins 17 = .ok (.ifCond .ne 9, 3) := by decide +kernel
theorem dX13_lineBegins_20 : decode cX13_lineBegins 20 = .ok (.aload_n 0, 1) := by decide +kernel
theorem dX13_lineBegins_21 : decode cX13_lineBegins 21 = .ok (.bipush 6, 2) := by decide +kernel
theorem dX13_lineBegins_23 : decode cX13_lineBegins 23 = .ok (.invokevirtual 125, 3) := by decide +kernel
theorem dX13_lineBegins_26 : decode cX13_lineBegins 26 = .ok (.aload_n 0, 1) := by decide +kernel
theorem dX13_lineBegins_27 : decode cX13_lineBegins 27 = .ok (.invokevirtual 118, 3) := by decide +kernel
theorem dX13_lineBegins_30 : decode cX13_lineBegins 30 = .ok (.return_, 1) := by decide +kernel
theorem dX13_readFresh_0 : decode cX13_readFresh 0 = .ok (.aload_n 0, 1) := by decide +kernel
theorem dX13_readFresh_1 : decode cX13_readFresh 1 = .ok (.invokevirtual 165, 3) := by decide +kernel
theorem dX13_readFresh_4 : decode cX13_readFresh 4 = .ok (.ifCond .ne 8, 3) := by decide +kernel
theorem dX13_readFresh_7 : decode cX13_readFresh 7 = .ok (.aload_n 0, 1) := by decide +kernel
theorem dX13_readFresh_8 : decode cX13_readFresh 8 = .ok (.iconst 1, 1) := by decide +kernel
theorem dX13_readFresh_9 : decode cX13_readFresh 9 = .ok (.invokevirtual 125, 3) := by decide +kernel
theorem dX13_readFresh_12 : decode cX13_readFresh 12 = .ok (.aload_n 0, 1) := by decide +kernel
theorem dX13_readFresh_13 : decode cX13_readFresh 13 = .ok (.getfield 156, 3) := by decide +kernel
theorem dX13_readFresh_16 : decode cX13_readFresh 16 = .ok (.aload_n 0, 1) := by decide +kernel
theorem dX13_readFresh_17 : decode cX13_readFresh 17 = .ok (.getfield 98, 3) := by decide +kernel
theorem dX13_readFresh_20 : decode cX13_readFresh 20 = .ok (.invokevirtual 169, 3) := by decide +kernel
theorem dX13_readFresh_23 : decode cX13_readFresh 23 = .ok (.iconst (-1), 1) := by decide +kernel
theorem dX13_readFresh_24 : decode cX13_readFresh 24 = .ok (.if_icmp .eq 8, 3) := by decide +kernel
theorem dX13_readFresh_27 : decode cX13_readFresh 27 = .ok (.aload_n 0, 1) := by decide +kernel
theorem dX13_readFresh_28 : decode cX13_readFresh 28 = .ok (.iconst 3, 1) := by decide +kernel
theorem dX13_readFresh_29 : decode cX13_readFresh 29 = .ok (.invokevirtual 125, 3) := by decide +kernel
theorem dX13_readFresh_32 : decode cX13_readFresh 32 = .ok (.aload_n 0, 1) := by decide +kernel
theorem dX13_readFresh_33 : decode cX13_readFresh 33 = .ok (.getfield 98, 3) := by decide +kernel
theorem dX13_readFresh_36 : decode cX13_readFresh 36 = .ok (.lstore_n 1, 1) := by decide +kernel
theorem dX13_readFresh_37 : decode cX13_readFresh 37 = .ok (.aload_n 0, 1) := by decide +kernel
theorem dX13_readFresh_38 : decode cX13_readFresh 38 = .ok (.invokevirtual 118, 3) := by decide +kernel
theorem dX13_readFresh_41 : decode cX13_readFresh 41 = .ok (.lload_n 1, 1) := by decide +kernel
theorem dX13_readFresh_42 : decode cX13_readFresh 42 = .ok (.lreturn, 1) := by decide +kernel
theorem dX13_names_0 : decode cX13_names 0 = .ok (.aload_n 0, 1) := by decide +kernel
theorem dX13_names_1 : decode cX13_names 1 = .ok (.getfield 156, 3) := by decide +kernel
theorem dX13_names_4 : decode cX13_names 4 = .ok (.getfield 173, 3) := by decide +kernel
theorem dX13_names_7 : decode cX13_names 7 = .ok (.aload_n 0, 1) := by decide +kernel
theorem dX13_names_8 : decode cX13_names 8 = .ok (.getfield 156, 3) := by decide +kernel
theorem dX13_names_11 : decode cX13_names 11 = .ok (.getfield 177, 3) := by decide +kernel
theorem dX13_names_14 : decode cX13_names 14 = .ok (.lload_n 1, 1) := by decide +kernel
theorem dX13_names_15 : decode cX13_names 15 = .ok (.lastore, 1) := by decide +kernel
theorem dX13_names_16 : decode cX13_names 16 = .ok (.aload_n 0, 1) := by decide +kernel
theorem dX13_names_17 : decode cX13_names 17 = .ok (.getfield 156, 3) := by decide +kernel
theorem dX13_names_20 : decode cX13_names 20 = .ok (.getfield 180, 3) := by decide +kernel
theorem dX13_names_23 : decode cX13_names 23 = .ok (.aload_n 0, 1) := by decide +kernel
theorem dX13_names_24 : decode cX13_names 24 = .ok (.getfield 156, 3) := by decide +kernel
theorem dX13_names_27 : decode cX13_names 27 = .ok (.getfield 177, 3) := by decide +kernel
theorem dX13_names_30 : decode cX13_names 30 = .ok (.iload_n 3, 1) := by decide +kernel
theorem dX13_names_31 : decode cX13_names 31 = .ok (.iastore, 1) := by decide +kernel
theorem dX13_names_32 : decode cX13_names 32 = .ok (.aload_n 0, 1) := by decide +kernel
theorem dX13_names_33 : decode cX13_names 33 = .ok (.getfield 156, 3) := by decide +kernel
theorem dX13_names_36 : decode cX13_names 36 = .ok (.getfield 183, 3) := by decide +kernel
theorem dX13_names_39 : decode cX13_names 39 = .ok (.aload_n 0, 1) := by decide +kernel
theorem dX13_names_40 : decode cX13_names 40 = .ok (.getfield 156, 3) := by decide +kernel
theorem dX13_names_43 : decode cX13_names 43 = .ok (.getfield 177, 3) := by decide +kernel
theorem dX13_names_46 : decode cX13_names 46 = .ok (.iload 4, 2) := by decide +kernel
theorem dX13_names_48 : decode cX13_names 48 = .ok (.iastore, 1) := by decide +kernel
theorem dX13_names_49 : decode cX13_names 49 = .ok (.aload_n 0, 1) := by decide +kernel
theorem dX13_names_50 : decode cX13_names 50 = .ok (.getfield 156, 3) := by decide +kernel
theorem dX13_names_53 : decode cX13_names 53 = .ok (.dup, 1) := by decide +kernel
theorem dX13_names_54 : decode cX13_names 54 = .ok (.getfield 177, 3) := by decide +kernel
theorem dX13_names_57 : decode cX13_names 57 = .ok (.iconst 1, 1) := by decide +kernel
theorem dX13_names_58 : decode cX13_names 58 = .ok (.iadd, 1) := by decide +kernel
theorem dX13_names_59 : decode cX13_names 59 = .ok (.putfield 177, 3) := by decide +kernel
theorem dX13_names_62 : decode cX13_names 62 = .ok (.return_, 1) := by decide +kernel
theorem dX13_knownOne_0 : decode cX13_knownOne 0 = .ok (.aload_n 0, 1) := by decide +kernel
theorem dX13_knownOne_1 : decode cX13_knownOne 1 = .ok (.invokevirtual 165, 3) := by decide +kernel
theorem dX13_knownOne_4 : decode cX13_knownOne 4 = .ok (.ifCond .ne 8, 3) := by decide +kernel
theorem dX13_knownOne_7 : decode cX13_knownOne 7 = .ok (.aload_n 0, 1) := by decide +kernel
theorem dX13_knownOne_8 : decode cX13_knownOne 8 = .ok (.iconst 1, 1) := by decide +kernel
theorem dX13_knownOne_9 : decode cX13_knownOne 9 = .ok (.invokevirtual 125, 3) := by decide +kernel
theorem dX13_knownOne_12 : decode cX13_knownOne 12 = .ok (.aload_n 0, 1) := by decide +kernel
theorem dX13_knownOne_13 : decode cX13_knownOne 13 = .ok (.getfield 156, 3) := by decide +kernel
theorem dX13_knownOne_16 : decode cX13_knownOne 16 = .ok (.aload_n 0, 1) := by decide +kernel
theorem dX13_knownOne_17 : decode cX13_knownOne 17 = .ok (.getfield 98, 3) := by decide +kernel
theorem dX13_knownOne_20 : decode cX13_knownOne 20 = .ok (.invokevirtual 169, 3) := by decide +kernel
theorem dX13_knownOne_23 : decode cX13_knownOne 23 = .ok (.istore_n 2, 1) := by decide +kernel
theorem dX13_knownOne_24 : decode cX13_knownOne 24 = .ok (.iload_n 2, 1) := by decide +kernel
theorem dX13_knownOne_25 : decode cX13_knownOne 25 = .ok (.iconst (-1), 1) := by decide +kernel
theorem dX13_knownOne_26 : decode cX13_knownOne 26 = .ok (.if_icmp .eq 16, 3) := by decide +kernel
theorem dX13_knownOne_29 : decode cX13_knownOne 29 = .ok (.aload_n 0, 1) := by decide +kernel
theorem dX13_knownOne_30 : decode cX13_knownOne 30 = .ok (.getfield 156, 3) := by decide +kernel
theorem dX13_knownOne_33 : decode cX13_knownOne 33 = .ok (.getfield 180, 3) := by decide +kernel
theorem dX13_knownOne_36 : decode cX13_knownOne 36 = .ok (.iload_n 2, 1) := by decide +kernel
theorem dX13_knownOne_37 : decode cX13_knownOne 37 = .ok (.iaload, 1) := by decide +kernel
theorem dX13_knownOne_38 : decode cX13_knownOne 38 = .ok (.iload_n 1, 1) := by decide +kernel
theorem dX13_knownOne_39 : decode cX13_knownOne 39 = .ok (.if_icmp .eq 8, 3) := by decide +kernel
theorem dX13_knownOne_42 : decode cX13_knownOne 42 = .ok (.aload_n 0, 1) := by decide +kernel
theorem dX13_knownOne_43 : decode cX13_knownOne 43 = .ok (.iconst 2, 1) := by decide +kernel
theorem dX13_knownOne_44 : decode cX13_knownOne 44 = .ok (.invokevirtual 125, 3) := by decide +kernel
theorem dX13_knownOne_47 : decode cX13_knownOne 47 = .ok (.aload_n 0, 1) := by decide +kernel
theorem dX13_knownOne_48 : decode cX13_knownOne 48 = .ok (.getfield 82, 3) := by decide +kernel
theorem dX13_knownOne_51 : decode cX13_knownOne 51 = .ok (.iconst 5, 1) := by decide +kernel
theorem dX13_knownOne_52 : decode cX13_knownOne 52 = .ok (.if_icmp .ne 7, 3) := by decide +kernel
theorem dX13_knownOne_55 : decode cX13_knownOne 55 = .ok (.iconst 0, 1) := by decide +kernel
theorem dX13_knownOne_56 : decode cX13_knownOne 56 = .ok (.goto 12, 3) := by decide +kernel
theorem dX13_knownOne_59 : decode cX13_knownOne 59 = .ok (.aload_n 0, 1) := by decide +kernel
theorem dX13_knownOne_60 : decode cX13_knownOne 60 = .ok (.getfield 156, 3) := by decide +kernel
theorem dX13_knownOne_63 : decode cX13_knownOne 63 = .ok (.getfield 183, 3) := by decide +kernel
theorem dX13_knownOne_66 : decode cX13_knownOne 66 = .ok (.iload_n 2, 1) := by decide +kernel
theorem dX13_knownOne_67 : decode cX13_knownOne 67 = .ok (.iaload, 1) := by decide +kernel
theorem dX13_knownOne_68 : decode cX13_knownOne 68 = .ok (.ireturn, 1) := by decide +kernel
theorem dX13_readAll_0 : decode cX13_readAll 0 = .ok (.iconst 1, 1) := by decide +kernel
theorem dX13_readAll_1 : decode cX13_readAll 1 = .ok (.istore_n 1, 1) := by decide +kernel
theorem dX13_readAll_2 : decode cX13_readAll 2 = .ok (.aload_n 0, 1) := by decide +kernel
theorem dX13_readAll_3 : decode cX13_readAll 3 = .ok (.iconst 0, 1) := by decide +kernel
theorem dX13_readAll_4 : decode cX13_readAll 4 = .ok (.putfield 186, 3) := by decide +kernel
theorem dX13_readAll_7 : decode cX13_readAll 7 = .ok (.iload_n 1, 1) := by decide +kernel
theorem dX13_readAll_8 : decode cX13_readAll 8 = .ok (.ifCond .eq 15, 3) := by decide +kernel
theorem dX13_readAll_11 : decode cX13_readAll 11 = .ok (.aload_n 0, 1) := by decide +kernel
theorem dX13_readAll_12 : decode cX13_readAll 12 = .ok (.invokevirtual 189, 3) := by decide +kernel
theorem dX13_readAll_15 : decode cX13_readAll 15 = .ok (.aload_n 0, 1) := by decide +kernel
theorem dX13_readAll_16 : decode cX13_readAll 16 = .ok (.invokevirtual 192, 3) := by decide +kernel
theorem dX13_readAll_19 : decode cX13_readAll 19 = .ok (.istore_n 1, 1) := by decide +kernel
theorem dX13_readAll_20 : decode cX13_readAll 20 = .ok (.goto (-13), 3) := by decide +kernel
theorem dX13_readAll_23 : decode cX13_readAll 23 = .ok (.aload_n 0, 1) := by decide +kernel
theorem dX13_readAll_24 : decode cX13_readAll 24 = .ok (.getfield 82, 3) := by decide +kernel
theorem dX13_readAll_27 : decode cX13_readAll 27 = .ok (.iconst 1, 1) := by decide +kernel
theorem dX13_readAll_28 : decode cX13_readAll 28 = .ok (.if_icmp .eq 8, 3) := by decide +kernel
theorem dX13_readAll_31 : decode cX13_readAll 31 = .ok (.aload_n 0, 1) := by decide +kernel
theorem dX13_readAll_32 : decode cX13_readAll 32 = .ok (.iconst 1, 1) := by decide +kernel
theorem dX13_readAll_33 : decode cX13_readAll 33 = .ok (.invokevirtual 125, 3) := by decide +kernel
theorem dX13_readAll_36 : decode cX13_readAll 36 = .ok (.aload_n 0, 1) := by decide +kernel
theorem dX13_readAll_37 : decode cX13_readAll 37 = .ok (.getfield 156, 3) := by decide +kernel
theorem dX13_readAll_40 : decode cX13_readAll 40 = .ok (.getfield 195, 3) := by decide +kernel
theorem dX13_readAll_43 : decode cX13_readAll 43 = .ok (.ifCond .ne 9, 3) := by decide +kernel
theorem dX13_readAll_46 : decode cX13_readAll 46 = .ok (.aload_n 0, 1) := by decide +kernel
theorem dX13_readAll_47 : decode cX13_readAll 47 = .ok (.bipush 6, 2) := by decide +kernel
theorem dX13_readAll_49 : decode cX13_readAll 49 = .ok (.invokevirtual 125, 3) := by decide +kernel
theorem dX13_readAll_52 : decode cX13_readAll 52 = .ok (.return_, 1) := by decide +kernel
theorem dX13_readLine_0 : decode cX13_readLine 0 = .ok (.aload_n 0, 1) := by decide +kernel
theorem dX13_readLine_1 : decode cX13_readLine 1 = .ok (.ldc 144, 2) := by decide +kernel
theorem dX13_readLine_3 : decode cX13_readLine 3 = .ok (.invokevirtual 121, 3) := by decide +kernel
theorem dX13_readLine_6 : decode cX13_readLine 6 = .ok (.ifCond .eq 10, 3) := by decide +kernel
theorem dX13_readLine_9 : decode cX13_readLine 9 = .ok (.aload_n 0, 1) := by decide +kernel
theorem dX13_readLine_10 : decode cX13_readLine 10 = .ok (.invokevirtual 198, 3) := by decide +kernel
theorem dX13_readLine_13 : decode cX13_readLine 13 = .ok (.goto 88, 3) := by decide +kernel
theorem dX13_readLine_16 : decode cX13_readLine 16 = .ok (.aload_n 0, 1) := by decide +kernel
theorem dX13_readLine_17 : decode cX13_readLine 17 = .ok (.ldc 146, 2) := by decide +kernel
theorem dX13_readLine_19 : decode cX13_readLine 19 = .ok (.invokevirtual 121, 3) := by decide +kernel
theorem dX13_readLine_22 : decode cX13_readLine 22 = .ok (.ifCond .eq 10, 3) := by decide +kernel
theorem dX13_readLine_25 : decode cX13_readLine 25 = .ok (.aload_n 0, 1) := by decide +kernel
theorem dX13_readLine_26 : decode cX13_readLine 26 = .ok (.invokevirtual 201, 3) := by decide +kernel
theorem dX13_readLine_29 : decode cX13_readLine 29 = .ok (.goto 72, 3) := by decide +kernel
theorem dX13_readLine_32 : decode cX13_readLine 32 = .ok (.aload_n 0, 1) := by decide +kernel
theorem dX13_readLine_33 : decode cX13_readLine 33 = .ok (.ldc 148, 2) := by decide +kernel
theorem dX13_readLine_35 : decode cX13_readLine 35 = .ok (.invokevirtual 121, 3) := by decide +kernel
theorem dX13_readLine_38 : decode cX13_readLine 38 = .ok (.ifCond .eq 10, 3) := by decide +kernel
theorem dX13_readLine_41 : decode cX13_readLine 41 = .ok (.aload_n 0, 1) := by decide +kernel
theorem dX13_readLine_42 : decode cX13_readLine 42 = .ok (.invokevirtual 204, 3) := by decide +kernel
theorem dX13_readLine_45 : decode cX13_readLine 45 = .ok (.goto 56, 3) := by decide +kernel
theorem dX13_readLine_48 : decode cX13_readLine 48 = .ok (.aload_n 0, 1) := by decide +kernel
theorem dX13_readLine_49 : decode cX13_readLine 49 = .ok (.ldc 150, 2) := by decide +kernel
theorem dX13_readLine_51 : decode cX13_readLine 51 = .ok (.invokevirtual 121, 3) := by decide +kernel
theorem dX13_readLine_54 : decode cX13_readLine 54 = .ok (.ifCond .eq 10, 3) := by decide +kernel
theorem dX13_readLine_57 : decode cX13_readLine 57 = .ok (.aload_n 0, 1) := by decide +kernel
theorem dX13_readLine_58 : decode cX13_readLine 58 = .ok (.invokevirtual 207, 3) := by decide +kernel
theorem dX13_readLine_61 : decode cX13_readLine 61 = .ok (.goto 40, 3) := by decide +kernel
theorem dX13_readLine_64 : decode cX13_readLine 64 = .ok (.aload_n 0, 1) := by decide +kernel
theorem dX13_readLine_65 : decode cX13_readLine 65 = .ok (.ldc 152, 2) := by decide +kernel
theorem dX13_readLine_67 : decode cX13_readLine 67 = .ok (.invokevirtual 121, 3) := by decide +kernel
theorem dX13_readLine_70 : decode cX13_readLine 70 = .ok (.ifCond .eq 10, 3) := by decide +kernel
theorem dX13_readLine_73 : decode cX13_readLine 73 = .ok (.aload_n 0, 1) := by decide +kernel
theorem dX13_readLine_74 : decode cX13_readLine 74 = .ok (.invokevirtual 210, 3) := by decide +kernel
theorem dX13_readLine_77 : decode cX13_readLine 77 = .ok (.goto 24, 3) := by decide +kernel
theorem dX13_readLine_80 : decode cX13_readLine 80 = .ok (.aload_n 0, 1) := by decide +kernel
theorem dX13_readLine_81 : decode cX13_readLine 81 = .ok (.ldc 154, 2) := by decide +kernel
theorem dX13_readLine_83 : decode cX13_readLine 83 = .ok (.invokevirtual 121, 3) := by decide +kernel
theorem dX13_readLine_86 : decode cX13_readLine 86 = .ok (.ifCond .eq 10, 3) := by decide +kernel
theorem dX13_readLine_89 : decode cX13_readLine 89 = .ok (.aload_n 0, 1) := by decide +kernel
theorem dX13_readLine_90 : decode cX13_readLine 90 = .ok (.invokevirtual 213, 3) := by decide +kernel
theorem dX13_readLine_93 : decode cX13_readLine 93 = .ok (.goto 8, 3) := by decide +kernel
theorem dX13_readLine_96 : decode cX13_readLine 96 = .ok (.aload_n 0, 1) := by decide +kernel
theorem dX13_readLine_97 : decode cX13_readLine 97 = .ok (.iconst 1, 1) := by decide +kernel
theorem dX13_readLine_98 : decode cX13_readLine 98 = .ok (.invokevirtual 125, 3) := by decide +kernel
theorem dX13_readLine_101 : decode cX13_readLine 101 = .ok (.return_, 1) := by decide +kernel
theorem dX13_readField_0 : decode cX13_readField 0 = .ok (.aload_n 0, 1) := by decide +kernel
theorem dX13_readField_1 : decode cX13_readField 1 = .ok (.getfield 156, 3) := by decide +kernel
theorem dX13_readField_4 : decode cX13_readField 4 = .ok (.getfield 160, 3) := by decide +kernel
theorem dX13_readField_7 : decode cX13_readField 7 = .ok (.ifCond .le 8, 3) := by decide +kernel
theorem dX13_readField_10 : decode cX13_readField 10 = .ok (.aload_n 0, 1) := by decide +kernel
theorem dX13_readField_11 : decode cX13_readField 11 = .ok (.iconst 3, 1) := by decide +kernel
theorem dX13_readField_12 : decode cX13_readField 12 = .ok (.invokevirtual 125, 3) := by decide +kernel
theorem dX13_readField_15 : decode cX13_readField 15 = .ok (.aload_n 0, 1) := by decide +kernel
theorem dX13_readField_16 : decode cX13_readField 16 = .ok (.invokevirtual 118, 3) := by decide +kernel
theorem dX13_readField_19 : decode cX13_readField 19 = .ok (.aload_n 0, 1) := by decide +kernel
theorem dX13_readField_20 : decode cX13_readField 20 = .ok (.ldc 216, 2) := by decide +kernel
theorem dX13_readField_22 : decode cX13_readField 22 = .ok (.iconst 2, 1) := by decide +kernel
theorem dX13_readField_23 : decode cX13_readField 23 = .ok (.bipush 6, 2) := by decide +kernel
theorem dX13_readField_25 : decode cX13_readField 25 = .ok (.invokevirtual 217, 3) := by decide +kernel
theorem dX13_readField_28 : decode cX13_readField 28 = .ok (.istore_n 1, 1) := by decide +kernel
theorem dX13_readField_29 : decode cX13_readField 29 = .ok (.aload_n 0, 1) := by decide +kernel
theorem dX13_readField_30 : decode cX13_readField 30 = .ok (.ldc 221, 2) := by decide +kernel
theorem dX13_readField_32 : decode cX13_readField 32 = .ok (.iconst 1, 1) := by decide +kernel
theorem dX13_readField_33 : decode cX13_readField 33 = .ok (.iconst 5, 1) := by decide +kernel
theorem dX13_readField_34 : decode cX13_readField 34 = .ok (.invokevirtual 217, 3) := by decide +kernel
theorem dX13_readField_37 : decode cX13_readField 37 = .ok (.istore_n 2, 1) := by decide +kernel
theorem dX13_readField_38 : decode cX13_readField 38 = .ok (.aload_n 0, 1) := by decide +kernel
theorem dX13_readField_39 : decode cX13_readField 39 = .ok (.getfield 82, 3) := by decide +kernel
theorem dX13_readField_42 : decode cX13_readField 42 = .ok (.iconst 5, 1) := by decide +kernel
theorem dX13_readField_43 : decode cX13_readField 43 = .ok (.if_icmp .ne 4, 3) := by decide +kernel
theorem dX13_readField_46 : decode cX13_readField 46 = .ok (.return_, 1) := by decide +kernel
theorem dX13_readField_47 : decode cX13_readField 47 = .ok (.aload_n 0, 1) := by decide +kernel
theorem dX13_readField_48 : decode cX13_readField 48 = .ok (.getfield 156, 3) := by decide +kernel
theorem dX13_readField_51 : decode cX13_readField 51 = .ok (.iload_n 1, 1) := by decide +kernel
theorem dX13_readField_52 : decode cX13_readField 52 = .ok (.putfield 160, 3) := by decide +kernel
theorem dX13_readField_55 : decode cX13_readField 55 = .ok (.aload_n 0, 1) := by decide +kernel
theorem dX13_readField_56 : decode cX13_readField 56 = .ok (.getfield 156, 3) := by decide +kernel
theorem dX13_readField_59 : decode cX13_readField 59 = .ok (.iload_n 2, 1) := by decide +kernel
theorem dX13_readField_60 : decode cX13_readField 60 = .ok (.putfield 223, 3) := by decide +kernel
theorem dX13_readField_63 : decode cX13_readField 63 = .ok (.return_, 1) := by decide +kernel
theorem dX13_readLane_0 : decode cX13_readLane 0 = .ok (.aload_n 0, 1) := by decide +kernel
theorem dX13_readLane_1 : decode cX13_readLane 1 = .ok (.iconst 0, 1) := by decide +kernel
theorem dX13_readLane_2 : decode cX13_readLane 2 = .ok (.iconst 1, 1) := by decide +kernel
theorem dX13_readLane_3 : decode cX13_readLane 3 = .ok (.invokevirtual 225, 3) := by decide +kernel
theorem dX13_readLane_6 : decode cX13_readLane 6 = .ok (.aload_n 0, 1) := by decide +kernel
theorem dX13_readLane_7 : decode cX13_readLane 7 = .ok (.iconst 0, 1) := by decide +kernel
theorem dX13_readLane_8 : decode cX13_readLane 8 = .ok (.aload_n 0, 1) := by decide +kernel
theorem dX13_readLane_9 : decode cX13_readLane 9 = .ok (.getfield 156, 3) := by decide +kernel
theorem dX13_readLane_12 : decode cX13_readLane 12 = .ok (.getfield 160, 3) := by decide +kernel
theorem dX13_readLane_15 : decode cX13_readLane 15 = .ok (.iconst 1, 1) := by decide +kernel
theorem dX13_readLane_16 : decode cX13_readLane 16 = .ok (.isub, 1) := by decide +kernel
theorem dX13_readLane_17 : decode cX13_readLane 17 = .ok (.invokevirtual 133, 3) := by decide +kernel
theorem dX13_readLane_20 : decode cX13_readLane 20 = .ok (.istore_n 1, 1) := by decide +kernel
theorem dX13_readLane_21 : decode cX13_readLane 21 = .ok (.aload_n 0, 1) := by decide +kernel
theorem dX13_readLane_22 : decode cX13_readLane 22 = .ok (.getfield 82, 3) := by decide +kernel
theorem dX13_readLane_25 : decode cX13_readLane 25 = .ok (.iconst 5, 1) := by decide +kernel
theorem dX13_readLane_26 : decode cX13_readLane 26 = .ok (.if_icmp .eq 19, 3) := by decide +kernel
theorem dX13_readLane_29 : decode cX13_readLane 29 = .ok (.aload_n 0, 1) := by decide +kernel
theorem dX13_readLane_30 : decode cX13_readLane 30 = .ok (.getfield 186, 3) := by decide +kernel
theorem dX13_readLane_33 : decode cX13_readLane 33 = .ok (.iload_n 1, 1) := by decide +kernel
theorem dX13_readLane_34 : decode cX13_readLane 34 = .ok (.invokestatic 229, 3) := by decide +kernel
theorem dX13_readLane_37 : decode cX13_readLane 37 = .ok (.ifCond .eq 8, 3) := by decide +kernel
theorem dX13_readLane_40 : decode cX13_readLane 40 = .ok (.aload_n 0, 1) := by decide +kernel
theorem dX13_readLane_41 : decode cX13_readLane 41 = .ok (.iconst 3, 1) := by decide +kernel
theorem dX13_readLane_42 : decode cX13_readLane 42 = .ok (.invokevirtual 125, 3) := by decide +kernel
theorem dX13_readLane_45 : decode cX13_readLane 45 = .ok (.aload_n 0, 1) := by decide +kernel
theorem dX13_readLane_46 : decode cX13_readLane 46 = .ok (.invokevirtual 118, 3) := by decide +kernel
theorem dX13_readLane_49 : decode cX13_readLane 49 = .ok (.aload_n 0, 1) := by decide +kernel
theorem dX13_readLane_50 : decode cX13_readLane 50 = .ok (.ldc 233, 2) := by decide +kernel
theorem dX13_readLane_52 : decode cX13_readLane 52 = .ok (.invokevirtual 121, 3) := by decide +kernel
theorem dX13_readLane_55 : decode cX13_readLane 55 = .ok (.ifCond .eq 7, 3) := by decide +kernel
theorem dX13_readLane_58 : decode cX13_readLane 58 = .ok (.iconst 0, 1) := by decide +kernel
theorem dX13_readLane_59 : decode cX13_readLane 59 = .ok (.goto 43, 3) := by decide +kernel
theorem dX13_readLane_62 : decode cX13_readLane 62 = .ok (.aload_n 0, 1) := by decide +kernel
theorem dX13_readLane_63 : decode cX13_readLane 63 = .ok (.ldc 235, 2) := by decide +kernel
theorem dX13_readLane_65 : decode cX13_readLane 65 = .ok (.invokevirtual 121, 3) := by decide +kernel
theorem dX13_readLane_68 : decode cX13_readLane 68 = .ok (.ifCond .eq 7, 3) := by decide +kernel
theorem dX13_readLane_71 : decode cX13_readLane 71 = .ok (.iconst 1, 1) := by decide +kernel
theorem dX13_readLane_72 : decode cX13_readLane 72 = .ok (.goto 30, 3) := by decide +kernel
theorem dX13_readLane_75 : decode cX13_readLane 75 = .ok (.aload_n 0, 1) := by decide +kernel
theorem dX13_readLane_76 : decode cX13_readLane 76 = .ok (.ldc 237, 2) := by decide +kernel
theorem dX13_readLane_78 : decode cX13_readLane 78 = .ok (.invokevirtual 121, 3) := by decide +kernel
theorem dX13_readLane_81 : decode cX13_readLane 81 = .ok (.ifCond .eq 7, 3) := by decide +kernel
theorem dX13_readLane_84 : decode cX13_readLane 84 = .ok (.iconst 2, 1) := by decide +kernel
theorem dX13_readLane_85 : decode cX13_readLane 85 = .ok (.goto 17, 3) := by decide +kernel
theorem dX13_readLane_88 : decode cX13_readLane 88 = .ok (.aload_n 0, 1) := by decide +kernel
theorem dX13_readLane_89 : decode cX13_readLane 89 = .ok (.ldc 239, 2) := by decide +kernel
theorem dX13_readLane_91 : decode cX13_readLane 91 = .ok (.invokevirtual 121, 3) := by decide +kernel
theorem dX13_readLane_94 : decode cX13_readLane 94 = .ok (.ifCond .eq 7, 3) := by decide +kernel
theorem dX13_readLane_97 : decode cX13_readLane 97 = .ok (.iconst 3, 1) := by decide +kernel
theorem dX13_readLane_98 : decode cX13_readLane 98 = .ok (.goto 4, 3) := by decide +kernel
theorem dX13_readLane_101 : decode cX13_readLane 101 = .ok (.iconst (-1), 1) := by decide +kernel
theorem dX13_readLane_102 : decode cX13_readLane 102 = .ok (.istore_n 2, 1) := by decide +kernel
theorem dX13_readLane_103 : decode cX13_readLane 103 = .ok (.iload_n 2, 1) := by decide +kernel
theorem dX13_readLane_104 : decode cX13_readLane 104 = .ok (.iconst (-1), 1) := by decide +kernel
theorem dX13_readLane_105 : decode cX13_readLane 105 = .ok (.if_icmp .ne 8, 3) := by decide +kernel
theorem dX13_readLane_108 : decode cX13_readLane 108 = .ok (.aload_n 0, 1) := by decide +kernel
theorem dX13_readLane_109 : decode cX13_readLane 109 = .ok (.iconst 1, 1) := by decide +kernel
theorem dX13_readLane_110 : decode cX13_readLane 110 = .ok (.invokevirtual 125, 3) := by decide +kernel
theorem dX13_readLane_113 : decode cX13_readLane 113 = .ok (.aload_n 0, 1) := by decide +kernel
theorem dX13_readLane_114 : decode cX13_readLane 114 = .ok (.invokevirtual 118, 3) := by decide +kernel
theorem dX13_readLane_117 : decode cX13_readLane 117 = .ok (.iload_n 2, 1) := by decide +kernel
theorem dX13_readLane_118 : decode cX13_readLane 118 = .ok (.iconst 2, 1) := by decide +kernel
theorem dX13_readLane_119 : decode cX13_readLane 119 = .ok (.if_icmp .ne 13, 3) := by decide +kernel
theorem dX13_readLane_122 : decode cX13_readLane 122 = .ok (.aload_n 0, 1) := by decide +kernel
theorem dX13_readLane_123 : decode cX13_readLane 123 = .ok (.iconst 0, 1) := by decide +kernel
theorem dX13_readLane_124 : decode cX13_readLane 124 = .ok (.bipush 60, 2) := by decide +kernel
theorem dX13_readLane_126 : decode cX13_readLane 126 = .ok (.invokevirtual 141, 3) := by decide +kernel
theorem dX13_readLane_129 : decode cX13_readLane 129 = .ok (.goto 19, 3) := by decide +kernel
theorem dX13_readLane_132 : decode cX13_readLane 132 = .ok (.iload_n 2, 1) := by decide +kernel
theorem dX13_readLane_133 : decode cX13_readLane 133 = .ok (.iconst 3, 1) := by decide +kernel
theorem dX13_readLane_134 : decode cX13_readLane 134 = .ok (.if_icmp .ne 13, 3) := by decide +kernel
theorem dX13_readLane_137 : decode cX13_readLane 137 = .ok (.aload_n 0, 1) := by decide +kernel
theorem dX13_readLane_138 : decode cX13_readLane 138 = .ok (.iconst 0, 1) := by decide +kernel
theorem dX13_readLane_139 : decode cX13_readLane 139 = .ok (.bipush 30, 2) := by decide +kernel
theorem dX13_readLane_141 : decode cX13_readLane 141 = .ok (.invokevirtual 141, 3) := by decide +kernel
theorem dX13_readLane_144 : decode cX13_readLane 144 = .ok (.goto 4, 3) := by decide +kernel
theorem dX13_readLane_147 : decode cX13_readLane 147 = .ok (.iconst 0, 1) := by decide +kernel
theorem dX13_readLane_148 : decode cX13_readLane 148 = .ok (.istore_n 3, 1) := by decide +kernel
theorem dX13_readLane_149 : decode cX13_readLane 149 = .ok (.aload_n 0, 1) := by decide +kernel
theorem dX13_readLane_150 : decode cX13_readLane 150 = .ok (.getfield 82, 3) := by decide +kernel
theorem dX13_readLane_153 : decode cX13_readLane 153 = .ok (.iconst 5, 1) := by decide +kernel
theorem dX13_readLane_154 : decode cX13_readLane 154 = .ok (.if_icmp .ne 4, 3) := by decide +kernel
theorem dX13_readLane_157 : decode cX13_readLane 157 = .ok (.return_, 1) := by decide +kernel
theorem dX13_readLane_158 : decode cX13_readLane 158 = .ok (.aload_n 0, 1) := by decide +kernel
theorem dX13_readLane_159 : decode cX13_readLane 159 = .ok (.getfield 156, 3) := by decide +kernel
theorem dX13_readLane_162 : decode cX13_readLane 162 = .ok (.getfield 241, 3) := by decide +kernel
theorem dX13_readLane_165 : decode cX13_readLane 165 = .ok (.iload_n 1, 1) := by decide +kernel
theorem dX13_readLane_166 : decode cX13_readLane 166 = .ok (.iload_n 2, 1) := by decide +kernel
theorem dX13_readLane_167 : decode cX13_readLane 167 = .ok (.iastore, 1) := by decide +kernel
theorem dX13_readLane_168 : decode cX13_readLane 168 = .ok (.aload_n 0, 1) := by decide +kernel
theorem dX13_readLane_169 : decode cX13_readLane 169 = .ok (.getfield 156, 3) := by decide +kernel
theorem dX13_readLane_172 : decode cX13_readLane 172 = .ok (.getfield 244, 3) := by decide +kernel
theorem dX13_readLane_175 : decode cX13_readLane 175 = .ok (.iload_n 1, 1) := by decide +kernel
theorem dX13_readLane_176 : decode cX13_readLane 176 = .ok (.iload_n 3, 1) := by decide +kernel
theorem dX13_readLane_177 : decode cX13_readLane 177 = .ok (.iastore, 1) := by decide +kernel
theorem dX13_readLane_178 : decode cX13_readLane 178 = .ok (.aload_n 0, 1) := by decide +kernel
theorem dX13_readLane_179 : decode cX13_readLane 179 = .ok (.dup, 1) := by decide +kernel
theorem dX13_readLane_180 : decode cX13_readLane 180 = .ok (.getfield 186, 3) := by decide +kernel
theorem dX13_readLane_183 : decode cX13_readLane 183 = .ok (.iconst 1, 1) := by decide +kernel
theorem dX13_readLane_184 : decode cX13_readLane 184 = .ok (.iload_n 1, 1) := by decide +kernel
theorem dX13_readLane_185 : decode cX13_readLane 185 = .ok (.ishl, 1) := by decide +kernel
theorem dX13_readLane_186 : decode cX13_readLane 186 = .ok (.ior, 1) := by decide +kernel
theorem dX13_readLane_187 : decode cX13_readLane 187 = .ok (.putfield 186, 3) := by decide +kernel
theorem dX13_readLane_190 : decode cX13_readLane 190 = .ok (.aload_n 0, 1) := by decide +kernel
theorem dX13_readLane_191 : decode cX13_readLane 191 = .ok (.getfield 156, 3) := by decide +kernel
theorem dX13_readLane_194 : decode cX13_readLane 194 = .ok (.dup, 1) := by decide +kernel
theorem dX13_readLane_195 : decode cX13_readLane 195 = .ok (.getfield 247, 3) := by decide +kernel
theorem dX13_readLane_198 : decode cX13_readLane 198 = .ok (.iconst 1, 1) := by decide +kernel
theorem dX13_readLane_199 : decode cX13_readLane 199 = .ok (.iadd, 1) := by decide +kernel
theorem dX13_readLane_200 : decode cX13_readLane 200 = .ok (.putfield 247, 3) := by decide +kernel
theorem dX13_readLane_203 : decode cX13_readLane 203 = .ok (.return_, 1) := by decide +kernel
theorem dX13_readBeast_0 : decode cX13_readBeast 0 = .ok (.aload_n 0, 1) := by decide +kernel
theorem dX13_readBeast_1 : decode cX13_readBeast 1 = .ok (.aload_n 0, 1) := by decide +kernel
theorem dX13_readBeast_2 : decode cX13_readBeast 2 = .ok (.getfield 156, 3) := by decide +kernel
theorem dX13_readBeast_5 : decode cX13_readBeast 5 = .ok (.getfield 195, 3) := by decide +kernel
theorem dX13_readBeast_8 : decode cX13_readBeast 8 = .ok (.iconst 5, 1) := by decide +kernel
theorem dX13_readBeast_9 : decode cX13_readBeast 9 = .ok (.invokevirtual 225, 3) := by decide +kernel
theorem dX13_readBeast_12 : decode cX13_readBeast 12 = .ok (.aload_n 0, 1) := by decide +kernel
theorem dX13_readBeast_13 : decode cX13_readBeast 13 = .ok (.invokevirtual 250, 3) := by decide +kernel
theorem dX13_readBeast_16 : decode cX13_readBeast 16 = .ok (.lstore_n 1, 1) := by decide +kernel
theorem dX13_readBeast_17 : decode cX13_readBeast 17 = .ok (.aload_n 0, 1) := by decide +kernel
theorem dX13_readBeast_18 : decode cX13_readBeast 18 = .ok (.ldc 254, 2) := by decide +kernel
theorem dX13_readBeast_20 : decode cX13_readBeast 20 = .ok (.invokevirtual 121, 3) := by decide +kernel
theorem dX13_readBeast_23 : decode cX13_readBeast 23 = .ok (.ifCond .eq 7, 3) := by decide +kernel
theorem dX13_readBeast_26 : decode cX13_readBeast 26 = .ok (.iconst 0, 1) := by decide +kernel
theorem dX13_readBeast_27 : decode cX13_readBeast 27 = .ok (.goto 46, 3) := by decide +kernel
theorem dX13_readBeast_30 : decode cX13_readBeast 30 = .ok (.aload_n 0, 1) := by decide +kernel
theorem dX13_readBeast_31 : decode cX13_readBeast 31 = .ok (.ldc_w 256, 3) := by decide +kernel
theorem dX13_readBeast_34 : decode cX13_readBeast 34 = .ok (.invokevirtual 121, 3) := by decide +kernel
theorem dX13_readBeast_37 : decode cX13_readBeast 37 = .ok (.ifCond .eq 7, 3) := by decide +kernel
theorem dX13_readBeast_40 : decode cX13_readBeast 40 = .ok (.iconst 1, 1) := by decide +kernel
theorem dX13_readBeast_41 : decode cX13_readBeast 41 = .ok (.goto 32, 3) := by decide +kernel
theorem dX13_readBeast_44 : decode cX13_readBeast 44 = .ok (.aload_n 0, 1) := by decide +kernel
theorem dX13_readBeast_45 : decode cX13_readBeast 45 = .ok (.ldc_w 258, 3) := by decide +kernel
theorem dX13_readBeast_48 : decode cX13_readBeast 48 = .ok (.invokevirtual 121, 3) := by decide +kernel
theorem dX13_readBeast_51 : decode cX13_readBeast 51 = .ok (.ifCond .eq 7, 3) := by decide +kernel
theorem dX13_readBeast_54 : decode cX13_readBeast 54 = .ok (.iconst 2, 1) := by decide +kernel
theorem dX13_readBeast_55 : decode cX13_readBeast 55 = .ok (.goto 18, 3) := by decide +kernel
theorem dX13_readBeast_58 : decode cX13_readBeast 58 = .ok (.aload_n 0, 1) := by decide +kernel
theorem dX13_readBeast_59 : decode cX13_readBeast 59 = .ok (.ldc_w 260, 3) := by decide +kernel
theorem dX13_readBeast_62 : decode cX13_readBeast 62 = .ok (.invokevirtual 121, 3) := by decide +kernel
theorem dX13_readBeast_65 : decode cX13_readBeast 65 = .ok (.ifCond .eq 7, 3) := by decide +kernel
theorem dX13_readBeast_68 : decode cX13_readBeast 68 = .ok (.iconst 3, 1) := by decide +kernel
theorem dX13_readBeast_69 : decode cX13_readBeast 69 = .ok (.goto 4, 3) := by decide +kernel
theorem dX13_readBeast_72 : decode cX13_readBeast 72 = .ok (.iconst (-1), 1) := by decide +kernel
theorem dX13_readBeast_73 : decode cX13_readBeast 73 = .ok (.istore_n 3, 1) := by decide +kernel
theorem dX13_readBeast_74 : decode cX13_readBeast 74 = .ok (.iload_n 3, 1) := by decide +kernel
theorem dX13_readBeast_75 : decode cX13_readBeast 75 = .ok (.iconst (-1), 1) := by decide +kernel
theorem dX13_readBeast_76 : decode cX13_readBeast 76 = .ok (.if_icmp .ne 8, 3) := by decide +kernel
theorem dX13_readBeast_79 : decode cX13_readBeast 79 = .ok (.aload_n 0, 1) := by decide +kernel
theorem dX13_readBeast_80 : decode cX13_readBeast 80 = .ok (.iconst 1, 1) := by decide +kernel
theorem dX13_readBeast_81 : decode cX13_readBeast 81 = .ok (.invokevirtual 125, 3) := by decide +kernel
theorem dX13_readBeast_84 : decode cX13_readBeast 84 = .ok (.aload_n 0, 1) := by decide +kernel
theorem dX13_readBeast_85 : decode cX13_readBeast 85 = .ok (.invokevirtual 118, 3) := by decide +kernel
theorem dX13_readBeast_88 : decode cX13_readBeast 88 = .ok (.aload_n 0, 1) := by decide +kernel
theorem dX13_readBeast_89 : decode cX13_readBeast 89 = .ok (.ldc_w 262, 3) := by decide +kernel
theorem dX13_readBeast_92 : decode cX13_readBeast 92 = .ok (.iconst 0, 1) := by decide +kernel
theorem dX13_readBeast_93 : decode cX13_readBeast 93 = .ok (.aload_n 0, 1) := by decide +kernel
theorem dX13_readBeast_94 : decode cX13_readBeast 94 = .ok (.getfield 156, 3) := by decide +kernel
theorem dX13_readBeast_97 : decode cX13_readBeast 97 = .ok (.getfield 160, 3) := by decide +kernel
theorem dX13_readBeast_100 : decode cX13_readBeast 100 = .ok (.iconst 1, 1) := by decide +kernel
theorem dX13_readBeast_101 : decode cX13_readBeast 101 = .ok (.isub, 1) := by decide +kernel
theorem dX13_readBeast_102 : decode cX13_readBeast 102 = .ok (.invokevirtual 217, 3) := by decide +kernel
theorem dX13_readBeast_105 : decode cX13_readBeast 105 = .ok (.istore 4, 2) := by decide +kernel
theorem dX13_readBeast_107 : decode cX13_readBeast 107 = .ok (.aload_n 0, 1) := by decide +kernel
theorem dX13_readBeast_108 : decode cX13_readBeast 108 = .ok (.ldc_w 263, 3) := by decide +kernel
theorem dX13_readBeast_111 : decode cX13_readBeast 111 = .ok (.iconst 0, 1) := by decide +kernel
theorem dX13_readBeast_112 : decode cX13_readBeast 112 = .ok (.bipush 100, 2) := by decide +kernel
theorem dX13_readBeast_114 : decode cX13_readBeast 114 = .ok (.invokevirtual 217, 3) := by decide +kernel
theorem dX13_readBeast_117 : decode cX13_readBeast 117 = .ok (.istore 5, 2) := by decide +kernel
theorem dX13_readBeast_119 : decode cX13_readBeast 119 = .ok (.aload_n 0, 1) := by decide +kernel
theorem dX13_readBeast_120 : decode cX13_readBeast 120 = .ok (.ldc_w 265, 3) := by decide +kernel
theorem dX13_readBeast_123 : decode cX13_readBeast 123 = .ok (.iconst 1, 1) := by decide +kernel
theorem dX13_readBeast_124 : decode cX13_readBeast 124 = .ok (.bipush 99, 2) := by decide +kernel
theorem dX13_readBeast_126 : decode cX13_readBeast 126 = .ok (.invokevirtual 217, 3) := by decide +kernel
theorem dX13_readBeast_129 : decode cX13_readBeast 129 = .ok (.istore 6, 2) := by decide +kernel
theorem dX13_readBeast_131 : decode cX13_readBeast 131 = .ok (.aload_n 0, 1) := by decide +kernel
theorem dX13_readBeast_132 : decode cX13_readBeast 132 = .ok (.getfield 82, 3) := by decide +kernel
theorem dX13_readBeast_135 : decode cX13_readBeast 135 = .ok (.iconst 5, 1) := by decide +kernel
theorem dX13_readBeast_136 : decode cX13_readBeast 136 = .ok (.if_icmp .ne 4, 3) := by decide +kernel
theorem dX13_readBeast_139 : decode cX13_readBeast 139 = .ok (.return_, 1) := by decide +kernel
theorem dX13_readBeast_140 : decode cX13_readBeast 140 = .ok (.aload_n 0, 1) := by decide +kernel
theorem dX13_readBeast_141 : decode cX13_readBeast 141 = .ok (.getfield 156, 3) := by decide +kernel
theorem dX13_readBeast_144 : decode cX13_readBeast 144 = .ok (.getfield 195, 3) := by decide +kernel
theorem dX13_readBeast_147 : decode cX13_readBeast 147 = .ok (.istore 7, 2) := by decide +kernel
theorem dX13_readBeast_149 : decode cX13_readBeast 149 = .ok (.aload_n 0, 1) := by decide +kernel
theorem dX13_readBeast_150 : decode cX13_readBeast 150 = .ok (.lload_n 1, 1) := by decide +kernel
theorem dX13_readBeast_151 : decode cX13_readBeast 151 = .ok (.iconst 0, 1) := by decide +kernel
theorem dX13_readBeast_152 : decode cX13_readBeast 152 = .ok (.iload 7, 2) := by decide +kernel
theorem dX13_readBeast_154 : decode cX13_readBeast 154 = .ok (.invokevirtual 267, 3) := by decide +kernel
theorem dX13_readBeast_157 : decode cX13_readBeast 157 = .ok (.aload_n 0, 1) := by decide +kernel
theorem dX13_readBeast_158 : decode cX13_readBeast 158 = .ok (.getfield 156, 3) := by decide +kernel
theorem dX13_readBeast_161 : decode cX13_readBeast 161 = .ok (.getfield 270, 3) := by decide +kernel
theorem dX13_readBeast_164 : decode cX13_readBeast 164 = .ok (.iload 7, 2) := by decide +kernel
theorem dX13_readBeast_166 : decode cX13_readBeast 166 = .ok (.iload_n 3, 1) := by decide +kernel
theorem dX13_readBeast_167 : decode cX13_readBeast 167 = .ok (.iastore, 1) := by decide +kernel
theorem dX13_readBeast_168 : decode cX13_readBeast 168 = .ok (.aload_n 0, 1) := by decide +kernel
theorem dX13_readBeast_169 : decode cX13_readBeast 169 = .ok (.getfield 156, 3) := by decide +kernel
theorem dX13_readBeast_172 : decode cX13_readBeast 172 = .ok (.getfield 273, 3) := by decide +kernel
theorem dX13_readBeast_175 : decode cX13_readBeast 175 = .ok (.iload 7, 2) := by decide +kernel
theorem dX13_readBeast_177 : decode cX13_readBeast 177 = .ok (.iload 4, 2) := by decide +kernel
theorem dX13_readBeast_179 : decode cX13_readBeast 179 = .ok (.iastore, 1) := by decide +kernel
theorem dX13_readBeast_180 : decode cX13_readBeast 180 = .ok (.aload_n 0, 1) := by decide +kernel
theorem dX13_readBeast_181 : decode cX13_readBeast 181 = .ok (.getfield 156, 3) := by decide +kernel
theorem dX13_readBeast_184 : decode cX13_readBeast 184 = .ok (.getfield 275, 3) := by decide +kernel
theorem dX13_readBeast_187 : decode cX13_readBeast 187 = .ok (.iload 7, 2) := by decide +kernel
theorem dX13_readBeast_189 : decode cX13_readBeast 189 = .ok (.iload 5, 2) := by decide +kernel
theorem dX13_readBeast_191 : decode cX13_readBeast 191 = .ok (.iastore, 1) := by decide +kernel
theorem dX13_readBeast_192 : decode cX13_readBeast 192 = .ok (.aload_n 0, 1) := by decide +kernel
theorem dX13_readBeast_193 : decode cX13_readBeast 193 = .ok (.getfield 156, 3) := by decide +kernel
theorem dX13_readBeast_196 : decode cX13_readBeast 196 = .ok (.getfield 277, 3) := by decide +kernel
theorem dX13_readBeast_199 : decode cX13_readBeast 199 = .ok (.iload 7, 2) := by decide +kernel
theorem dX13_readBeast_201 : decode cX13_readBeast 201 = .ok (.iload 6, 2) := by decide +kernel
theorem dX13_readBeast_203 : decode cX13_readBeast 203 = .ok (.iastore, 1) := by decide +kernel
theorem dX13_readBeast_204 : decode cX13_readBeast 204 = .ok (.aload_n 0, 1) := by decide +kernel
theorem dX13_readBeast_205 : decode cX13_readBeast 205 = .ok (.getfield 156, 3) := by decide +kernel
theorem dX13_readBeast_208 : decode cX13_readBeast 208 = .ok (.dup, 1) := by decide +kernel
theorem dX13_readBeast_209 : decode cX13_readBeast 209 = .ok (.getfield 195, 3) := by decide +kernel
theorem dX13_readBeast_212 : decode cX13_readBeast 212 = .ok (.iconst 1, 1) := by decide +kernel
theorem dX13_readBeast_213 : decode cX13_readBeast 213 = .ok (.iadd, 1) := by decide +kernel
theorem dX13_readBeast_214 : decode cX13_readBeast 214 = .ok (.putfield 195, 3) := by decide +kernel
theorem dX13_readBeast_217 : decode cX13_readBeast 217 = .ok (.return_, 1) := by decide +kernel
theorem dX13_readCity_0 : decode cX13_readCity 0 = .ok (.aload_n 0, 1) := by decide +kernel
theorem dX13_readCity_1 : decode cX13_readCity 1 = .ok (.aload_n 0, 1) := by decide +kernel
theorem dX13_readCity_2 : decode cX13_readCity 2 = .ok (.getfield 156, 3) := by decide +kernel
theorem dX13_readCity_5 : decode cX13_readCity 5 = .ok (.getfield 279, 3) := by decide +kernel
theorem dX13_readCity_8 : decode cX13_readCity 8 = .ok (.bipush 6, 2) := by decide +kernel
theorem dX13_readCity_10 : decode cX13_readCity 10 = .ok (.invokevirtual 225, 3) := by decide +kernel
theorem dX13_readCity_13 : decode cX13_readCity 13 = .ok (.aload_n 0, 1) := by decide +kernel
theorem dX13_readCity_14 : decode cX13_readCity 14 = .ok (.invokevirtual 250, 3) := by decide +kernel
theorem dX13_readCity_17 : decode cX13_readCity 17 = .ok (.lstore_n 1, 1) := by decide +kernel
theorem dX13_readCity_18 : decode cX13_readCity 18 = .ok (.aload_n 0, 1) := by decide +kernel
theorem dX13_readCity_19 : decode cX13_readCity 19 = .ok (.getfield 82, 3) := by decide +kernel
theorem dX13_readCity_22 : decode cX13_readCity 22 = .ok (.iconst 5, 1) := by decide +kernel
theorem dX13_readCity_23 : decode cX13_readCity 23 = .ok (.if_icmp .ne 4, 3) := by decide +kernel
theorem dX13_readCity_26 : decode cX13_readCity 26 = .ok (.return_, 1) := by decide +kernel
theorem dX13_readCity_27 : decode cX13_readCity 27 = .ok (.aload_n 0, 1) := by decide +kernel
theorem dX13_readCity_28 : decode cX13_readCity 28 = .ok (.lload_n 1, 1) := by decide +kernel
theorem dX13_readCity_29 : decode cX13_readCity 29 = .ok (.iconst 1, 1) := by decide +kernel
theorem dX13_readCity_30 : decode cX13_readCity 30 = .ok (.aload_n 0, 1) := by decide +kernel
theorem dX13_readCity_31 : decode cX13_readCity 31 = .ok (.getfield 156, 3) := by decide +kernel
theorem dX13_readCity_34 : decode cX13_readCity 34 = .ok (.getfield 279, 3) := by decide +kernel
theorem dX13_readCity_37 : decode cX13_readCity 37 = .ok (.invokevirtual 267, 3) := by decide +kernel
theorem dX13_readCity_40 : decode cX13_readCity 40 = .ok (.iconst 0, 1) := by decide +kernel
theorem dX13_readCity_41 : decode cX13_readCity 41 = .ok (.istore_n 3, 1) := by decide +kernel
theorem dX13_readCity_42 : decode cX13_readCity 42 = .ok (.iload_n 3, 1) := by decide +kernel
theorem dX13_readCity_43 : decode cX13_readCity 43 = .ok (.bipush 6, 2) := by decide +kernel
theorem dX13_readCity_45 : decode cX13_readCity 45 = .ok (.if_icmp .ge 51, 3) := by decide +kernel
theorem dX13_readCity_48 : decode cX13_readCity 48 = .ok (.aload_n 0, 1) := by decide +kernel
theorem dX13_readCity_49 : decode cX13_readCity 49 = .ok (.getfield 156, 3) := by decide +kernel
theorem dX13_readCity_52 : decode cX13_readCity 52 = .ok (.getfield 282, 3) := by decide +kernel
theorem dX13_readCity_55 : decode cX13_readCity 55 = .ok (.bipush 6, 2) := by decide +kernel
theorem dX13_readCity_57 : decode cX13_readCity 57 = .ok (.aload_n 0, 1) := by decide +kernel
theorem dX13_readCity_58 : decode cX13_readCity 58 = .ok (.getfield 156, 3) := by decide +kernel
theorem dX13_readCity_61 : decode cX13_readCity 61 = .ok (.getfield 279, 3) := by decide +kernel
theorem dX13_readCity_64 : decode cX13_readCity 64 = .ok (.imul, 1) := by decide +kernel
theorem dX13_readCity_65 : decode cX13_readCity 65 = .ok (.iload_n 3, 1) := by decide +kernel
theorem dX13_readCity_66 : decode cX13_readCity 66 = .ok (.iadd, 1) := by decide +kernel
theorem dX13_readCity_67 : decode cX13_readCity 67 = .ok (.iconst (-1), 1) := by decide +kernel
theorem dX13_readCity_68 : decode cX13_readCity 68 = .ok (.iastore, 1) := by decide +kernel
theorem dX13_readCity_69 : decode cX13_readCity 69 = .ok (.aload_n 0, 1) := by decide +kernel
theorem dX13_readCity_70 : decode cX13_readCity 70 = .ok (.getfield 156, 3) := by decide +kernel
theorem dX13_readCity_73 : decode cX13_readCity 73 = .ok (.getfield 282, 3) := by decide +kernel
theorem dX13_readCity_76 : decode cX13_readCity 76 = .ok (.bipush 6, 2) := by decide +kernel
theorem dX13_readCity_78 : decode cX13_readCity 78 = .ok (.iload_n 3, 1) := by decide +kernel
theorem dX13_readCity_79 : decode cX13_readCity 79 = .ok (.imul, 1) := by decide +kernel
theorem dX13_readCity_80 : decode cX13_readCity 80 = .ok (.aload_n 0, 1) := by decide +kernel
theorem dX13_readCity_81 : decode cX13_readCity 81 = .ok (.getfield 156, 3) := by decide +kernel
theorem dX13_readCity_84 : decode cX13_readCity 84 = .ok (.getfield 279, 3) := by decide +kernel
theorem dX13_readCity_87 : decode cX13_readCity 87 = .ok (.iadd, 1) := by decide +kernel
theorem dX13_readCity_88 : decode cX13_readCity 88 = .ok (.iconst (-1), 1) := by decide +kernel
theorem dX13_readCity_89 : decode cX13_readCity 89 = .ok (.iastore, 1) := by decide +kernel
theorem dX13_readCity_90 : decode cX13_readCity 90 = .ok (.iinc 3 1, 3) := by decide +kernel
theorem dX13_readCity_93 : decode cX13_readCity 93 = .ok (.goto (-51), 3) := by decide +kernel
theorem dX13_readCity_96 : decode cX13_readCity 96 = .ok (.aload_n 0, 1) := by decide +kernel
theorem dX13_readCity_97 : decode cX13_readCity 97 = .ok (.getfield 156, 3) := by decide +kernel
theorem dX13_readCity_100 : decode cX13_readCity 100 = .ok (.dup, 1) := by decide +kernel
theorem dX13_readCity_101 : decode cX13_readCity 101 = .ok (.getfield 279, 3) := by decide +kernel
theorem dX13_readCity_104 : decode cX13_readCity 104 = .ok (.iconst 1, 1) := by decide +kernel
theorem dX13_readCity_105 : decode cX13_readCity 105 = .ok (.iadd, 1) := by decide +kernel
theorem dX13_readCity_106 : decode cX13_readCity 106 = .ok (.putfield 279, 3) := by decide +kernel
theorem dX13_readCity_109 : decode cX13_readCity 109 = .ok (.return_, 1) := by decide +kernel
theorem dX13_readPass_0 : decode cX13_readPass 0 = .ok (.aload_n 0, 1) := by decide +kernel
theorem dX13_readPass_1 : decode cX13_readPass 1 = .ok (.aload_n 0, 1) := by decide +kernel
theorem dX13_readPass_2 : decode cX13_readPass 2 = .ok (.getfield 156, 3) := by decide +kernel
theorem dX13_readPass_5 : decode cX13_readPass 5 = .ok (.getfield 285, 3) := by decide +kernel
theorem dX13_readPass_8 : decode cX13_readPass 8 = .ok (.bipush 9, 2) := by decide +kernel
theorem dX13_readPass_10 : decode cX13_readPass 10 = .ok (.invokevirtual 225, 3) := by decide +kernel
theorem dX13_readPass_13 : decode cX13_readPass 13 = .ok (.aload_n 0, 1) := by decide +kernel
theorem dX13_readPass_14 : decode cX13_readPass 14 = .ok (.iconst 1, 1) := by decide +kernel
theorem dX13_readPass_15 : decode cX13_readPass 15 = .ok (.invokevirtual 288, 3) := by decide +kernel
theorem dX13_readPass_18 : decode cX13_readPass 18 = .ok (.istore_n 1, 1) := by decide +kernel
theorem dX13_readPass_19 : decode cX13_readPass 19 = .ok (.aload_n 0, 1) := by decide +kernel
theorem dX13_readPass_20 : decode cX13_readPass 20 = .ok (.invokevirtual 118, 3) := by decide +kernel
theorem dX13_readPass_23 : decode cX13_readPass 23 = .ok (.aload_n 0, 1) := by decide +kernel
theorem dX13_readPass_24 : decode cX13_readPass 24 = .ok (.iconst 1, 1) := by decide +kernel
theorem dX13_readPass_25 : decode cX13_readPass 25 = .ok (.invokevirtual 288, 3) := by decide +kernel
theorem dX13_readPass_28 : decode cX13_readPass 28 = .ok (.istore_n 2, 1) := by decide +kernel
theorem dX13_readPass_29 : decode cX13_readPass 29 = .ok (.aload_n 0, 1) := by decide +kernel
theorem dX13_readPass_30 : decode cX13_readPass 30 = .ok (.getfield 82, 3) := by decide +kernel
theorem dX13_readPass_33 : decode cX13_readPass 33 = .ok (.iconst 5, 1) := by decide +kernel
theorem dX13_readPass_34 : decode cX13_readPass 34 = .ok (.if_icmp .eq 31, 3) := by decide +kernel
theorem dX13_readPass_37 : decode cX13_readPass 37 = .ok (.iload_n 1, 1) := by decide +kernel
theorem dX13_readPass_38 : decode cX13_readPass 38 = .ok (.iload_n 2, 1) := by decide +kernel
theorem dX13_readPass_39 : decode cX13_readPass 39 = .ok (.if_icmp .eq 21, 3) := by decide +kernel
theorem dX13_readPass_42 : decode cX13_readPass 42 = .ok (.aload_n 0, 1) := by decide +kernel
theorem dX13_readPass_43 : decode cX13_readPass 43 = .ok (.getfield 156, 3) := by decide +kernel
theorem dX13_readPass_46 : decode cX13_readPass 46 = .ok (.getfield 282, 3) := by decide +kernel
theorem dX13_readPass_49 : decode cX13_readPass 49 = .ok (.bipush 6, 2) := by decide +kernel
theorem dX13_readPass_51 : decode cX13_readPass 51 = .ok (.iload_n 1, 1) := by decide +kernel
theorem dX13_readPass_52 : decode cX13_readPass 52 = .ok (.imul, 1) := by decide +kernel
theorem dX13_readPass_53 : decode cX13_readPass 53 = .ok (.iload_n 2, 1) := by decide +kernel
theorem dX13_readPass_54 : decode cX13_readPass 54 = .ok (.iadd, 1) := by decide +kernel
theorem dX13_readPass_55 : decode cX13_readPass 55 = .ok (.iaload, 1) := by decide +kernel
theorem dX13_readPass_56 : decode cX13_readPass 56 = .ok (.iconst (-1), 1) := by decide +kernel
theorem dX13_readPass_57 : decode cX13_readPass 57 = .ok (.if_icmp .eq 8, 3) := by decide +kernel
theorem dX13_readPass_60 : decode cX13_readPass 60 = .ok (.aload_n 0, 1) := by decide +kernel
theorem dX13_readPass_61 : decode cX13_readPass 61 = .ok (.iconst 3, 1) := by decide +kernel
theorem dX13_readPass_62 : decode cX13_readPass 62 = .ok (.invokevirtual 125, 3) := by decide +kernel
theorem dX13_readPass_65 : decode cX13_readPass 65 = .ok (.aload_n 0, 1) := by decide +kernel
theorem dX13_readPass_66 : decode cX13_readPass 66 = .ok (.invokevirtual 118, 3) := by decide +kernel
theorem dX13_readPass_69 : decode cX13_readPass 69 = .ok (.aload_n 0, 1) := by decide +kernel
theorem dX13_readPass_70 : decode cX13_readPass 70 = .ok (.ldc_w 291, 3) := by decide +kernel
theorem dX13_readPass_73 : decode cX13_readPass 73 = .ok (.iconst 0, 1) := by decide +kernel
theorem dX13_readPass_74 : decode cX13_readPass 74 = .ok (.bipush 99, 2) := by decide +kernel
theorem dX13_readPass_76 : decode cX13_readPass 76 = .ok (.invokevirtual 217, 3) := by decide +kernel
theorem dX13_readPass_79 : decode cX13_readPass 79 = .ok (.istore_n 3, 1) := by decide +kernel
theorem dX13_readPass_80 : decode cX13_readPass 80 = .ok (.aload_n 0, 1) := by decide +kernel
theorem dX13_readPass_81 : decode cX13_readPass 81 = .ok (.getfield 82, 3) := by decide +kernel
theorem dX13_readPass_84 : decode cX13_readPass 84 = .ok (.iconst 5, 1) := by decide +kernel
theorem dX13_readPass_85 : decode cX13_readPass 85 = .ok (.if_icmp .ne 4, 3) := by decide +kernel
theorem dX13_readPass_88 : decode cX13_readPass 88 = .ok (.return_, 1) := by decide +kernel
theorem dX13_readPass_89 : decode cX13_readPass 89 = .ok (.aload_n 0, 1) := by decide +kernel
theorem dX13_readPass_90 : decode cX13_readPass 90 = .ok (.getfield 156, 3) := by decide +kernel
theorem dX13_readPass_93 : decode cX13_readPass 93 = .ok (.getfield 282, 3) := by decide +kernel
theorem dX13_readPass_96 : decode cX13_readPass 96 = .ok (.bipush 6, 2) := by decide +kernel
theorem dX13_readPass_98 : decode cX13_readPass 98 = .ok (.iload_n 1, 1) := by decide +kernel
theorem dX13_readPass_99 : decode cX13_readPass 99 = .ok (.imul, 1) := by decide +kernel
theorem dX13_readPass_100 : decode cX13_readPass 100 = .ok (.iload_n 2, 1) := by decide +kernel
theorem dX13_readPass_101 : decode cX13_readPass 101 = .ok (.iadd, 1) := by decide +kernel
theorem dX13_readPass_102 : decode cX13_readPass 102 = .ok (.iload_n 3, 1) := by decide +kernel
theorem dX13_readPass_103 : decode cX13_readPass 103 = .ok (.iastore, 1) := by decide +kernel
theorem dX13_readPass_104 : decode cX13_readPass 104 = .ok (.aload_n 0, 1) := by decide +kernel
theorem dX13_readPass_105 : decode cX13_readPass 105 = .ok (.getfield 156, 3) := by decide +kernel
theorem dX13_readPass_108 : decode cX13_readPass 108 = .ok (.getfield 282, 3) := by decide +kernel
theorem dX13_readPass_111 : decode cX13_readPass 111 = .ok (.bipush 6, 2) := by decide +kernel
theorem dX13_readPass_113 : decode cX13_readPass 113 = .ok (.iload_n 2, 1) := by decide +kernel
theorem dX13_readPass_114 : decode cX13_readPass 114 = .ok (.imul, 1) := by decide +kernel
theorem dX13_readPass_115 : decode cX13_readPass 115 = .ok (.iload_n 1, 1) := by decide +kernel
theorem dX13_readPass_116 : decode cX13_readPass 116 = .ok (.iadd, 1) := by decide +kernel
theorem dX13_readPass_117 : decode cX13_readPass 117 = .ok (.iload_n 3, 1) := by decide +kernel
theorem dX13_readPass_118 : decode cX13_readPass 118 = .ok (.iastore, 1) := by decide +kernel
theorem dX13_readPass_119 : decode cX13_readPass 119 = .ok (.aload_n 0, 1) := by decide +kernel
theorem dX13_readPass_120 : decode cX13_readPass 120 = .ok (.getfield 156, 3) := by decide +kernel
theorem dX13_readPass_123 : decode cX13_readPass 123 = .ok (.dup, 1) := by decide +kernel
theorem dX13_readPass_124 : decode cX13_readPass 124 = .ok (.getfield 285, 3) := by decide +kernel
theorem dX13_readPass_127 : decode cX13_readPass 127 = .ok (.iconst 1, 1) := by decide +kernel
theorem dX13_readPass_128 : decode cX13_readPass 128 = .ok (.iadd, 1) := by decide +kernel
theorem dX13_readPass_129 : decode cX13_readPass 129 = .ok (.putfield 285, 3) := by decide +kernel
theorem dX13_readPass_132 : decode cX13_readPass 132 = .ok (.return_, 1) := by decide +kernel
theorem dX13_readTurned_0 : decode cX13_readTurned 0 = .ok (.aload_n 0, 1) := by decide +kernel
theorem dX13_readTurned_1 : decode cX13_readTurned 1 = .ok (.iconst 0, 1) := by decide +kernel
theorem dX13_readTurned_2 : decode cX13_readTurned 2 = .ok (.iconst 1, 1) := by decide +kernel
theorem dX13_readTurned_3 : decode cX13_readTurned 3 = .ok (.invokevirtual 225, 3) := by decide +kernel
theorem dX13_readTurned_6 : decode cX13_readTurned 6 = .ok (.aload_n 0, 1) := by decide +kernel
theorem dX13_readTurned_7 : decode cX13_readTurned 7 = .ok (.iconst 0, 1) := by decide +kernel
theorem dX13_readTurned_8 : decode cX13_readTurned 8 = .ok (.invokevirtual 288, 3) := by decide +kernel
theorem dX13_readTurned_11 : decode cX13_readTurned 11 = .ok (.istore_n 1, 1) := by decide +kernel
theorem dX13_readTurned_12 : decode cX13_readTurned 12 = .ok (.aload_n 0, 1) := by decide +kernel
theorem dX13_readTurned_13 : decode cX13_readTurned 13 = .ok (.getfield 82, 3) := by decide +kernel
theorem dX13_readTurned_16 : decode cX13_readTurned 16 = .ok (.iconst 5, 1) := by decide +kernel
theorem dX13_readTurned_17 : decode cX13_readTurned 17 = .ok (.if_icmp .eq 22, 3) := by decide +kernel
theorem dX13_readTurned_20 : decode cX13_readTurned 20 = .ok (.aload_n 0, 1) := by decide +kernel
theorem dX13_readTurned_21 : decode cX13_readTurned 21 = .ok (.getfield 156, 3) := by decide +kernel
theorem dX13_readTurned_24 : decode cX13_readTurned 24 = .ok (.getfield 292, 3) := by decide +kernel
theorem dX13_readTurned_27 : decode cX13_readTurned 27 = .ok (.iload_n 1, 1) := by decide +kernel
theorem dX13_readTurned_28 : decode cX13_readTurned 28 = .ok (.invokestatic 229, 3) := by decide +kernel
theorem dX13_readTurned_31 : decode cX13_readTurned 31 = .ok (.ifCond .eq 8, 3) := by decide +kernel
theorem dX13_readTurned_34 : decode cX13_readTurned 34 = .ok (.aload_n 0, 1) := by decide +kernel
theorem dX13_readTurned_35 : decode cX13_readTurned 35 = .ok (.iconst 3, 1) := by decide +kernel
theorem dX13_readTurned_36 : decode cX13_readTurned 36 = .ok (.invokevirtual 125, 3) := by decide +kernel
theorem dX13_readTurned_39 : decode cX13_readTurned 39 = .ok (.aload_n 0, 1) := by decide +kernel
theorem dX13_readTurned_40 : decode cX13_readTurned 40 = .ok (.invokevirtual 118, 3) := by decide +kernel
theorem dX13_readTurned_43 : decode cX13_readTurned 43 = .ok (.aload_n 0, 1) := by decide +kernel
theorem dX13_readTurned_44 : decode cX13_readTurned 44 = .ok (.getfield 82, 3) := by decide +kernel
theorem dX13_readTurned_47 : decode cX13_readTurned 47 = .ok (.iconst 5, 1) := by decide +kernel
theorem dX13_readTurned_48 : decode cX13_readTurned 48 = .ok (.if_icmp .eq 18, 3) := by decide +kernel
theorem dX13_readTurned_51 : decode cX13_readTurned 51 = .ok (.aload_n 0, 1) := by decide +kernel
theorem dX13_readTurned_52 : decode cX13_readTurned 52 = .ok (.getfield 156, 3) := by decide +kernel
theorem dX13_readTurned_55 : decode cX13_readTurned 55 = .ok (.dup, 1) := by decide +kernel
theorem dX13_readTurned_56 : decode cX13_readTurned 56 = .ok (.getfield 292, 3) := by decide +kernel
theorem dX13_readTurned_59 : decode cX13_readTurned 59 = .ok (.iconst 1, 1) := by decide +kernel
theorem dX13_readTurned_60 : decode cX13_readTurned 60 = .ok (.iload_n 1, 1) := by decide +kernel
theorem dX13_readTurned_61 : decode cX13_readTurned 61 = .ok (.ishl, 1) := by decide +kernel
theorem dX13_readTurned_62 : decode cX13_readTurned 62 = .ok (.ior, 1) := by decide +kernel
theorem dX13_readTurned_63 : decode cX13_readTurned 63 = .ok (.putfield 292, 3) := by decide +kernel
theorem dX13_readTurned_66 : decode cX13_readTurned 66 = .ok (.return_, 1) := by decide +kernel
theorem dX13_feed_0 : decode cX13_feed 0 = .ok (.aload_n 0, 1) := by decide +kernel
theorem dX13_feed_1 : decode cX13_feed 1 = .ok (.iconst 0, 1) := by decide +kernel
theorem dX13_feed_2 : decode cX13_feed 2 = .ok (.putfield 48, 3) := by decide +kernel
theorem dX13_feed_5 : decode cX13_feed 5 = .ok (.aload_n 0, 1) := by decide +kernel
theorem dX13_feed_6 : decode cX13_feed 6 = .ok (.getfield 294, 3) := by decide +kernel
theorem dX13_feed_9 : decode cX13_feed 9 = .ok (.bipush 20, 2) := by decide +kernel
theorem dX13_feed_11 : decode cX13_feed 11 = .ok (.iadd, 1) := by decide +kernel
theorem dX13_feed_12 : decode cX13_feed 12 = .ok (.sipush 900, 3) := by decide +kernel
theorem dX13_feed_15 : decode cX13_feed 15 = .ok (.if_icmp .le 5, 3) := by decide +kernel
theorem dX13_feed_18 : decode cX13_feed 18 = .ok (.iconst (-1), 1) := by decide +kernel
theorem dX13_feed_19 : decode cX13_feed 19 = .ok (.ireturn, 1) := by decide +kernel
theorem dX13_feed_20 : decode cX13_feed 20 = .ok (.iconst 0, 1) := by decide +kernel
theorem dX13_feed_21 : decode cX13_feed 21 = .ok (.istore 6, 2) := by decide +kernel
theorem dX13_feed_23 : decode cX13_feed 23 = .ok (.iload 6, 2) := by decide +kernel
theorem dX13_feed_25 : decode cX13_feed 25 = .ok (.bipush 20, 2) := by decide +kernel
theorem dX13_feed_27 : decode cX13_feed 27 = .ok (.if_icmp .ge 90, 3) := by decide +kernel
theorem dX13_feed_30 : decode cX13_feed 30 = .ok (.iload 6, 2) := by decide +kernel
theorem dX13_feed_32 : decode cX13_feed 32 = .ok (.iconst 4, 1) := by decide +kernel
theorem dX13_feed_33 : decode cX13_feed 33 = .ok (.if_icmp .ge 7, 3) := by decide +kernel
theorem dX13_feed_36 : decode cX13_feed 36 = .ok (.iload_n 1, 1) := by decide +kernel
theorem dX13_feed_37 : decode cX13_feed 37 = .ok (.goto 39, 3) := by decide +kernel
theorem dX13_feed_40 : decode cX13_feed 40 = .ok (.iload 6, 2) := by decide +kernel
theorem dX13_feed_42 : decode cX13_feed 42 = .ok (.bipush 8, 2) := by decide +kernel
theorem dX13_feed_44 : decode cX13_feed 44 = .ok (.if_icmp .ge 7, 3) := by decide +kernel
theorem dX13_feed_47 : decode cX13_feed 47 = .ok (.iload_n 2, 1) := by decide +kernel
theorem dX13_feed_48 : decode cX13_feed 48 = .ok (.goto 28, 3) := by decide +kernel
theorem dX13_feed_51 : decode cX13_feed 51 = .ok (.iload 6, 2) := by decide +kernel
theorem dX13_feed_53 : decode cX13_feed 53 = .ok (.bipush 12, 2) := by decide +kernel
theorem dX13_feed_55 : decode cX13_feed 55 = .ok (.if_icmp .ge 7, 3) := by decide +kernel
theorem dX13_feed_58 : decode cX13_feed 58 = .ok (.iload_n 3, 1) := by decide +kernel
theorem dX13_feed_59 : decode cX13_feed 59 = .ok (.goto 17, 3) := by decide +kernel
theorem dX13_feed_62 : decode cX13_feed 62 = .ok (.iload 6, 2) := by decide +kernel
theorem dX13_feed_64 : decode cX13_feed 64 = .ok (.bipush 16, 2) := by decide +kernel
theorem dX13_feed_66 : decode cX13_feed 66 = .ok (.if_icmp .ge 8, 3) := by decide +kernel
theorem dX13_feed_69 : decode cX13_feed 69 = .ok (.iload 4, 2) := by decide +kernel
theorem dX13_feed_71 : decode cX13_feed 71 = .ok (.goto 5, 3) := by decide +kernel
theorem dX13_feed_74 : decode cX13_feed 74 = .ok (.iload 5, 2) := by decide +kernel
theorem dX13_feed_76 : decode cX13_feed 76 = .ok (.istore 7, 2) := by decide +kernel
theorem dX13_feed_78 : decode cX13_feed 78 = .ok (.aload_n 0, 1) := by decide +kernel
theorem dX13_feed_79 : decode cX13_feed 79 = .ok (.getfield 13, 3) := by decide +kernel
theorem dX13_feed_82 : decode cX13_feed 82 = .ok (.aload_n 0, 1) := by decide +kernel
theorem dX13_feed_83 : decode cX13_feed 83 = .ok (.getfield 294, 3) := by decide +kernel
theorem dX13_feed_86 : decode cX13_feed 86 = .ok (.iload 7, 2) := by decide +kernel
theorem dX13_feed_88 : decode cX13_feed 88 = .ok (.bipush 24, 2) := by decide +kernel
theorem dX13_feed_90 : decode cX13_feed 90 = .ok (.bipush 8, 2) := by decide +kernel
theorem dX13_feed_92 : decode cX13_feed 92 = .ok (.iload 6, 2) := by decide +kernel
theorem dX13_feed_94 : decode cX13_feed 94 = .ok (.iconst 4, 1) := by decide +kernel
theorem dX13_feed_95 : decode cX13_feed 95 = .ok (.irem, 1) := by decide +kernel
theorem dX13_feed_96 : decode cX13_feed 96 = .ok (.imul, 1) := by decide +kernel
theorem dX13_feed_97 : decode cX13_feed 97 = .ok (.isub, 1) := by decide +kernel
theorem dX13_feed_98 : decode cX13_feed 98 = .ok (.ishr, 1) := by decide +kernel
theorem dX13_feed_99 : decode cX13_feed 99 = .ok (.i2b, 1) := by decide +kernel
theorem dX13_feed_100 : decode cX13_feed 100 = .ok (.bastore, 1) := by decide +kernel
theorem dX13_feed_101 : decode cX13_feed 101 = .ok (.aload_n 0, 1) := by decide +kernel
theorem dX13_feed_102 : decode cX13_feed 102 = .ok (.dup, 1) := by decide +kernel
theorem dX13_feed_103 : decode cX13_feed 103 = .ok (.getfield 294, 3) := by decide +kernel
theorem dX13_feed_106 : decode cX13_feed 106 = .ok (.iconst 1, 1) := by decide +kernel
theorem dX13_feed_107 : decode cX13_feed 107 = .ok (.iadd, 1) := by decide +kernel
theorem dX13_feed_108 : decode cX13_feed 108 = .ok (.putfield 294, 3) := by decide +kernel
theorem dX13_feed_111 : decode cX13_feed 111 = .ok (.iinc 6 1, 3) := by decide +kernel
theorem dX13_feed_114 : decode cX13_feed 114 = .ok (.goto (-91), 3) := by decide +kernel
theorem dX13_feed_117 : decode cX13_feed 117 = .ok (.aload_n 0, 1) := by decide +kernel
theorem dX13_feed_118 : decode cX13_feed 118 = .ok (.getfield 294, 3) := by decide +kernel
theorem dX13_feed_121 : decode cX13_feed 121 = .ok (.ireturn, 1) := by decide +kernel
theorem dX13_war_0 : decode cX13_war 0 = .ok (.aload_n 0, 1) := by decide +kernel
theorem dX13_war_1 : decode cX13_war 1 = .ok (.iconst 0, 1) := by decide +kernel
theorem dX13_war_2 : decode cX13_war 2 = .ok (.putfield 48, 3) := by decide +kernel
theorem dX13_war_5 : decode cX13_war 5 = .ok (.iload_n 1, 1) := by decide +kernel
theorem dX13_war_6 : decode cX13_war 6 = .ok (.ifCond .lt 11, 3) := by decide +kernel
theorem dX13_war_9 : decode cX13_war 9 = .ok (.iload_n 1, 1) := by decide +kernel
theorem dX13_war_10 : decode cX13_war 10 = .ok (.aload_n 0, 1) := by decide +kernel
theorem dX13_war_11 : decode cX13_war 11 = .ok (.getfield 294, 3) := by decide +kernel
theorem dX13_war_14 : decode cX13_war 14 = .ok (.if_icmp .le 9, 3) := by decide +kernel
theorem dX13_war_17 : decode cX13_war 17 = .ok (.aload_n 0, 1) := by decide +kernel
theorem dX13_war_18 : decode cX13_war 18 = .ok (.iconst 2, 1) := by decide +kernel
theorem dX13_war_19 : decode cX13_war 19 = .ok (.invokevirtual 54, 3) := by decide +kernel
theorem dX13_war_22 : decode cX13_war 22 = .ok (.ireturn, 1) := by decide +kernel
theorem dX13_war_23 : decode cX13_war 23 = .ok (.aload_n 0, 1) := by decide +kernel
theorem dX13_war_24 : decode cX13_war 24 = .ok (.iload_n 1, 1) := by decide +kernel
theorem dX13_war_25 : decode cX13_war 25 = .ok (.putfield 67, 3) := by decide +kernel
theorem dX13_war_28 : decode cX13_war 28 = .ok (.aload_n 0, 1) := by decide +kernel
theorem dX13_war_29 : decode cX13_war 29 = .ok (.iconst 0, 1) := by decide +kernel
theorem dX13_war_30 : decode cX13_war 30 = .ok (.putfield 294, 3) := by decide +kernel
theorem dX13_war_33 : decode cX13_war 33 = .ok (.aload_n 0, 1) := by decide +kernel
theorem dX13_war_34 : decode cX13_war 34 = .ok (.iconst 0, 1) := by decide +kernel
theorem dX13_war_35 : decode cX13_war 35 = .ok (.putfield 85, 3) := by decide +kernel
theorem dX13_war_38 : decode cX13_war 38 = .ok (.aload_n 0, 1) := by decide +kernel
theorem dX13_war_39 : decode cX13_war 39 = .ok (.iconst 0, 1) := by decide +kernel
theorem dX13_war_40 : decode cX13_war 40 = .ok (.putfield 108, 3) := by decide +kernel
theorem dX13_war_43 : decode cX13_war 43 = .ok (.aload_n 0, 1) := by decide +kernel
theorem dX13_war_44 : decode cX13_war 44 = .ok (.new 161, 3) := by decide +kernel
theorem dX13_war_47 : decode cX13_war 47 = .ok (.dup, 1) := by decide +kernel
theorem dX13_war_48 : decode cX13_war 48 = .ok (.invokespecial 297, 3) := by decide +kernel
theorem dX13_war_51 : decode cX13_war 51 = .ok (.putfield 156, 3) := by decide +kernel
theorem dX13_war_54 : decode cX13_war 54 = .ok (.aload_n 0, 1) := by decide +kernel
theorem dX13_war_55 : decode cX13_war 55 = .ok (.iconst 0, 1) := by decide +kernel
theorem dX13_war_56 : decode cX13_war 56 = .ok (.putfield 82, 3) := by decide +kernel
theorem dX13_war_59 : decode cX13_war 59 = .ok (.aload_n 0, 1) := by decide +kernel
theorem dX13_war_60 : decode cX13_war 60 = .ok (.invokevirtual 118, 3) := by decide +kernel
theorem dX13_war_63 : decode cX13_war 63 = .ok (.aload_n 0, 1) := by decide +kernel
theorem dX13_war_64 : decode cX13_war 64 = .ok (.invokevirtual 298, 3) := by decide +kernel
theorem dX13_war_67 : decode cX13_war 67 = .ok (.aload_n 0, 1) := by decide +kernel
theorem dX13_war_68 : decode cX13_war 68 = .ok (.getfield 108, 3) := by decide +kernel
theorem dX13_war_71 : decode cX13_war 71 = .ok (.ifCond .le 18, 3) := by decide +kernel
theorem dX13_war_74 : decode cX13_war 74 = .ok (.aload_n 0, 1) := by decide +kernel
theorem dX13_war_75 : decode cX13_war 75 = .ok (.iconst 4, 1) := by decide +kernel
theorem dX13_war_76 : decode cX13_war 76 = .ok (.putfield 51, 3) := by decide +kernel
theorem dX13_war_79 : decode cX13_war 79 = .ok (.aload_n 0, 1) := by decide +kernel
theorem dX13_war_80 : decode cX13_war 80 = .ok (.aload_n 0, 1) := by decide +kernel
theorem dX13_war_81 : decode cX13_war 81 = .ok (.getfield 111, 3) := by decide +kernel
theorem dX13_war_84 : decode cX13_war 84 = .ok (.putfield 9, 3) := by decide +kernel
theorem dX13_war_87 : decode cX13_war 87 = .ok (.iconst (-1), 1) := by decide +kernel
theorem dX13_war_88 : decode cX13_war 88 = .ok (.ireturn, 1) := by decide +kernel
theorem dX13_war_89 : decode cX13_war 89 = .ok (.aload_n 0, 1) := by decide +kernel
theorem dX13_war_90 : decode cX13_war 90 = .ok (.aload_n 0, 1) := by decide +kernel
theorem dX13_war_91 : decode cX13_war 91 = .ok (.getfield 156, 3) := by decide +kernel
theorem dX13_war_94 : decode cX13_war 94 = .ok (.putfield 301, 3) := by decide +kernel
theorem dX13_war_97 : decode cX13_war 97 = .ok (.iconst 0, 1) := by decide +kernel
theorem dX13_war_98 : decode cX13_war 98 = .ok (.istore_n 2, 1) := by decide +kernel
theorem dX13_war_99 : decode cX13_war 99 = .ok (.iload_n 2, 1) := by decide +kernel
theorem dX13_war_100 : decode cX13_war 100 = .ok (.bipush 19, 2) := by decide +kernel
theorem dX13_war_102 : decode cX13_war 102 = .ok (.if_icmp .ge 16, 3) := by decide +kernel
theorem dX13_war_105 : decode cX13_war 105 = .ok (.aload_n 0, 1) := by decide +kernel
theorem dX13_war_106 : decode cX13_war 106 = .ok (.getfield 17, 3) := by decide +kernel
theorem dX13_war_109 : decode cX13_war 109 = .ok (.iload_n 2, 1) := by decide +kernel
theorem dX13_war_110 : decode cX13_war 110 = .ok (.iconst 0, 1) := by decide +kernel
theorem dX13_war_111 : decode cX13_war 111 = .ok (.iastore, 1) := by decide +kernel
theorem dX13_war_112 : decode cX13_war 112 = .ok (.iinc 2 1, 3) := by decide +kernel
theorem dX13_war_115 : decode cX13_war 115 = .ok (.goto (-16), 3) := by decide +kernel
theorem dX13_war_118 : decode cX13_war 118 = .ok (.iconst 0, 1) := by decide +kernel
theorem dX13_war_119 : decode cX13_war 119 = .ok (.istore_n 2, 1) := by decide +kernel
theorem dX13_war_120 : decode cX13_war 120 = .ok (.iload_n 2, 1) := by decide +kernel
theorem dX13_war_121 : decode cX13_war 121 = .ok (.aload_n 0, 1) := by decide +kernel
theorem dX13_war_122 : decode cX13_war 122 = .ok (.getfield 301, 3) := by decide +kernel
theorem dX13_war_125 : decode cX13_war 125 = .ok (.getfield 195, 3) := by decide +kernel
theorem dX13_war_128 : decode cX13_war 128 = .ok (.if_icmp .ge 26, 3) := by decide +kernel
theorem dX13_war_131 : decode cX13_war 131 = .ok (.aload_n 0, 1) := by decide +kernel
theorem dX13_war_132 : decode cX13_war 132 = .ok (.getfield 17, 3) := by decide +kernel
theorem dX13_war_135 : decode cX13_war 135 = .ok (.iconst 0, 1) := by decide +kernel
theorem dX13_war_136 : decode cX13_war 136 = .ok (.iload_n 2, 1) := by decide +kernel
theorem dX13_war_137 : decode cX13_war 137 = .ok (.iadd, 1) := by decide +kernel
theorem dX13_war_138 : decode cX13_war 138 = .ok (.aload_n 0, 1) := by decide +kernel
theorem dX13_war_139 : decode cX13_war 139 = .ok (.getfield 301, 3) := by decide +kernel
theorem dX13_war_142 : decode cX13_war 142 = .ok (.getfield 273, 3) := by decide +kernel
theorem dX13_war_145 : decode cX13_war 145 = .ok (.iload_n 2, 1) := by decide +kernel
theorem dX13_war_146 : decode cX13_war 146 = .ok (.iaload, 1) := by decide +kernel
theorem dX13_war_147 : decode cX13_war 147 = .ok (.iastore, 1) := by decide +kernel
theorem dX13_war_148 : decode cX13_war 148 = .ok (.iinc 2 1, 3) := by decide +kernel
theorem dX13_war_151 : decode cX13_war 151 = .ok (.goto (-31), 3) := by decide +kernel
theorem dX13_war_154 : decode cX13_war 154 = .ok (.iconst 0, 1) := by decide +kernel
theorem dX13_war_155 : decode cX13_war 155 = .ok (.istore_n 2, 1) := by decide +kernel
theorem dX13_war_156 : decode cX13_war 156 = .ok (.iload_n 2, 1) := by decide +kernel
theorem dX13_war_157 : decode cX13_war 157 = .ok (.aload_n 0, 1) := by decide +kernel
theorem dX13_war_158 : decode cX13_war 158 = .ok (.getfield 301, 3) := by decide +kernel
theorem dX13_war_161 : decode cX13_war 161 = .ok (.getfield 160, 3) := by decide +kernel
theorem dX13_war_164 : decode cX13_war 164 = .ok (.if_icmp .ge 27, 3) := by decide +kernel
theorem dX13_war_167 : decode cX13_war 167 = .ok (.aload_n 0, 1) := by decide +kernel
theorem dX13_war_168 : decode cX13_war 168 = .ok (.getfield 17, 3) := by decide +kernel
theorem dX13_war_171 : decode cX13_war 171 = .ok (.bipush 11, 2) := by decide +kernel
theorem dX13_war_173 : decode cX13_war 173 = .ok (.iload_n 2, 1) := by decide +kernel
theorem dX13_war_174 : decode cX13_war 174 = .ok (.iadd, 1) := by decide +kernel
theorem dX13_war_175 : decode cX13_war 175 = .ok (.aload_n 0, 1) := by decide +kernel
theorem dX13_war_176 : decode cX13_war 176 = .ok (.getfield 301, 3) := by decide +kernel
theorem dX13_war_179 : decode cX13_war 179 = .ok (.getfield 244, 3) := by decide +kernel
theorem dX13_war_182 : decode cX13_war 182 = .ok (.iload_n 2, 1) := by decide +kernel
theorem dX13_war_183 : decode cX13_war 183 = .ok (.iaload, 1) := by decide +kernel
theorem dX13_war_184 : decode cX13_war 184 = .ok (.iastore, 1) := by decide +kernel
theorem dX13_war_185 : decode cX13_war 185 = .ok (.iinc 2 1, 3) := by decide +kernel
theorem dX13_war_188 : decode cX13_war 188 = .ok (.goto (-32), 3) := by decide +kernel
theorem dX13_war_191 : decode cX13_war 191 = .ok (.aload_n 0, 1) := by decide +kernel
theorem dX13_war_192 : decode cX13_war 192 = .ok (.iconst 0, 1) := by decide +kernel
theorem dX13_war_193 : decode cX13_war 193 = .ok (.putfield 304, 3) := by decide +kernel
theorem dX13_war_196 : decode cX13_war 196 = .ok (.aload_n 0, 1) := by decide +kernel
theorem dX13_war_197 : decode cX13_war 197 = .ok (.iconst 0, 1) := by decide +kernel
theorem dX13_war_198 : decode cX13_war 198 = .ok (.putfield 307, 3) := by decide +kernel
theorem dX13_war_201 : decode cX13_war 201 = .ok (.aload_n 0, 1) := by decide +kernel
theorem dX13_war_202 : decode cX13_war 202 = .ok (.aload_n 0, 1) := by decide +kernel
theorem dX13_war_203 : decode cX13_war 203 = .ok (.getfield 301, 3) := by decide +kernel
theorem dX13_war_206 : decode cX13_war 206 = .ok (.getfield 195, 3) := by decide +kernel
theorem dX13_war_209 : decode cX13_war 209 = .ok (.invokevirtual 60, 3) := by decide +kernel
theorem dX13_war_212 : decode cX13_war 212 = .ok (.ireturn, 1) := by decide +kernel
theorem dX13_fault_0 : decode cX13_fault 0 = .ok (.aload_n 0, 1) := by decide +kernel
theorem dX13_fault_1 : decode cX13_fault 1 = .ok (.iconst 0, 1) := by decide +kernel
theorem dX13_fault_2 : decode cX13_fault 2 = .ok (.putfield 48, 3) := by decide +kernel
theorem dX13_fault_5 : decode cX13_fault 5 = .ok (.aload_n 0, 1) := by decide +kernel
theorem dX13_fault_6 : decode cX13_fault 6 = .ok (.getfield 108, 3) := by decide +kernel
theorem dX13_fault_9 : decode cX13_fault 9 = .ok (.ireturn, 1) := by decide +kernel
theorem dX13_where_0 : decode cX13_where 0 = .ok (.aload_n 0, 1) := by decide +kernel
theorem dX13_where_1 : decode cX13_where 1 = .ok (.iconst 0, 1) := by decide +kernel
theorem dX13_where_2 : decode cX13_where 2 = .ok (.putfield 48, 3) := by decide +kernel
theorem dX13_where_5 : decode cX13_where 5 = .ok (.aload_n 0, 1) := by decide +kernel
theorem dX13_where_6 : decode cX13_where 6 = .ok (.getfield 9, 3) := by decide +kernel
theorem dX13_where_9 : decode cX13_where 9 = .ok (.ireturn, 1) := by decide +kernel
theorem dX13_tries_0 : decode cX13_tries 0 = .ok (.iconst 0, 1) := by decide +kernel
theorem dX13_tries_1 : decode cX13_tries 1 = .ok (.istore_n 1, 1) := by decide +kernel
theorem dX13_tries_2 : decode cX13_tries 2 = .ok (.iload_n 1, 1) := by decide +kernel
theorem dX13_tries_3 : decode cX13_tries 3 = .ok (.bipush 19, 2) := by decide +kernel
theorem dX13_tries_5 : decode cX13_tries 5 = .ok (.if_icmp .ge 21, 3) := by decide +kernel
theorem dX13_tries_8 : decode cX13_tries 8 = .ok (.aload_n 0, 1) := by decide +kernel
theorem dX13_tries_9 : decode cX13_tries 9 = .ok (.getfield 21, 3) := by decide +kernel
theorem dX13_tries_12 : decode cX13_tries 12 = .ok (.iload_n 1, 1) := by decide +kernel
theorem dX13_tries_13 : decode cX13_tries 13 = .ok (.aload_n 0, 1) := by decide +kernel
theorem dX13_tries_14 : decode cX13_tries 14 = .ok (.getfield 17, 3) := by decide +kernel
theorem dX13_tries_17 : decode cX13_tries 17 = .ok (.iload_n 1, 1) := by decide +kernel
theorem dX13_tries_18 : decode cX13_tries 18 = .ok (.iaload, 1) := by decide +kernel
theorem dX13_tries_19 : decode cX13_tries 19 = .ok (.iastore, 1) := by decide +kernel
theorem dX13_tries_20 : decode cX13_tries 20 = .ok (.iinc 1 1, 3) := by decide +kernel
theorem dX13_tries_23 : decode cX13_tries 23 = .ok (.goto (-21), 3) := by decide +kernel
theorem dX13_tries_26 : decode cX13_tries 26 = .ok (.return_, 1) := by decide +kernel
theorem dX13_isLane_0 : decode cX13_isLane 0 = .ok (.aload_n 0, 1) := by decide +kernel
theorem dX13_isLane_1 : decode cX13_isLane 1 = .ok (.getfield 301, 3) := by decide +kernel
theorem dX13_isLane_4 : decode cX13_isLane 4 = .ok (.ifnull 22, 3) := by decide +kernel
theorem dX13_isLane_7 : decode cX13_isLane 7 = .ok (.iload_n 1, 1) := by decide +kernel
theorem dX13_isLane_8 : decode cX13_isLane 8 = .ok (.ifCond .lt 18, 3) := by decide +kernel
theorem dX13_isLane_11 : decode cX13_isLane 11 = .ok (.iload_n 1, 1) := by decide +kernel
theorem dX13_isLane_12 : decode cX13_isLane 12 = .ok (.aload_n 0, 1) := by decide +kernel
theorem dX13_isLane_13 : decode cX13_isLane 13 = .ok (.getfield 301, 3) := by decide +kernel
theorem dX13_isLane_16 : decode cX13_isLane 16 = .ok (.getfield 160, 3) := by decide +kernel
theorem dX13_isLane_19 : decode cX13_isLane 19 = .ok (.if_icmp .ge 7, 3) := by decide +kernel
theorem dX13_isLane_22 : decode cX13_isLane 22 = .ok (.iconst 1, 1) := by decide +kernel
theorem dX13_isLane_23 : decode cX13_isLane 23 = .ok (.goto 4, 3) := by decide +kernel
theorem dX13_isLane_26 : decode cX13_isLane 26 = .ok (.iconst 0, 1) := by decide +kernel
theorem dX13_isLane_27 : decode cX13_isLane 27 = .ok (.ireturn, 1) := by decide +kernel
theorem dX13_isBeast_0 : decode cX13_isBeast 0 = .ok (.aload_n 0, 1) := by decide +kernel
theorem dX13_isBeast_1 : decode cX13_isBeast 1 = .ok (.getfield 301, 3) := by decide +kernel
theorem dX13_isBeast_4 : decode cX13_isBeast 4 = .ok (.ifnull 22, 3) := by decide +kernel
theorem dX13_isBeast_7 : decode cX13_isBeast 7 = .ok (.iload_n 1, 1) := by decide +kernel
theorem dX13_isBeast_8 : decode cX13_isBeast 8 = .ok (.ifCond .lt 18, 3) := by decide +kernel
theorem dX13_isBeast_11 : decode cX13_isBeast 11 = .ok (.iload_n 1, 1) := by decide +kernel
theorem dX13_isBeast_12 : decode cX13_isBeast 12 = .ok (.aload_n 0, 1) := by decide +kernel
theorem dX13_isBeast_13 : decode cX13_isBeast 13 = .ok (.getfield 301, 3) := by decide +kernel
theorem dX13_isBeast_16 : decode cX13_isBeast 16 = .ok (.getfield 195, 3) := by decide +kernel
theorem dX13_isBeast_19 : decode cX13_isBeast 19 = .ok (.if_icmp .ge 7, 3) := by decide +kernel
theorem dX13_isBeast_22 : decode cX13_isBeast 22 = .ok (.iconst 1, 1) := by decide +kernel
theorem dX13_isBeast_23 : decode cX13_isBeast 23 = .ok (.goto 4, 3) := by decide +kernel
theorem dX13_isBeast_26 : decode cX13_isBeast 26 = .ok (.iconst 0, 1) := by decide +kernel
theorem dX13_isBeast_27 : decode cX13_isBeast 27 = .ok (.ireturn, 1) := by decide +kernel
theorem dX13_isCity_0 : decode cX13_isCity 0 = .ok (.aload_n 0, 1) := by decide +kernel
theorem dX13_isCity_1 : decode cX13_isCity 1 = .ok (.getfield 301, 3) := by decide +kernel
theorem dX13_isCity_4 : decode cX13_isCity 4 = .ok (.ifnull 22, 3) := by decide +kernel
theorem dX13_isCity_7 : decode cX13_isCity 7 = .ok (.iload_n 1, 1) := by decide +kernel
theorem dX13_isCity_8 : decode cX13_isCity 8 = .ok (.ifCond .lt 18, 3) := by decide +kernel
theorem dX13_isCity_11 : decode cX13_isCity 11 = .ok (.iload_n 1, 1) := by decide +kernel
theorem dX13_isCity_12 : decode cX13_isCity 12 = .ok (.aload_n 0, 1) := by decide +kernel
theorem dX13_isCity_13 : decode cX13_isCity 13 = .ok (.getfield 301, 3) := by decide +kernel
theorem dX13_isCity_16 : decode cX13_isCity 16 = .ok (.getfield 279, 3) := by decide +kernel
theorem dX13_isCity_19 : decode cX13_isCity 19 = .ok (.if_icmp .ge 7, 3) := by decide +kernel
theorem dX13_isCity_22 : decode cX13_isCity 22 = .ok (.iconst 1, 1) := by decide +kernel
theorem dX13_isCity_23 : decode cX13_isCity 23 = .ok (.goto 4, 3) := by decide +kernel
theorem dX13_isCity_26 : decode cX13_isCity 26 = .ok (.iconst 0, 1) := by decide +kernel
theorem dX13_isCity_27 : decode cX13_isCity 27 = .ok (.ireturn, 1) := by decide +kernel
theorem dX13_isDead_0 : decode cX13_isDead 0 = .ok (.aload_n 0, 1) := by decide +kernel
theorem dX13_isDead_1 : decode cX13_isDead 1 = .ok (.getfield 17, 3) := by decide +kernel
theorem dX13_isDead_4 : decode cX13_isDead 4 = .ok (.bipush 10, 2) := by decide +kernel
theorem dX13_isDead_6 : decode cX13_isDead 6 = .ok (.iaload, 1) := by decide +kernel
theorem dX13_isDead_7 : decode cX13_isDead 7 = .ok (.iload_n 1, 1) := by decide +kernel
theorem dX13_isDead_8 : decode cX13_isDead 8 = .ok (.invokestatic 229, 3) := by decide +kernel
theorem dX13_isDead_11 : decode cX13_isDead 11 = .ok (.ireturn, 1) := by decide +kernel
theorem dX13_forceOf_0 : decode cX13_forceOf 0 = .ok (.aload_n 0, 1) := by decide +kernel
theorem dX13_forceOf_1 : decode cX13_forceOf 1 = .ok (.iload_n 1, 1) := by decide +kernel
theorem dX13_forceOf_2 : decode cX13_forceOf 2 = .ok (.invokevirtual 310, 3) := by decide +kernel
theorem dX13_forceOf_5 : decode cX13_forceOf 5 = .ok (.ifCond .eq 5, 3) := by decide +kernel
theorem dX13_forceOf_8 : decode cX13_forceOf 8 = .ok (.iconst 0, 1) := by decide +kernel
theorem dX13_forceOf_9 : decode cX13_forceOf 9 = .ok (.ireturn, 1) := by decide +kernel
theorem dX13_forceOf_10 : decode cX13_forceOf 10 = .ok (.aload_n 0, 1) := by decide +kernel
theorem dX13_forceOf_11 : decode cX13_forceOf 11 = .ok (.getfield 301, 3) := by decide +kernel
theorem dX13_forceOf_14 : decode cX13_forceOf 14 = .ok (.getfield 270, 3) := by decide +kernel
theorem dX13_forceOf_17 : decode cX13_forceOf 17 = .ok (.iload_n 1, 1) := by decide +kernel
theorem dX13_forceOf_18 : decode cX13_forceOf 18 = .ok (.iaload, 1) := by decide +kernel
theorem dX13_forceOf_19 : decode cX13_forceOf 19 = .ok (.iconst 1, 1) := by decide +kernel
theorem dX13_forceOf_20 : decode cX13_forceOf 20 = .ok (.if_icmp .ne 7, 3) := by decide +kernel
theorem dX13_forceOf_23 : decode cX13_forceOf 23 = .ok (.iconst 5, 1) := by decide +kernel
theorem dX13_forceOf_24 : decode cX13_forceOf 24 = .ok (.goto 41, 3) := by decide +kernel
theorem dX13_forceOf_27 : decode cX13_forceOf 27 = .ok (.aload_n 0, 1) := by decide +kernel
theorem dX13_forceOf_28 : decode cX13_forceOf 28 = .ok (.getfield 301, 3) := by decide +kernel
theorem dX13_forceOf_31 : decode cX13_forceOf 31 = .ok (.getfield 270, 3) := by decide +kernel
theorem dX13_forceOf_34 : decode cX13_forceOf 34 = .ok (.iload_n 1, 1) := by decide +kernel
theorem dX13_forceOf_35 : decode cX13_forceOf 35 = .ok (.iaload, 1) := by decide +kernel
theorem dX13_forceOf_36 : decode cX13_forceOf 36 = .ok (.iconst 2, 1) := by decide +kernel
theorem dX13_forceOf_37 : decode cX13_forceOf 37 = .ok (.if_icmp .ne 8, 3) := by decide +kernel
theorem dX13_forceOf_40 : decode cX13_forceOf 40 = .ok (.bipush 30, 2) := by decide +kernel
theorem dX13_forceOf_42 : decode cX13_forceOf 42 = .ok (.goto 23, 3) := by decide +kernel
theorem dX13_forceOf_45 : decode cX13_forceOf 45 = .ok (.aload_n 0, 1) := by decide +kernel
theorem dX13_forceOf_46 : decode cX13_forceOf 46 = .ok (.getfield 301, 3) := by decide +kernel
theorem dX13_forceOf_49 : decode cX13_forceOf 49 = .ok (.getfield 270, 3) := by decide +kernel
theorem dX13_forceOf_52 : decode cX13_forceOf 52 = .ok (.iload_n 1, 1) := by decide +kernel
theorem dX13_forceOf_53 : decode cX13_forceOf 53 = .ok (.iaload, 1) := by decide +kernel
theorem dX13_forceOf_54 : decode cX13_forceOf 54 = .ok (.iconst 3, 1) := by decide +kernel
theorem dX13_forceOf_55 : decode cX13_forceOf 55 = .ok (.if_icmp .ne 8, 3) := by decide +kernel
theorem dX13_forceOf_58 : decode cX13_forceOf 58 = .ok (.bipush 25, 2) := by decide +kernel
theorem dX13_forceOf_60 : decode cX13_forceOf 60 = .ok (.goto 5, 3) := by decide +kernel
theorem dX13_forceOf_63 : decode cX13_forceOf 63 = .ok (.bipush 20, 2) := by decide +kernel
theorem dX13_forceOf_65 : decode cX13_forceOf 65 = .ok (.aload_n 0, 1) := by decide +kernel
theorem dX13_forceOf_66 : decode cX13_forceOf 66 = .ok (.getfield 17, 3) := by decide +kernel
theorem dX13_forceOf_69 : decode cX13_forceOf 69 = .ok (.iconst 5, 1) := by decide +kernel
theorem dX13_forceOf_70 : decode cX13_forceOf 70 = .ok (.iload_n 1, 1) := by decide +kernel
theorem dX13_forceOf_71 : decode cX13_forceOf 71 = .ok (.iadd, 1) := by decide +kernel
theorem dX13_forceOf_72 : decode cX13_forceOf 72 = .ok (.iaload, 1) := by decide +kernel
theorem dX13_forceOf_73 : decode cX13_forceOf 73 = .ok (.isub, 1) := by decide +kernel
theorem dX13_forceOf_74 : decode cX13_forceOf 74 = .ok (.istore_n 2, 1) := by decide +kernel
theorem dX13_forceOf_75 : decode cX13_forceOf 75 = .ok (.iload_n 2, 1) := by decide +kernel
theorem dX13_forceOf_76 : decode cX13_forceOf 76 = .ok (.ifCond .le 7, 3) := by decide +kernel
theorem dX13_forceOf_79 : decode cX13_forceOf 79 = .ok (.iload_n 2, 1) := by decide +kernel
theorem dX13_forceOf_80 : decode cX13_forceOf 80 = .ok (.goto 4, 3) := by decide +kernel
theorem dX13_forceOf_83 : decode cX13_forceOf 83 = .ok (.iconst 0, 1) := by decide +kernel
theorem dX13_forceOf_84 : decode cX13_forceOf 84 = .ok (.ireturn, 1) := by decide +kernel
theorem dX13_holdOf_0 : decode cX13_holdOf 0 = .ok (.aload_n 0, 1) := by decide +kernel
theorem dX13_holdOf_1 : decode cX13_holdOf 1 = .ok (.iload_n 1, 1) := by decide +kernel
theorem dX13_holdOf_2 : decode cX13_holdOf 2 = .ok (.aload_n 0, 1) := by decide +kernel
theorem dX13_holdOf_3 : decode cX13_holdOf 3 = .ok (.getfield 301, 3) := by decide +kernel
theorem dX13_holdOf_6 : decode cX13_holdOf 6 = .ok (.getfield 275, 3) := by decide +kernel
theorem dX13_holdOf_9 : decode cX13_holdOf 9 = .ok (.iload_n 1, 1) := by decide +kernel
theorem dX13_holdOf_10 : decode cX13_holdOf 10 = .ok (.iaload, 1) := by decide +kernel
theorem dX13_holdOf_11 : decode cX13_holdOf 11 = .ok (.aload_n 0, 1) := by decide +kernel
theorem dX13_holdOf_12 : decode cX13_holdOf 12 = .ok (.getfield 17, 3) := by decide +kernel
theorem dX13_holdOf_15 : decode cX13_holdOf 15 = .ok (.bipush 17, 2) := by decide +kernel
theorem dX13_holdOf_17 : decode cX13_holdOf 17 = .ok (.iaload, 1) := by decide +kernel
theorem dX13_holdOf_18 : decode cX13_holdOf 18 = .ok (.iconst 1, 1) := by decide +kernel
theorem dX13_holdOf_19 : decode cX13_holdOf 19 = .ok (.if_icmp .ne 7, 3) := by decide +kernel
theorem dX13_holdOf_22 : decode cX13_holdOf 22 = .ok (.iconst 1, 1) := by decide +kernel
theorem dX13_holdOf_23 : decode cX13_holdOf 23 = .ok (.goto 4, 3) := by decide +kernel
theorem dX13_holdOf_26 : decode cX13_holdOf 26 = .ok (.iconst 0, 1) := by decide +kernel
theorem dX13_holdOf_27 : decode cX13_holdOf 27 = .ok (.invokevirtual 313, 3) := by decide +kernel
theorem dX13_holdOf_30 : decode cX13_holdOf 30 = .ok (.ireturn, 1) := by decide +kernel
theorem dX13_holdBy_0 : decode cX13_holdBy 0 = .ok (.aload_n 0, 1) := by decide +kernel
theorem dX13_holdBy_1 : decode cX13_holdBy 1 = .ok (.getfield 301, 3) := by decide +kernel
theorem dX13_holdBy_4 : decode cX13_holdBy 4 = .ok (.getfield 270, 3) := by decide +kernel
theorem dX13_holdBy_7 : decode cX13_holdBy 7 = .ok (.iload_n 1, 1) := by decide +kernel
theorem dX13_holdBy_8 : decode cX13_holdBy 8 = .ok (.iaload, 1) := by decide +kernel
theorem dX13_holdBy_9 : decode cX13_holdBy 9 = .ok (.tableswitch 70 1 3 #[27, 42, 58], 27) := by decide +kernel
theorem dX13_holdBy_36 : decode cX13_holdBy 36 = .ok (.iload_n 2, 1) := by decide +kernel
theorem dX13_holdBy_37 : decode cX13_holdBy 37 = .ok (.bipush 20, 2) := by decide +kernel
theorem dX13_holdBy_39 : decode cX13_holdBy 39 = .ok (.if_icmp .le 10, 3) := by decide +kernel
theorem dX13_holdBy_42 : decode cX13_holdBy 42 = .ok (.iload_n 2, 1) := by decide +kernel
theorem dX13_holdBy_43 : decode cX13_holdBy 43 = .ok (.bipush 20, 2) := by decide +kernel
theorem dX13_holdBy_45 : decode cX13_holdBy 45 = .ok (.isub, 1) := by decide +kernel
theorem dX13_holdBy_46 : decode cX13_holdBy 46 = .ok (.goto 4, 3) := by decide +kernel
theorem dX13_holdBy_49 : decode cX13_holdBy 49 = .ok (.iconst 0, 1) := by decide +kernel
theorem dX13_holdBy_50 : decode cX13_holdBy 50 = .ok (.ireturn, 1) := by decide +kernel
theorem dX13_holdBy_51 : decode cX13_holdBy 51 = .ok (.iload_n 2, 1) := by decide +kernel
theorem dX13_holdBy_52 : decode cX13_holdBy 52 = .ok (.bipush 80, 2) := by decide +kernel
theorem dX13_holdBy_54 : decode cX13_holdBy 54 = .ok (.if_icmp .ge 10, 3) := by decide +kernel
theorem dX13_holdBy_57 : decode cX13_holdBy 57 = .ok (.iload_n 2, 1) := by decide +kernel
theorem dX13_holdBy_58 : decode cX13_holdBy 58 = .ok (.bipush 20, 2) := by decide +kernel
theorem dX13_holdBy_60 : decode cX13_holdBy 60 = .ok (.iadd, 1) := by decide +kernel
theorem dX13_holdBy_61 : decode cX13_holdBy 61 = .ok (.goto 5, 3) := by decide +kernel
theorem dX13_holdBy_64 : decode cX13_holdBy 64 = .ok (.bipush 100, 2) := by decide +kernel
theorem dX13_holdBy_66 : decode cX13_holdBy 66 = .ok (.ireturn, 1) := by decide +kernel
theorem dX13_holdBy_67 : decode cX13_holdBy 67 = .ok (.iload_n 3, 1) := by decide +kernel
theorem dX13_holdBy_68 : decode cX13_holdBy 68 = .ok (.ifCond .eq 9, 3) := by decide +kernel
theorem dX13_holdBy_71 : decode cX13_holdBy 71 = .ok (.iload_n 2, 1) := by decide +kernel
theorem dX13_holdBy_72 : decode cX13_holdBy 72 = .ok (.iconst 2, 1) := by decide +kernel
theorem dX13_holdBy_73 : decode cX13_holdBy 73 = .ok (.idiv, 1) := by decide +kernel
theorem dX13_holdBy_74 : decode cX13_holdBy 74 = .ok (.goto 4, 3) := by decide +kernel
theorem dX13_holdBy_77 : decode cX13_holdBy 77 = .ok (.iload_n 2, 1) := by decide +kernel
theorem dX13_holdBy_78 : decode cX13_holdBy 78 = .ok (.ireturn, 1) := by decide +kernel
theorem dX13_holdBy_79 : decode cX13_holdBy 79 = .ok (.iload_n 2, 1) := by decide +kernel
theorem dX13_holdBy_80 : decode cX13_holdBy 80 = .ok (.ireturn, 1) := by decide +kernel
theorem dX13_harmBy_0 : decode cX13_harmBy 0 = .ok (.aload_n 0, 1) := by decide +kernel
theorem dX13_harmBy_1 : decode cX13_harmBy 1 = .ok (.iload_n 1, 1) := by decide +kernel
theorem dX13_harmBy_2 : decode cX13_harmBy 2 = .ok (.invokevirtual 317, 3) := by decide +kernel
theorem dX13_harmBy_5 : decode cX13_harmBy 5 = .ok (.istore 5, 2) := by decide +kernel
theorem dX13_harmBy_7 : decode cX13_harmBy 7 = .ok (.aload_n 0, 1) := by decide +kernel
theorem dX13_harmBy_8 : decode cX13_harmBy 8 = .ok (.iload_n 1, 1) := by decide +kernel
theorem dX13_harmBy_9 : decode cX13_harmBy 9 = .ok (.invokevirtual 310, 3) := by decide +kernel
theorem dX13_harmBy_12 : decode cX13_harmBy 12 = .ok (.ifCond .eq 5, 3) := by decide +kernel
theorem dX13_harmBy_15 : decode cX13_harmBy 15 = .ok (.iconst 0, 1) := by decide +kernel
theorem dX13_harmBy_16 : decode cX13_harmBy 16 = .ok (.ireturn, 1) := by decide +kernel
theorem dX13_harmBy_17 : decode cX13_harmBy 17 = .ok (.iload_n 2, 1) := by decide +kernel
theorem dX13_harmBy_18 : decode cX13_harmBy 18 = .ok (.tableswitch 128 1 3 #[26, 63, 95], 26) := by decide +kernel
theorem dX13_harmBy_44 : decode cX13_harmBy 44 = .ok (.aload_n 0, 1) := by decide +kernel
theorem dX13_harmBy_45 : decode cX13_harmBy 45 = .ok (.getfield 301, 3) := by decide +kernel
theorem dX13_harmBy_48 : decode cX13_harmBy 48 = .ok (.getfield 270, 3) := by decide +kernel
theorem dX13_harmBy_51 : decode cX13_harmBy 51 = .ok (.iload_n 1, 1) := by decide +kernel
theorem dX13_harmBy_52 : decode cX13_harmBy 52 = .ok (.iaload, 1) := by decide +kernel
theorem dX13_harmBy_53 : decode cX13_harmBy 53 = .ok (.iconst 2, 1) := by decide +kernel
theorem dX13_harmBy_54 : decode cX13_harmBy 54 = .ok (.if_icmp .ne 15, 3) := by decide +kernel
theorem dX13_harmBy_57 : decode cX13_harmBy 57 = .ok (.iload 4, 2) := by decide +kernel
theorem dX13_harmBy_59 : decode cX13_harmBy 59 = .ok (.ifCond .eq 7, 3) := by decide +kernel
theorem dX13_harmBy_62 : decode cX13_harmBy 62 = .ok (.iconst 0, 1) := by decide +kernel
theorem dX13_harmBy_63 : decode cX13_harmBy 63 = .ok (.goto 5, 3) := by decide +kernel
theorem dX13_harmBy_66 : decode cX13_harmBy 66 = .ok (.bipush 10, 2) := by decide +kernel
theorem dX13_harmBy_68 : decode cX13_harmBy 68 = .ok (.ireturn, 1) := by decide +kernel
theorem dX13_harmBy_69 : decode cX13_harmBy 69 = .ok (.iload 4, 2) := by decide +kernel
theorem dX13_harmBy_71 : decode cX13_harmBy 71 = .ok (.ifCond .eq 8, 3) := by decide +kernel
theorem dX13_harmBy_74 : decode cX13_harmBy 74 = .ok (.iload 5, 2) := by decide +kernel
theorem dX13_harmBy_76 : decode cX13_harmBy 76 = .ok (.goto 4, 3) := by decide +kernel
theorem dX13_harmBy_79 : decode cX13_harmBy 79 = .ok (.iconst 0, 1) := by decide +kernel
theorem dX13_harmBy_80 : decode cX13_harmBy 80 = .ok (.ireturn, 1) := by decide +kernel
theorem dX13_harmBy_81 : decode cX13_harmBy 81 = .ok (.iload 5, 2) := by decide +kernel
theorem dX13_harmBy_83 : decode cX13_harmBy 83 = .ok (.iload_n 3, 1) := by decide +kernel
theorem dX13_harmBy_84 : decode cX13_harmBy 84 = .ok (.if_icmp .le 14, 3) := by decide +kernel
theorem dX13_harmBy_87 : decode cX13_harmBy 87 = .ok (.iload 4, 2) := by decide +kernel
theorem dX13_harmBy_89 : decode cX13_harmBy 89 = .ok (.ifCond .eq 7, 3) := by decide +kernel
theorem dX13_harmBy_92 : decode cX13_harmBy 92 = .ok (.iconst 0, 1) := by decide +kernel
theorem dX13_harmBy_93 : decode cX13_harmBy 93 = .ok (.goto 4, 3) := by decide +kernel
theorem dX13_harmBy_96 : decode cX13_harmBy 96 = .ok (.iload_n 3, 1) := by decide +kernel
theorem dX13_harmBy_97 : decode cX13_harmBy 97 = .ok (.ireturn, 1) := by decide +kernel
theorem dX13_harmBy_98 : decode cX13_harmBy 98 = .ok (.iload 4, 2) := by decide +kernel
theorem dX13_harmBy_100 : decode cX13_harmBy 100 = .ok (.ifCond .eq 8, 3) := by decide +kernel
theorem dX13_harmBy_103 : decode cX13_harmBy 103 = .ok (.iload 5, 2) := by decide +kernel
theorem dX13_harmBy_105 : decode cX13_harmBy 105 = .ok (.goto 7, 3) := by decide +kernel
theorem dX13_harmBy_108 : decode cX13_harmBy 108 = .ok (.iload 5, 2) := by decide +kernel
theorem dX13_harmBy_110 : decode cX13_harmBy 110 = .ok (.iconst 2, 1) := by decide +kernel
theorem dX13_harmBy_111 : decode cX13_harmBy 111 = .ok (.idiv, 1) := by decide +kernel
theorem dX13_harmBy_112 : decode cX13_harmBy 112 = .ok (.ireturn, 1) := by decide +kernel
theorem dX13_harmBy_113 : decode cX13_harmBy 113 = .ok (.iload 4, 2) := by decide +kernel
theorem dX13_harmBy_115 : decode cX13_harmBy 115 = .ok (.ifCond .eq 5, 3) := by decide +kernel
theorem dX13_harmBy_118 : decode cX13_harmBy 118 = .ok (.iconst 0, 1) := by decide +kernel
theorem dX13_harmBy_119 : decode cX13_harmBy 119 = .ok (.ireturn, 1) := by decide +kernel
theorem dX13_harmBy_120 : decode cX13_harmBy 120 = .ok (.iload_n 3, 1) := by decide +kernel
theorem dX13_harmBy_121 : decode cX13_harmBy 121 = .ok (.bipush 8, 2) := by decide +kernel
theorem dX13_harmBy_123 : decode cX13_harmBy 123 = .ok (.if_icmp .ge 8, 3) := by decide +kernel
theorem dX13_harmBy_126 : decode cX13_harmBy 126 = .ok (.bipush 15, 2) := by decide +kernel
theorem dX13_harmBy_128 : decode cX13_harmBy 128 = .ok (.goto 17, 3) := by decide +kernel
theorem dX13_harmBy_131 : decode cX13_harmBy 131 = .ok (.iload 5, 2) := by decide +kernel
theorem dX13_harmBy_133 : decode cX13_harmBy 133 = .ok (.iload_n 3, 1) := by decide +kernel
theorem dX13_harmBy_134 : decode cX13_harmBy 134 = .ok (.if_icmp .le 10, 3) := by decide +kernel
theorem dX13_harmBy_137 : decode cX13_harmBy 137 = .ok (.iload 5, 2) := by decide +kernel
theorem dX13_harmBy_139 : decode cX13_harmBy 139 = .ok (.iload_n 3, 1) := by decide +kernel
theorem dX13_harmBy_140 : decode cX13_harmBy 140 = .ok (.isub, 1) := by decide +kernel
theorem dX13_harmBy_141 : decode cX13_harmBy 141 = .ok (.goto 4, 3) := by decide +kernel
theorem dX13_harmBy_144 : decode cX13_harmBy 144 = .ok (.iconst 0, 1) := by decide +kernel
theorem dX13_harmBy_145 : decode cX13_harmBy 145 = .ok (.ireturn, 1) := by decide +kernel
theorem dX13_harmBy_146 : decode cX13_harmBy 146 = .ok (.iconst 0, 1) := by decide +kernel
theorem dX13_harmBy_147 : decode cX13_harmBy 147 = .ok (.ireturn, 1) := by decide +kernel
theorem dX13_meetsIn_0 : decode cX13_meetsIn 0 = .ok (.aload_n 0, 1) := by decide +kernel
theorem dX13_meetsIn_1 : decode cX13_meetsIn 1 = .ok (.iload_n 1, 1) := by decide +kernel
theorem dX13_meetsIn_2 : decode cX13_meetsIn 2 = .ok (.aload_n 0, 1) := by decide +kernel
theorem dX13_meetsIn_3 : decode cX13_meetsIn 3 = .ok (.getfield 301, 3) := by decide +kernel
theorem dX13_meetsIn_6 : decode cX13_meetsIn 6 = .ok (.getfield 241, 3) := by decide +kernel
theorem dX13_meetsIn_9 : decode cX13_meetsIn 9 = .ok (.iload_n 2, 1) := by decide +kernel
theorem dX13_meetsIn_10 : decode cX13_meetsIn 10 = .ok (.iaload, 1) := by decide +kernel
theorem dX13_meetsIn_11 : decode cX13_meetsIn 11 = .ok (.aload_n 0, 1) := by decide +kernel
theorem dX13_meetsIn_12 : decode cX13_meetsIn 12 = .ok (.getfield 17, 3) := by decide +kernel
theorem dX13_meetsIn_15 : decode cX13_meetsIn 15 = .ok (.bipush 11, 2) := by decide +kernel
theorem dX13_meetsIn_17 : decode cX13_meetsIn 17 = .ok (.iload_n 2, 1) := by decide +kernel
theorem dX13_meetsIn_18 : decode cX13_meetsIn 18 = .ok (.iadd, 1) := by decide +kernel
theorem dX13_meetsIn_19 : decode cX13_meetsIn 19 = .ok (.iaload, 1) := by decide +kernel
theorem dX13_meetsIn_20 : decode cX13_meetsIn 20 = .ok (.iload_n 3, 1) := by decide +kernel
theorem dX13_meetsIn_21 : decode cX13_meetsIn 21 = .ok (.invokevirtual 320, 3) := by decide +kernel
theorem dX13_meetsIn_24 : decode cX13_meetsIn 24 = .ok (.ireturn, 1) := by decide +kernel
theorem dX13_whole_0 : decode cX13_whole 0 = .ok (.ldc2_w 324, 3) := by decide +kernel
theorem dX13_whole_3 : decode cX13_whole 3 = .ok (.aload_n 0, 1) := by decide +kernel
theorem dX13_whole_4 : decode cX13_whole 4 = .ok (.getfield 301, 3) := by decide +kernel
theorem dX13_whole_7 : decode cX13_whole 7 = .ok (.getfield 223, 3) := by decide +kernel
theorem dX13_whole_10 : decode cX13_whole 10 = .ok (.invokestatic 326, 3) := by decide +kernel
theorem dX13_whole_13 : decode cX13_whole 13 = .ok (.lreturn, 1) := by decide +kernel
theorem dX13_holds_0 : decode cX13_holds 0 = .ok (.aload_n 0, 1) := by decide +kernel
theorem dX13_holds_1 : decode cX13_holds 1 = .ok (.iload_n 1, 1) := by decide +kernel
theorem dX13_holds_2 : decode cX13_holds 2 = .ok (.invokevirtual 310, 3) := by decide +kernel
theorem dX13_holds_5 : decode cX13_holds 5 = .ok (.ifCond .eq 7, 3) := by decide +kernel
theorem dX13_holds_8 : decode cX13_holds 8 = .ok (.lconst 0, 1) := by decide +kernel
theorem dX13_holds_9 : decode cX13_holds 9 = .ok (.goto 19, 3) := by decide +kernel
theorem dX13_holds_12 : decode cX13_holds 12 = .ok (.aload_n 0, 1) := by decide +kernel
theorem dX13_holds_13 : decode cX13_holds 13 = .ok (.iload_n 1, 1) := by decide +kernel
theorem dX13_holds_14 : decode cX13_holds 14 = .ok (.invokevirtual 330, 3) := by decide +kernel
theorem dX13_holds_17 : decode cX13_holds 17 = .ok (.i2l, 1) := by decide +kernel
theorem dX13_holds_18 : decode cX13_holds 18 = .ok (.aload_n 0, 1) := by decide +kernel
theorem dX13_holds_19 : decode cX13_holds 19 = .ok (.getfield 301, 3) := by decide +kernel
theorem dX13_holds_22 : decode cX13_holds 22 = .ok (.getfield 223, 3) := by decide +kernel
theorem dX13_holds_25 : decode cX13_holds 25 = .ok (.invokestatic 326, 3) := by decide +kernel
theorem dX13_holds_28 : decode cX13_holds 28 = .ok (.lreturn, 1) := by decide +kernel
theorem dX13_meanBy_0 : decode cX13_meanBy 0 = .ok (.aload_n 0, 1) := by decide +kernel
theorem dX13_meanBy_1 : decode cX13_meanBy 1 = .ok (.iload_n 1, 1) := by decide +kernel
theorem dX13_meanBy_2 : decode cX13_meanBy 2 = .ok (.invokevirtual 333, 3) := by decide +kernel
theorem dX13_meanBy_5 : decode cX13_meanBy 5 = .ok (.iload_n 2, 1) := by decide +kernel
theorem dX13_meanBy_6 : decode cX13_meanBy 6 = .ok (.i2l, 1) := by decide +kernel
theorem dX13_meanBy_7 : decode cX13_meanBy 7 = .ok (.lmul, 1) := by decide +kernel
theorem dX13_meanBy_8 : decode cX13_meanBy 8 = .ok (.iload_n 3, 1) := by decide +kernel
theorem dX13_meanBy_9 : decode cX13_meanBy 9 = .ok (.ifCond .eq 25, 3) := by decide +kernel
theorem dX13_meanBy_12 : decode cX13_meanBy 12 = .ok (.aload_n 0, 1) := by decide +kernel
theorem dX13_meanBy_13 : decode cX13_meanBy 13 = .ok (.invokevirtual 337, 3) := by decide +kernel
theorem dX13_meanBy_16 : decode cX13_meanBy 16 = .ok (.aload_n 0, 1) := by decide +kernel
theorem dX13_meanBy_17 : decode cX13_meanBy 17 = .ok (.iload_n 1, 1) := by decide +kernel
theorem dX13_meanBy_18 : decode cX13_meanBy 18 = .ok (.invokevirtual 333, 3) := by decide +kernel
theorem dX13_meanBy_21 : decode cX13_meanBy 21 = .ok (.lsub, 1) := by decide +kernel
theorem dX13_meanBy_22 : decode cX13_meanBy 22 = .ok (.aload_n 0, 1) := by decide +kernel
theorem dX13_meanBy_23 : decode cX13_meanBy 23 = .ok (.iload_n 1, 1) := by decide +kernel
theorem dX13_meanBy_24 : decode cX13_meanBy 24 = .ok (.invokevirtual 317, 3) := by decide +kernel
theorem dX13_meanBy_27 : decode cX13_meanBy 27 = .ok (.iconst 2, 1) := by decide +kernel
theorem dX13_meanBy_28 : decode cX13_meanBy 28 = .ok (.idiv, 1) := by decide +kernel
theorem dX13_meanBy_29 : decode cX13_meanBy 29 = .ok (.i2l, 1) := by decide +kernel
theorem dX13_meanBy_30 : decode cX13_meanBy 30 = .ok (.lmul, 1) := by decide +kernel
theorem dX13_meanBy_31 : decode cX13_meanBy 31 = .ok (.goto 4, 3) := by decide +kernel
theorem dX13_meanBy_34 : decode cX13_meanBy 34 = .ok (.lconst 0, 1) := by decide +kernel
theorem dX13_meanBy_35 : decode cX13_meanBy 35 = .ok (.ladd, 1) := by decide +kernel
theorem dX13_meanBy_36 : decode cX13_meanBy 36 = .ok (.lreturn, 1) := by decide +kernel
theorem dX13_worthBy_0 : decode cX13_worthBy 0 = .ok (.aload_n 0, 1) := by decide +kernel
theorem dX13_worthBy_1 : decode cX13_worthBy 1 = .ok (.iload_n 1, 1) := by decide +kernel
theorem dX13_worthBy_2 : decode cX13_worthBy 2 = .ok (.aload_n 0, 1) := by decide +kernel
theorem dX13_worthBy_3 : decode cX13_worthBy 3 = .ok (.iload_n 1, 1) := by decide +kernel
theorem dX13_worthBy_4 : decode cX13_worthBy 4 = .ok (.iload_n 2, 1) := by decide +kernel
theorem dX13_worthBy_5 : decode cX13_worthBy 5 = .ok (.iload_n 3, 1) := by decide +kernel
theorem dX13_worthBy_6 : decode cX13_worthBy 6 = .ok (.iconst 0, 1) := by decide +kernel
theorem dX13_worthBy_7 : decode cX13_worthBy 7 = .ok (.invokevirtual 320, 3) := by decide +kernel
theorem dX13_worthBy_10 : decode cX13_worthBy 10 = .ok (.iconst 0, 1) := by decide +kernel
theorem dX13_worthBy_11 : decode cX13_worthBy 11 = .ok (.invokevirtual 340, 3) := by decide +kernel
theorem dX13_worthBy_14 : decode cX13_worthBy 14 = .ok (.aload_n 0, 1) := by decide +kernel
theorem dX13_worthBy_15 : decode cX13_worthBy 15 = .ok (.iload_n 1, 1) := by decide +kernel
theorem dX13_worthBy_16 : decode cX13_worthBy 16 = .ok (.aload_n 0, 1) := by decide +kernel
theorem dX13_worthBy_17 : decode cX13_worthBy 17 = .ok (.iload_n 1, 1) := by decide +kernel
theorem dX13_worthBy_18 : decode cX13_worthBy 18 = .ok (.iload_n 2, 1) := by decide +kernel
theorem dX13_worthBy_19 : decode cX13_worthBy 19 = .ok (.iload_n 3, 1) := by decide +kernel
theorem dX13_worthBy_20 : decode cX13_worthBy 20 = .ok (.iconst 1, 1) := by decide +kernel
theorem dX13_worthBy_21 : decode cX13_worthBy 21 = .ok (.invokevirtual 320, 3) := by decide +kernel
theorem dX13_worthBy_24 : decode cX13_worthBy 24 = .ok (.iconst 1, 1) := by decide +kernel
theorem dX13_worthBy_25 : decode cX13_worthBy 25 = .ok (.invokevirtual 340, 3) := by decide +kernel
theorem dX13_worthBy_28 : decode cX13_worthBy 28 = .ok (.lsub, 1) := by decide +kernel
theorem dX13_worthBy_29 : decode cX13_worthBy 29 = .ok (.lreturn, 1) := by decide +kernel
theorem dX13_worthIn_0 : decode cX13_worthIn 0 = .ok (.aload_n 0, 1) := by decide +kernel
theorem dX13_worthIn_1 : decode cX13_worthIn 1 = .ok (.iload_n 1, 1) := by decide +kernel
theorem dX13_worthIn_2 : decode cX13_worthIn 2 = .ok (.aload_n 0, 1) := by decide +kernel
theorem dX13_worthIn_3 : decode cX13_worthIn 3 = .ok (.getfield 301, 3) := by decide +kernel
theorem dX13_worthIn_6 : decode cX13_worthIn 6 = .ok (.getfield 241, 3) := by decide +kernel
theorem dX13_worthIn_9 : decode cX13_worthIn 9 = .ok (.iload_n 2, 1) := by decide +kernel
theorem dX13_worthIn_10 : decode cX13_worthIn 10 = .ok (.iaload, 1) := by decide +kernel
theorem dX13_worthIn_11 : decode cX13_worthIn 11 = .ok (.aload_n 0, 1) := by decide +kernel
theorem dX13_worthIn_12 : decode cX13_worthIn 12 = .ok (.getfield 17, 3) := by decide +kernel
theorem dX13_worthIn_15 : decode cX13_worthIn 15 = .ok (.bipush 11, 2) := by decide +kernel
theorem dX13_worthIn_17 : decode cX13_worthIn 17 = .ok (.iload_n 2, 1) := by decide +kernel
theorem dX13_worthIn_18 : decode cX13_worthIn 18 = .ok (.iadd, 1) := by decide +kernel
theorem dX13_worthIn_19 : decode cX13_worthIn 19 = .ok (.iaload, 1) := by decide +kernel
theorem dX13_worthIn_20 : decode cX13_worthIn 20 = .ok (.invokevirtual 344, 3) := by decide +kernel
theorem dX13_worthIn_23 : decode cX13_worthIn 23 = .ok (.lreturn, 1) := by decide +kernel
theorem dX13_lane_0 : decode cX13_lane 0 = .ok (.aload_n 0, 1) := by decide +kernel
theorem dX13_lane_1 : decode cX13_lane 1 = .ok (.iconst 0, 1) := by decide +kernel
theorem dX13_lane_2 : decode cX13_lane 2 = .ok (.putfield 48, 3) := by decide +kernel
theorem dX13_lane_5 : decode cX13_lane 5 = .ok (.aload_n 0, 1) := by decide +kernel
theorem dX13_lane_6 : decode cX13_lane 6 = .ok (.iload_n 1, 1) := by decide +kernel
theorem dX13_lane_7 : decode cX13_lane 7 = .ok (.invokevirtual 348, 3) := by decide +kernel
theorem dX13_lane_10 : decode cX13_lane 10 = .ok (.ifCond .eq 12, 3) := by decide +kernel
theorem dX13_lane_13 : decode cX13_lane 13 = .ok (.iload_n 2, 1) := by decide +kernel
theorem dX13_lane_14 : decode cX13_lane 14 = .ok (.iconst 0, 1) := by decide +kernel
theorem dX13_lane_15 : decode cX13_lane 15 = .ok (.iconst 2, 1) := by decide +kernel
theorem dX13_lane_16 : decode cX13_lane 16 = .ok (.invokestatic 129, 3) := by decide +kernel
theorem dX13_lane_19 : decode cX13_lane 19 = .ok (.ifCond .ne 9, 3) := by decide +kernel
theorem dX13_lane_22 : decode cX13_lane 22 = .ok (.aload_n 0, 1) := by decide +kernel
theorem dX13_lane_23 : decode cX13_lane 23 = .ok (.iconst 1, 1) := by decide +kernel
theorem dX13_lane_24 : decode cX13_lane 24 = .ok (.invokevirtual 54, 3) := by decide +kernel
theorem dX13_lane_27 : decode cX13_lane 27 = .ok (.ireturn, 1) := by decide +kernel
theorem dX13_lane_28 : decode cX13_lane 28 = .ok (.iload_n 2, 1) := by decide +kernel
theorem dX13_lane_29 : decode cX13_lane 29 = .ok (.iconst 2, 1) := by decide +kernel
theorem dX13_lane_30 : decode cX13_lane 30 = .ok (.if_icmp .ge 33, 3) := by decide +kernel
theorem dX13_lane_33 : decode cX13_lane 33 = .ok (.aload_n 0, 1) := by decide +kernel
theorem dX13_lane_34 : decode cX13_lane 34 = .ok (.iload_n 2, 1) := by decide +kernel
theorem dX13_lane_35 : decode cX13_lane 35 = .ok (.ifCond .ne 15, 3) := by decide +kernel
theorem dX13_lane_38 : decode cX13_lane 38 = .ok (.aload_n 0, 1) := by decide +kernel
theorem dX13_lane_39 : decode cX13_lane 39 = .ok (.getfield 301, 3) := by decide +kernel
theorem dX13_lane_42 : decode cX13_lane 42 = .ok (.getfield 241, 3) := by decide +kernel
theorem dX13_lane_45 : decode cX13_lane 45 = .ok (.iload_n 1, 1) := by decide +kernel
theorem dX13_lane_46 : decode cX13_lane 46 = .ok (.iaload, 1) := by decide +kernel
theorem dX13_lane_47 : decode cX13_lane 47 = .ok (.goto 12, 3) := by decide +kernel
theorem dX13_lane_50 : decode cX13_lane 50 = .ok (.aload_n 0, 1) := by decide +kernel
theorem dX13_lane_51 : decode cX13_lane 51 = .ok (.getfield 17, 3) := by decide +kernel
theorem dX13_lane_54 : decode cX13_lane 54 = .ok (.bipush 11, 2) := by decide +kernel
theorem dX13_lane_56 : decode cX13_lane 56 = .ok (.iload_n 1, 1) := by decide +kernel
theorem dX13_lane_57 : decode cX13_lane 57 = .ok (.iadd, 1) := by decide +kernel
theorem dX13_lane_58 : decode cX13_lane 58 = .ok (.iaload, 1) := by decide +kernel
theorem dX13_lane_59 : decode cX13_lane 59 = .ok (.invokevirtual 60, 3) := by decide +kernel
theorem dX13_lane_62 : decode cX13_lane 62 = .ok (.ireturn, 1) := by decide +kernel
theorem dX13_lane_63 : decode cX13_lane 63 = .ok (.iconst 0, 1) := by decide +kernel
theorem dX13_lane_64 : decode cX13_lane 64 = .ok (.istore_n 3, 1) := by decide +kernel
theorem dX13_lane_65 : decode cX13_lane 65 = .ok (.iconst 0, 1) := by decide +kernel
theorem dX13_lane_66 : decode cX13_lane 66 = .ok (.istore 4, 2) := by decide +kernel
theorem dX13_lane_68 : decode cX13_lane 68 = .ok (.iload 4, 2) := by decide +kernel
theorem dX13_lane_70 : decode cX13_lane 70 = .ok (.aload_n 0, 1) := by decide +kernel
theorem dX13_lane_71 : decode cX13_lane 71 = .ok (.getfield 301, 3) := by decide +kernel
theorem dX13_lane_74 : decode cX13_lane 74 = .ok (.getfield 195, 3) := by decide +kernel
theorem dX13_lane_77 : decode cX13_lane 77 = .ok (.if_icmp .ge 42, 3) := by decide +kernel
theorem dX13_lane_80 : decode cX13_lane 80 = .ok (.iload_n 3, 1) := by decide +kernel
theorem dX13_lane_81 : decode cX13_lane 81 = .ok (.aload_n 0, 1) := by decide +kernel
theorem dX13_lane_82 : decode cX13_lane 82 = .ok (.getfield 17, 3) := by decide +kernel
theorem dX13_lane_85 : decode cX13_lane 85 = .ok (.iconst 0, 1) := by decide +kernel
theorem dX13_lane_86 : decode cX13_lane 86 = .ok (.iload 4, 2) := by decide +kernel
theorem dX13_lane_88 : decode cX13_lane 88 = .ok (.iadd, 1) := by decide +kernel
theorem dX13_lane_89 : decode cX13_lane 89 = .ok (.iaload, 1) := by decide +kernel
theorem dX13_lane_90 : decode cX13_lane 90 = .ok (.iload_n 1, 1) := by decide +kernel
theorem dX13_lane_91 : decode cX13_lane 91 = .ok (.if_icmp .ne 19, 3) := by decide +kernel
theorem dX13_lane_94 : decode cX13_lane 94 = .ok (.aload_n 0, 1) := by decide +kernel
theorem dX13_lane_95 : decode cX13_lane 95 = .ok (.iload 4, 2) := by decide +kernel
theorem dX13_lane_97 : decode cX13_lane 97 = .ok (.invokevirtual 310, 3) := by decide +kernel
theorem dX13_lane_100 : decode cX13_lane 100 = .ok (.ifCond .ne 10, 3) := by decide +kernel
theorem dX13_lane_103 : decode cX13_lane 103 = .ok (.iconst 1, 1) := by decide +kernel
theorem dX13_lane_104 : decode cX13_lane 104 = .ok (.iload 4, 2) := by decide +kernel
theorem dX13_lane_106 : decode cX13_lane 106 = .ok (.ishl, 1) := by decide +kernel
theorem dX13_lane_107 : decode cX13_lane 107 = .ok (.goto 4, 3) := by decide +kernel
theorem dX13_lane_110 : decode cX13_lane 110 = .ok (.iconst 0, 1) := by decide +kernel
theorem dX13_lane_111 : decode cX13_lane 111 = .ok (.ior, 1) := by decide +kernel
theorem dX13_lane_112 : decode cX13_lane 112 = .ok (.istore_n 3, 1) := by decide +kernel
theorem dX13_lane_113 : decode cX13_lane 113 = .ok (.iinc 4 1, 3) := by decide +kernel
theorem dX13_lane_116 : decode cX13_lane 116 = .ok (.goto (-48), 3) := by decide +kernel
theorem dX13_lane_119 : decode cX13_lane 119 = .ok (.aload_n 0, 1) := by decide +kernel
theorem dX13_lane_120 : decode cX13_lane 120 = .ok (.iload_n 3, 1) := by decide +kernel
theorem dX13_lane_121 : decode cX13_lane 121 = .ok (.invokevirtual 60, 3) := by decide +kernel
theorem dX13_lane_124 : decode cX13_lane 124 = .ok (.ireturn, 1) := by decide +kernel
theorem dX13_beast_0 : decode cX13_beast 0 = .ok (.aload_n 0, 1) := by decide +kernel
theorem dX13_beast_1 : decode cX13_beast 1 = .ok (.iconst 0, 1) := by decide +kernel
theorem dX13_beast_2 : decode cX13_beast 2 = .ok (.putfield 48, 3) := by decide +kernel
theorem dX13_beast_5 : decode cX13_beast 5 = .ok (.aload_n 0, 1) := by decide +kernel
theorem dX13_beast_6 : decode cX13_beast 6 = .ok (.iload_n 1, 1) := by decide +kernel
theorem dX13_beast_7 : decode cX13_beast 7 = .ok (.invokevirtual 351, 3) := by decide +kernel
theorem dX13_beast_10 : decode cX13_beast 10 = .ok (.ifCond .eq 13, 3) := by decide +kernel
theorem dX13_beast_13 : decode cX13_beast 13 = .ok (.iload_n 2, 1) := by decide +kernel
theorem dX13_beast_14 : decode cX13_beast 14 = .ok (.iconst 0, 1) := by decide +kernel
theorem dX13_beast_15 : decode cX13_beast 15 = .ok (.bipush 7, 2) := by decide +kernel
theorem dX13_beast_17 : decode cX13_beast 17 = .ok (.invokestatic 129, 3) := by decide +kernel
theorem dX13_beast_20 : decode cX13_beast 20 = .ok (.ifCond .ne 9, 3) := by decide +kernel
theorem dX13_beast_23 : decode cX13_beast 23 = .ok (.aload_n 0, 1) := by decide +kernel
theorem dX13_beast_24 : decode cX13_beast 24 = .ok (.iconst 1, 1) := by decide +kernel
theorem dX13_beast_25 : decode cX13_beast 25 = .ok (.invokevirtual 54, 3) := by decide +kernel
theorem dX13_beast_28 : decode cX13_beast 28 = .ok (.ireturn, 1) := by decide +kernel
theorem dX13_beast_29 : decode cX13_beast 29 = .ok (.iload_n 2, 1) := by decide +kernel
theorem dX13_beast_30 : decode cX13_beast 30 = .ok (.tableswitch 130 0 6 #[42, 56, 69, 83, 97, 107, 117], 42) := by decide +kernel
theorem dX13_beast_72 : decode cX13_beast 72 = .ok (.aload_n 0, 1) := by decide +kernel
theorem dX13_beast_73 : decode cX13_beast 73 = .ok (.aload_n 0, 1) := by decide +kernel
theorem dX13_beast_74 : decode cX13_beast 74 = .ok (.getfield 301, 3) := by decide +kernel
theorem dX13_beast_77 : decode cX13_beast 77 = .ok (.getfield 270, 3) := by decide +kernel
theorem dX13_beast_80 : decode cX13_beast 80 = .ok (.iload_n 1, 1) := by decide +kernel
theorem dX13_beast_81 : decode cX13_beast 81 = .ok (.iaload, 1) := by decide +kernel
theorem dX13_beast_82 : decode cX13_beast 82 = .ok (.invokevirtual 60, 3) := by decide +kernel
theorem dX13_beast_85 : decode cX13_beast 85 = .ok (.ireturn, 1) := by decide +kernel
theorem dX13_beast_86 : decode cX13_beast 86 = .ok (.aload_n 0, 1) := by decide +kernel
theorem dX13_beast_87 : decode cX13_beast 87 = .ok (.aload_n 0, 1) := by decide +kernel
theorem dX13_beast_88 : decode cX13_beast 88 = .ok (.getfield 17, 3) := by decide +kernel
theorem dX13_beast_91 : decode cX13_beast 91 = .ok (.iconst 0, 1) := by decide +kernel
theorem dX13_beast_92 : decode cX13_beast 92 = .ok (.iload_n 1, 1) := by decide +kernel
theorem dX13_beast_93 : decode cX13_beast 93 = .ok (.iadd, 1) := by decide +kernel
theorem dX13_beast_94 : decode cX13_beast 94 = .ok (.iaload, 1) := by decide +kernel
theorem dX13_beast_95 : decode cX13_beast 95 = .ok (.invokevirtual 60, 3) := by decide +kernel
theorem dX13_beast_98 : decode cX13_beast 98 = .ok (.ireturn, 1) := by decide +kernel
theorem dX13_beast_99 : decode cX13_beast 99 = .ok (.aload_n 0, 1) := by decide +kernel
theorem dX13_beast_100 : decode cX13_beast 100 = .ok (.aload_n 0, 1) := by decide +kernel
theorem dX13_beast_101 : decode cX13_beast 101 = .ok (.getfield 301, 3) := by decide +kernel
theorem dX13_beast_104 : decode cX13_beast 104 = .ok (.getfield 275, 3) := by decide +kernel
theorem dX13_beast_107 : decode cX13_beast 107 = .ok (.iload_n 1, 1) := by decide +kernel
theorem dX13_beast_108 : decode cX13_beast 108 = .ok (.iaload, 1) := by decide +kernel
theorem dX13_beast_109 : decode cX13_beast 109 = .ok (.invokevirtual 60, 3) := by decide +kernel
theorem dX13_beast_112 : decode cX13_beast 112 = .ok (.ireturn, 1) := by decide +kernel
theorem dX13_beast_113 : decode cX13_beast 113 = .ok (.aload_n 0, 1) := by decide +kernel
theorem dX13_beast_114 : decode cX13_beast 114 = .ok (.aload_n 0, 1) := by decide +kernel
theorem dX13_beast_115 : decode cX13_beast 115 = .ok (.getfield 301, 3) := by decide +kernel
theorem dX13_beast_118 : decode cX13_beast 118 = .ok (.getfield 277, 3) := by decide +kernel
theorem dX13_beast_121 : decode cX13_beast 121 = .ok (.iload_n 1, 1) := by decide +kernel
theorem dX13_beast_122 : decode cX13_beast 122 = .ok (.iaload, 1) := by decide +kernel
theorem dX13_beast_123 : decode cX13_beast 123 = .ok (.invokevirtual 60, 3) := by decide +kernel
theorem dX13_beast_126 : decode cX13_beast 126 = .ok (.ireturn, 1) := by decide +kernel
theorem dX13_beast_127 : decode cX13_beast 127 = .ok (.aload_n 0, 1) := by decide +kernel
theorem dX13_beast_128 : decode cX13_beast 128 = .ok (.aload_n 0, 1) := by decide +kernel
theorem dX13_beast_129 : decode cX13_beast 129 = .ok (.iload_n 1, 1) := by decide +kernel
theorem dX13_beast_130 : decode cX13_beast 130 = .ok (.invokevirtual 317, 3) := by decide +kernel
theorem dX13_beast_133 : decode cX13_beast 133 = .ok (.invokevirtual 60, 3) := by decide +kernel
theorem dX13_beast_136 : decode cX13_beast 136 = .ok (.ireturn, 1) := by decide +kernel
theorem dX13_beast_137 : decode cX13_beast 137 = .ok (.aload_n 0, 1) := by decide +kernel
theorem dX13_beast_138 : decode cX13_beast 138 = .ok (.aload_n 0, 1) := by decide +kernel
theorem dX13_beast_139 : decode cX13_beast 139 = .ok (.iload_n 1, 1) := by decide +kernel
theorem dX13_beast_140 : decode cX13_beast 140 = .ok (.invokevirtual 330, 3) := by decide +kernel
theorem dX13_beast_143 : decode cX13_beast 143 = .ok (.invokevirtual 60, 3) := by decide +kernel
theorem dX13_beast_146 : decode cX13_beast 146 = .ok (.ireturn, 1) := by decide +kernel
theorem dX13_beast_147 : decode cX13_beast 147 = .ok (.aload_n 0, 1) := by decide +kernel
theorem dX13_beast_148 : decode cX13_beast 148 = .ok (.aload_n 0, 1) := by decide +kernel
theorem dX13_beast_149 : decode cX13_beast 149 = .ok (.getfield 17, 3) := by decide +kernel
theorem dX13_beast_152 : decode cX13_beast 152 = .ok (.iconst 5, 1) := by decide +kernel
theorem dX13_beast_153 : decode cX13_beast 153 = .ok (.iload_n 1, 1) := by decide +kernel
theorem dX13_beast_154 : decode cX13_beast 154 = .ok (.iadd, 1) := by decide +kernel
theorem dX13_beast_155 : decode cX13_beast 155 = .ok (.iaload, 1) := by decide +kernel
theorem dX13_beast_156 : decode cX13_beast 156 = .ok (.invokevirtual 60, 3) := by decide +kernel
theorem dX13_beast_159 : decode cX13_beast 159 = .ok (.ireturn, 1) := by decide +kernel
theorem dX13_beast_160 : decode cX13_beast 160 = .ok (.aload_n 0, 1) := by decide +kernel
theorem dX13_beast_161 : decode cX13_beast 161 = .ok (.aload_n 0, 1) := by decide +kernel
theorem dX13_beast_162 : decode cX13_beast 162 = .ok (.iload_n 1, 1) := by decide +kernel
theorem dX13_beast_163 : decode cX13_beast 163 = .ok (.invokevirtual 310, 3) := by decide +kernel
theorem dX13_beast_166 : decode cX13_beast 166 = .ok (.ifCond .eq 7, 3) := by decide +kernel
theorem dX13_beast_169 : decode cX13_beast 169 = .ok (.iconst 1, 1) := by decide +kernel
theorem dX13_beast_170 : decode cX13_beast 170 = .ok (.goto 4, 3) := by decide +kernel
theorem dX13_beast_173 : decode cX13_beast 173 = .ok (.iconst 0, 1) := by decide +kernel
theorem dX13_beast_174 : decode cX13_beast 174 = .ok (.invokevirtual 60, 3) := by decide +kernel
theorem dX13_beast_177 : decode cX13_beast 177 = .ok (.ireturn, 1) := by decide +kernel
theorem dX13_across_0 : decode cX13_across 0 = .ok (.aload_n 0, 1) := by decide +kernel
theorem dX13_across_1 : decode cX13_across 1 = .ok (.iconst 0, 1) := by decide +kernel
theorem dX13_across_2 : decode cX13_across 2 = .ok (.putfield 48, 3) := by decide +kernel
theorem dX13_across_5 : decode cX13_across 5 = .ok (.aload_n 0, 1) := by decide +kernel
theorem dX13_across_6 : decode cX13_across 6 = .ok (.iload_n 1, 1) := by decide +kernel
theorem dX13_across_7 : decode cX13_across 7 = .ok (.invokevirtual 351, 3) := by decide +kernel
theorem dX13_across_10 : decode cX13_across 10 = .ok (.ifCond .eq 20, 3) := by decide +kernel
theorem dX13_across_13 : decode cX13_across 13 = .ok (.aload_n 0, 1) := by decide +kernel
theorem dX13_across_14 : decode cX13_across 14 = .ok (.aload_n 0, 1) := by decide +kernel
theorem dX13_across_15 : decode cX13_across 15 = .ok (.iload_n 1, 1) := by decide +kernel
theorem dX13_across_16 : decode cX13_across 16 = .ok (.invokevirtual 333, 3) := by decide +kernel
theorem dX13_across_19 : decode cX13_across 19 = .ok (.aload_n 0, 1) := by decide +kernel
theorem dX13_across_20 : decode cX13_across 20 = .ok (.invokevirtual 337, 3) := by decide +kernel
theorem dX13_across_23 : decode cX13_across 23 = .ok (.iload_n 2, 1) := by decide +kernel
theorem dX13_across_24 : decode cX13_across 24 = .ok (.invokevirtual 354, 3) := by decide +kernel
theorem dX13_across_27 : decode cX13_across 27 = .ok (.goto 9, 3) := by decide +kernel
theorem dX13_across_30 : decode cX13_across 30 = .ok (.aload_n 0, 1) := by decide +kernel
theorem dX13_across_31 : decode cX13_across 31 = .ok (.iconst 1, 1) := by decide +kernel
theorem dX13_across_32 : decode cX13_across 32 = .ok (.invokevirtual 54, 3) := by decide +kernel
theorem dX13_across_35 : decode cX13_across 35 = .ok (.i2l, 1) := by decide +kernel
theorem dX13_across_36 : decode cX13_across 36 = .ok (.lreturn, 1) := by decide +kernel
theorem dX13_meets_0 : decode cX13_meets 0 = .ok (.aload_n 0, 1) := by decide +kernel
theorem dX13_meets_1 : decode cX13_meets 1 = .ok (.iconst 0, 1) := by decide +kernel
theorem dX13_meets_2 : decode cX13_meets 2 = .ok (.putfield 48, 3) := by decide +kernel
theorem dX13_meets_5 : decode cX13_meets 5 = .ok (.aload_n 0, 1) := by decide +kernel
theorem dX13_meets_6 : decode cX13_meets 6 = .ok (.iload_n 1, 1) := by decide +kernel
theorem dX13_meets_7 : decode cX13_meets 7 = .ok (.invokevirtual 351, 3) := by decide +kernel
theorem dX13_meets_10 : decode cX13_meets 10 = .ok (.ifCond .eq 25, 3) := by decide +kernel
theorem dX13_meets_13 : decode cX13_meets 13 = .ok (.aload_n 0, 1) := by decide +kernel
theorem dX13_meets_14 : decode cX13_meets 14 = .ok (.iload_n 2, 1) := by decide +kernel
theorem dX13_meets_15 : decode cX13_meets 15 = .ok (.invokevirtual 348, 3) := by decide +kernel
theorem dX13_meets_18 : decode cX13_meets 18 = .ok (.ifCond .eq 17, 3) := by decide +kernel
theorem dX13_meets_21 : decode cX13_meets 21 = .ok (.aload_n 0, 1) := by decide +kernel
theorem dX13_meets_22 : decode cX13_meets 22 = .ok (.aload_n 0, 1) := by decide +kernel
theorem dX13_meets_23 : decode cX13_meets 23 = .ok (.iload_n 1, 1) := by decide +kernel
theorem dX13_meets_24 : decode cX13_meets 24 = .ok (.iload_n 2, 1) := by decide +kernel
theorem dX13_meets_25 : decode cX13_meets 25 = .ok (.iload_n 3, 1) := by decide +kernel
theorem dX13_meets_26 : decode cX13_meets 26 = .ok (.invokevirtual 358, 3) := by decide +kernel
theorem dX13_meets_29 : decode cX13_meets 29 = .ok (.invokevirtual 60, 3) := by decide +kernel
theorem dX13_meets_32 : decode cX13_meets 32 = .ok (.goto 8, 3) := by decide +kernel
theorem dX13_meets_35 : decode cX13_meets 35 = .ok (.aload_n 0, 1) := by decide +kernel
theorem dX13_meets_36 : decode cX13_meets 36 = .ok (.iconst 1, 1) := by decide +kernel
theorem dX13_meets_37 : decode cX13_meets 37 = .ok (.invokevirtual 54, 3) := by decide +kernel
theorem dX13_meets_40 : decode cX13_meets 40 = .ok (.ireturn, 1) := by decide +kernel
theorem dX13_mean_0 : decode cX13_mean 0 = .ok (.aload_n 0, 1) := by decide +kernel
theorem dX13_mean_1 : decode cX13_mean 1 = .ok (.iconst 0, 1) := by decide +kernel
theorem dX13_mean_2 : decode cX13_mean 2 = .ok (.putfield 48, 3) := by decide +kernel
theorem dX13_mean_5 : decode cX13_mean 5 = .ok (.aload_n 0, 1) := by decide +kernel
theorem dX13_mean_6 : decode cX13_mean 6 = .ok (.iload_n 1, 1) := by decide +kernel
theorem dX13_mean_7 : decode cX13_mean 7 = .ok (.invokevirtual 351, 3) := by decide +kernel
theorem dX13_mean_10 : decode cX13_mean 10 = .ok (.ifCond .eq 37, 3) := by decide +kernel
theorem dX13_mean_13 : decode cX13_mean 13 = .ok (.aload_n 0, 1) := by decide +kernel
theorem dX13_mean_14 : decode cX13_mean 14 = .ok (.iload_n 2, 1) := by decide +kernel
theorem dX13_mean_15 : decode cX13_mean 15 = .ok (.invokevirtual 348, 3) := by decide +kernel
theorem dX13_mean_18 : decode cX13_mean 18 = .ok (.ifCond .eq 29, 3) := by decide +kernel
theorem dX13_mean_21 : decode cX13_mean 21 = .ok (.aload_n 0, 1) := by decide +kernel
theorem dX13_mean_22 : decode cX13_mean 22 = .ok (.aload_n 0, 1) := by decide +kernel
theorem dX13_mean_23 : decode cX13_mean 23 = .ok (.iload_n 1, 1) := by decide +kernel
theorem dX13_mean_24 : decode cX13_mean 24 = .ok (.aload_n 0, 1) := by decide +kernel
theorem dX13_mean_25 : decode cX13_mean 25 = .ok (.iload_n 1, 1) := by decide +kernel
theorem dX13_mean_26 : decode cX13_mean 26 = .ok (.iload_n 2, 1) := by decide +kernel
theorem dX13_mean_27 : decode cX13_mean 27 = .ok (.iload_n 3, 1) := by decide +kernel
theorem dX13_mean_28 : decode cX13_mean 28 = .ok (.invokevirtual 358, 3) := by decide +kernel
theorem dX13_mean_31 : decode cX13_mean 31 = .ok (.iload_n 3, 1) := by decide +kernel
theorem dX13_mean_32 : decode cX13_mean 32 = .ok (.invokevirtual 340, 3) := by decide +kernel
theorem dX13_mean_35 : decode cX13_mean 35 = .ok (.aload_n 0, 1) := by decide +kernel
theorem dX13_mean_36 : decode cX13_mean 36 = .ok (.invokevirtual 337, 3) := by decide +kernel
theorem dX13_mean_39 : decode cX13_mean 39 = .ok (.iload 4, 2) := by decide +kernel
theorem dX13_mean_41 : decode cX13_mean 41 = .ok (.invokevirtual 354, 3) := by decide +kernel
theorem dX13_mean_44 : decode cX13_mean 44 = .ok (.goto 9, 3) := by decide +kernel
theorem dX13_mean_47 : decode cX13_mean 47 = .ok (.aload_n 0, 1) := by decide +kernel
theorem dX13_mean_48 : decode cX13_mean 48 = .ok (.iconst 1, 1) := by decide +kernel
theorem dX13_mean_49 : decode cX13_mean 49 = .ok (.invokevirtual 54, 3) := by decide +kernel
theorem dX13_mean_52 : decode cX13_mean 52 = .ok (.i2l, 1) := by decide +kernel
theorem dX13_mean_53 : decode cX13_mean 53 = .ok (.lreturn, 1) := by decide +kernel
theorem dX13_worth_0 : decode cX13_worth 0 = .ok (.aload_n 0, 1) := by decide +kernel
theorem dX13_worth_1 : decode cX13_worth 1 = .ok (.iconst 0, 1) := by decide +kernel
theorem dX13_worth_2 : decode cX13_worth 2 = .ok (.putfield 48, 3) := by decide +kernel
theorem dX13_worth_5 : decode cX13_worth 5 = .ok (.aload_n 0, 1) := by decide +kernel
theorem dX13_worth_6 : decode cX13_worth 6 = .ok (.iload_n 1, 1) := by decide +kernel
theorem dX13_worth_7 : decode cX13_worth 7 = .ok (.invokevirtual 351, 3) := by decide +kernel
theorem dX13_worth_10 : decode cX13_worth 10 = .ok (.ifCond .eq 29, 3) := by decide +kernel
theorem dX13_worth_13 : decode cX13_worth 13 = .ok (.aload_n 0, 1) := by decide +kernel
theorem dX13_worth_14 : decode cX13_worth 14 = .ok (.iload_n 2, 1) := by decide +kernel
theorem dX13_worth_15 : decode cX13_worth 15 = .ok (.invokevirtual 348, 3) := by decide +kernel
theorem dX13_worth_18 : decode cX13_worth 18 = .ok (.ifCond .eq 21, 3) := by decide +kernel
theorem dX13_worth_21 : decode cX13_worth 21 = .ok (.aload_n 0, 1) := by decide +kernel
theorem dX13_worth_22 : decode cX13_worth 22 = .ok (.aload_n 0, 1) := by decide +kernel
theorem dX13_worth_23 : decode cX13_worth 23 = .ok (.iload_n 1, 1) := by decide +kernel
theorem dX13_worth_24 : decode cX13_worth 24 = .ok (.iload_n 2, 1) := by decide +kernel
theorem dX13_worth_25 : decode cX13_worth 25 = .ok (.invokevirtual 361, 3) := by decide +kernel
theorem dX13_worth_28 : decode cX13_worth 28 = .ok (.aload_n 0, 1) := by decide +kernel
theorem dX13_worth_29 : decode cX13_worth 29 = .ok (.invokevirtual 337, 3) := by decide +kernel
theorem dX13_worth_32 : decode cX13_worth 32 = .ok (.iload_n 3, 1) := by decide +kernel
theorem dX13_worth_33 : decode cX13_worth 33 = .ok (.invokevirtual 354, 3) := by decide +kernel
theorem dX13_worth_36 : decode cX13_worth 36 = .ok (.goto 8, 3) := by decide +kernel
theorem dX13_worth_39 : decode cX13_worth 39 = .ok (.aload_n 0, 1) := by decide +kernel
theorem dX13_worth_40 : decode cX13_worth 40 = .ok (.iconst 1, 1) := by decide +kernel
theorem dX13_worth_41 : decode cX13_worth 41 = .ok (.invokevirtual 365, 3) := by decide +kernel
theorem dX13_worth_44 : decode cX13_worth 44 = .ok (.lreturn, 1) := by decide +kernel
theorem dX13_worthHeld_0 : decode cX13_worthHeld 0 = .ok (.aload_n 0, 1) := by decide +kernel
theorem dX13_worthHeld_1 : decode cX13_worthHeld 1 = .ok (.iload_n 1, 1) := by decide +kernel
theorem dX13_worthHeld_2 : decode cX13_worthHeld 2 = .ok (.invokevirtual 310, 3) := by decide +kernel
theorem dX13_worthHeld_5 : decode cX13_worthHeld 5 = .ok (.ifCond .eq 5, 3) := by decide +kernel
theorem dX13_worthHeld_8 : decode cX13_worthHeld 8 = .ok (.lconst 0, 1) := by decide +kernel
theorem dX13_worthHeld_9 : decode cX13_worthHeld 9 = .ok (.lreturn, 1) := by decide +kernel
theorem dX13_worthHeld_10 : decode cX13_worthHeld 10 = .ok (.iload_n 3, 1) := by decide +kernel
theorem dX13_worthHeld_11 : decode cX13_worthHeld 11 = .ok (.i2l, 1) := by decide +kernel
theorem dX13_worthHeld_12 : decode cX13_worthHeld 12 = .ok (.aload_n 0, 1) := by decide +kernel
theorem dX13_worthHeld_13 : decode cX13_worthHeld 13 = .ok (.getfield 301, 3) := by decide +kernel
theorem dX13_worthHeld_16 : decode cX13_worthHeld 16 = .ok (.getfield 223, 3) := by decide +kernel
theorem dX13_worthHeld_19 : decode cX13_worthHeld 19 = .ok (.invokestatic 326, 3) := by decide +kernel
theorem dX13_worthHeld_22 : decode cX13_worthHeld 22 = .ok (.lstore 4, 2) := by decide +kernel
theorem dX13_worthHeld_24 : decode cX13_worthHeld 24 = .ok (.lload 4, 2) := by decide +kernel
theorem dX13_worthHeld_26 : decode cX13_worthHeld 26 = .ok (.aload_n 0, 1) := by decide +kernel
theorem dX13_worthHeld_27 : decode cX13_worthHeld 27 = .ok (.iload_n 1, 1) := by decide +kernel
theorem dX13_worthHeld_28 : decode cX13_worthHeld 28 = .ok (.iload_n 2, 1) := by decide +kernel
theorem dX13_worthHeld_29 : decode cX13_worthHeld 29 = .ok (.iconst 0, 1) := by decide +kernel
theorem dX13_worthHeld_30 : decode cX13_worthHeld 30 = .ok (.invokevirtual 358, 3) := by decide +kernel
theorem dX13_worthHeld_33 : decode cX13_worthHeld 33 = .ok (.aload_n 0, 1) := by decide +kernel
theorem dX13_worthHeld_34 : decode cX13_worthHeld 34 = .ok (.iload_n 1, 1) := by decide +kernel
theorem dX13_worthHeld_35 : decode cX13_worthHeld 35 = .ok (.iload_n 2, 1) := by decide +kernel
theorem dX13_worthHeld_36 : decode cX13_worthHeld 36 = .ok (.iconst 1, 1) := by decide +kernel
theorem dX13_worthHeld_37 : decode cX13_worthHeld 37 = .ok (.invokevirtual 358, 3) := by decide +kernel
theorem dX13_worthHeld_40 : decode cX13_worthHeld 40 = .ok (.isub, 1) := by decide +kernel
theorem dX13_worthHeld_41 : decode cX13_worthHeld 41 = .ok (.i2l, 1) := by decide +kernel
theorem dX13_worthHeld_42 : decode cX13_worthHeld 42 = .ok (.lmul, 1) := by decide +kernel
theorem dX13_worthHeld_43 : decode cX13_worthHeld 43 = .ok (.aload_n 0, 1) := by decide +kernel
theorem dX13_worthHeld_44 : decode cX13_worthHeld 44 = .ok (.invokevirtual 337, 3) := by decide +kernel
theorem dX13_worthHeld_47 : decode cX13_worthHeld 47 = .ok (.lload 4, 2) := by decide +kernel
theorem dX13_worthHeld_49 : decode cX13_worthHeld 49 = .ok (.lsub, 1) := by decide +kernel
theorem dX13_worthHeld_50 : decode cX13_worthHeld 50 = .ok (.aload_n 0, 1) := by decide +kernel
theorem dX13_worthHeld_51 : decode cX13_worthHeld 51 = .ok (.iload_n 1, 1) := by decide +kernel
theorem dX13_worthHeld_52 : decode cX13_worthHeld 52 = .ok (.invokevirtual 317, 3) := by decide +kernel
theorem dX13_worthHeld_55 : decode cX13_worthHeld 55 = .ok (.iconst 2, 1) := by decide +kernel
theorem dX13_worthHeld_56 : decode cX13_worthHeld 56 = .ok (.idiv, 1) := by decide +kernel
theorem dX13_worthHeld_57 : decode cX13_worthHeld 57 = .ok (.i2l, 1) := by decide +kernel
theorem dX13_worthHeld_58 : decode cX13_worthHeld 58 = .ok (.lmul, 1) := by decide +kernel
theorem dX13_worthHeld_59 : decode cX13_worthHeld 59 = .ok (.lsub, 1) := by decide +kernel
theorem dX13_worthHeld_60 : decode cX13_worthHeld 60 = .ok (.lreturn, 1) := by decide +kernel
theorem dX13_worthIf_0 : decode cX13_worthIf 0 = .ok (.aload_n 0, 1) := by decide +kernel
theorem dX13_worthIf_1 : decode cX13_worthIf 1 = .ok (.iconst 0, 1) := by decide +kernel
theorem dX13_worthIf_2 : decode cX13_worthIf 2 = .ok (.putfield 48, 3) := by decide +kernel
theorem dX13_worthIf_5 : decode cX13_worthIf 5 = .ok (.aload_n 0, 1) := by decide +kernel
theorem dX13_worthIf_6 : decode cX13_worthIf 6 = .ok (.iload_n 1, 1) := by decide +kernel
theorem dX13_worthIf_7 : decode cX13_worthIf 7 = .ok (.invokevirtual 351, 3) := by decide +kernel
theorem dX13_worthIf_10 : decode cX13_worthIf 10 = .ok (.ifCond .eq 11, 3) := by decide +kernel
theorem dX13_worthIf_13 : decode cX13_worthIf 13 = .ok (.aload_n 0, 1) := by decide +kernel
theorem dX13_worthIf_14 : decode cX13_worthIf 14 = .ok (.iload_n 2, 1) := by decide +kernel
theorem dX13_worthIf_15 : decode cX13_worthIf 15 = .ok (.invokevirtual 348, 3) := by decide +kernel
theorem dX13_worthIf_18 : decode cX13_worthIf 18 = .ok (.ifCond .ne 9, 3) := by decide +kernel
theorem dX13_worthIf_21 : decode cX13_worthIf 21 = .ok (.aload_n 0, 1) := by decide +kernel
theorem dX13_worthIf_22 : decode cX13_worthIf 22 = .ok (.iconst 1, 1) := by decide +kernel
theorem dX13_worthIf_23 : decode cX13_worthIf 23 = .ok (.invokevirtual 365, 3) := by decide +kernel
theorem dX13_worthIf_26 : decode cX13_worthIf 26 = .ok (.lreturn, 1) := by decide +kernel
theorem dX13_worthIf_27 : decode cX13_worthIf 27 = .ok (.aload_n 0, 1) := by decide +kernel
theorem dX13_worthIf_28 : decode cX13_worthIf 28 = .ok (.aload_n 0, 1) := by decide +kernel
theorem dX13_worthIf_29 : decode cX13_worthIf 29 = .ok (.iload_n 1, 1) := by decide +kernel
theorem dX13_worthIf_30 : decode cX13_worthIf 30 = .ok (.iload_n 2, 1) := by decide +kernel
theorem dX13_worthIf_31 : decode cX13_worthIf 31 = .ok (.aload_n 0, 1) := by decide +kernel
theorem dX13_worthIf_32 : decode cX13_worthIf 32 = .ok (.iload_n 1, 1) := by decide +kernel
theorem dX13_worthIf_33 : decode cX13_worthIf 33 = .ok (.aload_n 0, 1) := by decide +kernel
theorem dX13_worthIf_34 : decode cX13_worthIf 34 = .ok (.getfield 301, 3) := by decide +kernel
theorem dX13_worthIf_37 : decode cX13_worthIf 37 = .ok (.getfield 275, 3) := by decide +kernel
theorem dX13_worthIf_40 : decode cX13_worthIf 40 = .ok (.iload_n 1, 1) := by decide +kernel
theorem dX13_worthIf_41 : decode cX13_worthIf 41 = .ok (.iaload, 1) := by decide +kernel
theorem dX13_worthIf_42 : decode cX13_worthIf 42 = .ok (.iload_n 3, 1) := by decide +kernel
theorem dX13_worthIf_43 : decode cX13_worthIf 43 = .ok (.invokevirtual 313, 3) := by decide +kernel
theorem dX13_worthIf_46 : decode cX13_worthIf 46 = .ok (.invokevirtual 368, 3) := by decide +kernel
theorem dX13_worthIf_49 : decode cX13_worthIf 49 = .ok (.aload_n 0, 1) := by decide +kernel
theorem dX13_worthIf_50 : decode cX13_worthIf 50 = .ok (.invokevirtual 337, 3) := by decide +kernel
theorem dX13_worthIf_53 : decode cX13_worthIf 53 = .ok (.iload 4, 2) := by decide +kernel
theorem dX13_worthIf_55 : decode cX13_worthIf 55 = .ok (.invokevirtual 354, 3) := by decide +kernel
theorem dX13_worthIf_58 : decode cX13_worthIf 58 = .ok (.lreturn, 1) := by decide +kernel
theorem dX13_moodFor_0 : decode cX13_moodFor 0 = .ok (.aload_n 0, 1) := by decide +kernel
theorem dX13_moodFor_1 : decode cX13_moodFor 1 = .ok (.iconst 0, 1) := by decide +kernel
theorem dX13_moodFor_2 : decode cX13_moodFor 2 = .ok (.putfield 48, 3) := by decide +kernel
theorem dX13_moodFor_5 : decode cX13_moodFor 5 = .ok (.aload_n 0, 1) := by decide +kernel
theorem dX13_moodFor_6 : decode cX13_moodFor 6 = .ok (.iload_n 1, 1) := by decide +kernel
theorem dX13_moodFor_7 : decode cX13_moodFor 7 = .ok (.invokevirtual 351, 3) := by decide +kernel
theorem dX13_moodFor_10 : decode cX13_moodFor 10 = .ok (.ifCond .eq 11, 3) := by decide +kernel
theorem dX13_moodFor_13 : decode cX13_moodFor 13 = .ok (.aload_n 0, 1) := by decide +kernel
theorem dX13_moodFor_14 : decode cX13_moodFor 14 = .ok (.iload_n 2, 1) := by decide +kernel
theorem dX13_moodFor_15 : decode cX13_moodFor 15 = .ok (.invokevirtual 348, 3) := by decide +kernel
theorem dX13_moodFor_18 : decode cX13_moodFor 18 = .ok (.ifCond .ne 9, 3) := by decide +kernel
theorem dX13_moodFor_21 : decode cX13_moodFor 21 = .ok (.aload_n 0, 1) := by decide +kernel
theorem dX13_moodFor_22 : decode cX13_moodFor 22 = .ok (.iconst 1, 1) := by decide +kernel
theorem dX13_moodFor_23 : decode cX13_moodFor 23 = .ok (.invokevirtual 54, 3) := by decide +kernel
theorem dX13_moodFor_26 : decode cX13_moodFor 26 = .ok (.ireturn, 1) := by decide +kernel
theorem dX13_moodFor_27 : decode cX13_moodFor 27 = .ok (.iconst 0, 1) := by decide +kernel
theorem dX13_moodFor_28 : decode cX13_moodFor 28 = .ok (.istore_n 3, 1) := by decide +kernel
theorem dX13_moodFor_29 : decode cX13_moodFor 29 = .ok (.iload_n 3, 1) := by decide +kernel
theorem dX13_moodFor_30 : decode cX13_moodFor 30 = .ok (.bipush 100, 2) := by decide +kernel
theorem dX13_moodFor_32 : decode cX13_moodFor 32 = .ok (.if_icmp .gt 48, 3) := by decide +kernel
theorem dX13_moodFor_35 : decode cX13_moodFor 35 = .ok (.aload_n 0, 1) := by decide +kernel
theorem dX13_moodFor_36 : decode cX13_moodFor 36 = .ok (.iload_n 1, 1) := by decide +kernel
theorem dX13_moodFor_37 : decode cX13_moodFor 37 = .ok (.iload_n 2, 1) := by decide +kernel
theorem dX13_moodFor_38 : decode cX13_moodFor 38 = .ok (.aload_n 0, 1) := by decide +kernel
theorem dX13_moodFor_39 : decode cX13_moodFor 39 = .ok (.iload_n 1, 1) := by decide +kernel
theorem dX13_moodFor_40 : decode cX13_moodFor 40 = .ok (.iload_n 3, 1) := by decide +kernel
theorem dX13_moodFor_41 : decode cX13_moodFor 41 = .ok (.aload_n 0, 1) := by decide +kernel
theorem dX13_moodFor_42 : decode cX13_moodFor 42 = .ok (.getfield 17, 3) := by decide +kernel
theorem dX13_moodFor_45 : decode cX13_moodFor 45 = .ok (.bipush 17, 2) := by decide +kernel
theorem dX13_moodFor_47 : decode cX13_moodFor 47 = .ok (.iaload, 1) := by decide +kernel
theorem dX13_moodFor_48 : decode cX13_moodFor 48 = .ok (.iconst 1, 1) := by decide +kernel
theorem dX13_moodFor_49 : decode cX13_moodFor 49 = .ok (.if_icmp .ne 7, 3) := by decide +kernel
theorem dX13_moodFor_52 : decode cX13_moodFor 52 = .ok (.iconst 1, 1) := by decide +kernel
theorem dX13_moodFor_53 : decode cX13_moodFor 53 = .ok (.goto 4, 3) := by decide +kernel
theorem dX13_moodFor_56 : decode cX13_moodFor 56 = .ok (.iconst 0, 1) := by decide +kernel
theorem dX13_moodFor_57 : decode cX13_moodFor 57 = .ok (.invokevirtual 313, 3) := by decide +kernel
theorem dX13_moodFor_60 : decode cX13_moodFor 60 = .ok (.invokevirtual 368, 3) := by decide +kernel
theorem dX13_moodFor_63 : decode cX13_moodFor 63 = .ok (.lconst 0, 1) := by decide +kernel
theorem dX13_moodFor_64 : decode cX13_moodFor 64 = .ok (.lcmp, 1) := by decide +kernel
theorem dX13_moodFor_65 : decode cX13_moodFor 65 = .ok (.ifCond .le 9, 3) := by decide +kernel
theorem dX13_moodFor_68 : decode cX13_moodFor 68 = .ok (.aload_n 0, 1) := by decide +kernel
theorem dX13_moodFor_69 : decode cX13_moodFor 69 = .ok (.iload_n 3, 1) := by decide +kernel
theorem dX13_moodFor_70 : decode cX13_moodFor 70 = .ok (.invokevirtual 60, 3) := by decide +kernel
theorem dX13_moodFor_73 : decode cX13_moodFor 73 = .ok (.ireturn, 1) := by decide +kernel
theorem dX13_moodFor_74 : decode cX13_moodFor 74 = .ok (.iinc 3 1, 3) := by decide +kernel
theorem dX13_moodFor_77 : decode cX13_moodFor 77 = .ok (.goto (-48), 3) := by decide +kernel
theorem dX13_moodFor_80 : decode cX13_moodFor 80 = .ok (.aload_n 0, 1) := by decide +kernel
theorem dX13_moodFor_81 : decode cX13_moodFor 81 = .ok (.bipush (-2), 2) := by decide +kernel
theorem dX13_moodFor_83 : decode cX13_moodFor 83 = .ok (.invokevirtual 60, 3) := by decide +kernel
theorem dX13_moodFor_86 : decode cX13_moodFor 86 = .ok (.ireturn, 1) := by decide +kernel
theorem dX13_toHammer_0 : decode cX13_toHammer 0 = .ok (.aload_n 0, 1) := by decide +kernel
theorem dX13_toHammer_1 : decode cX13_toHammer 1 = .ok (.iconst 0, 1) := by decide +kernel
theorem dX13_toHammer_2 : decode cX13_toHammer 2 = .ok (.putfield 48, 3) := by decide +kernel
theorem dX13_toHammer_5 : decode cX13_toHammer 5 = .ok (.aload_n 0, 1) := by decide +kernel
theorem dX13_toHammer_6 : decode cX13_toHammer 6 = .ok (.getfield 301, 3) := by decide +kernel
theorem dX13_toHammer_9 : decode cX13_toHammer 9 = .ok (.ifnonnull 9, 3) := by decide +kernel
theorem dX13_toHammer_12 : decode cX13_toHammer 12 = .ok (.aload_n 0, 1) := by decide +kernel
theorem dX13_toHammer_13 : decode cX13_toHammer 13 = .ok (.iconst 1, 1) := by decide +kernel
theorem dX13_toHammer_14 : decode cX13_toHammer 14 = .ok (.invokevirtual 54, 3) := by decide +kernel
theorem dX13_toHammer_17 : decode cX13_toHammer 17 = .ok (.ireturn, 1) := by decide +kernel
theorem dX13_toHammer_18 : decode cX13_toHammer 18 = .ok (.bipush (-2), 2) := by decide +kernel
theorem dX13_toHammer_20 : decode cX13_toHammer 20 = .ok (.istore_n 1, 1) := by decide +kernel
theorem dX13_toHammer_21 : decode cX13_toHammer 21 = .ok (.lconst 0, 1) := by decide +kernel
theorem dX13_toHammer_22 : decode cX13_toHammer 22 = .ok (.lstore_n 2, 1) := by decide +kernel
theorem dX13_toHammer_23 : decode cX13_toHammer 23 = .ok (.iconst 0, 1) := by decide +kernel
theorem dX13_toHammer_24 : decode cX13_toHammer 24 = .ok (.istore 4, 2) := by decide +kernel
theorem dX13_toHammer_26 : decode cX13_toHammer 26 = .ok (.iload 4, 2) := by decide +kernel
theorem dX13_toHammer_28 : decode cX13_toHammer 28 = .ok (.aload_n 0, 1) := by decide +kernel
theorem dX13_toHammer_29 : decode cX13_toHammer 29 = .ok (.getfield 301, 3) := by decide +kernel
theorem dX13_toHammer_32 : decode cX13_toHammer 32 = .ok (.getfield 195, 3) := by decide +kernel
theorem dX13_toHammer_35 : decode cX13_toHammer 35 = .ok (.if_icmp .ge 42, 3) := by decide +kernel
theorem dX13_toHammer_38 : decode cX13_toHammer 38 = .ok (.aload_n 0, 1) := by decide +kernel
theorem dX13_toHammer_39 : decode cX13_toHammer 39 = .ok (.iload 4, 2) := by decide +kernel
theorem dX13_toHammer_41 : decode cX13_toHammer 41 = .ok (.aload_n 0, 1) := by decide +kernel
theorem dX13_toHammer_42 : decode cX13_toHammer 42 = .ok (.getfield 17, 3) := by decide +kernel
theorem dX13_toHammer_45 : decode cX13_toHammer 45 = .ok (.iconst 0, 1) := by decide +kernel
theorem dX13_toHammer_46 : decode cX13_toHammer 46 = .ok (.iload 4, 2) := by decide +kernel
theorem dX13_toHammer_48 : decode cX13_toHammer 48 = .ok (.iadd, 1) := by decide +kernel
theorem dX13_toHammer_49 : decode cX13_toHammer 49 = .ok (.iaload, 1) := by decide +kernel
theorem dX13_toHammer_50 : decode cX13_toHammer 50 = .ok (.invokevirtual 361, 3) := by decide +kernel
theorem dX13_toHammer_53 : decode cX13_toHammer 53 = .ok (.lstore 5, 2) := by decide +kernel
theorem dX13_toHammer_55 : decode cX13_toHammer 55 = .ok (.lload 5, 2) := by decide +kernel
theorem dX13_toHammer_57 : decode cX13_toHammer 57 = .ok (.lload_n 2, 1) := by decide +kernel
theorem dX13_toHammer_58 : decode cX13_toHammer 58 = .ok (.lcmp, 1) := by decide +kernel
theorem dX13_toHammer_59 : decode cX13_toHammer 59 = .ok (.ifCond .lt 6, 3) := by decide +kernel
theorem dX13_toHammer_62 : decode cX13_toHammer 62 = .ok (.goto 9, 3) := by decide +kernel
theorem dX13_toHammer_65 : decode cX13_toHammer 65 = .ok (.lload 5, 2) := by decide +kernel
theorem dX13_toHammer_67 : decode cX13_toHammer 67 = .ok (.lstore_n 2, 1) := by decide +kernel
theorem dX13_toHammer_68 : decode cX13_toHammer 68 = .ok (.iload 4, 2) := by decide +kernel
theorem dX13_toHammer_70 : decode cX13_toHammer 70 = .ok (.istore_n 1, 1) := by decide +kernel
theorem dX13_toHammer_71 : decode cX13_toHammer 71 = .ok (.iinc 4 1, 3) := by decide +kernel
theorem dX13_toHammer_74 : decode cX13_toHammer 74 = .ok (.goto (-48), 3) := by decide +kernel
theorem dX13_toHammer_77 : decode cX13_toHammer 77 = .ok (.aload_n 0, 1) := by decide +kernel
theorem dX13_toHammer_78 : decode cX13_toHammer 78 = .ok (.iload_n 1, 1) := by decide +kernel
theorem dX13_toHammer_79 : decode cX13_toHammer 79 = .ok (.invokevirtual 60, 3) := by decide +kernel
theorem dX13_toHammer_82 : decode cX13_toHammer 82 = .ok (.ireturn, 1) := by decide +kernel
theorem dX13_bestLane_0 : decode cX13_bestLane 0 = .ok (.aload_n 0, 1) := by decide +kernel
theorem dX13_bestLane_1 : decode cX13_bestLane 1 = .ok (.iconst 0, 1) := by decide +kernel
theorem dX13_bestLane_2 : decode cX13_bestLane 2 = .ok (.putfield 48, 3) := by decide +kernel
theorem dX13_bestLane_5 : decode cX13_bestLane 5 = .ok (.aload_n 0, 1) := by decide +kernel
theorem dX13_bestLane_6 : decode cX13_bestLane 6 = .ok (.iload_n 1, 1) := by decide +kernel
theorem dX13_bestLane_7 : decode cX13_bestLane 7 = .ok (.invokevirtual 351, 3) := by decide +kernel
theorem dX13_bestLane_10 : decode cX13_bestLane 10 = .ok (.ifCond .ne 9, 3) := by decide +kernel
theorem dX13_bestLane_13 : decode cX13_bestLane 13 = .ok (.aload_n 0, 1) := by decide +kernel
theorem dX13_bestLane_14 : decode cX13_bestLane 14 = .ok (.iconst 1, 1) := by decide +kernel
theorem dX13_bestLane_15 : decode cX13_bestLane 15 = .ok (.invokevirtual 54, 3) := by decide +kernel
theorem dX13_bestLane_18 : decode cX13_bestLane 18 = .ok (.ireturn, 1) := by decide +kernel
theorem dX13_bestLane_19 : decode cX13_bestLane 19 = .ok (.iconst 0, 1) := by decide +kernel
theorem dX13_bestLane_20 : decode cX13_bestLane 20 = .ok (.istore_n 2, 1) := by decide +kernel
theorem dX13_bestLane_21 : decode cX13_bestLane 21 = .ok (.iconst 1, 1) := by decide +kernel
theorem dX13_bestLane_22 : decode cX13_bestLane 22 = .ok (.istore_n 3, 1) := by decide +kernel
theorem dX13_bestLane_23 : decode cX13_bestLane 23 = .ok (.iload_n 3, 1) := by decide +kernel
theorem dX13_bestLane_24 : decode cX13_bestLane 24 = .ok (.aload_n 0, 1) := by decide +kernel
theorem dX13_bestLane_25 : decode cX13_bestLane 25 = .ok (.getfield 301, 3) := by decide +kernel
theorem dX13_bestLane_28 : decode cX13_bestLane 28 = .ok (.getfield 160, 3) := by decide +kernel
theorem dX13_bestLane_31 : decode cX13_bestLane 31 = .ok (.if_icmp .ge 27, 3) := by decide +kernel
theorem dX13_bestLane_34 : decode cX13_bestLane 34 = .ok (.aload_n 0, 1) := by decide +kernel
theorem dX13_bestLane_35 : decode cX13_bestLane 35 = .ok (.iload_n 1, 1) := by decide +kernel
theorem dX13_bestLane_36 : decode cX13_bestLane 36 = .ok (.iload_n 3, 1) := by decide +kernel
theorem dX13_bestLane_37 : decode cX13_bestLane 37 = .ok (.invokevirtual 361, 3) := by decide +kernel
theorem dX13_bestLane_40 : decode cX13_bestLane 40 = .ok (.aload_n 0, 1) := by decide +kernel
theorem dX13_bestLane_41 : decode cX13_bestLane 41 = .ok (.iload_n 1, 1) := by decide +kernel
theorem dX13_bestLane_42 : decode cX13_bestLane 42 = .ok (.iload_n 2, 1) := by decide +kernel
theorem dX13_bestLane_43 : decode cX13_bestLane 43 = .ok (.invokevirtual 361, 3) := by decide +kernel
theorem dX13_bestLane_46 : decode cX13_bestLane 46 = .ok (.lcmp, 1) := by decide +kernel
theorem dX13_bestLane_47 : decode cX13_bestLane 47 = .ok (.ifCond .le 5, 3) := by decide +kernel
theorem dX13_bestLane_50 : decode cX13_bestLane 50 = .ok (.iload_n 3, 1) := by decide +kernel
theorem dX13_bestLane_51 : decode cX13_bestLane 51 = .ok (.istore_n 2, 1) := by decide +kernel
theorem dX13_bestLane_52 : decode cX13_bestLane 52 = .ok (.iinc 3 1, 3) := by decide +kernel
theorem dX13_bestLane_55 : decode cX13_bestLane 55 = .ok (.goto (-32), 3) := by decide +kernel
theorem dX13_bestLane_58 : decode cX13_bestLane 58 = .ok (.aload_n 0, 1) := by decide +kernel
theorem dX13_bestLane_59 : decode cX13_bestLane 59 = .ok (.iload_n 2, 1) := by decide +kernel
theorem dX13_bestLane_60 : decode cX13_bestLane 60 = .ok (.invokevirtual 60, 3) := by decide +kernel
theorem dX13_bestLane_63 : decode cX13_bestLane 63 = .ok (.ireturn, 1) := by decide +kernel
theorem dX13_meanNow_0 : decode cX13_meanNow 0 = .ok (.aload_n 0, 1) := by decide +kernel
theorem dX13_meanNow_1 : decode cX13_meanNow 1 = .ok (.iload_n 1, 1) := by decide +kernel
theorem dX13_meanNow_2 : decode cX13_meanNow 2 = .ok (.aload_n 0, 1) := by decide +kernel
theorem dX13_meanNow_3 : decode cX13_meanNow 3 = .ok (.iload_n 1, 1) := by decide +kernel
theorem dX13_meanNow_4 : decode cX13_meanNow 4 = .ok (.aload_n 0, 1) := by decide +kernel
theorem dX13_meanNow_5 : decode cX13_meanNow 5 = .ok (.getfield 17, 3) := by decide +kernel
theorem dX13_meanNow_8 : decode cX13_meanNow 8 = .ok (.iconst 0, 1) := by decide +kernel
theorem dX13_meanNow_9 : decode cX13_meanNow 9 = .ok (.iload_n 1, 1) := by decide +kernel
theorem dX13_meanNow_10 : decode cX13_meanNow 10 = .ok (.iadd, 1) := by decide +kernel
theorem dX13_meanNow_11 : decode cX13_meanNow 11 = .ok (.iaload, 1) := by decide +kernel
theorem dX13_meanNow_12 : decode cX13_meanNow 12 = .ok (.iload_n 2, 1) := by decide +kernel
theorem dX13_meanNow_13 : decode cX13_meanNow 13 = .ok (.invokevirtual 358, 3) := by decide +kernel
theorem dX13_meanNow_16 : decode cX13_meanNow 16 = .ok (.iload_n 2, 1) := by decide +kernel
theorem dX13_meanNow_17 : decode cX13_meanNow 17 = .ok (.invokevirtual 340, 3) := by decide +kernel
theorem dX13_meanNow_20 : decode cX13_meanNow 20 = .ok (.lreturn, 1) := by decide +kernel
theorem dX13_all_0 : decode cX13_all 0 = .ok (.aload_n 0, 1) := by decide +kernel
theorem dX13_all_1 : decode cX13_all 1 = .ok (.iconst 0, 1) := by decide +kernel
theorem dX13_all_2 : decode cX13_all 2 = .ok (.putfield 48, 3) := by decide +kernel
theorem dX13_all_5 : decode cX13_all 5 = .ok (.aload_n 0, 1) := by decide +kernel
theorem dX13_all_6 : decode cX13_all 6 = .ok (.getfield 301, 3) := by decide +kernel
theorem dX13_all_9 : decode cX13_all 9 = .ok (.ifnonnull 10, 3) := by decide +kernel
theorem dX13_all_12 : decode cX13_all 12 = .ok (.aload_n 0, 1) := by decide +kernel
theorem dX13_all_13 : decode cX13_all 13 = .ok (.iconst 1, 1) := by decide +kernel
theorem dX13_all_14 : decode cX13_all 14 = .ok (.invokevirtual 54, 3) := by decide +kernel
theorem dX13_all_17 : decode cX13_all 17 = .ok (.i2l, 1) := by decide +kernel
theorem dX13_all_18 : decode cX13_all 18 = .ok (.lreturn, 1) := by decide +kernel
theorem dX13_all_19 : decode cX13_all 19 = .ok (.lconst 0, 1) := by decide +kernel
theorem dX13_all_20 : decode cX13_all 20 = .ok (.lstore_n 3, 1) := by decide +kernel
theorem dX13_all_21 : decode cX13_all 21 = .ok (.iconst 0, 1) := by decide +kernel
theorem dX13_all_22 : decode cX13_all 22 = .ok (.istore 5, 2) := by decide +kernel
theorem dX13_all_24 : decode cX13_all 24 = .ok (.iload 5, 2) := by decide +kernel
theorem dX13_all_26 : decode cX13_all 26 = .ok (.aload_n 0, 1) := by decide +kernel
theorem dX13_all_27 : decode cX13_all 27 = .ok (.getfield 301, 3) := by decide +kernel
theorem dX13_all_30 : decode cX13_all 30 = .ok (.getfield 195, 3) := by decide +kernel
theorem dX13_all_33 : decode cX13_all 33 = .ok (.if_icmp .ge 19, 3) := by decide +kernel
theorem dX13_all_36 : decode cX13_all 36 = .ok (.lload_n 3, 1) := by decide +kernel
theorem dX13_all_37 : decode cX13_all 37 = .ok (.aload_n 0, 1) := by decide +kernel
theorem dX13_all_38 : decode cX13_all 38 = .ok (.iload 5, 2) := by decide +kernel
theorem dX13_all_40 : decode cX13_all 40 = .ok (.iload_n 1, 1) := by decide +kernel
theorem dX13_all_41 : decode cX13_all 41 = .ok (.invokevirtual 371, 3) := by decide +kernel
theorem dX13_all_44 : decode cX13_all 44 = .ok (.ladd, 1) := by decide +kernel
theorem dX13_all_45 : decode cX13_all 45 = .ok (.lstore_n 3, 1) := by decide +kernel
theorem dX13_all_46 : decode cX13_all 46 = .ok (.iinc 5 1, 3) := by decide +kernel
theorem dX13_all_49 : decode cX13_all 49 = .ok (.goto (-25), 3) := by decide +kernel
theorem dX13_all_52 : decode cX13_all 52 = .ok (.aload_n 0, 1) := by decide +kernel
theorem dX13_all_53 : decode cX13_all 53 = .ok (.lload_n 3, 1) := by decide +kernel
theorem dX13_all_54 : decode cX13_all 54 = .ok (.aload_n 0, 1) := by decide +kernel
theorem dX13_all_55 : decode cX13_all 55 = .ok (.invokevirtual 337, 3) := by decide +kernel
theorem dX13_all_58 : decode cX13_all 58 = .ok (.iload_n 2, 1) := by decide +kernel
theorem dX13_all_59 : decode cX13_all 59 = .ok (.invokevirtual 354, 3) := by decide +kernel
theorem dX13_all_62 : decode cX13_all 62 = .ok (.lreturn, 1) := by decide +kernel
theorem dX13_worst_0 : decode cX13_worst 0 = .ok (.aload_n 0, 1) := by decide +kernel
theorem dX13_worst_1 : decode cX13_worst 1 = .ok (.iconst 0, 1) := by decide +kernel
theorem dX13_worst_2 : decode cX13_worst 2 = .ok (.putfield 48, 3) := by decide +kernel
theorem dX13_worst_5 : decode cX13_worst 5 = .ok (.aload_n 0, 1) := by decide +kernel
theorem dX13_worst_6 : decode cX13_worst 6 = .ok (.getfield 301, 3) := by decide +kernel
theorem dX13_worst_9 : decode cX13_worst 9 = .ok (.ifnonnull 9, 3) := by decide +kernel
theorem dX13_worst_12 : decode cX13_worst 12 = .ok (.aload_n 0, 1) := by decide +kernel
theorem dX13_worst_13 : decode cX13_worst 13 = .ok (.iconst 1, 1) := by decide +kernel
theorem dX13_worst_14 : decode cX13_worst 14 = .ok (.invokevirtual 54, 3) := by decide +kernel
theorem dX13_worst_17 : decode cX13_worst 17 = .ok (.ireturn, 1) := by decide +kernel
theorem dX13_worst_18 : decode cX13_worst 18 = .ok (.bipush (-2), 2) := by decide +kernel
theorem dX13_worst_20 : decode cX13_worst 20 = .ok (.istore_n 1, 1) := by decide +kernel
theorem dX13_worst_21 : decode cX13_worst 21 = .ok (.lconst 0, 1) := by decide +kernel
theorem dX13_worst_22 : decode cX13_worst 22 = .ok (.lstore_n 2, 1) := by decide +kernel
theorem dX13_worst_23 : decode cX13_worst 23 = .ok (.iconst 0, 1) := by decide +kernel
theorem dX13_worst_24 : decode cX13_worst 24 = .ok (.istore 4, 2) := by decide +kernel
theorem dX13_worst_26 : decode cX13_worst 26 = .ok (.iload 4, 2) := by decide +kernel
theorem dX13_worst_28 : decode cX13_worst 28 = .ok (.aload_n 0, 1) := by decide +kernel
theorem dX13_worst_29 : decode cX13_worst 29 = .ok (.getfield 301, 3) := by decide +kernel
theorem dX13_worst_32 : decode cX13_worst 32 = .ok (.getfield 195, 3) := by decide +kernel
theorem dX13_worst_35 : decode cX13_worst 35 = .ok (.if_icmp .ge 35, 3) := by decide +kernel
theorem dX13_worst_38 : decode cX13_worst 38 = .ok (.aload_n 0, 1) := by decide +kernel
theorem dX13_worst_39 : decode cX13_worst 39 = .ok (.iload 4, 2) := by decide +kernel
theorem dX13_worst_41 : decode cX13_worst 41 = .ok (.iconst 1, 1) := by decide +kernel
theorem dX13_worst_42 : decode cX13_worst 42 = .ok (.invokevirtual 371, 3) := by decide +kernel
theorem dX13_worst_45 : decode cX13_worst 45 = .ok (.lload_n 2, 1) := by decide +kernel
theorem dX13_worst_46 : decode cX13_worst 46 = .ok (.lcmp, 1) := by decide +kernel
theorem dX13_worst_47 : decode cX13_worst 47 = .ok (.ifCond .gt 6, 3) := by decide +kernel
theorem dX13_worst_50 : decode cX13_worst 50 = .ok (.goto 14, 3) := by decide +kernel
theorem dX13_worst_53 : decode cX13_worst 53 = .ok (.aload_n 0, 1) := by decide +kernel
theorem dX13_worst_54 : decode cX13_worst 54 = .ok (.iload 4, 2) := by decide +kernel
theorem dX13_worst_56 : decode cX13_worst 56 = .ok (.iconst 1, 1) := by decide +kernel
theorem dX13_worst_57 : decode cX13_worst 57 = .ok (.invokevirtual 371, 3) := by decide +kernel
theorem dX13_worst_60 : decode cX13_worst 60 = .ok (.lstore_n 2, 1) := by decide +kernel
theorem dX13_worst_61 : decode cX13_worst 61 = .ok (.iload 4, 2) := by decide +kernel
theorem dX13_worst_63 : decode cX13_worst 63 = .ok (.istore_n 1, 1) := by decide +kernel
theorem dX13_worst_64 : decode cX13_worst 64 = .ok (.iinc 4 1, 3) := by decide +kernel
theorem dX13_worst_67 : decode cX13_worst 67 = .ok (.goto (-41), 3) := by decide +kernel
theorem dX13_worst_70 : decode cX13_worst 70 = .ok (.aload_n 0, 1) := by decide +kernel
theorem dX13_worst_71 : decode cX13_worst 71 = .ok (.iload_n 1, 1) := by decide +kernel
theorem dX13_worst_72 : decode cX13_worst 72 = .ok (.invokevirtual 60, 3) := by decide +kernel
theorem dX13_worst_75 : decode cX13_worst 75 = .ok (.ireturn, 1) := by decide +kernel
theorem dX13_places_0 : decode cX13_places 0 = .ok (.aload_n 0, 1) := by decide +kernel
theorem dX13_places_1 : decode cX13_places 1 = .ok (.ldc2_w 58, 3) := by decide +kernel
theorem dX13_places_4 : decode cX13_places 4 = .ok (.putfield 375, 3) := by decide +kernel
theorem dX13_places_7 : decode cX13_places 7 = .ok (.iconst 0, 1) := by decide +kernel
theorem dX13_places_8 : decode cX13_places 8 = .ok (.istore_n 1, 1) := by decide +kernel
theorem dX13_places_9 : decode cX13_places 9 = .ok (.iload_n 1, 1) := by decide +kernel
theorem dX13_places_10 : decode cX13_places 10 = .ok (.iconst 5, 1) := by decide +kernel
theorem dX13_places_11 : decode cX13_places 11 = .ok (.if_icmp .ge 45, 3) := by decide +kernel
theorem dX13_places_14 : decode cX13_places 14 = .ok (.aload_n 0, 1) := by decide +kernel
theorem dX13_places_15 : decode cX13_places 15 = .ok (.getfield 30, 3) := by decide +kernel
theorem dX13_places_18 : decode cX13_places 18 = .ok (.iload_n 1, 1) := by decide +kernel
theorem dX13_places_19 : decode cX13_places 19 = .ok (.iload_n 1, 1) := by decide +kernel
theorem dX13_places_20 : decode cX13_places 20 = .ok (.aload_n 0, 1) := by decide +kernel
theorem dX13_places_21 : decode cX13_places 21 = .ok (.getfield 301, 3) := by decide +kernel
theorem dX13_places_24 : decode cX13_places 24 = .ok (.getfield 195, 3) := by decide +kernel
theorem dX13_places_27 : decode cX13_places 27 = .ok (.if_icmp .ge 15, 3) := by decide +kernel
theorem dX13_places_30 : decode cX13_places 30 = .ok (.aload_n 0, 1) := by decide +kernel
theorem dX13_places_31 : decode cX13_places 31 = .ok (.iload_n 1, 1) := by decide +kernel
theorem dX13_places_32 : decode cX13_places 32 = .ok (.invokevirtual 310, 3) := by decide +kernel
theorem dX13_places_35 : decode cX13_places 35 = .ok (.ifCond .ne 7, 3) := by decide +kernel
theorem dX13_places_38 : decode cX13_places 38 = .ok (.iconst 0, 1) := by decide +kernel
theorem dX13_places_39 : decode cX13_places 39 = .ok (.goto 10, 3) := by decide +kernel
theorem dX13_places_42 : decode cX13_places 42 = .ok (.aload_n 0, 1) := by decide +kernel
theorem dX13_places_43 : decode cX13_places 43 = .ok (.getfield 301, 3) := by decide +kernel
theorem dX13_places_46 : decode cX13_places 46 = .ok (.getfield 160, 3) := by decide +kernel
theorem dX13_places_49 : decode cX13_places 49 = .ok (.iastore, 1) := by decide +kernel
theorem dX13_places_50 : decode cX13_places 50 = .ok (.iinc 1 1, 3) := by decide +kernel
theorem dX13_places_53 : decode cX13_places 53 = .ok (.goto (-44), 3) := by decide +kernel
theorem dX13_places_56 : decode cX13_places 56 = .ok (.iconst 1, 1) := by decide +kernel
theorem dX13_places_57 : decode cX13_places 57 = .ok (.istore_n 1, 1) := by decide +kernel
theorem dX13_places_58 : decode cX13_places 58 = .ok (.iload_n 1, 1) := by decide +kernel
theorem dX13_places_59 : decode cX13_places 59 = .ok (.ifCond .eq 22, 3) := by decide +kernel
theorem dX13_places_62 : decode cX13_places 62 = .ok (.aload_n 0, 1) := by decide +kernel
theorem dX13_places_63 : decode cX13_places 63 = .ok (.invokevirtual 378, 3) := by decide +kernel
theorem dX13_places_66 : decode cX13_places 66 = .ok (.ifCond .eq 7, 3) := by decide +kernel
theorem dX13_places_69 : decode cX13_places 69 = .ok (.aload_n 0, 1) := by decide +kernel
theorem dX13_places_70 : decode cX13_places 70 = .ok (.invokevirtual 381, 3) := by decide +kernel
theorem dX13_places_73 : decode cX13_places 73 = .ok (.aload_n 0, 1) := by decide +kernel
theorem dX13_places_74 : decode cX13_places 74 = .ok (.invokevirtual 384, 3) := by decide +kernel
theorem dX13_places_77 : decode cX13_places 77 = .ok (.istore_n 1, 1) := by decide +kernel
theorem dX13_places_78 : decode cX13_places 78 = .ok (.goto (-20), 3) := by decide +kernel
theorem dX13_places_81 : decode cX13_places 81 = .ok (.return_, 1) := by decide +kernel
theorem dX13_areUnlike_0 : decode cX13_areUnlike 0 = .ok (.iconst 0, 1) := by decide +kernel
theorem dX13_areUnlike_1 : decode cX13_areUnlike 1 = .ok (.istore_n 1, 1) := by decide +kernel
theorem dX13_areUnlike_2 : decode cX13_areUnlike 2 = .ok (.iconst 0, 1) := by decide +kernel
theorem dX13_areUnlike_3 : decode cX13_areUnlike 3 = .ok (.istore_n 2, 1) := by decide +kernel
theorem dX13_areUnlike_4 : decode cX13_areUnlike 4 = .ok (.iload_n 2, 1) := by decide +kernel
theorem dX13_areUnlike_5 : decode cX13_areUnlike 5 = .ok (.aload_n 0, 1) := by decide +kernel
theorem dX13_areUnlike_6 : decode cX13_areUnlike 6 = .ok (.getfield 301, 3) := by decide +kernel
theorem dX13_areUnlike_9 : decode cX13_areUnlike 9 = .ok (.getfield 195, 3) := by decide +kernel
theorem dX13_areUnlike_12 : decode cX13_areUnlike 12 = .ok (.if_icmp .ge 54, 3) := by decide +kernel
theorem dX13_areUnlike_15 : decode cX13_areUnlike 15 = .ok (.aload_n 0, 1) := by decide +kernel
theorem dX13_areUnlike_16 : decode cX13_areUnlike 16 = .ok (.getfield 30, 3) := by decide +kernel
theorem dX13_areUnlike_19 : decode cX13_areUnlike 19 = .ok (.iload_n 2, 1) := by decide +kernel
theorem dX13_areUnlike_20 : decode cX13_areUnlike 20 = .ok (.iaload, 1) := by decide +kernel
theorem dX13_areUnlike_21 : decode cX13_areUnlike 21 = .ok (.aload_n 0, 1) := by decide +kernel
theorem dX13_areUnlike_22 : decode cX13_areUnlike 22 = .ok (.getfield 301, 3) := by decide +kernel
theorem dX13_areUnlike_25 : decode cX13_areUnlike 25 = .ok (.getfield 160, 3) := by decide +kernel
theorem dX13_areUnlike_28 : decode cX13_areUnlike 28 = .ok (.if_icmp .ne 6, 3) := by decide +kernel
theorem dX13_areUnlike_31 : decode cX13_areUnlike 31 = .ok (.goto 29, 3) := by decide +kernel
theorem dX13_areUnlike_34 : decode cX13_areUnlike 34 = .ok (.iload_n 1, 1) := by decide +kernel
theorem dX13_areUnlike_35 : decode cX13_areUnlike 35 = .ok (.aload_n 0, 1) := by decide +kernel
theorem dX13_areUnlike_36 : decode cX13_areUnlike 36 = .ok (.getfield 30, 3) := by decide +kernel
theorem dX13_areUnlike_39 : decode cX13_areUnlike 39 = .ok (.iload_n 2, 1) := by decide +kernel
theorem dX13_areUnlike_40 : decode cX13_areUnlike 40 = .ok (.iaload, 1) := by decide +kernel
theorem dX13_areUnlike_41 : decode cX13_areUnlike 41 = .ok (.invokestatic 229, 3) := by decide +kernel
theorem dX13_areUnlike_44 : decode cX13_areUnlike 44 = .ok (.ifCond .eq 5, 3) := by decide +kernel
theorem dX13_areUnlike_47 : decode cX13_areUnlike 47 = .ok (.iconst 0, 1) := by decide +kernel
theorem dX13_areUnlike_48 : decode cX13_areUnlike 48 = .ok (.ireturn, 1) := by decide +kernel
theorem dX13_areUnlike_49 : decode cX13_areUnlike 49 = .ok (.iload_n 1, 1) := by decide +kernel
theorem dX13_areUnlike_50 : decode cX13_areUnlike 50 = .ok (.iconst 1, 1) := by decide +kernel
theorem dX13_areUnlike_51 : decode cX13_areUnlike 51 = .ok (.aload_n 0, 1) := by decide +kernel
theorem dX13_areUnlike_52 : decode cX13_areUnlike 52 = .ok (.getfield 30, 3) := by decide +kernel
theorem dX13_areUnlike_55 : decode cX13_areUnlike 55 = .ok (.iload_n 2, 1) := by decide +kernel
theorem dX13_areUnlike_56 : decode cX13_areUnlike 56 = .ok (.iaload, 1) := by decide +kernel
theorem dX13_areUnlike_57 : decode cX13_areUnlike 57 = .ok (.ishl, 1) := by decide +kernel
theorem dX13_areUnlike_58 : decode cX13_areUnlike 58 = .ok (.ior, 1) := by decide +kernel
theorem dX13_areUnlike_59 : decode cX13_areUnlike 59 = .ok (.istore_n 1, 1) := by decide +kernel
theorem dX13_areUnlike_60 : decode cX13_areUnlike 60 = .ok (.iinc 2 1, 3) := by decide +kernel
theorem dX13_areUnlike_63 : decode cX13_areUnlike 63 = .ok (.goto (-59), 3) := by decide +kernel
theorem dX13_areUnlike_66 : decode cX13_areUnlike 66 = .ok (.iconst 1, 1) := by decide +kernel
theorem dX13_areUnlike_67 : decode cX13_areUnlike 67 = .ok (.ireturn, 1) := by decide +kernel
theorem dX13_takesPut_0 : decode cX13_takesPut 0 = .ok (.lconst 0, 1) := by decide +kernel
theorem dX13_takesPut_1 : decode cX13_takesPut 1 = .ok (.lstore_n 1, 1) := by decide +kernel
theorem dX13_takesPut_2 : decode cX13_takesPut 2 = .ok (.iconst 0, 1) := by decide +kernel
theorem dX13_takesPut_3 : decode cX13_takesPut 3 = .ok (.istore_n 3, 1) := by decide +kernel
theorem dX13_takesPut_4 : decode cX13_takesPut 4 = .ok (.iload_n 3, 1) := by decide +kernel
theorem dX13_takesPut_5 : decode cX13_takesPut 5 = .ok (.aload_n 0, 1) := by decide +kernel
theorem dX13_takesPut_6 : decode cX13_takesPut 6 = .ok (.getfield 301, 3) := by decide +kernel
theorem dX13_takesPut_9 : decode cX13_takesPut 9 = .ok (.getfield 195, 3) := by decide +kernel
theorem dX13_takesPut_12 : decode cX13_takesPut 12 = .ok (.if_icmp .ge 43, 3) := by decide +kernel
theorem dX13_takesPut_15 : decode cX13_takesPut 15 = .ok (.lload_n 1, 1) := by decide +kernel
theorem dX13_takesPut_16 : decode cX13_takesPut 16 = .ok (.aload_n 0, 1) := by decide +kernel
theorem dX13_takesPut_17 : decode cX13_takesPut 17 = .ok (.getfield 30, 3) := by decide +kernel
theorem dX13_takesPut_20 : decode cX13_takesPut 20 = .ok (.iload_n 3, 1) := by decide +kernel
theorem dX13_takesPut_21 : decode cX13_takesPut 21 = .ok (.iaload, 1) := by decide +kernel
theorem dX13_takesPut_22 : decode cX13_takesPut 22 = .ok (.aload_n 0, 1) := by decide +kernel
theorem dX13_takesPut_23 : decode cX13_takesPut 23 = .ok (.getfield 301, 3) := by decide +kernel
theorem dX13_takesPut_26 : decode cX13_takesPut 26 = .ok (.getfield 160, 3) := by decide +kernel
theorem dX13_takesPut_29 : decode cX13_takesPut 29 = .ok (.if_icmp .ne 7, 3) := by decide +kernel
theorem dX13_takesPut_32 : decode cX13_takesPut 32 = .ok (.lconst 0, 1) := by decide +kernel
theorem dX13_takesPut_33 : decode cX13_takesPut 33 = .ok (.goto 14, 3) := by decide +kernel
theorem dX13_takesPut_36 : decode cX13_takesPut 36 = .ok (.aload_n 0, 1) := by decide +kernel
theorem dX13_takesPut_37 : decode cX13_takesPut 37 = .ok (.iload_n 3, 1) := by decide +kernel
theorem dX13_takesPut_38 : decode cX13_takesPut 38 = .ok (.aload_n 0, 1) := by decide +kernel
theorem dX13_takesPut_39 : decode cX13_takesPut 39 = .ok (.getfield 30, 3) := by decide +kernel
theorem dX13_takesPut_42 : decode cX13_takesPut 42 = .ok (.iload_n 3, 1) := by decide +kernel
theorem dX13_takesPut_43 : decode cX13_takesPut 43 = .ok (.iaload, 1) := by decide +kernel
theorem dX13_takesPut_44 : decode cX13_takesPut 44 = .ok (.invokevirtual 361, 3) := by decide +kernel
theorem dX13_takesPut_47 : decode cX13_takesPut 47 = .ok (.ladd, 1) := by decide +kernel
theorem dX13_takesPut_48 : decode cX13_takesPut 48 = .ok (.lstore_n 1, 1) := by decide +kernel
theorem dX13_takesPut_49 : decode cX13_takesPut 49 = .ok (.iinc 3 1, 3) := by decide +kernel
theorem dX13_takesPut_52 : decode cX13_takesPut 52 = .ok (.goto (-48), 3) := by decide +kernel
theorem dX13_takesPut_55 : decode cX13_takesPut 55 = .ok (.lload_n 1, 1) := by decide +kernel
theorem dX13_takesPut_56 : decode cX13_takesPut 56 = .ok (.aload_n 0, 1) := by decide +kernel
theorem dX13_takesPut_57 : decode cX13_takesPut 57 = .ok (.getfield 375, 3) := by decide +kernel
theorem dX13_takesPut_60 : decode cX13_takesPut 60 = .ok (.lcmp, 1) := by decide +kernel
theorem dX13_takesPut_61 : decode cX13_takesPut 61 = .ok (.ifCond .gt 4, 3) := by decide +kernel
theorem dX13_takesPut_64 : decode cX13_takesPut 64 = .ok (.return_, 1) := by decide +kernel
theorem dX13_takesPut_65 : decode cX13_takesPut 65 = .ok (.aload_n 0, 1) := by decide +kernel
theorem dX13_takesPut_66 : decode cX13_takesPut 66 = .ok (.lload_n 1, 1) := by decide +kernel
theorem dX13_takesPut_67 : decode cX13_takesPut 67 = .ok (.putfield 375, 3) := by decide +kernel
theorem dX13_takesPut_70 : decode cX13_takesPut 70 = .ok (.iconst 0, 1) := by decide +kernel
theorem dX13_takesPut_71 : decode cX13_takesPut 71 = .ok (.istore_n 3, 1) := by decide +kernel
theorem dX13_takesPut_72 : decode cX13_takesPut 72 = .ok (.iload_n 3, 1) := by decide +kernel
theorem dX13_takesPut_73 : decode cX13_takesPut 73 = .ok (.iconst 5, 1) := by decide +kernel
theorem dX13_takesPut_74 : decode cX13_takesPut 74 = .ok (.if_icmp .ge 21, 3) := by decide +kernel
theorem dX13_takesPut_77 : decode cX13_takesPut 77 = .ok (.aload_n 0, 1) := by decide +kernel
theorem dX13_takesPut_78 : decode cX13_takesPut 78 = .ok (.getfield 33, 3) := by decide +kernel
theorem dX13_takesPut_81 : decode cX13_takesPut 81 = .ok (.iload_n 3, 1) := by decide +kernel
theorem dX13_takesPut_82 : decode cX13_takesPut 82 = .ok (.aload_n 0, 1) := by decide +kernel
theorem dX13_takesPut_83 : decode cX13_takesPut 83 = .ok (.getfield 30, 3) := by decide +kernel
theorem dX13_takesPut_86 : decode cX13_takesPut 86 = .ok (.iload_n 3, 1) := by decide +kernel
theorem dX13_takesPut_87 : decode cX13_takesPut 87 = .ok (.iaload, 1) := by decide +kernel
theorem dX13_takesPut_88 : decode cX13_takesPut 88 = .ok (.iastore, 1) := by decide +kernel
theorem dX13_takesPut_89 : decode cX13_takesPut 89 = .ok (.iinc 3 1, 3) := by decide +kernel
theorem dX13_takesPut_92 : decode cX13_takesPut 92 = .ok (.goto (-20), 3) := by decide +kernel
theorem dX13_takesPut_95 : decode cX13_takesPut 95 = .ok (.return_, 1) := by decide +kernel
theorem dX13_nextPut_0 : decode cX13_nextPut 0 = .ok (.aload_n 0, 1) := by decide +kernel
theorem dX13_nextPut_1 : decode cX13_nextPut 1 = .ok (.getfield 301, 3) := by decide +kernel
theorem dX13_nextPut_4 : decode cX13_nextPut 4 = .ok (.getfield 195, 3) := by decide +kernel
theorem dX13_nextPut_7 : decode cX13_nextPut 7 = .ok (.iconst 1, 1) := by decide +kernel
theorem dX13_nextPut_8 : decode cX13_nextPut 8 = .ok (.isub, 1) := by decide +kernel
theorem dX13_nextPut_9 : decode cX13_nextPut 9 = .ok (.istore_n 1, 1) := by decide +kernel
theorem dX13_nextPut_10 : decode cX13_nextPut 10 = .ok (.iload_n 1, 1) := by decide +kernel
theorem dX13_nextPut_11 : decode cX13_nextPut 11 = .ok (.ifCond .lt 55, 3) := by decide +kernel
theorem dX13_nextPut_14 : decode cX13_nextPut 14 = .ok (.aload_n 0, 1) := by decide +kernel
theorem dX13_nextPut_15 : decode cX13_nextPut 15 = .ok (.iload_n 1, 1) := by decide +kernel
theorem dX13_nextPut_16 : decode cX13_nextPut 16 = .ok (.invokevirtual 310, 3) := by decide +kernel
theorem dX13_nextPut_19 : decode cX13_nextPut 19 = .ok (.ifCond .eq 6, 3) := by decide +kernel
theorem dX13_nextPut_22 : decode cX13_nextPut 22 = .ok (.goto 38, 3) := by decide +kernel
theorem dX13_nextPut_25 : decode cX13_nextPut 25 = .ok (.aload_n 0, 1) := by decide +kernel
theorem dX13_nextPut_26 : decode cX13_nextPut 26 = .ok (.getfield 30, 3) := by decide +kernel
theorem dX13_nextPut_29 : decode cX13_nextPut 29 = .ok (.iload_n 1, 1) := by decide +kernel
theorem dX13_nextPut_30 : decode cX13_nextPut 30 = .ok (.dup2, 1) := by decide +kernel
theorem dX13_nextPut_31 : decode cX13_nextPut 31 = .ok (.iaload, 1) := by decide +kernel
theorem dX13_nextPut_32 : decode cX13_nextPut 32 = .ok (.iconst 1, 1) := by decide +kernel
theorem dX13_nextPut_33 : decode cX13_nextPut 33 = .ok (.iadd, 1) := by decide +kernel
theorem dX13_nextPut_34 : decode cX13_nextPut 34 = .ok (.iastore, 1) := by decide +kernel
theorem dX13_nextPut_35 : decode cX13_nextPut 35 = .ok (.aload_n 0, 1) := by decide +kernel
theorem dX13_nextPut_36 : decode cX13_nextPut 36 = .ok (.getfield 30, 3) := by decide +kernel
theorem dX13_nextPut_39 : decode cX13_nextPut 39 = .ok (.iload_n 1, 1) := by decide +kernel
theorem dX13_nextPut_40 : decode cX13_nextPut 40 = .ok (.iaload, 1) := by decide +kernel
theorem dX13_nextPut_41 : decode cX13_nextPut 41 = .ok (.aload_n 0, 1) := by decide +kernel
theorem dX13_nextPut_42 : decode cX13_nextPut 42 = .ok (.getfield 301, 3) := by decide +kernel
theorem dX13_nextPut_45 : decode cX13_nextPut 45 = .ok (.getfield 160, 3) := by decide +kernel
theorem dX13_nextPut_48 : decode cX13_nextPut 48 = .ok (.if_icmp .gt 5, 3) := by decide +kernel
theorem dX13_nextPut_51 : decode cX13_nextPut 51 = .ok (.iconst 1, 1) := by decide +kernel
theorem dX13_nextPut_52 : decode cX13_nextPut 52 = .ok (.ireturn, 1) := by decide +kernel
theorem dX13_nextPut_53 : decode cX13_nextPut 53 = .ok (.aload_n 0, 1) := by decide +kernel
theorem dX13_nextPut_54 : decode cX13_nextPut 54 = .ok (.getfield 30, 3) := by decide +kernel
theorem dX13_nextPut_57 : decode cX13_nextPut 57 = .ok (.iload_n 1, 1) := by decide +kernel
theorem dX13_nextPut_58 : decode cX13_nextPut 58 = .ok (.iconst 0, 1) := by decide +kernel
theorem dX13_nextPut_59 : decode cX13_nextPut 59 = .ok (.iastore, 1) := by decide +kernel
theorem dX13_nextPut_60 : decode cX13_nextPut 60 = .ok (.iinc 1 (-1), 3) := by decide +kernel
theorem dX13_nextPut_63 : decode cX13_nextPut 63 = .ok (.goto (-53), 3) := by decide +kernel
theorem dX13_nextPut_66 : decode cX13_nextPut 66 = .ok (.iconst 0, 1) := by decide +kernel
theorem dX13_nextPut_67 : decode cX13_nextPut 67 = .ok (.ireturn, 1) := by decide +kernel
theorem dX13_place_0 : decode cX13_place 0 = .ok (.aload_n 0, 1) := by decide +kernel
theorem dX13_place_1 : decode cX13_place 1 = .ok (.iconst 0, 1) := by decide +kernel
theorem dX13_place_2 : decode cX13_place 2 = .ok (.putfield 48, 3) := by decide +kernel
theorem dX13_place_5 : decode cX13_place 5 = .ok (.aload_n 0, 1) := by decide +kernel
theorem dX13_place_6 : decode cX13_place 6 = .ok (.iload_n 1, 1) := by decide +kernel
theorem dX13_place_7 : decode cX13_place 7 = .ok (.invokevirtual 351, 3) := by decide +kernel
theorem dX13_place_10 : decode cX13_place 10 = .ok (.ifCond .ne 9, 3) := by decide +kernel
theorem dX13_place_13 : decode cX13_place 13 = .ok (.aload_n 0, 1) := by decide +kernel
theorem dX13_place_14 : decode cX13_place 14 = .ok (.iconst 1, 1) := by decide +kernel
theorem dX13_place_15 : decode cX13_place 15 = .ok (.invokevirtual 54, 3) := by decide +kernel
theorem dX13_place_18 : decode cX13_place 18 = .ok (.ireturn, 1) := by decide +kernel
theorem dX13_place_19 : decode cX13_place 19 = .ok (.aload_n 0, 1) := by decide +kernel
theorem dX13_place_20 : decode cX13_place 20 = .ok (.invokevirtual 387, 3) := by decide +kernel
theorem dX13_place_23 : decode cX13_place 23 = .ok (.aload_n 0, 1) := by decide +kernel
theorem dX13_place_24 : decode cX13_place 24 = .ok (.aload_n 0, 1) := by decide +kernel
theorem dX13_place_25 : decode cX13_place 25 = .ok (.getfield 33, 3) := by decide +kernel
theorem dX13_place_28 : decode cX13_place 28 = .ok (.iload_n 1, 1) := by decide +kernel
theorem dX13_place_29 : decode cX13_place 29 = .ok (.iaload, 1) := by decide +kernel
theorem dX13_place_30 : decode cX13_place 30 = .ok (.aload_n 0, 1) := by decide +kernel
theorem dX13_place_31 : decode cX13_place 31 = .ok (.getfield 301, 3) := by decide +kernel
theorem dX13_place_34 : decode cX13_place 34 = .ok (.getfield 160, 3) := by decide +kernel
theorem dX13_place_37 : decode cX13_place 37 = .ok (.if_icmp .ne 8, 3) := by decide +kernel
theorem dX13_place_40 : decode cX13_place 40 = .ok (.bipush (-2), 2) := by decide +kernel
theorem dX13_place_42 : decode cX13_place 42 = .ok (.goto 9, 3) := by decide +kernel
theorem dX13_place_45 : decode cX13_place 45 = .ok (.aload_n 0, 1) := by decide +kernel
theorem dX13_place_46 : decode cX13_place 46 = .ok (.getfield 33, 3) := by decide +kernel
theorem dX13_place_49 : decode cX13_place 49 = .ok (.iload_n 1, 1) := by decide +kernel
theorem dX13_place_50 : decode cX13_place 50 = .ok (.iaload, 1) := by decide +kernel
theorem dX13_place_51 : decode cX13_place 51 = .ok (.invokevirtual 60, 3) := by decide +kernel
theorem dX13_place_54 : decode cX13_place 54 = .ok (.ireturn, 1) := by decide +kernel
theorem dX13_placed_0 : decode cX13_placed 0 = .ok (.aload_n 0, 1) := by decide +kernel
theorem dX13_placed_1 : decode cX13_placed 1 = .ok (.iconst 0, 1) := by decide +kernel
theorem dX13_placed_2 : decode cX13_placed 2 = .ok (.putfield 48, 3) := by decide +kernel
theorem dX13_placed_5 : decode cX13_placed 5 = .ok (.aload_n 0, 1) := by decide +kernel
theorem dX13_placed_6 : decode cX13_placed 6 = .ok (.getfield 301, 3) := by decide +kernel
theorem dX13_placed_9 : decode cX13_placed 9 = .ok (.ifnonnull 9, 3) := by decide +kernel
theorem dX13_placed_12 : decode cX13_placed 12 = .ok (.aload_n 0, 1) := by decide +kernel
theorem dX13_placed_13 : decode cX13_placed 13 = .ok (.iconst 1, 1) := by decide +kernel
theorem dX13_placed_14 : decode cX13_placed 14 = .ok (.invokevirtual 365, 3) := by decide +kernel
theorem dX13_placed_17 : decode cX13_placed 17 = .ok (.lreturn, 1) := by decide +kernel
theorem dX13_placed_18 : decode cX13_placed 18 = .ok (.aload_n 0, 1) := by decide +kernel
theorem dX13_placed_19 : decode cX13_placed 19 = .ok (.invokevirtual 387, 3) := by decide +kernel
theorem dX13_placed_22 : decode cX13_placed 22 = .ok (.aload_n 0, 1) := by decide +kernel
theorem dX13_placed_23 : decode cX13_placed 23 = .ok (.aload_n 0, 1) := by decide +kernel
theorem dX13_placed_24 : decode cX13_placed 24 = .ok (.getfield 375, 3) := by decide +kernel
theorem dX13_placed_27 : decode cX13_placed 27 = .ok (.aload_n 0, 1) := by decide +kernel
theorem dX13_placed_28 : decode cX13_placed 28 = .ok (.invokevirtual 337, 3) := by decide +kernel
theorem dX13_placed_31 : decode cX13_placed 31 = .ok (.iload_n 1, 1) := by decide +kernel
theorem dX13_placed_32 : decode cX13_placed 32 = .ok (.invokevirtual 354, 3) := by decide +kernel
theorem dX13_placed_35 : decode cX13_placed 35 = .ok (.lreturn, 1) := by decide +kernel
theorem dX13_out_0 : decode cX13_out 0 = .ok (.aload_n 0, 1) := by decide +kernel
theorem dX13_out_1 : decode cX13_out 1 = .ok (.iconst 0, 1) := by decide +kernel
theorem dX13_out_2 : decode cX13_out 2 = .ok (.putfield 48, 3) := by decide +kernel
theorem dX13_out_5 : decode cX13_out 5 = .ok (.aload_n 0, 1) := by decide +kernel
theorem dX13_out_6 : decode cX13_out 6 = .ok (.getfield 301, 3) := by decide +kernel
theorem dX13_out_9 : decode cX13_out 9 = .ok (.ifnonnull 9, 3) := by decide +kernel
theorem dX13_out_12 : decode cX13_out 12 = .ok (.aload_n 0, 1) := by decide +kernel
theorem dX13_out_13 : decode cX13_out 13 = .ok (.iconst 1, 1) := by decide +kernel
theorem dX13_out_14 : decode cX13_out 14 = .ok (.invokevirtual 54, 3) := by decide +kernel
theorem dX13_out_17 : decode cX13_out 17 = .ok (.ireturn, 1) := by decide +kernel
theorem dX13_out_18 : decode cX13_out 18 = .ok (.aload_n 0, 1) := by decide +kernel
theorem dX13_out_19 : decode cX13_out 19 = .ok (.invokevirtual 387, 3) := by decide +kernel
theorem dX13_out_22 : decode cX13_out 22 = .ok (.iconst 0, 1) := by decide +kernel
theorem dX13_out_23 : decode cX13_out 23 = .ok (.istore_n 1, 1) := by decide +kernel
theorem dX13_out_24 : decode cX13_out 24 = .ok (.iconst 0, 1) := by decide +kernel
theorem dX13_out_25 : decode cX13_out 25 = .ok (.istore_n 2, 1) := by decide +kernel
theorem dX13_out_26 : decode cX13_out 26 = .ok (.iload_n 2, 1) := by decide +kernel
theorem dX13_out_27 : decode cX13_out 27 = .ok (.aload_n 0, 1) := by decide +kernel
theorem dX13_out_28 : decode cX13_out 28 = .ok (.getfield 301, 3) := by decide +kernel
theorem dX13_out_31 : decode cX13_out 31 = .ok (.getfield 195, 3) := by decide +kernel
theorem dX13_out_34 : decode cX13_out 34 = .ok (.if_icmp .ge 41, 3) := by decide +kernel
theorem dX13_out_37 : decode cX13_out 37 = .ok (.iload_n 1, 1) := by decide +kernel
theorem dX13_out_38 : decode cX13_out 38 = .ok (.aload_n 0, 1) := by decide +kernel
theorem dX13_out_39 : decode cX13_out 39 = .ok (.iload_n 2, 1) := by decide +kernel
theorem dX13_out_40 : decode cX13_out 40 = .ok (.invokevirtual 310, 3) := by decide +kernel
theorem dX13_out_43 : decode cX13_out 43 = .ok (.ifCond .ne 23, 3) := by decide +kernel
theorem dX13_out_46 : decode cX13_out 46 = .ok (.aload_n 0, 1) := by decide +kernel
theorem dX13_out_47 : decode cX13_out 47 = .ok (.getfield 33, 3) := by decide +kernel
theorem dX13_out_50 : decode cX13_out 50 = .ok (.iload_n 2, 1) := by decide +kernel
theorem dX13_out_51 : decode cX13_out 51 = .ok (.iaload, 1) := by decide +kernel
theorem dX13_out_52 : decode cX13_out 52 = .ok (.aload_n 0, 1) := by decide +kernel
theorem dX13_out_53 : decode cX13_out 53 = .ok (.getfield 301, 3) := by decide +kernel
theorem dX13_out_56 : decode cX13_out 56 = .ok (.getfield 160, 3) := by decide +kernel
theorem dX13_out_59 : decode cX13_out 59 = .ok (.if_icmp .ne 7, 3) := by decide +kernel
theorem dX13_out_62 : decode cX13_out 62 = .ok (.iconst 1, 1) := by decide +kernel
theorem dX13_out_63 : decode cX13_out 63 = .ok (.goto 4, 3) := by decide +kernel
theorem dX13_out_66 : decode cX13_out 66 = .ok (.iconst 0, 1) := by decide +kernel
theorem dX13_out_67 : decode cX13_out 67 = .ok (.iadd, 1) := by decide +kernel
theorem dX13_out_68 : decode cX13_out 68 = .ok (.istore_n 1, 1) := by decide +kernel
theorem dX13_out_69 : decode cX13_out 69 = .ok (.iinc 2 1, 3) := by decide +kernel
theorem dX13_out_72 : decode cX13_out 72 = .ok (.goto (-46), 3) := by decide +kernel
theorem dX13_out_75 : decode cX13_out 75 = .ok (.aload_n 0, 1) := by decide +kernel
theorem dX13_out_76 : decode cX13_out 76 = .ok (.iload_n 1, 1) := by decide +kernel
theorem dX13_out_77 : decode cX13_out 77 = .ok (.invokevirtual 60, 3) := by decide +kernel
theorem dX13_out_80 : decode cX13_out 80 = .ok (.ireturn, 1) := by decide +kernel
theorem dX13_sumOpen_0 : decode cX13_sumOpen 0 = .ok (.lconst 0, 1) := by decide +kernel
theorem dX13_sumOpen_1 : decode cX13_sumOpen 1 = .ok (.lstore_n 2, 1) := by decide +kernel
theorem dX13_sumOpen_2 : decode cX13_sumOpen 2 = .ok (.iconst 0, 1) := by decide +kernel
theorem dX13_sumOpen_3 : decode cX13_sumOpen 3 = .ok (.istore 4, 2) := by decide +kernel
theorem dX13_sumOpen_5 : decode cX13_sumOpen 5 = .ok (.iload 4, 2) := by decide +kernel
theorem dX13_sumOpen_7 : decode cX13_sumOpen 7 = .ok (.aload_n 0, 1) := by decide +kernel
theorem dX13_sumOpen_8 : decode cX13_sumOpen 8 = .ok (.getfield 301, 3) := by decide +kernel
theorem dX13_sumOpen_11 : decode cX13_sumOpen 11 = .ok (.getfield 195, 3) := by decide +kernel
theorem dX13_sumOpen_14 : decode cX13_sumOpen 14 = .ok (.if_icmp .ge 51, 3) := by decide +kernel
theorem dX13_sumOpen_17 : decode cX13_sumOpen 17 = .ok (.lload_n 2, 1) := by decide +kernel
theorem dX13_sumOpen_18 : decode cX13_sumOpen 18 = .ok (.aload_n 0, 1) := by decide +kernel
theorem dX13_sumOpen_19 : decode cX13_sumOpen 19 = .ok (.getfield 17, 3) := by decide +kernel
theorem dX13_sumOpen_22 : decode cX13_sumOpen 22 = .ok (.iconst 0, 1) := by decide +kernel
theorem dX13_sumOpen_23 : decode cX13_sumOpen 23 = .ok (.iload 4, 2) := by decide +kernel
theorem dX13_sumOpen_25 : decode cX13_sumOpen 25 = .ok (.iadd, 1) := by decide +kernel
theorem dX13_sumOpen_26 : decode cX13_sumOpen 26 = .ok (.iaload, 1) := by decide +kernel
theorem dX13_sumOpen_27 : decode cX13_sumOpen 27 = .ok (.iload_n 1, 1) := by decide +kernel
theorem dX13_sumOpen_28 : decode cX13_sumOpen 28 = .ok (.if_icmp .ne 14, 3) := by decide +kernel
theorem dX13_sumOpen_31 : decode cX13_sumOpen 31 = .ok (.aload_n 0, 1) := by decide +kernel
theorem dX13_sumOpen_32 : decode cX13_sumOpen 32 = .ok (.iload 4, 2) := by decide +kernel
theorem dX13_sumOpen_34 : decode cX13_sumOpen 34 = .ok (.iconst 0, 1) := by decide +kernel
theorem dX13_sumOpen_35 : decode cX13_sumOpen 35 = .ok (.iconst 0, 1) := by decide +kernel
theorem dX13_sumOpen_36 : decode cX13_sumOpen 36 = .ok (.invokevirtual 344, 3) := by decide +kernel
theorem dX13_sumOpen_39 : decode cX13_sumOpen 39 = .ok (.goto 18, 3) := by decide +kernel
theorem dX13_sumOpen_42 : decode cX13_sumOpen 42 = .ok (.aload_n 0, 1) := by decide +kernel
theorem dX13_sumOpen_43 : decode cX13_sumOpen 43 = .ok (.iload 4, 2) := by decide +kernel
theorem dX13_sumOpen_45 : decode cX13_sumOpen 45 = .ok (.aload_n 0, 1) := by decide +kernel
theorem dX13_sumOpen_46 : decode cX13_sumOpen 46 = .ok (.getfield 17, 3) := by decide +kernel
theorem dX13_sumOpen_49 : decode cX13_sumOpen 49 = .ok (.iconst 0, 1) := by decide +kernel
theorem dX13_sumOpen_50 : decode cX13_sumOpen 50 = .ok (.iload 4, 2) := by decide +kernel
theorem dX13_sumOpen_52 : decode cX13_sumOpen 52 = .ok (.iadd, 1) := by decide +kernel
theorem dX13_sumOpen_53 : decode cX13_sumOpen 53 = .ok (.iaload, 1) := by decide +kernel
theorem dX13_sumOpen_54 : decode cX13_sumOpen 54 = .ok (.invokevirtual 361, 3) := by decide +kernel
theorem dX13_sumOpen_57 : decode cX13_sumOpen 57 = .ok (.ladd, 1) := by decide +kernel
theorem dX13_sumOpen_58 : decode cX13_sumOpen 58 = .ok (.lstore_n 2, 1) := by decide +kernel
theorem dX13_sumOpen_59 : decode cX13_sumOpen 59 = .ok (.iinc 4 1, 3) := by decide +kernel
theorem dX13_sumOpen_62 : decode cX13_sumOpen 62 = .ok (.goto (-57), 3) := by decide +kernel
theorem dX13_sumOpen_65 : decode cX13_sumOpen 65 = .ok (.lload_n 2, 1) := by decide +kernel
theorem dX13_sumOpen_66 : decode cX13_sumOpen 66 = .ok (.lreturn, 1) := by decide +kernel
theorem dX13_toOpen_0 : decode cX13_toOpen 0 = .ok (.aload_n 0, 1) := by decide +kernel
theorem dX13_toOpen_1 : decode cX13_toOpen 1 = .ok (.iconst 0, 1) := by decide +kernel
theorem dX13_toOpen_2 : decode cX13_toOpen 2 = .ok (.putfield 48, 3) := by decide +kernel
theorem dX13_toOpen_5 : decode cX13_toOpen 5 = .ok (.aload_n 0, 1) := by decide +kernel
theorem dX13_toOpen_6 : decode cX13_toOpen 6 = .ok (.getfield 301, 3) := by decide +kernel
theorem dX13_toOpen_9 : decode cX13_toOpen 9 = .ok (.ifnonnull 9, 3) := by decide +kernel
theorem dX13_toOpen_12 : decode cX13_toOpen 12 = .ok (.aload_n 0, 1) := by decide +kernel
theorem dX13_toOpen_13 : decode cX13_toOpen 13 = .ok (.iconst 1, 1) := by decide +kernel
theorem dX13_toOpen_14 : decode cX13_toOpen 14 = .ok (.invokevirtual 54, 3) := by decide +kernel
theorem dX13_toOpen_17 : decode cX13_toOpen 17 = .ok (.ireturn, 1) := by decide +kernel
theorem dX13_toOpen_18 : decode cX13_toOpen 18 = .ok (.bipush (-2), 2) := by decide +kernel
theorem dX13_toOpen_20 : decode cX13_toOpen 20 = .ok (.istore_n 1, 1) := by decide +kernel
theorem dX13_toOpen_21 : decode cX13_toOpen 21 = .ok (.aload_n 0, 1) := by decide +kernel
theorem dX13_toOpen_22 : decode cX13_toOpen 22 = .ok (.iconst (-1), 1) := by decide +kernel
theorem dX13_toOpen_23 : decode cX13_toOpen 23 = .ok (.invokevirtual 390, 3) := by decide +kernel
theorem dX13_toOpen_26 : decode cX13_toOpen 26 = .ok (.lstore_n 2, 1) := by decide +kernel
theorem dX13_toOpen_27 : decode cX13_toOpen 27 = .ok (.iconst 0, 1) := by decide +kernel
theorem dX13_toOpen_28 : decode cX13_toOpen 28 = .ok (.istore 4, 2) := by decide +kernel
theorem dX13_toOpen_30 : decode cX13_toOpen 30 = .ok (.iload 4, 2) := by decide +kernel
theorem dX13_toOpen_32 : decode cX13_toOpen 32 = .ok (.aload_n 0, 1) := by decide +kernel
theorem dX13_toOpen_33 : decode cX13_toOpen 33 = .ok (.getfield 301, 3) := by decide +kernel
theorem dX13_toOpen_36 : decode cX13_toOpen 36 = .ok (.getfield 160, 3) := by decide +kernel
theorem dX13_toOpen_39 : decode cX13_toOpen 39 = .ok (.if_icmp .ge 33, 3) := by decide +kernel
theorem dX13_toOpen_42 : decode cX13_toOpen 42 = .ok (.aload_n 0, 1) := by decide +kernel
theorem dX13_toOpen_43 : decode cX13_toOpen 43 = .ok (.iload 4, 2) := by decide +kernel
theorem dX13_toOpen_45 : decode cX13_toOpen 45 = .ok (.invokevirtual 390, 3) := by decide +kernel
theorem dX13_toOpen_48 : decode cX13_toOpen 48 = .ok (.lload_n 2, 1) := by decide +kernel
theorem dX13_toOpen_49 : decode cX13_toOpen 49 = .ok (.lcmp, 1) := by decide +kernel
theorem dX13_toOpen_50 : decode cX13_toOpen 50 = .ok (.ifCond .lt 6, 3) := by decide +kernel
theorem dX13_toOpen_53 : decode cX13_toOpen 53 = .ok (.goto 13, 3) := by decide +kernel
theorem dX13_toOpen_56 : decode cX13_toOpen 56 = .ok (.aload_n 0, 1) := by decide +kernel
theorem dX13_toOpen_57 : decode cX13_toOpen 57 = .ok (.iload 4, 2) := by decide +kernel
theorem dX13_toOpen_59 : decode cX13_toOpen 59 = .ok (.invokevirtual 390, 3) := by decide +kernel
theorem dX13_toOpen_62 : decode cX13_toOpen 62 = .ok (.lstore_n 2, 1) := by decide +kernel
theorem dX13_toOpen_63 : decode cX13_toOpen 63 = .ok (.iload 4, 2) := by decide +kernel
theorem dX13_toOpen_65 : decode cX13_toOpen 65 = .ok (.istore_n 1, 1) := by decide +kernel
theorem dX13_toOpen_66 : decode cX13_toOpen 66 = .ok (.iinc 4 1, 3) := by decide +kernel
theorem dX13_toOpen_69 : decode cX13_toOpen 69 = .ok (.goto (-39), 3) := by decide +kernel
theorem dX13_toOpen_72 : decode cX13_toOpen 72 = .ok (.aload_n 0, 1) := by decide +kernel
theorem dX13_toOpen_73 : decode cX13_toOpen 73 = .ok (.iload_n 1, 1) := by decide +kernel
theorem dX13_toOpen_74 : decode cX13_toOpen 74 = .ok (.invokevirtual 60, 3) := by decide +kernel
theorem dX13_toOpen_77 : decode cX13_toOpen 77 = .ok (.ireturn, 1) := by decide +kernel
theorem dX13_gameOf_0 : decode cX13_gameOf 0 = .ok (.iload_n 2, 1) := by decide +kernel
theorem dX13_gameOf_1 : decode cX13_gameOf 1 = .ok (.iload_n 3, 1) := by decide +kernel
theorem dX13_gameOf_2 : decode cX13_gameOf 2 = .ok (.if_icmp .ne 13, 3) := by decide +kernel
theorem dX13_gameOf_5 : decode cX13_gameOf 5 = .ok (.aload_n 0, 1) := by decide +kernel
theorem dX13_gameOf_6 : decode cX13_gameOf 6 = .ok (.iload_n 1, 1) := by decide +kernel
theorem dX13_gameOf_7 : decode cX13_gameOf 7 = .ok (.iconst 0, 1) := by decide +kernel
theorem dX13_gameOf_8 : decode cX13_gameOf 8 = .ok (.iconst 0, 1) := by decide +kernel
theorem dX13_gameOf_9 : decode cX13_gameOf 9 = .ok (.invokevirtual 344, 3) := by decide +kernel
theorem dX13_gameOf_12 : decode cX13_gameOf 12 = .ok (.goto 9, 3) := by decide +kernel
theorem dX13_gameOf_15 : decode cX13_gameOf 15 = .ok (.aload_n 0, 1) := by decide +kernel
theorem dX13_gameOf_16 : decode cX13_gameOf 16 = .ok (.iload_n 1, 1) := by decide +kernel
theorem dX13_gameOf_17 : decode cX13_gameOf 17 = .ok (.iload_n 2, 1) := by decide +kernel
theorem dX13_gameOf_18 : decode cX13_gameOf 18 = .ok (.invokevirtual 361, 3) := by decide +kernel
theorem dX13_gameOf_21 : decode cX13_gameOf 21 = .ok (.lreturn, 1) := by decide +kernel
theorem dX13_isRest_0 : decode cX13_isRest 0 = .ok (.iconst 0, 1) := by decide +kernel
theorem dX13_isRest_1 : decode cX13_isRest 1 = .ok (.istore 4, 2) := by decide +kernel
theorem dX13_isRest_3 : decode cX13_isRest 3 = .ok (.iload 4, 2) := by decide +kernel
theorem dX13_isRest_5 : decode cX13_isRest 5 = .ok (.aload_n 0, 1) := by decide +kernel
theorem dX13_isRest_6 : decode cX13_isRest 6 = .ok (.getfield 301, 3) := by decide +kernel
theorem dX13_isRest_9 : decode cX13_isRest 9 = .ok (.getfield 160, 3) := by decide +kernel
theorem dX13_isRest_12 : decode cX13_isRest 12 = .ok (.if_icmp .ge 51, 3) := by decide +kernel
theorem dX13_isRest_15 : decode cX13_isRest 15 = .ok (.aload_n 0, 1) := by decide +kernel
theorem dX13_isRest_16 : decode cX13_isRest 16 = .ok (.iload_n 1, 1) := by decide +kernel
theorem dX13_isRest_17 : decode cX13_isRest 17 = .ok (.iload 4, 2) := by decide +kernel
theorem dX13_isRest_19 : decode cX13_isRest 19 = .ok (.iload_n 3, 1) := by decide +kernel
theorem dX13_isRest_20 : decode cX13_isRest 20 = .ok (.invokevirtual 393, 3) := by decide +kernel
theorem dX13_isRest_23 : decode cX13_isRest 23 = .ok (.aload_n 0, 1) := by decide +kernel
theorem dX13_isRest_24 : decode cX13_isRest 24 = .ok (.iload_n 1, 1) := by decide +kernel
theorem dX13_isRest_25 : decode cX13_isRest 25 = .ok (.iload_n 2, 1) := by decide +kernel
theorem dX13_isRest_26 : decode cX13_isRest 26 = .ok (.iload_n 3, 1) := by decide +kernel
theorem dX13_isRest_27 : decode cX13_isRest 27 = .ok (.invokevirtual 393, 3) := by decide +kernel
theorem dX13_isRest_30 : decode cX13_isRest 30 = .ok (.lcmp, 1) := by decide +kernel
theorem dX13_isRest_31 : decode cX13_isRest 31 = .ok (.ifCond .le 5, 3) := by decide +kernel
theorem dX13_isRest_34 : decode cX13_isRest 34 = .ok (.iconst 0, 1) := by decide +kernel
theorem dX13_isRest_35 : decode cX13_isRest 35 = .ok (.ireturn, 1) := by decide +kernel
theorem dX13_isRest_36 : decode cX13_isRest 36 = .ok (.aload_n 0, 1) := by decide +kernel
theorem dX13_isRest_37 : decode cX13_isRest 37 = .ok (.iload_n 1, 1) := by decide +kernel
theorem dX13_isRest_38 : decode cX13_isRest 38 = .ok (.iload_n 2, 1) := by decide +kernel
theorem dX13_isRest_39 : decode cX13_isRest 39 = .ok (.iload 4, 2) := by decide +kernel
theorem dX13_isRest_41 : decode cX13_isRest 41 = .ok (.invokevirtual 393, 3) := by decide +kernel
theorem dX13_isRest_44 : decode cX13_isRest 44 = .ok (.aload_n 0, 1) := by decide +kernel
theorem dX13_isRest_45 : decode cX13_isRest 45 = .ok (.iload_n 1, 1) := by decide +kernel
theorem dX13_isRest_46 : decode cX13_isRest 46 = .ok (.iload_n 2, 1) := by decide +kernel
theorem dX13_isRest_47 : decode cX13_isRest 47 = .ok (.iload_n 3, 1) := by decide +kernel
theorem dX13_isRest_48 : decode cX13_isRest 48 = .ok (.invokevirtual 393, 3) := by decide +kernel
theorem dX13_isRest_51 : decode cX13_isRest 51 = .ok (.lcmp, 1) := by decide +kernel
theorem dX13_isRest_52 : decode cX13_isRest 52 = .ok (.ifCond .ge 5, 3) := by decide +kernel
theorem dX13_isRest_55 : decode cX13_isRest 55 = .ok (.iconst 0, 1) := by decide +kernel
theorem dX13_isRest_56 : decode cX13_isRest 56 = .ok (.ireturn, 1) := by decide +kernel
theorem dX13_isRest_57 : decode cX13_isRest 57 = .ok (.iinc 4 1, 3) := by decide +kernel
theorem dX13_isRest_60 : decode cX13_isRest 60 = .ok (.goto (-57), 3) := by decide +kernel
theorem dX13_isRest_63 : decode cX13_isRest 63 = .ok (.iconst 1, 1) := by decide +kernel
theorem dX13_isRest_64 : decode cX13_isRest 64 = .ok (.ireturn, 1) := by decide +kernel
theorem dX13_rests_0 : decode cX13_rests 0 = .ok (.aload_n 0, 1) := by decide +kernel
theorem dX13_rests_1 : decode cX13_rests 1 = .ok (.iconst 0, 1) := by decide +kernel
theorem dX13_rests_2 : decode cX13_rests 2 = .ok (.putfield 48, 3) := by decide +kernel
theorem dX13_rests_5 : decode cX13_rests 5 = .ok (.aload_n 0, 1) := by decide +kernel
theorem dX13_rests_6 : decode cX13_rests 6 = .ok (.iload_n 1, 1) := by decide +kernel
theorem dX13_rests_7 : decode cX13_rests 7 = .ok (.invokevirtual 351, 3) := by decide +kernel
theorem dX13_rests_10 : decode cX13_rests 10 = .ok (.ifCond .ne 9, 3) := by decide +kernel
theorem dX13_rests_13 : decode cX13_rests 13 = .ok (.aload_n 0, 1) := by decide +kernel
theorem dX13_rests_14 : decode cX13_rests 14 = .ok (.iconst 1, 1) := by decide +kernel
theorem dX13_rests_15 : decode cX13_rests 15 = .ok (.invokevirtual 54, 3) := by decide +kernel
theorem dX13_rests_18 : decode cX13_rests 18 = .ok (.ireturn, 1) := by decide +kernel
theorem dX13_rests_19 : decode cX13_rests 19 = .ok (.iconst 0, 1) := by decide +kernel
theorem dX13_rests_20 : decode cX13_rests 20 = .ok (.istore_n 2, 1) := by decide +kernel
theorem dX13_rests_21 : decode cX13_rests 21 = .ok (.iconst 0, 1) := by decide +kernel
theorem dX13_rests_22 : decode cX13_rests 22 = .ok (.istore_n 3, 1) := by decide +kernel
theorem dX13_rests_23 : decode cX13_rests 23 = .ok (.iload_n 3, 1) := by decide +kernel
theorem dX13_rests_24 : decode cX13_rests 24 = .ok (.aload_n 0, 1) := by decide +kernel
theorem dX13_rests_25 : decode cX13_rests 25 = .ok (.getfield 301, 3) := by decide +kernel
theorem dX13_rests_28 : decode cX13_rests 28 = .ok (.getfield 160, 3) := by decide +kernel
theorem dX13_rests_31 : decode cX13_rests 31 = .ok (.if_icmp .ge 49, 3) := by decide +kernel
theorem dX13_rests_34 : decode cX13_rests 34 = .ok (.iconst 0, 1) := by decide +kernel
theorem dX13_rests_35 : decode cX13_rests 35 = .ok (.istore 4, 2) := by decide +kernel
theorem dX13_rests_37 : decode cX13_rests 37 = .ok (.iload 4, 2) := by decide +kernel
theorem dX13_rests_39 : decode cX13_rests 39 = .ok (.aload_n 0, 1) := by decide +kernel
theorem dX13_rests_40 : decode cX13_rests 40 = .ok (.getfield 301, 3) := by decide +kernel
theorem dX13_rests_43 : decode cX13_rests 43 = .ok (.getfield 160, 3) := by decide +kernel
theorem dX13_rests_46 : decode cX13_rests 46 = .ok (.if_icmp .ge 28, 3) := by decide +kernel
theorem dX13_rests_49 : decode cX13_rests 49 = .ok (.iload_n 2, 1) := by decide +kernel
theorem dX13_rests_50 : decode cX13_rests 50 = .ok (.aload_n 0, 1) := by decide +kernel
theorem dX13_rests_51 : decode cX13_rests 51 = .ok (.iload_n 1, 1) := by decide +kernel
theorem dX13_rests_52 : decode cX13_rests 52 = .ok (.iload_n 3, 1) := by decide +kernel
theorem dX13_rests_53 : decode cX13_rests 53 = .ok (.iload 4, 2) := by decide +kernel
theorem dX13_rests_55 : decode cX13_rests 55 = .ok (.invokevirtual 396, 3) := by decide +kernel
theorem dX13_rests_58 : decode cX13_rests 58 = .ok (.ifCond .eq 7, 3) := by decide +kernel
theorem dX13_rests_61 : decode cX13_rests 61 = .ok (.iconst 1, 1) := by decide +kernel
theorem dX13_rests_62 : decode cX13_rests 62 = .ok (.goto 4, 3) := by decide +kernel
theorem dX13_rests_65 : decode cX13_rests 65 = .ok (.iconst 0, 1) := by decide +kernel
theorem dX13_rests_66 : decode cX13_rests 66 = .ok (.iadd, 1) := by decide +kernel
theorem dX13_rests_67 : decode cX13_rests 67 = .ok (.istore_n 2, 1) := by decide +kernel
theorem dX13_rests_68 : decode cX13_rests 68 = .ok (.iinc 4 1, 3) := by decide +kernel
theorem dX13_rests_71 : decode cX13_rests 71 = .ok (.goto (-34), 3) := by decide +kernel
theorem dX13_rests_74 : decode cX13_rests 74 = .ok (.iinc 3 1, 3) := by decide +kernel
theorem dX13_rests_77 : decode cX13_rests 77 = .ok (.goto (-54), 3) := by decide +kernel
theorem dX13_rests_80 : decode cX13_rests 80 = .ok (.aload_n 0, 1) := by decide +kernel
theorem dX13_rests_81 : decode cX13_rests 81 = .ok (.iload_n 2, 1) := by decide +kernel
theorem dX13_rests_82 : decode cX13_rests 82 = .ok (.invokevirtual 60, 3) := by decide +kernel
theorem dX13_rests_85 : decode cX13_rests 85 = .ok (.ireturn, 1) := by decide +kernel
theorem dX13_rest_0 : decode cX13_rest 0 = .ok (.aload_n 0, 1) := by decide +kernel
theorem dX13_rest_1 : decode cX13_rest 1 = .ok (.iconst 0, 1) := by decide +kernel
theorem dX13_rest_2 : decode cX13_rest 2 = .ok (.putfield 48, 3) := by decide +kernel
theorem dX13_rest_5 : decode cX13_rest 5 = .ok (.aload_n 0, 1) := by decide +kernel
theorem dX13_rest_6 : decode cX13_rest 6 = .ok (.iload_n 1, 1) := by decide +kernel
theorem dX13_rest_7 : decode cX13_rest 7 = .ok (.invokevirtual 351, 3) := by decide +kernel
theorem dX13_rest_10 : decode cX13_rest 10 = .ok (.ifCond .ne 9, 3) := by decide +kernel
theorem dX13_rest_13 : decode cX13_rest 13 = .ok (.aload_n 0, 1) := by decide +kernel
theorem dX13_rest_14 : decode cX13_rest 14 = .ok (.iconst 1, 1) := by decide +kernel
theorem dX13_rest_15 : decode cX13_rest 15 = .ok (.invokevirtual 54, 3) := by decide +kernel
theorem dX13_rest_18 : decode cX13_rest 18 = .ok (.ireturn, 1) := by decide +kernel
theorem dX13_rest_19 : decode cX13_rest 19 = .ok (.iconst 0, 1) := by decide +kernel
theorem dX13_rest_20 : decode cX13_rest 20 = .ok (.istore_n 2, 1) := by decide +kernel
theorem dX13_rest_21 : decode cX13_rest 21 = .ok (.iload_n 2, 1) := by decide +kernel
theorem dX13_rest_22 : decode cX13_rest 22 = .ok (.aload_n 0, 1) := by decide +kernel
theorem dX13_rest_23 : decode cX13_rest 23 = .ok (.getfield 301, 3) := by decide +kernel
theorem dX13_rest_26 : decode cX13_rest 26 = .ok (.getfield 160, 3) := by decide +kernel
theorem dX13_rest_29 : decode cX13_rest 29 = .ok (.if_icmp .ge 49, 3) := by decide +kernel
theorem dX13_rest_32 : decode cX13_rest 32 = .ok (.iconst 0, 1) := by decide +kernel
theorem dX13_rest_33 : decode cX13_rest 33 = .ok (.istore_n 3, 1) := by decide +kernel
theorem dX13_rest_34 : decode cX13_rest 34 = .ok (.iload_n 3, 1) := by decide +kernel
theorem dX13_rest_35 : decode cX13_rest 35 = .ok (.aload_n 0, 1) := by decide +kernel
theorem dX13_rest_36 : decode cX13_rest 36 = .ok (.getfield 301, 3) := by decide +kernel
theorem dX13_rest_39 : decode cX13_rest 39 = .ok (.getfield 160, 3) := by decide +kernel
theorem dX13_rest_42 : decode cX13_rest 42 = .ok (.if_icmp .ge 30, 3) := by decide +kernel
theorem dX13_rest_45 : decode cX13_rest 45 = .ok (.aload_n 0, 1) := by decide +kernel
theorem dX13_rest_46 : decode cX13_rest 46 = .ok (.iload_n 1, 1) := by decide +kernel
theorem dX13_rest_47 : decode cX13_rest 47 = .ok (.iload_n 2, 1) := by decide +kernel
theorem dX13_rest_48 : decode cX13_rest 48 = .ok (.iload_n 3, 1) := by decide +kernel
theorem dX13_rest_49 : decode cX13_rest 49 = .ok (.invokevirtual 396, 3) := by decide +kernel
theorem dX13_rest_52 : decode cX13_rest 52 = .ok (.ifCond .eq 14, 3) := by decide +kernel
theorem dX13_rest_55 : decode cX13_rest 55 = .ok (.aload_n 0, 1) := by decide +kernel
theorem dX13_rest_56 : decode cX13_rest 56 = .ok (.bipush 10, 2) := by decide +kernel
theorem dX13_rest_58 : decode cX13_rest 58 = .ok (.iload_n 2, 1) := by decide +kernel
theorem dX13_rest_59 : decode cX13_rest 59 = .ok (.imul, 1) := by decide +kernel
theorem dX13_rest_60 : decode cX13_rest 60 = .ok (.iload_n 3, 1) := by decide +kernel
theorem dX13_rest_61 : decode cX13_rest 61 = .ok (.iadd, 1) := by decide +kernel
theorem dX13_rest_62 : decode cX13_rest 62 = .ok (.invokevirtual 60, 3) := by decide +kernel
theorem dX13_rest_65 : decode cX13_rest 65 = .ok (.ireturn, 1) := by decide +kernel
theorem dX13_rest_66 : decode cX13_rest 66 = .ok (.iinc 3 1, 3) := by decide +kernel
theorem dX13_rest_69 : decode cX13_rest 69 = .ok (.goto (-35), 3) := by decide +kernel
theorem dX13_rest_72 : decode cX13_rest 72 = .ok (.iinc 2 1, 3) := by decide +kernel
theorem dX13_rest_75 : decode cX13_rest 75 = .ok (.goto (-54), 3) := by decide +kernel
theorem dX13_rest_78 : decode cX13_rest 78 = .ok (.aload_n 0, 1) := by decide +kernel
theorem dX13_rest_79 : decode cX13_rest 79 = .ok (.bipush (-2), 2) := by decide +kernel
theorem dX13_rest_81 : decode cX13_rest 81 = .ok (.invokevirtual 60, 3) := by decide +kernel
theorem dX13_rest_84 : decode cX13_rest 84 = .ok (.ireturn, 1) := by decide +kernel
theorem dX13_weeks_0 : decode cX13_weeks 0 = .ok (.aload_n 0, 1) := by decide +kernel
theorem dX13_weeks_1 : decode cX13_weeks 1 = .ok (.iconst 0, 1) := by decide +kernel
theorem dX13_weeks_2 : decode cX13_weeks 2 = .ok (.putfield 48, 3) := by decide +kernel
theorem dX13_weeks_5 : decode cX13_weeks 5 = .ok (.aload_n 0, 1) := by decide +kernel
theorem dX13_weeks_6 : decode cX13_weeks 6 = .ok (.iload_n 1, 1) := by decide +kernel
theorem dX13_weeks_7 : decode cX13_weeks 7 = .ok (.invokevirtual 348, 3) := by decide +kernel
theorem dX13_weeks_10 : decode cX13_weeks 10 = .ok (.ifCond .ne 9, 3) := by decide +kernel
theorem dX13_weeks_13 : decode cX13_weeks 13 = .ok (.aload_n 0, 1) := by decide +kernel
theorem dX13_weeks_14 : decode cX13_weeks 14 = .ok (.iconst 1, 1) := by decide +kernel
theorem dX13_weeks_15 : decode cX13_weeks 15 = .ok (.invokevirtual 54, 3) := by decide +kernel
theorem dX13_weeks_18 : decode cX13_weeks 18 = .ok (.ireturn, 1) := by decide +kernel
theorem dX13_weeks_19 : decode cX13_weeks 19 = .ok (.aload_n 0, 1) := by decide +kernel
theorem dX13_weeks_20 : decode cX13_weeks 20 = .ok (.getfield 301, 3) := by decide +kernel
theorem dX13_weeks_23 : decode cX13_weeks 23 = .ok (.getfield 241, 3) := by decide +kernel
theorem dX13_weeks_26 : decode cX13_weeks 26 = .ok (.iload_n 1, 1) := by decide +kernel
theorem dX13_weeks_27 : decode cX13_weeks 27 = .ok (.iaload, 1) := by decide +kernel
theorem dX13_weeks_28 : decode cX13_weeks 28 = .ok (.iconst 3, 1) := by decide +kernel
theorem dX13_weeks_29 : decode cX13_weeks 29 = .ok (.if_icmp .eq 9, 3) := by decide +kernel
theorem dX13_weeks_32 : decode cX13_weeks 32 = .ok (.aload_n 0, 1) := by decide +kernel
theorem dX13_weeks_33 : decode cX13_weeks 33 = .ok (.iconst 5, 1) := by decide +kernel
theorem dX13_weeks_34 : decode cX13_weeks 34 = .ok (.invokevirtual 54, 3) := by decide +kernel
theorem dX13_weeks_37 : decode cX13_weeks 37 = .ok (.ireturn, 1) := by decide +kernel
theorem dX13_weeks_38 : decode cX13_weeks 38 = .ok (.iconst 0, 1) := by decide +kernel
theorem dX13_weeks_39 : decode cX13_weeks 39 = .ok (.istore_n 2, 1) := by decide +kernel
theorem dX13_weeks_40 : decode cX13_weeks 40 = .ok (.iload_n 2, 1) := by decide +kernel
theorem dX13_weeks_41 : decode cX13_weeks 41 = .ok (.bipush 30, 2) := by decide +kernel
theorem dX13_weeks_43 : decode cX13_weeks 43 = .ok (.if_icmp .gt 74, 3) := by decide +kernel
theorem dX13_weeks_46 : decode cX13_weeks 46 = .ok (.iconst 1, 1) := by decide +kernel
theorem dX13_weeks_47 : decode cX13_weeks 47 = .ok (.istore_n 3, 1) := by decide +kernel
theorem dX13_weeks_48 : decode cX13_weeks 48 = .ok (.iconst 0, 1) := by decide +kernel
theorem dX13_weeks_49 : decode cX13_weeks 49 = .ok (.istore 4, 2) := by decide +kernel
theorem dX13_weeks_51 : decode cX13_weeks 51 = .ok (.iload 4, 2) := by decide +kernel
theorem dX13_weeks_53 : decode cX13_weeks 53 = .ok (.aload_n 0, 1) := by decide +kernel
theorem dX13_weeks_54 : decode cX13_weeks 54 = .ok (.getfield 301, 3) := by decide +kernel
theorem dX13_weeks_57 : decode cX13_weeks 57 = .ok (.getfield 195, 3) := by decide +kernel
theorem dX13_weeks_60 : decode cX13_weeks 60 = .ok (.if_icmp .ge 41, 3) := by decide +kernel
theorem dX13_weeks_63 : decode cX13_weeks 63 = .ok (.iload_n 3, 1) := by decide +kernel
theorem dX13_weeks_64 : decode cX13_weeks 64 = .ok (.ifCond .eq 29, 3) := by decide +kernel
theorem dX13_weeks_67 : decode cX13_weeks 67 = .ok (.aload_n 0, 1) := by decide +kernel
theorem dX13_weeks_68 : decode cX13_weeks 68 = .ok (.iload 4, 2) := by decide +kernel
theorem dX13_weeks_70 : decode cX13_weeks 70 = .ok (.invokevirtual 310, 3) := by decide +kernel
theorem dX13_weeks_73 : decode cX13_weeks 73 = .ok (.ifCond .ne 16, 3) := by decide +kernel
theorem dX13_weeks_76 : decode cX13_weeks 76 = .ok (.aload_n 0, 1) := by decide +kernel
theorem dX13_weeks_77 : decode cX13_weeks 77 = .ok (.iload 4, 2) := by decide +kernel
theorem dX13_weeks_79 : decode cX13_weeks 79 = .ok (.iconst 3, 1) := by decide +kernel
theorem dX13_weeks_80 : decode cX13_weeks 80 = .ok (.iload_n 2, 1) := by decide +kernel
theorem dX13_weeks_81 : decode cX13_weeks 81 = .ok (.invokevirtual 344, 3) := by decide +kernel
theorem dX13_weeks_84 : decode cX13_weeks 84 = .ok (.lconst 0, 1) := by decide +kernel
theorem dX13_weeks_85 : decode cX13_weeks 85 = .ok (.lcmp, 1) := by decide +kernel
theorem dX13_weeks_86 : decode cX13_weeks 86 = .ok (.ifCond .gt 7, 3) := by decide +kernel
theorem dX13_weeks_89 : decode cX13_weeks 89 = .ok (.iconst 1, 1) := by decide +kernel
theorem dX13_weeks_90 : decode cX13_weeks 90 = .ok (.goto 4, 3) := by decide +kernel
theorem dX13_weeks_93 : decode cX13_weeks 93 = .ok (.iconst 0, 1) := by decide +kernel
theorem dX13_weeks_94 : decode cX13_weeks 94 = .ok (.istore_n 3, 1) := by decide +kernel
theorem dX13_weeks_95 : decode cX13_weeks 95 = .ok (.iinc 4 1, 3) := by decide +kernel
theorem dX13_weeks_98 : decode cX13_weeks 98 = .ok (.goto (-47), 3) := by decide +kernel
theorem dX13_weeks_101 : decode cX13_weeks 101 = .ok (.iload_n 3, 1) := by decide +kernel
theorem dX13_weeks_102 : decode cX13_weeks 102 = .ok (.ifCond .eq 9, 3) := by decide +kernel
theorem dX13_weeks_105 : decode cX13_weeks 105 = .ok (.aload_n 0, 1) := by decide +kernel
theorem dX13_weeks_106 : decode cX13_weeks 106 = .ok (.iload_n 2, 1) := by decide +kernel
theorem dX13_weeks_107 : decode cX13_weeks 107 = .ok (.invokevirtual 60, 3) := by decide +kernel
theorem dX13_weeks_110 : decode cX13_weeks 110 = .ok (.ireturn, 1) := by decide +kernel
theorem dX13_weeks_111 : decode cX13_weeks 111 = .ok (.iinc 2 1, 3) := by decide +kernel
theorem dX13_weeks_114 : decode cX13_weeks 114 = .ok (.goto (-74), 3) := by decide +kernel
theorem dX13_weeks_117 : decode cX13_weeks 117 = .ok (.aload_n 0, 1) := by decide +kernel
theorem dX13_weeks_118 : decode cX13_weeks 118 = .ok (.bipush (-2), 2) := by decide +kernel
theorem dX13_weeks_120 : decode cX13_weeks 120 = .ok (.invokevirtual 60, 3) := by decide +kernel
theorem dX13_weeks_123 : decode cX13_weeks 123 = .ok (.ireturn, 1) := by decide +kernel
theorem dX13_priceOf_0 : decode cX13_priceOf 0 = .ok (.iconst 0, 1) := by decide +kernel
theorem dX13_priceOf_1 : decode cX13_priceOf 1 = .ok (.istore_n 2, 1) := by decide +kernel
theorem dX13_priceOf_2 : decode cX13_priceOf 2 = .ok (.iconst 0, 1) := by decide +kernel
theorem dX13_priceOf_3 : decode cX13_priceOf 3 = .ok (.istore_n 3, 1) := by decide +kernel
theorem dX13_priceOf_4 : decode cX13_priceOf 4 = .ok (.iload_n 3, 1) := by decide +kernel
theorem dX13_priceOf_5 : decode cX13_priceOf 5 = .ok (.aload_n 0, 1) := by decide +kernel
theorem dX13_priceOf_6 : decode cX13_priceOf 6 = .ok (.getfield 301, 3) := by decide +kernel
theorem dX13_priceOf_9 : decode cX13_priceOf 9 = .ok (.getfield 195, 3) := by decide +kernel
theorem dX13_priceOf_12 : decode cX13_priceOf 12 = .ok (.if_icmp .ge 33, 3) := by decide +kernel
theorem dX13_priceOf_15 : decode cX13_priceOf 15 = .ok (.iload_n 2, 1) := by decide +kernel
theorem dX13_priceOf_16 : decode cX13_priceOf 16 = .ok (.iload_n 1, 1) := by decide +kernel
theorem dX13_priceOf_17 : decode cX13_priceOf 17 = .ok (.iload_n 3, 1) := by decide +kernel
theorem dX13_priceOf_18 : decode cX13_priceOf 18 = .ok (.invokestatic 229, 3) := by decide +kernel
theorem dX13_priceOf_21 : decode cX13_priceOf 21 = .ok (.ifCond .eq 15, 3) := by decide +kernel
theorem dX13_priceOf_24 : decode cX13_priceOf 24 = .ok (.aload_n 0, 1) := by decide +kernel
theorem dX13_priceOf_25 : decode cX13_priceOf 25 = .ok (.getfield 301, 3) := by decide +kernel
theorem dX13_priceOf_28 : decode cX13_priceOf 28 = .ok (.getfield 277, 3) := by decide +kernel
theorem dX13_priceOf_31 : decode cX13_priceOf 31 = .ok (.iload_n 3, 1) := by decide +kernel
theorem dX13_priceOf_32 : decode cX13_priceOf 32 = .ok (.iaload, 1) := by decide +kernel
theorem dX13_priceOf_33 : decode cX13_priceOf 33 = .ok (.goto 4, 3) := by decide +kernel
theorem dX13_priceOf_36 : decode cX13_priceOf 36 = .ok (.iconst 0, 1) := by decide +kernel
theorem dX13_priceOf_37 : decode cX13_priceOf 37 = .ok (.iadd, 1) := by decide +kernel
theorem dX13_priceOf_38 : decode cX13_priceOf 38 = .ok (.istore_n 2, 1) := by decide +kernel
theorem dX13_priceOf_39 : decode cX13_priceOf 39 = .ok (.iinc 3 1, 3) := by decide +kernel
theorem dX13_priceOf_42 : decode cX13_priceOf 42 = .ok (.goto (-38), 3) := by decide +kernel
theorem dX13_priceOf_45 : decode cX13_priceOf 45 = .ok (.iload_n 2, 1) := by decide +kernel
theorem dX13_priceOf_46 : decode cX13_priceOf 46 = .ok (.ireturn, 1) := by decide +kernel
theorem dX13_sold_0 : decode cX13_sold 0 = .ok (.bipush (-2), 2) := by decide +kernel
theorem dX13_sold_2 : decode cX13_sold 2 = .ok (.istore_n 2, 1) := by decide +kernel
theorem dX13_sold_3 : decode cX13_sold 3 = .ok (.iconst 0, 1) := by decide +kernel
theorem dX13_sold_4 : decode cX13_sold 4 = .ok (.istore_n 3, 1) := by decide +kernel
theorem dX13_sold_5 : decode cX13_sold 5 = .ok (.iload_n 3, 1) := by decide +kernel
theorem dX13_sold_6 : decode cX13_sold 6 = .ok (.iconst 1, 1) := by decide +kernel
theorem dX13_sold_7 : decode cX13_sold 7 = .ok (.aload_n 0, 1) := by decide +kernel
theorem dX13_sold_8 : decode cX13_sold 8 = .ok (.getfield 301, 3) := by decide +kernel
theorem dX13_sold_11 : decode cX13_sold 11 = .ok (.getfield 195, 3) := by decide +kernel
theorem dX13_sold_14 : decode cX13_sold 14 = .ok (.ishl, 1) := by decide +kernel
theorem dX13_sold_15 : decode cX13_sold 15 = .ok (.if_icmp .ge 49, 3) := by decide +kernel
theorem dX13_sold_18 : decode cX13_sold 18 = .ok (.iload_n 3, 1) := by decide +kernel
theorem dX13_sold_19 : decode cX13_sold 19 = .ok (.aload_n 0, 1) := by decide +kernel
theorem dX13_sold_20 : decode cX13_sold 20 = .ok (.getfield 17, 3) := by decide +kernel
theorem dX13_sold_23 : decode cX13_sold 23 = .ok (.bipush 10, 2) := by decide +kernel
theorem dX13_sold_25 : decode cX13_sold 25 = .ok (.iaload, 1) := by decide +kernel
theorem dX13_sold_26 : decode cX13_sold 26 = .ok (.iand, 1) := by decide +kernel
theorem dX13_sold_27 : decode cX13_sold 27 = .ok (.ifCond .ne 31, 3) := by decide +kernel
theorem dX13_sold_30 : decode cX13_sold 30 = .ok (.aload_n 0, 1) := by decide +kernel
theorem dX13_sold_31 : decode cX13_sold 31 = .ok (.iload_n 3, 1) := by decide +kernel
theorem dX13_sold_32 : decode cX13_sold 32 = .ok (.invokevirtual 399, 3) := by decide +kernel
theorem dX13_sold_35 : decode cX13_sold 35 = .ok (.iload_n 1, 1) := by decide +kernel
theorem dX13_sold_36 : decode cX13_sold 36 = .ok (.if_icmp .lt 22, 3) := by decide +kernel
theorem dX13_sold_39 : decode cX13_sold 39 = .ok (.iload_n 2, 1) := by decide +kernel
theorem dX13_sold_40 : decode cX13_sold 40 = .ok (.bipush (-2), 2) := by decide +kernel
theorem dX13_sold_42 : decode cX13_sold 42 = .ok (.if_icmp .eq 14, 3) := by decide +kernel
theorem dX13_sold_45 : decode cX13_sold 45 = .ok (.iload_n 3, 1) := by decide +kernel
theorem dX13_sold_46 : decode cX13_sold 46 = .ok (.invokestatic 402, 3) := by decide +kernel
theorem dX13_sold_49 : decode cX13_sold 49 = .ok (.iload_n 2, 1) := by decide +kernel
theorem dX13_sold_50 : decode cX13_sold 50 = .ok (.invokestatic 402, 3) := by decide +kernel
theorem dX13_sold_53 : decode cX13_sold 53 = .ok (.if_icmp .ge 5, 3) := by decide +kernel
theorem dX13_sold_56 : decode cX13_sold 56 = .ok (.iload_n 3, 1) := by decide +kernel
theorem dX13_sold_57 : decode cX13_sold 57 = .ok (.istore_n 2, 1) := by decide +kernel
theorem dX13_sold_58 : decode cX13_sold 58 = .ok (.iinc 3 1, 3) := by decide +kernel
theorem dX13_sold_61 : decode cX13_sold 61 = .ok (.goto (-56), 3) := by decide +kernel
theorem dX13_sold_64 : decode cX13_sold 64 = .ok (.iload_n 2, 1) := by decide +kernel
theorem dX13_sold_65 : decode cX13_sold 65 = .ok (.ireturn, 1) := by decide +kernel
theorem dX13_sale_0 : decode cX13_sale 0 = .ok (.aload_n 0, 1) := by decide +kernel
theorem dX13_sale_1 : decode cX13_sale 1 = .ok (.iconst 0, 1) := by decide +kernel
theorem dX13_sale_2 : decode cX13_sale 2 = .ok (.putfield 48, 3) := by decide +kernel
theorem dX13_sale_5 : decode cX13_sale 5 = .ok (.aload_n 0, 1) := by decide +kernel
theorem dX13_sale_6 : decode cX13_sale 6 = .ok (.getfield 301, 3) := by decide +kernel
theorem dX13_sale_9 : decode cX13_sale 9 = .ok (.ifnonnull 9, 3) := by decide +kernel
theorem dX13_sale_12 : decode cX13_sale 12 = .ok (.aload_n 0, 1) := by decide +kernel
theorem dX13_sale_13 : decode cX13_sale 13 = .ok (.iconst 1, 1) := by decide +kernel
theorem dX13_sale_14 : decode cX13_sale 14 = .ok (.invokevirtual 54, 3) := by decide +kernel
theorem dX13_sale_17 : decode cX13_sale 17 = .ok (.ireturn, 1) := by decide +kernel
theorem dX13_sale_18 : decode cX13_sale 18 = .ok (.iload_n 1, 1) := by decide +kernel
theorem dX13_sale_19 : decode cX13_sale 19 = .ok (.iconst 0, 1) := by decide +kernel
theorem dX13_sale_20 : decode cX13_sale 20 = .ok (.sipush 500, 3) := by decide +kernel
theorem dX13_sale_23 : decode cX13_sale 23 = .ok (.invokestatic 129, 3) := by decide +kernel
theorem dX13_sale_26 : decode cX13_sale 26 = .ok (.ifCond .eq 15, 3) := by decide +kernel
theorem dX13_sale_29 : decode cX13_sale 29 = .ok (.aload_n 0, 1) := by decide +kernel
theorem dX13_sale_30 : decode cX13_sale 30 = .ok (.aload_n 0, 1) := by decide +kernel
theorem dX13_sale_31 : decode cX13_sale 31 = .ok (.iload_n 1, 1) := by decide +kernel
theorem dX13_sale_32 : decode cX13_sale 32 = .ok (.invokevirtual 405, 3) := by decide +kernel
theorem dX13_sale_35 : decode cX13_sale 35 = .ok (.invokevirtual 60, 3) := by decide +kernel
theorem dX13_sale_38 : decode cX13_sale 38 = .ok (.goto 8, 3) := by decide +kernel
theorem dX13_sale_41 : decode cX13_sale 41 = .ok (.aload_n 0, 1) := by decide +kernel
theorem dX13_sale_42 : decode cX13_sale 42 = .ok (.iconst 2, 1) := by decide +kernel
theorem dX13_sale_43 : decode cX13_sale 43 = .ok (.invokevirtual 54, 3) := by decide +kernel
theorem dX13_sale_46 : decode cX13_sale 46 = .ok (.ireturn, 1) := by decide +kernel
theorem dX13_saleOver_0 : decode cX13_saleOver 0 = .ok (.aload_n 0, 1) := by decide +kernel
theorem dX13_saleOver_1 : decode cX13_saleOver 1 = .ok (.iconst 0, 1) := by decide +kernel
theorem dX13_saleOver_2 : decode cX13_saleOver 2 = .ok (.putfield 48, 3) := by decide +kernel
theorem dX13_saleOver_5 : decode cX13_saleOver 5 = .ok (.aload_n 0, 1) := by decide +kernel
theorem dX13_saleOver_6 : decode cX13_saleOver 6 = .ok (.getfield 301, 3) := by decide +kernel
theorem dX13_saleOver_9 : decode cX13_saleOver 9 = .ok (.ifnonnull 9, 3) := by decide +kernel
theorem dX13_saleOver_12 : decode cX13_saleOver 12 = .ok (.aload_n 0, 1) := by decide +kernel
theorem dX13_saleOver_13 : decode cX13_saleOver 13 = .ok (.iconst 1, 1) := by decide +kernel
theorem dX13_saleOver_14 : decode cX13_saleOver 14 = .ok (.invokevirtual 54, 3) := by decide +kernel
theorem dX13_saleOver_17 : decode cX13_saleOver 17 = .ok (.ireturn, 1) := by decide +kernel
theorem dX13_saleOver_18 : decode cX13_saleOver 18 = .ok (.iload_n 1, 1) := by decide +kernel
theorem dX13_saleOver_19 : decode cX13_saleOver 19 = .ok (.iconst 0, 1) := by decide +kernel
theorem dX13_saleOver_20 : decode cX13_saleOver 20 = .ok (.sipush 500, 3) := by decide +kernel
theorem dX13_saleOver_23 : decode cX13_saleOver 23 = .ok (.invokestatic 129, 3) := by decide +kernel
theorem dX13_saleOver_26 : decode cX13_saleOver 26 = .ok (.ifCond .ne 9, 3) := by decide +kernel
theorem dX13_saleOver_29 : decode cX13_saleOver 29 = .ok (.aload_n 0, 1) := by decide +kernel
theorem dX13_saleOver_30 : decode cX13_saleOver 30 = .ok (.iconst 2, 1) := by decide +kernel
theorem dX13_saleOver_31 : decode cX13_saleOver 31 = .ok (.invokevirtual 54, 3) := by decide +kernel
theorem dX13_saleOver_34 : decode cX13_saleOver 34 = .ok (.ireturn, 1) := by decide +kernel
theorem dX13_saleOver_35 : decode cX13_saleOver 35 = .ok (.aload_n 0, 1) := by decide +kernel
theorem dX13_saleOver_36 : decode cX13_saleOver 36 = .ok (.iload_n 1, 1) := by decide +kernel
theorem dX13_saleOver_37 : decode cX13_saleOver 37 = .ok (.invokevirtual 405, 3) := by decide +kernel
theorem dX13_saleOver_40 : decode cX13_saleOver 40 = .ok (.istore_n 2, 1) := by decide +kernel
theorem dX13_saleOver_41 : decode cX13_saleOver 41 = .ok (.iload_n 2, 1) := by decide +kernel
theorem dX13_saleOver_42 : decode cX13_saleOver 42 = .ok (.bipush (-2), 2) := by decide +kernel
theorem dX13_saleOver_44 : decode cX13_saleOver 44 = .ok (.if_icmp .ne 12, 3) := by decide +kernel
theorem dX13_saleOver_47 : decode cX13_saleOver 47 = .ok (.aload_n 0, 1) := by decide +kernel
theorem dX13_saleOver_48 : decode cX13_saleOver 48 = .ok (.bipush 6, 2) := by decide +kernel
theorem dX13_saleOver_50 : decode cX13_saleOver 50 = .ok (.invokevirtual 54, 3) := by decide +kernel
theorem dX13_saleOver_53 : decode cX13_saleOver 53 = .ok (.goto 14, 3) := by decide +kernel
theorem dX13_saleOver_56 : decode cX13_saleOver 56 = .ok (.aload_n 0, 1) := by decide +kernel
theorem dX13_saleOver_57 : decode cX13_saleOver 57 = .ok (.aload_n 0, 1) := by decide +kernel
theorem dX13_saleOver_58 : decode cX13_saleOver 58 = .ok (.iload_n 2, 1) := by decide +kernel
theorem dX13_saleOver_59 : decode cX13_saleOver 59 = .ok (.invokevirtual 399, 3) := by decide +kernel
theorem dX13_saleOver_62 : decode cX13_saleOver 62 = .ok (.iload_n 1, 1) := by decide +kernel
theorem dX13_saleOver_63 : decode cX13_saleOver 63 = .ok (.isub, 1) := by decide +kernel
theorem dX13_saleOver_64 : decode cX13_saleOver 64 = .ok (.invokevirtual 60, 3) := by decide +kernel
theorem dX13_saleOver_67 : decode cX13_saleOver 67 = .ok (.ireturn, 1) := by decide +kernel
theorem dX13_over_0 : decode cX13_over 0 = .ok (.iload_n 0, 1) := by decide +kernel
theorem dX13_over_1 : decode cX13_over 1 = .ok (.bipush 100, 2) := by decide +kernel
theorem dX13_over_3 : decode cX13_over 3 = .ok (.iload_n 1, 1) := by decide +kernel
theorem dX13_over_4 : decode cX13_over 4 = .ok (.isub, 1) := by decide +kernel
theorem dX13_over_5 : decode cX13_over 5 = .ok (.imul, 1) := by decide +kernel
theorem dX13_over_6 : decode cX13_over 6 = .ok (.bipush 100, 2) := by decide +kernel
theorem dX13_over_8 : decode cX13_over 8 = .ok (.idiv, 1) := by decide +kernel
theorem dX13_over_9 : decode cX13_over 9 = .ok (.ireturn, 1) := by decide +kernel
theorem dX13_marches_0 : decode cX13_marches 0 = .ok (.aload_n 0, 1) := by decide +kernel
theorem dX13_marches_1 : decode cX13_marches 1 = .ok (.iconst 0, 1) := by decide +kernel
theorem dX13_marches_2 : decode cX13_marches 2 = .ok (.putfield 408, 3) := by decide +kernel
theorem dX13_marches_5 : decode cX13_marches 5 = .ok (.aload_n 0, 1) := by decide +kernel
theorem dX13_marches_6 : decode cX13_marches 6 = .ok (.bipush (-2), 2) := by decide +kernel
theorem dX13_marches_8 : decode cX13_marches 8 = .ok (.putfield 411, 3) := by decide +kernel
theorem dX13_marches_11 : decode cX13_marches 11 = .ok (.aload_n 0, 1) := by decide +kernel
theorem dX13_marches_12 : decode cX13_marches 12 = .ok (.getfield 36, 3) := by decide +kernel
theorem dX13_marches_15 : decode cX13_marches 15 = .ok (.iconst 0, 1) := by decide +kernel
theorem dX13_marches_16 : decode cX13_marches 16 = .ok (.iload_n 1, 1) := by decide +kernel
theorem dX13_marches_17 : decode cX13_marches 17 = .ok (.iastore, 1) := by decide +kernel
theorem dX13_marches_18 : decode cX13_marches 18 = .ok (.aload_n 0, 1) := by decide +kernel
theorem dX13_marches_19 : decode cX13_marches 19 = .ok (.getfield 42, 3) := by decide +kernel
theorem dX13_marches_22 : decode cX13_marches 22 = .ok (.iconst 0, 1) := by decide +kernel
theorem dX13_marches_23 : decode cX13_marches 23 = .ok (.iload_n 3, 1) := by decide +kernel
theorem dX13_marches_24 : decode cX13_marches 24 = .ok (.iastore, 1) := by decide +kernel
theorem dX13_marches_25 : decode cX13_marches 25 = .ok (.iload_n 1, 1) := by decide +kernel
theorem dX13_marches_26 : decode cX13_marches 26 = .ok (.iload_n 2, 1) := by decide +kernel
theorem dX13_marches_27 : decode cX13_marches 27 = .ok (.if_icmp .ne 9, 3) := by decide +kernel
theorem dX13_marches_30 : decode cX13_marches 30 = .ok (.aload_n 0, 1) := by decide +kernel
theorem dX13_marches_31 : decode cX13_marches 31 = .ok (.iconst 1, 1) := by decide +kernel
theorem dX13_marches_32 : decode cX13_marches 32 = .ok (.invokevirtual 414, 3) := by decide +kernel
theorem dX13_marches_35 : decode cX13_marches 35 = .ok (.return_, 1) := by decide +kernel
theorem dX13_marches_36 : decode cX13_marches 36 = .ok (.iconst 1, 1) := by decide +kernel
theorem dX13_marches_37 : decode cX13_marches 37 = .ok (.iload_n 1, 1) := by decide +kernel
theorem dX13_marches_38 : decode cX13_marches 38 = .ok (.ishl, 1) := by decide +kernel
theorem dX13_marches_39 : decode cX13_marches 39 = .ok (.istore 4, 2) := by decide +kernel
theorem dX13_marches_41 : decode cX13_marches 41 = .ok (.iconst 1, 1) := by decide +kernel
theorem dX13_marches_42 : decode cX13_marches 42 = .ok (.istore 5, 2) := by decide +kernel
theorem dX13_marches_44 : decode cX13_marches 44 = .ok (.aload_n 0, 1) := by decide +kernel
theorem dX13_marches_45 : decode cX13_marches 45 = .ok (.getfield 36, 3) := by decide +kernel
theorem dX13_marches_48 : decode cX13_marches 48 = .ok (.iconst 1, 1) := by decide +kernel
theorem dX13_marches_49 : decode cX13_marches 49 = .ok (.iconst (-1), 1) := by decide +kernel
theorem dX13_marches_50 : decode cX13_marches 50 = .ok (.iastore, 1) := by decide +kernel
theorem dX13_marches_51 : decode cX13_marches 51 = .ok (.iload 5, 2) := by decide +kernel
theorem dX13_marches_53 : decode cX13_marches 53 = .ok (.ifCond .le 253, 3) := by decide +kernel
theorem dX13_marches_56 : decode cX13_marches 56 = .ok (.aload_n 0, 1) := by decide +kernel
theorem dX13_marches_57 : decode cX13_marches 57 = .ok (.getfield 36, 3) := by decide +kernel
theorem dX13_marches_60 : decode cX13_marches 60 = .ok (.iload 5, 2) := by decide +kernel
theorem dX13_marches_62 : decode cX13_marches 62 = .ok (.iaload, 1) := by decide +kernel
theorem dX13_marches_63 : decode cX13_marches 63 = .ok (.iconst (-1), 1) := by decide +kernel
theorem dX13_marches_64 : decode cX13_marches 64 = .ok (.if_icmp .eq 19, 3) := by decide +kernel
theorem dX13_marches_67 : decode cX13_marches 67 = .ok (.iload 4, 2) := by decide +kernel
theorem dX13_marches_69 : decode cX13_marches 69 = .ok (.iconst 1, 1) := by decide +kernel
theorem dX13_marches_70 : decode cX13_marches 70 = .ok (.aload_n 0, 1) := by decide +kernel
theorem dX13_marches_71 : decode cX13_marches 71 = .ok (.getfield 36, 3) := by decide +kernel
theorem dX13_marches_74 : decode cX13_marches 74 = .ok (.iload 5, 2) := by decide +kernel
theorem dX13_marches_76 : decode cX13_marches 76 = .ok (.iaload, 1) := by decide +kernel
theorem dX13_marches_77 : decode cX13_marches 77 = .ok (.ishl, 1) := by decide +kernel
theorem dX13_marches_78 : decode cX13_marches 78 = .ok (.iconst (-1), 1) := by decide +kernel
theorem dX13_marches_79 : decode cX13_marches 79 = .ok (.ixor, 1) := by decide +kernel
theorem dX13_marches_80 : decode cX13_marches 80 = .ok (.iand, 1) := by decide +kernel
theorem dX13_marches_81 : decode cX13_marches 81 = .ok (.istore 4, 2) := by decide +kernel
theorem dX13_marches_83 : decode cX13_marches 83 = .ok (.aload_n 0, 1) := by decide +kernel
theorem dX13_marches_84 : decode cX13_marches 84 = .ok (.getfield 36, 3) := by decide +kernel
theorem dX13_marches_87 : decode cX13_marches 87 = .ok (.iload 5, 2) := by decide +kernel
theorem dX13_marches_89 : decode cX13_marches 89 = .ok (.dup2, 1) := by decide +kernel
theorem dX13_marches_90 : decode cX13_marches 90 = .ok (.iaload, 1) := by decide +kernel
theorem dX13_marches_91 : decode cX13_marches 91 = .ok (.iconst 1, 1) := by decide +kernel
theorem dX13_marches_92 : decode cX13_marches 92 = .ok (.iadd, 1) := by decide +kernel
theorem dX13_marches_93 : decode cX13_marches 93 = .ok (.iastore, 1) := by decide +kernel
theorem dX13_marches_94 : decode cX13_marches 94 = .ok (.aload_n 0, 1) := by decide +kernel
theorem dX13_marches_95 : decode cX13_marches 95 = .ok (.getfield 36, 3) := by decide +kernel
theorem dX13_marches_98 : decode cX13_marches 98 = .ok (.iload 5, 2) := by decide +kernel
theorem dX13_marches_100 : decode cX13_marches 100 = .ok (.iaload, 1) := by decide +kernel
theorem dX13_marches_101 : decode cX13_marches 101 = .ok (.aload_n 0, 1) := by decide +kernel
theorem dX13_marches_102 : decode cX13_marches 102 = .ok (.getfield 301, 3) := by decide +kernel
theorem dX13_marches_105 : decode cX13_marches 105 = .ok (.getfield 279, 3) := by decide +kernel
theorem dX13_marches_108 : decode cX13_marches 108 = .ok (.if_icmp .ge 64, 3) := by decide +kernel
theorem dX13_marches_111 : decode cX13_marches 111 = .ok (.iload 4, 2) := by decide +kernel
theorem dX13_marches_113 : decode cX13_marches 113 = .ok (.aload_n 0, 1) := by decide +kernel
theorem dX13_marches_114 : decode cX13_marches 114 = .ok (.getfield 36, 3) := by decide +kernel
theorem dX13_marches_117 : decode cX13_marches 117 = .ok (.iload 5, 2) := by decide +kernel
theorem dX13_marches_119 : decode cX13_marches 119 = .ok (.iaload, 1) := by decide +kernel
theorem dX13_marches_120 : decode cX13_marches 120 = .ok (.invokestatic 229, 3) := by decide +kernel
theorem dX13_marches_123 : decode cX13_marches 123 = .ok (.ifCond .ne 35, 3) := by decide +kernel
theorem dX13_marches_126 : decode cX13_marches 126 = .ok (.aload_n 0, 1) := by decide +kernel
theorem dX13_marches_127 : decode cX13_marches 127 = .ok (.getfield 301, 3) := by decide +kernel
theorem dX13_marches_130 : decode cX13_marches 130 = .ok (.getfield 282, 3) := by decide +kernel
theorem dX13_marches_133 : decode cX13_marches 133 = .ok (.bipush 6, 2) := by decide +kernel
theorem dX13_marches_135 : decode cX13_marches 135 = .ok (.aload_n 0, 1) := by decide +kernel
theorem dX13_marches_136 : decode cX13_marches 136 = .ok (.getfield 36, 3) := by decide +kernel
theorem dX13_marches_139 : decode cX13_marches 139 = .ok (.iload 5, 2) := by decide +kernel
theorem dX13_marches_141 : decode cX13_marches 141 = .ok (.iconst 1, 1) := by decide +kernel
theorem dX13_marches_142 : decode cX13_marches 142 = .ok (.isub, 1) := by decide +kernel
theorem dX13_marches_143 : decode cX13_marches 143 = .ok (.iaload, 1) := by decide +kernel
theorem dX13_marches_144 : decode cX13_marches 144 = .ok (.imul, 1) := by decide +kernel
theorem dX13_marches_145 : decode cX13_marches 145 = .ok (.aload_n 0, 1) := by decide +kernel
theorem dX13_marches_146 : decode cX13_marches 146 = .ok (.getfield 36, 3) := by decide +kernel
theorem dX13_marches_149 : decode cX13_marches 149 = .ok (.iload 5, 2) := by decide +kernel
theorem dX13_marches_151 : decode cX13_marches 151 = .ok (.iaload, 1) := by decide +kernel
theorem dX13_marches_152 : decode cX13_marches 152 = .ok (.iadd, 1) := by decide +kernel
theorem dX13_marches_153 : decode cX13_marches 153 = .ok (.iaload, 1) := by decide +kernel
theorem dX13_marches_154 : decode cX13_marches 154 = .ok (.iconst (-1), 1) := by decide +kernel
theorem dX13_marches_155 : decode cX13_marches 155 = .ok (.if_icmp .ne 17, 3) := by decide +kernel
theorem dX13_marches_158 : decode cX13_marches 158 = .ok (.aload_n 0, 1) := by decide +kernel
theorem dX13_marches_159 : decode cX13_marches 159 = .ok (.getfield 36, 3) := by decide +kernel
theorem dX13_marches_162 : decode cX13_marches 162 = .ok (.iload 5, 2) := by decide +kernel
theorem dX13_marches_164 : decode cX13_marches 164 = .ok (.dup2, 1) := by decide +kernel
theorem dX13_marches_165 : decode cX13_marches 165 = .ok (.iaload, 1) := by decide +kernel
theorem dX13_marches_166 : decode cX13_marches 166 = .ok (.iconst 1, 1) := by decide +kernel
theorem dX13_marches_167 : decode cX13_marches 167 = .ok (.iadd, 1) := by decide +kernel
theorem dX13_marches_168 : decode cX13_marches 168 = .ok (.iastore, 1) := by decide +kernel
theorem dX13_marches_169 : decode cX13_marches 169 = .ok (.goto (-75), 3) := by decide +kernel
theorem dX13_marches_172 : decode cX13_marches 172 = .ok (.aload_n 0, 1) := by decide +kernel
theorem dX13_marches_173 : decode cX13_marches 173 = .ok (.getfield 36, 3) := by decide +kernel
theorem dX13_marches_176 : decode cX13_marches 176 = .ok (.iload 5, 2) := by decide +kernel
theorem dX13_marches_178 : decode cX13_marches 178 = .ok (.iaload, 1) := by decide +kernel
theorem dX13_marches_179 : decode cX13_marches 179 = .ok (.aload_n 0, 1) := by decide +kernel
theorem dX13_marches_180 : decode cX13_marches 180 = .ok (.getfield 301, 3) := by decide +kernel
theorem dX13_marches_183 : decode cX13_marches 183 = .ok (.getfield 279, 3) := by decide +kernel
theorem dX13_marches_186 : decode cX13_marches 186 = .ok (.if_icmp .lt 9, 3) := by decide +kernel
theorem dX13_marches_189 : decode cX13_marches 189 = .ok (.iinc 5 (-1), 3) := by decide +kernel
theorem dX13_marches_192 : decode cX13_marches 192 = .ok (.goto (-141), 3) := by decide +kernel
theorem dX13_marches_195 : decode cX13_marches 195 = .ok (.iload 4, 2) := by decide +kernel
theorem dX13_marches_197 : decode cX13_marches 197 = .ok (.iconst 1, 1) := by decide +kernel
theorem dX13_marches_198 : decode cX13_marches 198 = .ok (.aload_n 0, 1) := by decide +kernel
theorem dX13_marches_199 : decode cX13_marches 199 = .ok (.getfield 36, 3) := by decide +kernel
theorem dX13_marches_202 : decode cX13_marches 202 = .ok (.iload 5, 2) := by decide +kernel
theorem dX13_marches_204 : decode cX13_marches 204 = .ok (.iaload, 1) := by decide +kernel
theorem dX13_marches_205 : decode cX13_marches 205 = .ok (.ishl, 1) := by decide +kernel
theorem dX13_marches_206 : decode cX13_marches 206 = .ok (.ior, 1) := by decide +kernel
theorem dX13_marches_207 : decode cX13_marches 207 = .ok (.istore 4, 2) := by decide +kernel
theorem dX13_marches_209 : decode cX13_marches 209 = .ok (.aload_n 0, 1) := by decide +kernel
theorem dX13_marches_210 : decode cX13_marches 210 = .ok (.getfield 42, 3) := by decide +kernel
theorem dX13_marches_213 : decode cX13_marches 213 = .ok (.iload 5, 2) := by decide +kernel
theorem dX13_marches_215 : decode cX13_marches 215 = .ok (.aload_n 0, 1) := by decide +kernel
theorem dX13_marches_216 : decode cX13_marches 216 = .ok (.getfield 42, 3) := by decide +kernel
theorem dX13_marches_219 : decode cX13_marches 219 = .ok (.iload 5, 2) := by decide +kernel
theorem dX13_marches_221 : decode cX13_marches 221 = .ok (.iconst 1, 1) := by decide +kernel
theorem dX13_marches_222 : decode cX13_marches 222 = .ok (.isub, 1) := by decide +kernel
theorem dX13_marches_223 : decode cX13_marches 223 = .ok (.iaload, 1) := by decide +kernel
theorem dX13_marches_224 : decode cX13_marches 224 = .ok (.aload_n 0, 1) := by decide +kernel
theorem dX13_marches_225 : decode cX13_marches 225 = .ok (.getfield 301, 3) := by decide +kernel
theorem dX13_marches_228 : decode cX13_marches 228 = .ok (.getfield 282, 3) := by decide +kernel
theorem dX13_marches_231 : decode cX13_marches 231 = .ok (.bipush 6, 2) := by decide +kernel
theorem dX13_marches_233 : decode cX13_marches 233 = .ok (.aload_n 0, 1) := by decide +kernel
theorem dX13_marches_234 : decode cX13_marches 234 = .ok (.getfield 36, 3) := by decide +kernel
theorem dX13_marches_237 : decode cX13_marches 237 = .ok (.iload 5, 2) := by decide +kernel
theorem dX13_marches_239 : decode cX13_marches 239 = .ok (.iconst 1, 1) := by decide +kernel
theorem dX13_marches_240 : decode cX13_marches 240 = .ok (.isub, 1) := by decide +kernel
theorem dX13_marches_241 : decode cX13_marches 241 = .ok (.iaload, 1) := by decide +kernel
theorem dX13_marches_242 : decode cX13_marches 242 = .ok (.imul, 1) := by decide +kernel
theorem dX13_marches_243 : decode cX13_marches 243 = .ok (.aload_n 0, 1) := by decide +kernel
theorem dX13_marches_244 : decode cX13_marches 244 = .ok (.getfield 36, 3) := by decide +kernel
theorem dX13_marches_247 : decode cX13_marches 247 = .ok (.iload 5, 2) := by decide +kernel
theorem dX13_marches_249 : decode cX13_marches 249 = .ok (.iaload, 1) := by decide +kernel
theorem dX13_marches_250 : decode cX13_marches 250 = .ok (.iadd, 1) := by decide +kernel
theorem dX13_marches_251 : decode cX13_marches 251 = .ok (.iaload, 1) := by decide +kernel
theorem dX13_marches_252 : decode cX13_marches 252 = .ok (.invokestatic 417, 3) := by decide +kernel
theorem dX13_marches_255 : decode cX13_marches 255 = .ok (.iastore, 1) := by decide +kernel
theorem dX13_marches_256 : decode cX13_marches 256 = .ok (.aload_n 0, 1) := by decide +kernel
theorem dX13_marches_257 : decode cX13_marches 257 = .ok (.getfield 36, 3) := by decide +kernel
theorem dX13_marches_260 : decode cX13_marches 260 = .ok (.iload 5, 2) := by decide +kernel
theorem dX13_marches_262 : decode cX13_marches 262 = .ok (.iaload, 1) := by decide +kernel
theorem dX13_marches_263 : decode cX13_marches 263 = .ok (.iload_n 2, 1) := by decide +kernel
theorem dX13_marches_264 : decode cX13_marches 264 = .ok (.if_icmp .ne 14, 3) := by decide +kernel
theorem dX13_marches_267 : decode cX13_marches 267 = .ok (.aload_n 0, 1) := by decide +kernel
theorem dX13_marches_268 : decode cX13_marches 268 = .ok (.iload 5, 2) := by decide +kernel
theorem dX13_marches_270 : decode cX13_marches 270 = .ok (.iconst 1, 1) := by decide +kernel
theorem dX13_marches_271 : decode cX13_marches 271 = .ok (.iadd, 1) := by decide +kernel
theorem dX13_marches_272 : decode cX13_marches 272 = .ok (.invokevirtual 414, 3) := by decide +kernel
theorem dX13_marches_275 : decode cX13_marches 275 = .ok (.goto (-224), 3) := by decide +kernel
theorem dX13_marches_278 : decode cX13_marches 278 = .ok (.iload 5, 2) := by decide +kernel
theorem dX13_marches_280 : decode cX13_marches 280 = .ok (.iconst 1, 1) := by decide +kernel
theorem dX13_marches_281 : decode cX13_marches 281 = .ok (.iadd, 1) := by decide +kernel
theorem dX13_marches_282 : decode cX13_marches 282 = .ok (.aload_n 0, 1) := by decide +kernel
theorem dX13_marches_283 : decode cX13_marches 283 = .ok (.getfield 301, 3) := by decide +kernel
theorem dX13_marches_286 : decode cX13_marches 286 = .ok (.getfield 279, 3) := by decide +kernel
theorem dX13_marches_289 : decode cX13_marches 289 = .ok (.if_icmp .ge (-238), 3) := by decide +kernel
theorem dX13_marches_292 : decode cX13_marches 292 = .ok (.iinc 5 1, 3) := by decide +kernel
theorem dX13_marches_295 : decode cX13_marches 295 = .ok (.aload_n 0, 1) := by decide +kernel
theorem dX13_marches_296 : decode cX13_marches 296 = .ok (.getfield 36, 3) := by decide +kernel
theorem dX13_marches_299 : decode cX13_marches 299 = .ok (.iload 5, 2) := by decide +kernel
theorem dX13_marches_301 : decode cX13_marches 301 = .ok (.iconst (-1), 1) := by decide +kernel
theorem dX13_marches_302 : decode cX13_marches 302 = .ok (.iastore, 1) := by decide +kernel
theorem dX13_marches_303 : decode cX13_marches 303 = .ok (.goto (-252), 3) := by decide +kernel
theorem dX13_marches_306 : decode cX13_marches 306 = .ok (.return_, 1) := by decide +kernel
theorem dX13_comes_0 : decode cX13_comes 0 = .ok (.aload_n 0, 1) := by decide +kernel
theorem dX13_comes_1 : decode cX13_comes 1 = .ok (.getfield 42, 3) := by decide +kernel
theorem dX13_comes_4 : decode cX13_comes 4 = .ok (.iload_n 1, 1) := by decide +kernel
theorem dX13_comes_5 : decode cX13_comes 5 = .ok (.iconst 1, 1) := by decide +kernel
theorem dX13_comes_6 : decode cX13_comes 6 = .ok (.isub, 1) := by decide +kernel
theorem dX13_comes_7 : decode cX13_comes 7 = .ok (.iaload, 1) := by decide +kernel
theorem dX13_comes_8 : decode cX13_comes 8 = .ok (.aload_n 0, 1) := by decide +kernel
theorem dX13_comes_9 : decode cX13_comes 9 = .ok (.getfield 411, 3) := by decide +kernel
theorem dX13_comes_12 : decode cX13_comes 12 = .ok (.if_icmp .gt 4, 3) := by decide +kernel
theorem dX13_comes_15 : decode cX13_comes 15 = .ok (.return_, 1) := by decide +kernel
theorem dX13_comes_16 : decode cX13_comes 16 = .ok (.aload_n 0, 1) := by decide +kernel
theorem dX13_comes_17 : decode cX13_comes 17 = .ok (.aload_n 0, 1) := by decide +kernel
theorem dX13_comes_18 : decode cX13_comes 18 = .ok (.getfield 42, 3) := by decide +kernel
theorem dX13_comes_21 : decode cX13_comes 21 = .ok (.iload_n 1, 1) := by decide +kernel
theorem dX13_comes_22 : decode cX13_comes 22 = .ok (.iconst 1, 1) := by decide +kernel
theorem dX13_comes_23 : decode cX13_comes 23 = .ok (.isub, 1) := by decide +kernel
theorem dX13_comes_24 : decode cX13_comes 24 = .ok (.iaload, 1) := by decide +kernel
theorem dX13_comes_25 : decode cX13_comes 25 = .ok (.putfield 411, 3) := by decide +kernel
theorem dX13_comes_28 : decode cX13_comes 28 = .ok (.aload_n 0, 1) := by decide +kernel
theorem dX13_comes_29 : decode cX13_comes 29 = .ok (.iload_n 1, 1) := by decide +kernel
theorem dX13_comes_30 : decode cX13_comes 30 = .ok (.putfield 408, 3) := by decide +kernel
theorem dX13_comes_33 : decode cX13_comes 33 = .ok (.iconst 0, 1) := by decide +kernel
theorem dX13_comes_34 : decode cX13_comes 34 = .ok (.istore_n 2, 1) := by decide +kernel
theorem dX13_comes_35 : decode cX13_comes 35 = .ok (.iload_n 2, 1) := by decide +kernel
theorem dX13_comes_36 : decode cX13_comes 36 = .ok (.iload_n 1, 1) := by decide +kernel
theorem dX13_comes_37 : decode cX13_comes 37 = .ok (.if_icmp .ge 21, 3) := by decide +kernel
theorem dX13_comes_40 : decode cX13_comes 40 = .ok (.aload_n 0, 1) := by decide +kernel
theorem dX13_comes_41 : decode cX13_comes 41 = .ok (.getfield 39, 3) := by decide +kernel
theorem dX13_comes_44 : decode cX13_comes 44 = .ok (.iload_n 2, 1) := by decide +kernel
theorem dX13_comes_45 : decode cX13_comes 45 = .ok (.aload_n 0, 1) := by decide +kernel
theorem dX13_comes_46 : decode cX13_comes 46 = .ok (.getfield 36, 3) := by decide +kernel
theorem dX13_comes_49 : decode cX13_comes 49 = .ok (.iload_n 2, 1) := by decide +kernel
theorem dX13_comes_50 : decode cX13_comes 50 = .ok (.iaload, 1) := by decide +kernel
theorem dX13_comes_51 : decode cX13_comes 51 = .ok (.iastore, 1) := by decide +kernel
theorem dX13_comes_52 : decode cX13_comes 52 = .ok (.iinc 2 1, 3) := by decide +kernel
theorem dX13_comes_55 : decode cX13_comes 55 = .ok (.goto (-20), 3) := by decide +kernel
theorem dX13_comes_58 : decode cX13_comes 58 = .ok (.return_, 1) := by decide +kernel
theorem dX13_refusesMarch_0 : decode cX13_refusesMarch 0 = .ok (.aload_n 0, 1) := by decide +kernel
theorem dX13_refusesMarch_1 : decode cX13_refusesMarch 1 = .ok (.iload_n 1, 1) := by decide +kernel
theorem dX13_refusesMarch_2 : decode cX13_refusesMarch 2 = .ok (.invokevirtual 420, 3) := by decide +kernel
theorem dX13_refusesMarch_5 : decode cX13_refusesMarch 5 = .ok (.ifCond .eq 11, 3) := by decide +kernel
theorem dX13_refusesMarch_8 : decode cX13_refusesMarch 8 = .ok (.aload_n 0, 1) := by decide +kernel
theorem dX13_refusesMarch_9 : decode cX13_refusesMarch 9 = .ok (.iload_n 2, 1) := by decide +kernel
theorem dX13_refusesMarch_10 : decode cX13_refusesMarch 10 = .ok (.invokevirtual 420, 3) := by decide +kernel
theorem dX13_refusesMarch_13 : decode cX13_refusesMarch 13 = .ok (.ifCond .ne 7, 3) := by decide +kernel
theorem dX13_refusesMarch_16 : decode cX13_refusesMarch 16 = .ok (.iconst 1, 1) := by decide +kernel
theorem dX13_refusesMarch_17 : decode cX13_refusesMarch 17 = .ok (.goto 19, 3) := by decide +kernel
theorem dX13_refusesMarch_20 : decode cX13_refusesMarch 20 = .ok (.iload_n 3, 1) := by decide +kernel
theorem dX13_refusesMarch_21 : decode cX13_refusesMarch 21 = .ok (.iconst 0, 1) := by decide +kernel
theorem dX13_refusesMarch_22 : decode cX13_refusesMarch 22 = .ok (.sipush 999, 3) := by decide +kernel
theorem dX13_refusesMarch_25 : decode cX13_refusesMarch 25 = .ok (.invokestatic 129, 3) := by decide +kernel
theorem dX13_refusesMarch_28 : decode cX13_refusesMarch 28 = .ok (.ifCond .eq 7, 3) := by decide +kernel
theorem dX13_refusesMarch_31 : decode cX13_refusesMarch 31 = .ok (.iconst 0, 1) := by decide +kernel
theorem dX13_refusesMarch_32 : decode cX13_refusesMarch 32 = .ok (.goto 4, 3) := by decide +kernel
theorem dX13_refusesMarch_35 : decode cX13_refusesMarch 35 = .ok (.iconst 2, 1) := by decide +kernel
theorem dX13_refusesMarch_36 : decode cX13_refusesMarch 36 = .ok (.ireturn, 1) := by decide +kernel
theorem dX13_march_0 : decode cX13_march 0 = .ok (.aload_n 0, 1) := by decide +kernel
theorem dX13_march_1 : decode cX13_march 1 = .ok (.iconst 0, 1) := by decide +kernel
theorem dX13_march_2 : decode cX13_march 2 = .ok (.putfield 48, 3) := by decide +kernel
theorem dX13_march_5 : decode cX13_march 5 = .ok (.aload_n 0, 1) := by decide +kernel
theorem dX13_march_6 : decode cX13_march 6 = .ok (.iload_n 1, 1) := by decide +kernel
theorem dX13_march_7 : decode cX13_march 7 = .ok (.iload_n 2, 1) := by decide +kernel
theorem dX13_march_8 : decode cX13_march 8 = .ok (.iload_n 3, 1) := by decide +kernel
theorem dX13_march_9 : decode cX13_march 9 = .ok (.invokevirtual 423, 3) := by decide +kernel
theorem dX13_march_12 : decode cX13_march 12 = .ok (.istore 4, 2) := by decide +kernel
theorem dX13_march_14 : decode cX13_march 14 = .ok (.iload 4, 2) := by decide +kernel
theorem dX13_march_16 : decode cX13_march 16 = .ok (.ifCond .le 10, 3) := by decide +kernel
theorem dX13_march_19 : decode cX13_march 19 = .ok (.aload_n 0, 1) := by decide +kernel
theorem dX13_march_20 : decode cX13_march 20 = .ok (.iload 4, 2) := by decide +kernel
theorem dX13_march_22 : decode cX13_march 22 = .ok (.invokevirtual 54, 3) := by decide +kernel
theorem dX13_march_25 : decode cX13_march 25 = .ok (.ireturn, 1) := by decide +kernel
theorem dX13_march_26 : decode cX13_march 26 = .ok (.aload_n 0, 1) := by decide +kernel
theorem dX13_march_27 : decode cX13_march 27 = .ok (.iload_n 1, 1) := by decide +kernel
theorem dX13_march_28 : decode cX13_march 28 = .ok (.iload_n 2, 1) := by decide +kernel
theorem dX13_march_29 : decode cX13_march 29 = .ok (.iload_n 3, 1) := by decide +kernel
theorem dX13_march_30 : decode cX13_march 30 = .ok (.invokevirtual 427, 3) := by decide +kernel
theorem dX13_march_33 : decode cX13_march 33 = .ok (.aload_n 0, 1) := by decide +kernel
theorem dX13_march_34 : decode cX13_march 34 = .ok (.aload_n 0, 1) := by decide +kernel
theorem dX13_march_35 : decode cX13_march 35 = .ok (.getfield 411, 3) := by decide +kernel
theorem dX13_march_38 : decode cX13_march 38 = .ok (.invokevirtual 60, 3) := by decide +kernel
theorem dX13_march_41 : decode cX13_march 41 = .ok (.ireturn, 1) := by decide +kernel
theorem dX13_marchAt_0 : decode cX13_marchAt 0 = .ok (.aload_n 0, 1) := by decide +kernel
theorem dX13_marchAt_1 : decode cX13_marchAt 1 = .ok (.iconst 0, 1) := by decide +kernel
theorem dX13_marchAt_2 : decode cX13_marchAt 2 = .ok (.putfield 48, 3) := by decide +kernel
theorem dX13_marchAt_5 : decode cX13_marchAt 5 = .ok (.aload_n 0, 1) := by decide +kernel
theorem dX13_marchAt_6 : decode cX13_marchAt 6 = .ok (.iload_n 1, 1) := by decide +kernel
theorem dX13_marchAt_7 : decode cX13_marchAt 7 = .ok (.iload_n 2, 1) := by decide +kernel
theorem dX13_marchAt_8 : decode cX13_marchAt 8 = .ok (.iload_n 3, 1) := by decide +kernel
theorem dX13_marchAt_9 : decode cX13_marchAt 9 = .ok (.invokevirtual 423, 3) := by decide +kernel
theorem dX13_marchAt_12 : decode cX13_marchAt 12 = .ok (.istore 5, 2) := by decide +kernel
theorem dX13_marchAt_14 : decode cX13_marchAt 14 = .ok (.iload 5, 2) := by decide +kernel
theorem dX13_marchAt_16 : decode cX13_marchAt 16 = .ok (.ifCond .le 10, 3) := by decide +kernel
theorem dX13_marchAt_19 : decode cX13_marchAt 19 = .ok (.aload_n 0, 1) := by decide +kernel
theorem dX13_marchAt_20 : decode cX13_marchAt 20 = .ok (.iload 5, 2) := by decide +kernel
theorem dX13_marchAt_22 : decode cX13_marchAt 22 = .ok (.invokevirtual 54, 3) := by decide +kernel
theorem dX13_marchAt_25 : decode cX13_marchAt 25 = .ok (.ireturn, 1) := by decide +kernel
theorem dX13_marchAt_26 : decode cX13_marchAt 26 = .ok (.aload_n 0, 1) := by decide +kernel
theorem dX13_marchAt_27 : decode cX13_marchAt 27 = .ok (.iload_n 1, 1) := by decide +kernel
theorem dX13_marchAt_28 : decode cX13_marchAt 28 = .ok (.iload_n 2, 1) := by decide +kernel
theorem dX13_marchAt_29 : decode cX13_marchAt 29 = .ok (.iload_n 3, 1) := by decide +kernel
theorem dX13_marchAt_30 : decode cX13_marchAt 30 = .ok (.invokevirtual 427, 3) := by decide +kernel
theorem dX13_marchAt_33 : decode cX13_marchAt 33 = .ok (.iload 4, 2) := by decide +kernel
theorem dX13_marchAt_35 : decode cX13_marchAt 35 = .ok (.ifCond .lt 26, 3) := by decide +kernel
theorem dX13_marchAt_38 : decode cX13_marchAt 38 = .ok (.iload 4, 2) := by decide +kernel
theorem dX13_marchAt_40 : decode cX13_marchAt 40 = .ok (.aload_n 0, 1) := by decide +kernel
theorem dX13_marchAt_41 : decode cX13_marchAt 41 = .ok (.getfield 408, 3) := by decide +kernel
theorem dX13_marchAt_44 : decode cX13_marchAt 44 = .ok (.if_icmp .ge 17, 3) := by decide +kernel
theorem dX13_marchAt_47 : decode cX13_marchAt 47 = .ok (.aload_n 0, 1) := by decide +kernel
theorem dX13_marchAt_48 : decode cX13_marchAt 48 = .ok (.aload_n 0, 1) := by decide +kernel
theorem dX13_marchAt_49 : decode cX13_marchAt 49 = .ok (.getfield 39, 3) := by decide +kernel
theorem dX13_marchAt_52 : decode cX13_marchAt 52 = .ok (.iload 4, 2) := by decide +kernel
theorem dX13_marchAt_54 : decode cX13_marchAt 54 = .ok (.iaload, 1) := by decide +kernel
theorem dX13_marchAt_55 : decode cX13_marchAt 55 = .ok (.invokevirtual 60, 3) := by decide +kernel
theorem dX13_marchAt_58 : decode cX13_marchAt 58 = .ok (.goto 8, 3) := by decide +kernel
theorem dX13_marchAt_61 : decode cX13_marchAt 61 = .ok (.aload_n 0, 1) := by decide +kernel
theorem dX13_marchAt_62 : decode cX13_marchAt 62 = .ok (.iconst 1, 1) := by decide +kernel
theorem dX13_marchAt_63 : decode cX13_marchAt 63 = .ok (.invokevirtual 54, 3) := by decide +kernel
theorem dX13_marchAt_66 : decode cX13_marchAt 66 = .ok (.ireturn, 1) := by decide +kernel
theorem dX13_reach_0 : decode cX13_reach 0 = .ok (.aload_n 0, 1) := by decide +kernel
theorem dX13_reach_1 : decode cX13_reach 1 = .ok (.iconst 0, 1) := by decide +kernel
theorem dX13_reach_2 : decode cX13_reach 2 = .ok (.putfield 48, 3) := by decide +kernel
theorem dX13_reach_5 : decode cX13_reach 5 = .ok (.aload_n 0, 1) := by decide +kernel
theorem dX13_reach_6 : decode cX13_reach 6 = .ok (.iload_n 1, 1) := by decide +kernel
theorem dX13_reach_7 : decode cX13_reach 7 = .ok (.invokevirtual 420, 3) := by decide +kernel
theorem dX13_reach_10 : decode cX13_reach 10 = .ok (.ifCond .ne 9, 3) := by decide +kernel
theorem dX13_reach_13 : decode cX13_reach 13 = .ok (.aload_n 0, 1) := by decide +kernel
theorem dX13_reach_14 : decode cX13_reach 14 = .ok (.iconst 1, 1) := by decide +kernel
theorem dX13_reach_15 : decode cX13_reach 15 = .ok (.invokevirtual 54, 3) := by decide +kernel
theorem dX13_reach_18 : decode cX13_reach 18 = .ok (.ireturn, 1) := by decide +kernel
theorem dX13_reach_19 : decode cX13_reach 19 = .ok (.iconst 1, 1) := by decide +kernel
theorem dX13_reach_20 : decode cX13_reach 20 = .ok (.iload_n 1, 1) := by decide +kernel
theorem dX13_reach_21 : decode cX13_reach 21 = .ok (.ishl, 1) := by decide +kernel
theorem dX13_reach_22 : decode cX13_reach 22 = .ok (.istore_n 2, 1) := by decide +kernel
theorem dX13_reach_23 : decode cX13_reach 23 = .ok (.iconst 0, 1) := by decide +kernel
theorem dX13_reach_24 : decode cX13_reach 24 = .ok (.istore_n 3, 1) := by decide +kernel
theorem dX13_reach_25 : decode cX13_reach 25 = .ok (.iload_n 3, 1) := by decide +kernel
theorem dX13_reach_26 : decode cX13_reach 26 = .ok (.bipush 6, 2) := by decide +kernel
theorem dX13_reach_28 : decode cX13_reach 28 = .ok (.if_icmp .ge 93, 3) := by decide +kernel
theorem dX13_reach_31 : decode cX13_reach 31 = .ok (.iconst 0, 1) := by decide +kernel
theorem dX13_reach_32 : decode cX13_reach 32 = .ok (.istore 4, 2) := by decide +kernel
theorem dX13_reach_34 : decode cX13_reach 34 = .ok (.iload 4, 2) := by decide +kernel
theorem dX13_reach_36 : decode cX13_reach 36 = .ok (.bipush 36, 2) := by decide +kernel
theorem dX13_reach_38 : decode cX13_reach 38 = .ok (.if_icmp .ge 77, 3) := by decide +kernel
theorem dX13_reach_41 : decode cX13_reach 41 = .ok (.iload 4, 2) := by decide +kernel
theorem dX13_reach_43 : decode cX13_reach 43 = .ok (.bipush 6, 2) := by decide +kernel
theorem dX13_reach_45 : decode cX13_reach 45 = .ok (.idiv, 1) := by decide +kernel
theorem dX13_reach_46 : decode cX13_reach 46 = .ok (.istore 5, 2) := by decide +kernel
theorem dX13_reach_48 : decode cX13_reach 48 = .ok (.iload 4, 2) := by decide +kernel
theorem dX13_reach_50 : decode cX13_reach 50 = .ok (.bipush 6, 2) := by decide +kernel
theorem dX13_reach_52 : decode cX13_reach 52 = .ok (.irem, 1) := by decide +kernel
theorem dX13_reach_53 : decode cX13_reach 53 = .ok (.istore 6, 2) := by decide +kernel
theorem dX13_reach_55 : decode cX13_reach 55 = .ok (.iload 5, 2) := by decide +kernel
theorem dX13_reach_57 : decode cX13_reach 57 = .ok (.aload_n 0, 1) := by decide +kernel
theorem dX13_reach_58 : decode cX13_reach 58 = .ok (.getfield 301, 3) := by decide +kernel
theorem dX13_reach_61 : decode cX13_reach 61 = .ok (.getfield 279, 3) := by decide +kernel
theorem dX13_reach_64 : decode cX13_reach 64 = .ok (.if_icmp .ge 45, 3) := by decide +kernel
theorem dX13_reach_67 : decode cX13_reach 67 = .ok (.iload 6, 2) := by decide +kernel
theorem dX13_reach_69 : decode cX13_reach 69 = .ok (.aload_n 0, 1) := by decide +kernel
theorem dX13_reach_70 : decode cX13_reach 70 = .ok (.getfield 301, 3) := by decide +kernel
theorem dX13_reach_73 : decode cX13_reach 73 = .ok (.getfield 279, 3) := by decide +kernel
theorem dX13_reach_76 : decode cX13_reach 76 = .ok (.if_icmp .ge 33, 3) := by decide +kernel
theorem dX13_reach_79 : decode cX13_reach 79 = .ok (.iload_n 2, 1) := by decide +kernel
theorem dX13_reach_80 : decode cX13_reach 80 = .ok (.iload 5, 2) := by decide +kernel
theorem dX13_reach_82 : decode cX13_reach 82 = .ok (.invokestatic 229, 3) := by decide +kernel
theorem dX13_reach_85 : decode cX13_reach 85 = .ok (.ifCond .eq 24, 3) := by decide +kernel
theorem dX13_reach_88 : decode cX13_reach 88 = .ok (.aload_n 0, 1) := by decide +kernel
theorem dX13_reach_89 : decode cX13_reach 89 = .ok (.getfield 301, 3) := by decide +kernel
theorem dX13_reach_92 : decode cX13_reach 92 = .ok (.getfield 282, 3) := by decide +kernel
theorem dX13_reach_95 : decode cX13_reach 95 = .ok (.iload 4, 2) := by decide +kernel
theorem dX13_reach_97 : decode cX13_reach 97 = .ok (.iaload, 1) := by decide +kernel
theorem dX13_reach_98 : decode cX13_reach 98 = .ok (.iconst (-1), 1) := by decide +kernel
theorem dX13_reach_99 : decode cX13_reach 99 = .ok (.if_icmp .eq 10, 3) := by decide +kernel
theorem dX13_reach_102 : decode cX13_reach 102 = .ok (.iload_n 2, 1) := by decide +kernel
theorem dX13_reach_103 : decode cX13_reach 103 = .ok (.iconst 1, 1) := by decide +kernel
theorem dX13_reach_104 : decode cX13_reach 104 = .ok (.iload 6, 2) := by decide +kernel
theorem dX13_reach_106 : decode cX13_reach 106 = .ok (.ishl, 1) := by decide +kernel
theorem dX13_reach_107 : decode cX13_reach 107 = .ok (.ior, 1) := by decide +kernel
theorem dX13_reach_108 : decode cX13_reach 108 = .ok (.istore_n 2, 1) := by decide +kernel
theorem dX13_reach_109 : decode cX13_reach 109 = .ok (.iinc 4 1, 3) := by decide +kernel
theorem dX13_reach_112 : decode cX13_reach 112 = .ok (.goto (-78), 3) := by decide +kernel
theorem dX13_reach_115 : decode cX13_reach 115 = .ok (.iinc 3 1, 3) := by decide +kernel
theorem dX13_reach_118 : decode cX13_reach 118 = .ok (.goto (-93), 3) := by decide +kernel
theorem dX13_reach_121 : decode cX13_reach 121 = .ok (.aload_n 0, 1) := by decide +kernel
theorem dX13_reach_122 : decode cX13_reach 122 = .ok (.iload_n 2, 1) := by decide +kernel
theorem dX13_reach_123 : decode cX13_reach 123 = .ok (.invokevirtual 60, 3) := by decide +kernel
theorem dX13_reach_126 : decode cX13_reach 126 = .ok (.ireturn, 1) := by decide +kernel
theorem dX13_worstPass_0 : decode cX13_worstPass 0 = .ok (.aload_n 0, 1) := by decide +kernel
theorem dX13_worstPass_1 : decode cX13_worstPass 1 = .ok (.iconst 0, 1) := by decide +kernel
theorem dX13_worstPass_2 : decode cX13_worstPass 2 = .ok (.putfield 48, 3) := by decide +kernel
theorem dX13_worstPass_5 : decode cX13_worstPass 5 = .ok (.aload_n 0, 1) := by decide +kernel
theorem dX13_worstPass_6 : decode cX13_worstPass 6 = .ok (.iload_n 1, 1) := by decide +kernel
theorem dX13_worstPass_7 : decode cX13_worstPass 7 = .ok (.iload_n 2, 1) := by decide +kernel
theorem dX13_worstPass_8 : decode cX13_worstPass 8 = .ok (.iload_n 3, 1) := by decide +kernel
theorem dX13_worstPass_9 : decode cX13_worstPass 9 = .ok (.invokevirtual 423, 3) := by decide +kernel
theorem dX13_worstPass_12 : decode cX13_worstPass 12 = .ok (.istore 4, 2) := by decide +kernel
theorem dX13_worstPass_14 : decode cX13_worstPass 14 = .ok (.iload 4, 2) := by decide +kernel
theorem dX13_worstPass_16 : decode cX13_worstPass 16 = .ok (.ifCond .le 10, 3) := by decide +kernel
theorem dX13_worstPass_19 : decode cX13_worstPass 19 = .ok (.aload_n 0, 1) := by decide +kernel
theorem dX13_worstPass_20 : decode cX13_worstPass 20 = .ok (.iload 4, 2) := by decide +kernel
theorem dX13_worstPass_22 : decode cX13_worstPass 22 = .ok (.invokevirtual 54, 3) := by decide +kernel
theorem dX13_worstPass_25 : decode cX13_worstPass 25 = .ok (.ireturn, 1) := by decide +kernel
theorem dX13_worstPass_26 : decode cX13_worstPass 26 = .ok (.aload_n 0, 1) := by decide +kernel
theorem dX13_worstPass_27 : decode cX13_worstPass 27 = .ok (.iload_n 1, 1) := by decide +kernel
theorem dX13_worstPass_28 : decode cX13_worstPass 28 = .ok (.iload_n 2, 1) := by decide +kernel
theorem dX13_worstPass_29 : decode cX13_worstPass 29 = .ok (.iload_n 3, 1) := by decide +kernel
theorem dX13_worstPass_30 : decode cX13_worstPass 30 = .ok (.invokevirtual 427, 3) := by decide +kernel
theorem dX13_worstPass_33 : decode cX13_worstPass 33 = .ok (.bipush (-2), 2) := by decide +kernel
theorem dX13_worstPass_35 : decode cX13_worstPass 35 = .ok (.istore 5, 2) := by decide +kernel
theorem dX13_worstPass_37 : decode cX13_worstPass 37 = .ok (.iconst 0, 1) := by decide +kernel
theorem dX13_worstPass_38 : decode cX13_worstPass 38 = .ok (.istore 6, 2) := by decide +kernel
theorem dX13_worstPass_40 : decode cX13_worstPass 40 = .ok (.iload_n 3, 1) := by decide +kernel
theorem dX13_worstPass_41 : decode cX13_worstPass 41 = .ok (.istore 7, 2) := by decide +kernel
theorem dX13_worstPass_43 : decode cX13_worstPass 43 = .ok (.iconst 1, 1) := by decide +kernel
theorem dX13_worstPass_44 : decode cX13_worstPass 44 = .ok (.istore 8, 2) := by decide +kernel
theorem dX13_worstPass_46 : decode cX13_worstPass 46 = .ok (.iload 8, 2) := by decide +kernel
theorem dX13_worstPass_48 : decode cX13_worstPass 48 = .ok (.aload_n 0, 1) := by decide +kernel
theorem dX13_worstPass_49 : decode cX13_worstPass 49 = .ok (.getfield 408, 3) := by decide +kernel
theorem dX13_worstPass_52 : decode cX13_worstPass 52 = .ok (.if_icmp .ge 87, 3) := by decide +kernel
theorem dX13_worstPass_55 : decode cX13_worstPass 55 = .ok (.iload 7, 2) := by decide +kernel
theorem dX13_worstPass_57 : decode cX13_worstPass 57 = .ok (.aload_n 0, 1) := by decide +kernel
theorem dX13_worstPass_58 : decode cX13_worstPass 58 = .ok (.getfield 301, 3) := by decide +kernel
theorem dX13_worstPass_61 : decode cX13_worstPass 61 = .ok (.getfield 282, 3) := by decide +kernel
theorem dX13_worstPass_64 : decode cX13_worstPass 64 = .ok (.bipush 6, 2) := by decide +kernel
theorem dX13_worstPass_66 : decode cX13_worstPass 66 = .ok (.aload_n 0, 1) := by decide +kernel
theorem dX13_worstPass_67 : decode cX13_worstPass 67 = .ok (.getfield 39, 3) := by decide +kernel
theorem dX13_worstPass_70 : decode cX13_worstPass 70 = .ok (.iload 8, 2) := by decide +kernel
theorem dX13_worstPass_72 : decode cX13_worstPass 72 = .ok (.iconst 1, 1) := by decide +kernel
theorem dX13_worstPass_73 : decode cX13_worstPass 73 = .ok (.isub, 1) := by decide +kernel
theorem dX13_worstPass_74 : decode cX13_worstPass 74 = .ok (.iaload, 1) := by decide +kernel
theorem dX13_worstPass_75 : decode cX13_worstPass 75 = .ok (.imul, 1) := by decide +kernel
theorem dX13_worstPass_76 : decode cX13_worstPass 76 = .ok (.aload_n 0, 1) := by decide +kernel
theorem dX13_worstPass_77 : decode cX13_worstPass 77 = .ok (.getfield 39, 3) := by decide +kernel
theorem dX13_worstPass_80 : decode cX13_worstPass 80 = .ok (.iload 8, 2) := by decide +kernel
theorem dX13_worstPass_82 : decode cX13_worstPass 82 = .ok (.iaload, 1) := by decide +kernel
theorem dX13_worstPass_83 : decode cX13_worstPass 83 = .ok (.iadd, 1) := by decide +kernel
theorem dX13_worstPass_84 : decode cX13_worstPass 84 = .ok (.iaload, 1) := by decide +kernel
theorem dX13_worstPass_85 : decode cX13_worstPass 85 = .ok (.invokestatic 417, 3) := by decide +kernel
theorem dX13_worstPass_88 : decode cX13_worstPass 88 = .ok (.istore 9, 2) := by decide +kernel
theorem dX13_worstPass_90 : decode cX13_worstPass 90 = .ok (.iload 7, 2) := by decide +kernel
theorem dX13_worstPass_92 : decode cX13_worstPass 92 = .ok (.iload 9, 2) := by decide +kernel
theorem dX13_worstPass_94 : decode cX13_worstPass 94 = .ok (.isub, 1) := by decide +kernel
theorem dX13_worstPass_95 : decode cX13_worstPass 95 = .ok (.iload 6, 2) := by decide +kernel
theorem dX13_worstPass_97 : decode cX13_worstPass 97 = .ok (.if_icmp .le 32, 3) := by decide +kernel
theorem dX13_worstPass_100 : decode cX13_worstPass 100 = .ok (.iload 7, 2) := by decide +kernel
theorem dX13_worstPass_102 : decode cX13_worstPass 102 = .ok (.iload 9, 2) := by decide +kernel
theorem dX13_worstPass_104 : decode cX13_worstPass 104 = .ok (.isub, 1) := by decide +kernel
theorem dX13_worstPass_105 : decode cX13_worstPass 105 = .ok (.istore 6, 2) := by decide +kernel
theorem dX13_worstPass_107 : decode cX13_worstPass 107 = .ok (.bipush 10, 2) := by decide +kernel
theorem dX13_worstPass_109 : decode cX13_worstPass 109 = .ok (.aload_n 0, 1) := by decide +kernel
theorem dX13_worstPass_110 : decode cX13_worstPass 110 = .ok (.getfield 39, 3) := by decide +kernel
theorem dX13_worstPass_113 : decode cX13_worstPass 113 = .ok (.iload 8, 2) := by decide +kernel
theorem dX13_worstPass_115 : decode cX13_worstPass 115 = .ok (.iconst 1, 1) := by decide +kernel
theorem dX13_worstPass_116 : decode cX13_worstPass 116 = .ok (.isub, 1) := by decide +kernel
theorem dX13_worstPass_117 : decode cX13_worstPass 117 = .ok (.iaload, 1) := by decide +kernel
theorem dX13_worstPass_118 : decode cX13_worstPass 118 = .ok (.imul, 1) := by decide +kernel
theorem dX13_worstPass_119 : decode cX13_worstPass 119 = .ok (.aload_n 0, 1) := by decide +kernel
theorem dX13_worstPass_120 : decode cX13_worstPass 120 = .ok (.getfield 39, 3) := by decide +kernel
theorem dX13_worstPass_123 : decode cX13_worstPass 123 = .ok (.iload 8, 2) := by decide +kernel
theorem dX13_worstPass_125 : decode cX13_worstPass 125 = .ok (.iaload, 1) := by decide +kernel
theorem dX13_worstPass_126 : decode cX13_worstPass 126 = .ok (.iadd, 1) := by decide +kernel
theorem dX13_worstPass_127 : decode cX13_worstPass 127 = .ok (.istore 5, 2) := by decide +kernel
theorem dX13_worstPass_129 : decode cX13_worstPass 129 = .ok (.iload 9, 2) := by decide +kernel
theorem dX13_worstPass_131 : decode cX13_worstPass 131 = .ok (.istore 7, 2) := by decide +kernel
theorem dX13_worstPass_133 : decode cX13_worstPass 133 = .ok (.iinc 8 1, 3) := by decide +kernel
theorem dX13_worstPass_136 : decode cX13_worstPass 136 = .ok (.goto (-90), 3) := by decide +kernel
theorem dX13_worstPass_139 : decode cX13_worstPass 139 = .ok (.aload_n 0, 1) := by decide +kernel
theorem dX13_worstPass_140 : decode cX13_worstPass 140 = .ok (.iload 5, 2) := by decide +kernel
theorem dX13_worstPass_142 : decode cX13_worstPass 142 = .ok (.invokevirtual 60, 3) := by decide +kernel
theorem dX13_worstPass_145 : decode cX13_worstPass 145 = .ok (.ireturn, 1) := by decide +kernel
theorem dX13_setOut_0 : decode cX13_setOut 0 = .ok (.aload_n 0, 1) := by decide +kernel
theorem dX13_setOut_1 : decode cX13_setOut 1 = .ok (.iconst 0, 1) := by decide +kernel
theorem dX13_setOut_2 : decode cX13_setOut 2 = .ok (.putfield 48, 3) := by decide +kernel
theorem dX13_setOut_5 : decode cX13_setOut 5 = .ok (.aload_n 0, 1) := by decide +kernel
theorem dX13_setOut_6 : decode cX13_setOut 6 = .ok (.iload_n 1, 1) := by decide +kernel
theorem dX13_setOut_7 : decode cX13_setOut 7 = .ok (.iload_n 2, 1) := by decide +kernel
theorem dX13_setOut_8 : decode cX13_setOut 8 = .ok (.iload_n 3, 1) := by decide +kernel
theorem dX13_setOut_9 : decode cX13_setOut 9 = .ok (.invokevirtual 423, 3) := by decide +kernel
theorem dX13_setOut_12 : decode cX13_setOut 12 = .ok (.istore 4, 2) := by decide +kernel
theorem dX13_setOut_14 : decode cX13_setOut 14 = .ok (.iload 4, 2) := by decide +kernel
theorem dX13_setOut_16 : decode cX13_setOut 16 = .ok (.ifCond .le 10, 3) := by decide +kernel
theorem dX13_setOut_19 : decode cX13_setOut 19 = .ok (.aload_n 0, 1) := by decide +kernel
theorem dX13_setOut_20 : decode cX13_setOut 20 = .ok (.iload 4, 2) := by decide +kernel
theorem dX13_setOut_22 : decode cX13_setOut 22 = .ok (.invokevirtual 54, 3) := by decide +kernel
theorem dX13_setOut_25 : decode cX13_setOut 25 = .ok (.ireturn, 1) := by decide +kernel
theorem dX13_setOut_26 : decode cX13_setOut 26 = .ok (.iconst 0, 1) := by decide +kernel
theorem dX13_setOut_27 : decode cX13_setOut 27 = .ok (.istore 5, 2) := by decide +kernel
theorem dX13_setOut_29 : decode cX13_setOut 29 = .ok (.iload 5, 2) := by decide +kernel
theorem dX13_setOut_31 : decode cX13_setOut 31 = .ok (.sipush 999, 3) := by decide +kernel
theorem dX13_setOut_34 : decode cX13_setOut 34 = .ok (.if_icmp .gt 39, 3) := by decide +kernel
theorem dX13_setOut_37 : decode cX13_setOut 37 = .ok (.aload_n 0, 1) := by decide +kernel
theorem dX13_setOut_38 : decode cX13_setOut 38 = .ok (.iload_n 1, 1) := by decide +kernel
theorem dX13_setOut_39 : decode cX13_setOut 39 = .ok (.iload_n 2, 1) := by decide +kernel
theorem dX13_setOut_40 : decode cX13_setOut 40 = .ok (.iload 5, 2) := by decide +kernel
theorem dX13_setOut_42 : decode cX13_setOut 42 = .ok (.invokevirtual 427, 3) := by decide +kernel
theorem dX13_setOut_45 : decode cX13_setOut 45 = .ok (.aload_n 0, 1) := by decide +kernel
theorem dX13_setOut_46 : decode cX13_setOut 46 = .ok (.getfield 408, 3) := by decide +kernel
theorem dX13_setOut_49 : decode cX13_setOut 49 = .ok (.ifCond .le 18, 3) := by decide +kernel
theorem dX13_setOut_52 : decode cX13_setOut 52 = .ok (.aload_n 0, 1) := by decide +kernel
theorem dX13_setOut_53 : decode cX13_setOut 53 = .ok (.getfield 411, 3) := by decide +kernel
theorem dX13_setOut_56 : decode cX13_setOut 56 = .ok (.iload_n 3, 1) := by decide +kernel
theorem dX13_setOut_57 : decode cX13_setOut 57 = .ok (.if_icmp .lt 10, 3) := by decide +kernel
theorem dX13_setOut_60 : decode cX13_setOut 60 = .ok (.aload_n 0, 1) := by decide +kernel
theorem dX13_setOut_61 : decode cX13_setOut 61 = .ok (.iload 5, 2) := by decide +kernel
theorem dX13_setOut_63 : decode cX13_setOut 63 = .ok (.invokevirtual 60, 3) := by decide +kernel
theorem dX13_setOut_66 : decode cX13_setOut 66 = .ok (.ireturn, 1) := by decide +kernel
theorem dX13_setOut_67 : decode cX13_setOut 67 = .ok (.iinc 5 1, 3) := by decide +kernel
theorem dX13_setOut_70 : decode cX13_setOut 70 = .ok (.goto (-41), 3) := by decide +kernel
theorem dX13_setOut_73 : decode cX13_setOut 73 = .ok (.aload_n 0, 1) := by decide +kernel
theorem dX13_setOut_74 : decode cX13_setOut 74 = .ok (.bipush (-2), 2) := by decide +kernel
theorem dX13_setOut_76 : decode cX13_setOut 76 = .ok (.invokevirtual 60, 3) := by decide +kernel
theorem dX13_setOut_79 : decode cX13_setOut 79 = .ok (.ireturn, 1) := by decide +kernel
theorem dX13_turnedOf_0 : decode cX13_turnedOf 0 = .ok (.iconst 0, 1) := by decide +kernel
theorem dX13_turnedOf_1 : decode cX13_turnedOf 1 = .ok (.istore_n 2, 1) := by decide +kernel
theorem dX13_turnedOf_2 : decode cX13_turnedOf 2 = .ok (.iconst 0, 1) := by decide +kernel
theorem dX13_turnedOf_3 : decode cX13_turnedOf 3 = .ok (.istore_n 3, 1) := by decide +kernel
theorem dX13_turnedOf_4 : decode cX13_turnedOf 4 = .ok (.iload_n 3, 1) := by decide +kernel
theorem dX13_turnedOf_5 : decode cX13_turnedOf 5 = .ok (.aload_n 0, 1) := by decide +kernel
theorem dX13_turnedOf_6 : decode cX13_turnedOf 6 = .ok (.getfield 301, 3) := by decide +kernel
theorem dX13_turnedOf_9 : decode cX13_turnedOf 9 = .ok (.getfield 195, 3) := by decide +kernel
theorem dX13_turnedOf_12 : decode cX13_turnedOf 12 = .ok (.if_icmp .ge 72, 3) := by decide +kernel
theorem dX13_turnedOf_15 : decode cX13_turnedOf 15 = .ok (.aload_n 0, 1) := by decide +kernel
theorem dX13_turnedOf_16 : decode cX13_turnedOf 16 = .ok (.getfield 17, 3) := by decide +kernel
theorem dX13_turnedOf_19 : decode cX13_turnedOf 19 = .ok (.iconst 0, 1) := by decide +kernel
theorem dX13_turnedOf_20 : decode cX13_turnedOf 20 = .ok (.iload_n 3, 1) := by decide +kernel
theorem dX13_turnedOf_21 : decode cX13_turnedOf 21 = .ok (.iadd, 1) := by decide +kernel
theorem dX13_turnedOf_22 : decode cX13_turnedOf 22 = .ok (.iaload, 1) := by decide +kernel
theorem dX13_turnedOf_23 : decode cX13_turnedOf 23 = .ok (.aload_n 0, 1) := by decide +kernel
theorem dX13_turnedOf_24 : decode cX13_turnedOf 24 = .ok (.getfield 17, 3) := by decide +kernel
theorem dX13_turnedOf_27 : decode cX13_turnedOf 27 = .ok (.iconst 0, 1) := by decide +kernel
theorem dX13_turnedOf_28 : decode cX13_turnedOf 28 = .ok (.iload_n 1, 1) := by decide +kernel
theorem dX13_turnedOf_29 : decode cX13_turnedOf 29 = .ok (.iadd, 1) := by decide +kernel
theorem dX13_turnedOf_30 : decode cX13_turnedOf 30 = .ok (.iaload, 1) := by decide +kernel
theorem dX13_turnedOf_31 : decode cX13_turnedOf 31 = .ok (.isub, 1) := by decide +kernel
theorem dX13_turnedOf_32 : decode cX13_turnedOf 32 = .ok (.istore 4, 2) := by decide +kernel
theorem dX13_turnedOf_34 : decode cX13_turnedOf 34 = .ok (.aload_n 0, 1) := by decide +kernel
theorem dX13_turnedOf_35 : decode cX13_turnedOf 35 = .ok (.iload_n 1, 1) := by decide +kernel
theorem dX13_turnedOf_36 : decode cX13_turnedOf 36 = .ok (.invokevirtual 310, 3) := by decide +kernel
theorem dX13_turnedOf_39 : decode cX13_turnedOf 39 = .ok (.ifCond .ne 39, 3) := by decide +kernel
theorem dX13_turnedOf_42 : decode cX13_turnedOf 42 = .ok (.aload_n 0, 1) := by decide +kernel
theorem dX13_turnedOf_43 : decode cX13_turnedOf 43 = .ok (.iload_n 3, 1) := by decide +kernel
theorem dX13_turnedOf_44 : decode cX13_turnedOf 44 = .ok (.invokevirtual 310, 3) := by decide +kernel
theorem dX13_turnedOf_47 : decode cX13_turnedOf 47 = .ok (.ifCond .ne 31, 3) := by decide +kernel
theorem dX13_turnedOf_50 : decode cX13_turnedOf 50 = .ok (.iload 4, 2) := by decide +kernel
theorem dX13_turnedOf_52 : decode cX13_turnedOf 52 = .ok (.iconst (-1), 1) := by decide +kernel
theorem dX13_turnedOf_53 : decode cX13_turnedOf 53 = .ok (.if_icmp .lt 25, 3) := by decide +kernel
theorem dX13_turnedOf_56 : decode cX13_turnedOf 56 = .ok (.iload 4, 2) := by decide +kernel
theorem dX13_turnedOf_58 : decode cX13_turnedOf 58 = .ok (.iconst 1, 1) := by decide +kernel
theorem dX13_turnedOf_59 : decode cX13_turnedOf 59 = .ok (.if_icmp .gt 19, 3) := by decide +kernel
theorem dX13_turnedOf_62 : decode cX13_turnedOf 62 = .ok (.aload_n 0, 1) := by decide +kernel
theorem dX13_turnedOf_63 : decode cX13_turnedOf 63 = .ok (.iload_n 3, 1) := by decide +kernel
theorem dX13_turnedOf_64 : decode cX13_turnedOf 64 = .ok (.invokevirtual 330, 3) := by decide +kernel
theorem dX13_turnedOf_67 : decode cX13_turnedOf 67 = .ok (.bipush 50, 2) := by decide +kernel
theorem dX13_turnedOf_69 : decode cX13_turnedOf 69 = .ok (.if_icmp .ge 9, 3) := by decide +kernel
theorem dX13_turnedOf_72 : decode cX13_turnedOf 72 = .ok (.iload_n 2, 1) := by decide +kernel
theorem dX13_turnedOf_73 : decode cX13_turnedOf 73 = .ok (.iconst 1, 1) := by decide +kernel
theorem dX13_turnedOf_74 : decode cX13_turnedOf 74 = .ok (.iload_n 3, 1) := by decide +kernel
theorem dX13_turnedOf_75 : decode cX13_turnedOf 75 = .ok (.ishl, 1) := by decide +kernel
theorem dX13_turnedOf_76 : decode cX13_turnedOf 76 = .ok (.ior, 1) := by decide +kernel
theorem dX13_turnedOf_77 : decode cX13_turnedOf 77 = .ok (.istore_n 2, 1) := by decide +kernel
theorem dX13_turnedOf_78 : decode cX13_turnedOf 78 = .ok (.iinc 3 1, 3) := by decide +kernel
theorem dX13_turnedOf_81 : decode cX13_turnedOf 81 = .ok (.goto (-77), 3) := by decide +kernel
theorem dX13_turnedOf_84 : decode cX13_turnedOf 84 = .ok (.iload_n 2, 1) := by decide +kernel
theorem dX13_turnedOf_85 : decode cX13_turnedOf 85 = .ok (.ireturn, 1) := by decide +kernel
theorem dX13_trumpets_0 : decode cX13_trumpets 0 = .ok (.aload_n 0, 1) := by decide +kernel
theorem dX13_trumpets_1 : decode cX13_trumpets 1 = .ok (.iconst 0, 1) := by decide +kernel
theorem dX13_trumpets_2 : decode cX13_trumpets 2 = .ok (.putfield 431, 3) := by decide +kernel
theorem dX13_trumpets_5 : decode cX13_trumpets 5 = .ok (.iconst 0, 1) := by decide +kernel
theorem dX13_trumpets_6 : decode cX13_trumpets 6 = .ok (.istore_n 1, 1) := by decide +kernel
theorem dX13_trumpets_7 : decode cX13_trumpets 7 = .ok (.iload_n 1, 1) := by decide +kernel
theorem dX13_trumpets_8 : decode cX13_trumpets 8 = .ok (.iconst 5, 1) := by decide +kernel
theorem dX13_trumpets_9 : decode cX13_trumpets 9 = .ok (.if_icmp .ge 16, 3) := by decide +kernel
theorem dX13_trumpets_12 : decode cX13_trumpets 12 = .ok (.aload_n 0, 1) := by decide +kernel
theorem dX13_trumpets_13 : decode cX13_trumpets 13 = .ok (.getfield 45, 3) := by decide +kernel
theorem dX13_trumpets_16 : decode cX13_trumpets 16 = .ok (.iload_n 1, 1) := by decide +kernel
theorem dX13_trumpets_17 : decode cX13_trumpets 17 = .ok (.iconst 0, 1) := by decide +kernel
theorem dX13_trumpets_18 : decode cX13_trumpets 18 = .ok (.iastore, 1) := by decide +kernel
theorem dX13_trumpets_19 : decode cX13_trumpets 19 = .ok (.iinc 1 1, 3) := by decide +kernel
theorem dX13_trumpets_22 : decode cX13_trumpets 22 = .ok (.goto (-15), 3) := by decide +kernel
theorem dX13_trumpets_25 : decode cX13_trumpets 25 = .ok (.iconst 1, 1) := by decide +kernel
theorem dX13_trumpets_26 : decode cX13_trumpets 26 = .ok (.istore_n 1, 1) := by decide +kernel
theorem dX13_trumpets_27 : decode cX13_trumpets 27 = .ok (.iload_n 1, 1) := by decide +kernel
theorem dX13_trumpets_28 : decode cX13_trumpets 28 = .ok (.iconst 1, 1) := by decide +kernel
theorem dX13_trumpets_29 : decode cX13_trumpets 29 = .ok (.aload_n 0, 1) := by decide +kernel
theorem dX13_trumpets_30 : decode cX13_trumpets 30 = .ok (.getfield 301, 3) := by decide +kernel
theorem dX13_trumpets_33 : decode cX13_trumpets 33 = .ok (.getfield 195, 3) := by decide +kernel
theorem dX13_trumpets_36 : decode cX13_trumpets 36 = .ok (.ishl, 1) := by decide +kernel
theorem dX13_trumpets_37 : decode cX13_trumpets 37 = .ok (.if_icmp .ge 127, 3) := by decide +kernel
theorem dX13_trumpets_40 : decode cX13_trumpets 40 = .ok (.iconst 0, 1) := by decide +kernel
theorem dX13_trumpets_41 : decode cX13_trumpets 41 = .ok (.istore_n 2, 1) := by decide +kernel
theorem dX13_trumpets_42 : decode cX13_trumpets 42 = .ok (.iconst 0, 1) := by decide +kernel
theorem dX13_trumpets_43 : decode cX13_trumpets 43 = .ok (.istore_n 3, 1) := by decide +kernel
theorem dX13_trumpets_44 : decode cX13_trumpets 44 = .ok (.iload_n 3, 1) := by decide +kernel
theorem dX13_trumpets_45 : decode cX13_trumpets 45 = .ok (.aload_n 0, 1) := by decide +kernel
theorem dX13_trumpets_46 : decode cX13_trumpets 46 = .ok (.getfield 301, 3) := by decide +kernel
theorem dX13_trumpets_49 : decode cX13_trumpets 49 = .ok (.getfield 195, 3) := by decide +kernel
theorem dX13_trumpets_52 : decode cX13_trumpets 52 = .ok (.if_icmp .ge 29, 3) := by decide +kernel
theorem dX13_trumpets_55 : decode cX13_trumpets 55 = .ok (.iload_n 2, 1) := by decide +kernel
theorem dX13_trumpets_56 : decode cX13_trumpets 56 = .ok (.iload_n 1, 1) := by decide +kernel
theorem dX13_trumpets_57 : decode cX13_trumpets 57 = .ok (.iload_n 3, 1) := by decide +kernel
theorem dX13_trumpets_58 : decode cX13_trumpets 58 = .ok (.invokestatic 229, 3) := by decide +kernel
theorem dX13_trumpets_61 : decode cX13_trumpets 61 = .ok (.ifCond .eq 11, 3) := by decide +kernel
theorem dX13_trumpets_64 : decode cX13_trumpets 64 = .ok (.aload_n 0, 1) := by decide +kernel
theorem dX13_trumpets_65 : decode cX13_trumpets 65 = .ok (.iload_n 3, 1) := by decide +kernel
theorem dX13_trumpets_66 : decode cX13_trumpets 66 = .ok (.invokevirtual 434, 3) := by decide +kernel
theorem dX13_trumpets_69 : decode cX13_trumpets 69 = .ok (.goto 4, 3) := by decide +kernel
theorem dX13_trumpets_72 : decode cX13_trumpets 72 = .ok (.iconst 0, 1) := by decide +kernel
theorem dX13_trumpets_73 : decode cX13_trumpets 73 = .ok (.ior, 1) := by decide +kernel
theorem dX13_trumpets_74 : decode cX13_trumpets 74 = .ok (.istore_n 2, 1) := by decide +kernel
theorem dX13_trumpets_75 : decode cX13_trumpets 75 = .ok (.iinc 3 1, 3) := by decide +kernel
theorem dX13_trumpets_78 : decode cX13_trumpets 78 = .ok (.goto (-34), 3) := by decide +kernel
theorem dX13_trumpets_81 : decode cX13_trumpets 81 = .ok (.iload_n 1, 1) := by decide +kernel
theorem dX13_trumpets_82 : decode cX13_trumpets 82 = .ok (.aload_n 0, 1) := by decide +kernel
theorem dX13_trumpets_83 : decode cX13_trumpets 83 = .ok (.getfield 17, 3) := by decide +kernel
theorem dX13_trumpets_86 : decode cX13_trumpets 86 = .ok (.bipush 10, 2) := by decide +kernel
theorem dX13_trumpets_88 : decode cX13_trumpets 88 = .ok (.iaload, 1) := by decide +kernel
theorem dX13_trumpets_89 : decode cX13_trumpets 89 = .ok (.iand, 1) := by decide +kernel
theorem dX13_trumpets_90 : decode cX13_trumpets 90 = .ok (.ifCond .ne 68, 3) := by decide +kernel
theorem dX13_trumpets_93 : decode cX13_trumpets 93 = .ok (.iload_n 2, 1) := by decide +kernel
theorem dX13_trumpets_94 : decode cX13_trumpets 94 = .ok (.aload_n 0, 1) := by decide +kernel
theorem dX13_trumpets_95 : decode cX13_trumpets 95 = .ok (.getfield 301, 3) := by decide +kernel
theorem dX13_trumpets_98 : decode cX13_trumpets 98 = .ok (.getfield 292, 3) := by decide +kernel
theorem dX13_trumpets_101 : decode cX13_trumpets 101 = .ok (.if_icmp .eq 6, 3) := by decide +kernel
theorem dX13_trumpets_104 : decode cX13_trumpets 104 = .ok (.goto 54, 3) := by decide +kernel
theorem dX13_trumpets_107 : decode cX13_trumpets 107 = .ok (.aload_n 0, 1) := by decide +kernel
theorem dX13_trumpets_108 : decode cX13_trumpets 108 = .ok (.dup, 1) := by decide +kernel
theorem dX13_trumpets_109 : decode cX13_trumpets 109 = .ok (.getfield 431, 3) := by decide +kernel
theorem dX13_trumpets_112 : decode cX13_trumpets 112 = .ok (.iconst 1, 1) := by decide +kernel
theorem dX13_trumpets_113 : decode cX13_trumpets 113 = .ok (.iadd, 1) := by decide +kernel
theorem dX13_trumpets_114 : decode cX13_trumpets 114 = .ok (.putfield 431, 3) := by decide +kernel
theorem dX13_trumpets_117 : decode cX13_trumpets 117 = .ok (.iconst 0, 1) := by decide +kernel
theorem dX13_trumpets_118 : decode cX13_trumpets 118 = .ok (.istore_n 3, 1) := by decide +kernel
theorem dX13_trumpets_119 : decode cX13_trumpets 119 = .ok (.iload_n 3, 1) := by decide +kernel
theorem dX13_trumpets_120 : decode cX13_trumpets 120 = .ok (.aload_n 0, 1) := by decide +kernel
theorem dX13_trumpets_121 : decode cX13_trumpets 121 = .ok (.getfield 301, 3) := by decide +kernel
theorem dX13_trumpets_124 : decode cX13_trumpets 124 = .ok (.getfield 195, 3) := by decide +kernel
theorem dX13_trumpets_127 : decode cX13_trumpets 127 = .ok (.if_icmp .ge 31, 3) := by decide +kernel
theorem dX13_trumpets_130 : decode cX13_trumpets 130 = .ok (.aload_n 0, 1) := by decide +kernel
theorem dX13_trumpets_131 : decode cX13_trumpets 131 = .ok (.getfield 45, 3) := by decide +kernel
theorem dX13_trumpets_134 : decode cX13_trumpets 134 = .ok (.iload_n 3, 1) := by decide +kernel
theorem dX13_trumpets_135 : decode cX13_trumpets 135 = .ok (.dup2, 1) := by decide +kernel
theorem dX13_trumpets_136 : decode cX13_trumpets 136 = .ok (.iaload, 1) := by decide +kernel
theorem dX13_trumpets_137 : decode cX13_trumpets 137 = .ok (.iload_n 1, 1) := by decide +kernel
theorem dX13_trumpets_138 : decode cX13_trumpets 138 = .ok (.iload_n 3, 1) := by decide +kernel
theorem dX13_trumpets_139 : decode cX13_trumpets 139 = .ok (.invokestatic 229, 3) := by decide +kernel
theorem dX13_trumpets_142 : decode cX13_trumpets 142 = .ok (.ifCond .eq 7, 3) := by decide +kernel
theorem dX13_trumpets_145 : decode cX13_trumpets 145 = .ok (.iconst 1, 1) := by decide +kernel
theorem dX13_trumpets_146 : decode cX13_trumpets 146 = .ok (.goto 4, 3) := by decide +kernel
theorem dX13_trumpets_149 : decode cX13_trumpets 149 = .ok (.iconst 0, 1) := by decide +kernel
theorem dX13_trumpets_150 : decode cX13_trumpets 150 = .ok (.iadd, 1) := by decide +kernel
theorem dX13_trumpets_151 : decode cX13_trumpets 151 = .ok (.iastore, 1) := by decide +kernel
theorem dX13_trumpets_152 : decode cX13_trumpets 152 = .ok (.iinc 3 1, 3) := by decide +kernel
theorem dX13_trumpets_155 : decode cX13_trumpets 155 = .ok (.goto (-36), 3) := by decide +kernel
theorem dX13_trumpets_158 : decode cX13_trumpets 158 = .ok (.iinc 1 1, 3) := by decide +kernel
theorem dX13_trumpets_161 : decode cX13_trumpets 161 = .ok (.goto (-134), 3) := by decide +kernel
theorem dX13_trumpets_164 : decode cX13_trumpets 164 = .ok (.return_, 1) := by decide +kernel
theorem dX13_fits_0 : decode cX13_fits 0 = .ok (.aload_n 0, 1) := by decide +kernel
theorem dX13_fits_1 : decode cX13_fits 1 = .ok (.iconst 0, 1) := by decide +kernel
theorem dX13_fits_2 : decode cX13_fits 2 = .ok (.putfield 48, 3) := by decide +kernel
theorem dX13_fits_5 : decode cX13_fits 5 = .ok (.aload_n 0, 1) := by decide +kernel
theorem dX13_fits_6 : decode cX13_fits 6 = .ok (.getfield 301, 3) := by decide +kernel
theorem dX13_fits_9 : decode cX13_fits 9 = .ok (.ifnonnull 9, 3) := by decide +kernel
theorem dX13_fits_12 : decode cX13_fits 12 = .ok (.aload_n 0, 1) := by decide +kernel
theorem dX13_fits_13 : decode cX13_fits 13 = .ok (.iconst 1, 1) := by decide +kernel
theorem dX13_fits_14 : decode cX13_fits 14 = .ok (.invokevirtual 54, 3) := by decide +kernel
theorem dX13_fits_17 : decode cX13_fits 17 = .ok (.ireturn, 1) := by decide +kernel
theorem dX13_fits_18 : decode cX13_fits 18 = .ok (.aload_n 0, 1) := by decide +kernel
theorem dX13_fits_19 : decode cX13_fits 19 = .ok (.invokevirtual 437, 3) := by decide +kernel
theorem dX13_fits_22 : decode cX13_fits 22 = .ok (.aload_n 0, 1) := by decide +kernel
theorem dX13_fits_23 : decode cX13_fits 23 = .ok (.aload_n 0, 1) := by decide +kernel
theorem dX13_fits_24 : decode cX13_fits 24 = .ok (.getfield 431, 3) := by decide +kernel
theorem dX13_fits_27 : decode cX13_fits 27 = .ok (.invokevirtual 60, 3) := by decide +kernel
theorem dX13_fits_30 : decode cX13_fits 30 = .ok (.ireturn, 1) := by decide +kernel
theorem dX13_could_0 : decode cX13_could 0 = .ok (.aload_n 0, 1) := by decide +kernel
theorem dX13_could_1 : decode cX13_could 1 = .ok (.iconst 0, 1) := by decide +kernel
theorem dX13_could_2 : decode cX13_could 2 = .ok (.putfield 48, 3) := by decide +kernel
theorem dX13_could_5 : decode cX13_could 5 = .ok (.aload_n 0, 1) := by decide +kernel
theorem dX13_could_6 : decode cX13_could 6 = .ok (.getfield 301, 3) := by decide +kernel
theorem dX13_could_9 : decode cX13_could 9 = .ok (.ifnonnull 9, 3) := by decide +kernel
theorem dX13_could_12 : decode cX13_could 12 = .ok (.aload_n 0, 1) := by decide +kernel
theorem dX13_could_13 : decode cX13_could 13 = .ok (.iconst 1, 1) := by decide +kernel
theorem dX13_could_14 : decode cX13_could 14 = .ok (.invokevirtual 54, 3) := by decide +kernel
theorem dX13_could_17 : decode cX13_could 17 = .ok (.ireturn, 1) := by decide +kernel
theorem dX13_could_18 : decode cX13_could 18 = .ok (.aload_n 0, 1) := by decide +kernel
theorem dX13_could_19 : decode cX13_could 19 = .ok (.invokevirtual 437, 3) := by decide +kernel
theorem dX13_could_22 : decode cX13_could 22 = .ok (.iconst 0, 1) := by decide +kernel
theorem dX13_could_23 : decode cX13_could 23 = .ok (.istore_n 1, 1) := by decide +kernel
theorem dX13_could_24 : decode cX13_could 24 = .ok (.iconst 0, 1) := by decide +kernel
theorem dX13_could_25 : decode cX13_could 25 = .ok (.istore_n 2, 1) := by decide +kernel
theorem dX13_could_26 : decode cX13_could 26 = .ok (.iload_n 2, 1) := by decide +kernel
theorem dX13_could_27 : decode cX13_could 27 = .ok (.aload_n 0, 1) := by decide +kernel
theorem dX13_could_28 : decode cX13_could 28 = .ok (.getfield 301, 3) := by decide +kernel
theorem dX13_could_31 : decode cX13_could 31 = .ok (.getfield 195, 3) := by decide +kernel
theorem dX13_could_34 : decode cX13_could 34 = .ok (.if_icmp .ge 28, 3) := by decide +kernel
theorem dX13_could_37 : decode cX13_could 37 = .ok (.iload_n 1, 1) := by decide +kernel
theorem dX13_could_38 : decode cX13_could 38 = .ok (.aload_n 0, 1) := by decide +kernel
theorem dX13_could_39 : decode cX13_could 39 = .ok (.getfield 45, 3) := by decide +kernel
theorem dX13_could_42 : decode cX13_could 42 = .ok (.iload_n 2, 1) := by decide +kernel
theorem dX13_could_43 : decode cX13_could 43 = .ok (.iaload, 1) := by decide +kernel
theorem dX13_could_44 : decode cX13_could 44 = .ok (.ifCond .le 9, 3) := by decide +kernel
theorem dX13_could_47 : decode cX13_could 47 = .ok (.iconst 1, 1) := by decide +kernel
theorem dX13_could_48 : decode cX13_could 48 = .ok (.iload_n 2, 1) := by decide +kernel
theorem dX13_could_49 : decode cX13_could 49 = .ok (.ishl, 1) := by decide +kernel
theorem dX13_could_50 : decode cX13_could 50 = .ok (.goto 4, 3) := by decide +kernel
theorem dX13_could_53 : decode cX13_could 53 = .ok (.iconst 0, 1) := by decide +kernel
theorem dX13_could_54 : decode cX13_could 54 = .ok (.ior, 1) := by decide +kernel
theorem dX13_could_55 : decode cX13_could 55 = .ok (.istore_n 1, 1) := by decide +kernel
theorem dX13_could_56 : decode cX13_could 56 = .ok (.iinc 2 1, 3) := by decide +kernel
theorem dX13_could_59 : decode cX13_could 59 = .ok (.goto (-33), 3) := by decide +kernel
theorem dX13_could_62 : decode cX13_could 62 = .ok (.aload_n 0, 1) := by decide +kernel
theorem dX13_could_63 : decode cX13_could 63 = .ok (.iload_n 1, 1) := by decide +kernel
theorem dX13_could_64 : decode cX13_could 64 = .ok (.invokevirtual 60, 3) := by decide +kernel
theorem dX13_could_67 : decode cX13_could 67 = .ok (.ireturn, 1) := by decide +kernel
theorem dX13_surely_0 : decode cX13_surely 0 = .ok (.aload_n 0, 1) := by decide +kernel
theorem dX13_surely_1 : decode cX13_surely 1 = .ok (.iconst 0, 1) := by decide +kernel
theorem dX13_surely_2 : decode cX13_surely 2 = .ok (.putfield 48, 3) := by decide +kernel
theorem dX13_surely_5 : decode cX13_surely 5 = .ok (.aload_n 0, 1) := by decide +kernel
theorem dX13_surely_6 : decode cX13_surely 6 = .ok (.getfield 301, 3) := by decide +kernel
theorem dX13_surely_9 : decode cX13_surely 9 = .ok (.ifnonnull 9, 3) := by decide +kernel
theorem dX13_surely_12 : decode cX13_surely 12 = .ok (.aload_n 0, 1) := by decide +kernel
theorem dX13_surely_13 : decode cX13_surely 13 = .ok (.iconst 1, 1) := by decide +kernel
theorem dX13_surely_14 : decode cX13_surely 14 = .ok (.invokevirtual 54, 3) := by decide +kernel
theorem dX13_surely_17 : decode cX13_surely 17 = .ok (.ireturn, 1) := by decide +kernel
theorem dX13_surely_18 : decode cX13_surely 18 = .ok (.aload_n 0, 1) := by decide +kernel
theorem dX13_surely_19 : decode cX13_surely 19 = .ok (.invokevirtual 437, 3) := by decide +kernel
theorem dX13_surely_22 : decode cX13_surely 22 = .ok (.iconst 0, 1) := by decide +kernel
theorem dX13_surely_23 : decode cX13_surely 23 = .ok (.istore_n 1, 1) := by decide +kernel
theorem dX13_surely_24 : decode cX13_surely 24 = .ok (.iconst 0, 1) := by decide +kernel
theorem dX13_surely_25 : decode cX13_surely 25 = .ok (.istore_n 2, 1) := by decide +kernel
theorem dX13_surely_26 : decode cX13_surely 26 = .ok (.iload_n 2, 1) := by decide +kernel
theorem dX13_surely_27 : decode cX13_surely 27 = .ok (.aload_n 0, 1) := by decide +kernel
theorem dX13_surely_28 : decode cX13_surely 28 = .ok (.getfield 301, 3) := by decide +kernel
theorem dX13_surely_31 : decode cX13_surely 31 = .ok (.getfield 195, 3) := by decide +kernel
theorem dX13_surely_34 : decode cX13_surely 34 = .ok (.if_icmp .ge 39, 3) := by decide +kernel
theorem dX13_surely_37 : decode cX13_surely 37 = .ok (.iload_n 1, 1) := by decide +kernel
theorem dX13_surely_38 : decode cX13_surely 38 = .ok (.aload_n 0, 1) := by decide +kernel
theorem dX13_surely_39 : decode cX13_surely 39 = .ok (.getfield 431, 3) := by decide +kernel
theorem dX13_surely_42 : decode cX13_surely 42 = .ok (.ifCond .le 22, 3) := by decide +kernel
theorem dX13_surely_45 : decode cX13_surely 45 = .ok (.aload_n 0, 1) := by decide +kernel
theorem dX13_surely_46 : decode cX13_surely 46 = .ok (.getfield 45, 3) := by decide +kernel
theorem dX13_surely_49 : decode cX13_surely 49 = .ok (.iload_n 2, 1) := by decide +kernel
theorem dX13_surely_50 : decode cX13_surely 50 = .ok (.iaload, 1) := by decide +kernel
theorem dX13_surely_51 : decode cX13_surely 51 = .ok (.aload_n 0, 1) := by decide +kernel
theorem dX13_surely_52 : decode cX13_surely 52 = .ok (.getfield 431, 3) := by decide +kernel
theorem dX13_surely_55 : decode cX13_surely 55 = .ok (.if_icmp .ne 9, 3) := by decide +kernel
theorem dX13_surely_58 : decode cX13_surely 58 = .ok (.iconst 1, 1) := by decide +kernel
theorem dX13_surely_59 : decode cX13_surely 59 = .ok (.iload_n 2, 1) := by decide +kernel
theorem dX13_surely_60 : decode cX13_surely 60 = .ok (.ishl, 1) := by decide +kernel
theorem dX13_surely_61 : decode cX13_surely 61 = .ok (.goto 4, 3) := by decide +kernel
theorem dX13_surely_64 : decode cX13_surely 64 = .ok (.iconst 0, 1) := by decide +kernel
theorem dX13_surely_65 : decode cX13_surely 65 = .ok (.ior, 1) := by decide +kernel
theorem dX13_surely_66 : decode cX13_surely 66 = .ok (.istore_n 1, 1) := by decide +kernel
theorem dX13_surely_67 : decode cX13_surely 67 = .ok (.iinc 2 1, 3) := by decide +kernel
theorem dX13_surely_70 : decode cX13_surely 70 = .ok (.goto (-44), 3) := by decide +kernel
theorem dX13_surely_73 : decode cX13_surely 73 = .ok (.aload_n 0, 1) := by decide +kernel
theorem dX13_surely_74 : decode cX13_surely 74 = .ok (.iload_n 1, 1) := by decide +kernel
theorem dX13_surely_75 : decode cX13_surely 75 = .ok (.invokevirtual 60, 3) := by decide +kernel
theorem dX13_surely_78 : decode cX13_surely 78 = .ok (.ireturn, 1) := by decide +kernel
theorem dX13_leaves_0 : decode cX13_leaves 0 = .ok (.aload_n 0, 1) := by decide +kernel
theorem dX13_leaves_1 : decode cX13_leaves 1 = .ok (.getfield 45, 3) := by decide +kernel
theorem dX13_leaves_4 : decode cX13_leaves 4 = .ok (.iload_n 1, 1) := by decide +kernel
theorem dX13_leaves_5 : decode cX13_leaves 5 = .ok (.iaload, 1) := by decide +kernel
theorem dX13_leaves_6 : decode cX13_leaves 6 = .ok (.aload_n 0, 1) := by decide +kernel
theorem dX13_leaves_7 : decode cX13_leaves 7 = .ok (.getfield 431, 3) := by decide +kernel
theorem dX13_leaves_10 : decode cX13_leaves 10 = .ok (.aload_n 0, 1) := by decide +kernel
theorem dX13_leaves_11 : decode cX13_leaves 11 = .ok (.getfield 45, 3) := by decide +kernel
theorem dX13_leaves_14 : decode cX13_leaves 14 = .ok (.iload_n 1, 1) := by decide +kernel
theorem dX13_leaves_15 : decode cX13_leaves 15 = .ok (.iaload, 1) := by decide +kernel
theorem dX13_leaves_16 : decode cX13_leaves 16 = .ok (.isub, 1) := by decide +kernel
theorem dX13_leaves_17 : decode cX13_leaves 17 = .ok (.if_icmp .le 12, 3) := by decide +kernel
theorem dX13_leaves_20 : decode cX13_leaves 20 = .ok (.aload_n 0, 1) := by decide +kernel
theorem dX13_leaves_21 : decode cX13_leaves 21 = .ok (.getfield 45, 3) := by decide +kernel
theorem dX13_leaves_24 : decode cX13_leaves 24 = .ok (.iload_n 1, 1) := by decide +kernel
theorem dX13_leaves_25 : decode cX13_leaves 25 = .ok (.iaload, 1) := by decide +kernel
theorem dX13_leaves_26 : decode cX13_leaves 26 = .ok (.goto 14, 3) := by decide +kernel
theorem dX13_leaves_29 : decode cX13_leaves 29 = .ok (.aload_n 0, 1) := by decide +kernel
theorem dX13_leaves_30 : decode cX13_leaves 30 = .ok (.getfield 431, 3) := by decide +kernel
theorem dX13_leaves_33 : decode cX13_leaves 33 = .ok (.aload_n 0, 1) := by decide +kernel
theorem dX13_leaves_34 : decode cX13_leaves 34 = .ok (.getfield 45, 3) := by decide +kernel
theorem dX13_leaves_37 : decode cX13_leaves 37 = .ok (.iload_n 1, 1) := by decide +kernel
theorem dX13_leaves_38 : decode cX13_leaves 38 = .ok (.iaload, 1) := by decide +kernel
theorem dX13_leaves_39 : decode cX13_leaves 39 = .ok (.isub, 1) := by decide +kernel
theorem dX13_leaves_40 : decode cX13_leaves 40 = .ok (.ireturn, 1) := by decide +kernel
theorem dX13_ask_0 : decode cX13_ask 0 = .ok (.aload_n 0, 1) := by decide +kernel
theorem dX13_ask_1 : decode cX13_ask 1 = .ok (.iconst 0, 1) := by decide +kernel
theorem dX13_ask_2 : decode cX13_ask 2 = .ok (.putfield 48, 3) := by decide +kernel
theorem dX13_ask_5 : decode cX13_ask 5 = .ok (.aload_n 0, 1) := by decide +kernel
theorem dX13_ask_6 : decode cX13_ask 6 = .ok (.getfield 301, 3) := by decide +kernel
theorem dX13_ask_9 : decode cX13_ask 9 = .ok (.ifnonnull 9, 3) := by decide +kernel
theorem dX13_ask_12 : decode cX13_ask 12 = .ok (.aload_n 0, 1) := by decide +kernel
theorem dX13_ask_13 : decode cX13_ask 13 = .ok (.iconst 1, 1) := by decide +kernel
theorem dX13_ask_14 : decode cX13_ask 14 = .ok (.invokevirtual 54, 3) := by decide +kernel
theorem dX13_ask_17 : decode cX13_ask 17 = .ok (.ireturn, 1) := by decide +kernel
theorem dX13_ask_18 : decode cX13_ask 18 = .ok (.aload_n 0, 1) := by decide +kernel
theorem dX13_ask_19 : decode cX13_ask 19 = .ok (.invokevirtual 437, 3) := by decide +kernel
theorem dX13_ask_22 : decode cX13_ask 22 = .ok (.aload_n 0, 1) := by decide +kernel
theorem dX13_ask_23 : decode cX13_ask 23 = .ok (.getfield 431, 3) := by decide +kernel
theorem dX13_ask_26 : decode cX13_ask 26 = .ok (.ifCond .ne 10, 3) := by decide +kernel
theorem dX13_ask_29 : decode cX13_ask 29 = .ok (.aload_n 0, 1) := by decide +kernel
theorem dX13_ask_30 : decode cX13_ask 30 = .ok (.bipush (-2), 2) := by decide +kernel
theorem dX13_ask_32 : decode cX13_ask 32 = .ok (.invokevirtual 60, 3) := by decide +kernel
theorem dX13_ask_35 : decode cX13_ask 35 = .ok (.ireturn, 1) := by decide +kernel
theorem dX13_ask_36 : decode cX13_ask 36 = .ok (.iconst 0, 1) := by decide +kernel
theorem dX13_ask_37 : decode cX13_ask 37 = .ok (.istore_n 1, 1) := by decide +kernel
theorem dX13_ask_38 : decode cX13_ask 38 = .ok (.iconst 1, 1) := by decide +kernel
theorem dX13_ask_39 : decode cX13_ask 39 = .ok (.istore_n 2, 1) := by decide +kernel
theorem dX13_ask_40 : decode cX13_ask 40 = .ok (.iload_n 2, 1) := by decide +kernel
theorem dX13_ask_41 : decode cX13_ask 41 = .ok (.aload_n 0, 1) := by decide +kernel
theorem dX13_ask_42 : decode cX13_ask 42 = .ok (.getfield 301, 3) := by decide +kernel
theorem dX13_ask_45 : decode cX13_ask 45 = .ok (.getfield 195, 3) := by decide +kernel
theorem dX13_ask_48 : decode cX13_ask 48 = .ok (.if_icmp .ge 24, 3) := by decide +kernel
theorem dX13_ask_51 : decode cX13_ask 51 = .ok (.aload_n 0, 1) := by decide +kernel
theorem dX13_ask_52 : decode cX13_ask 52 = .ok (.iload_n 2, 1) := by decide +kernel
theorem dX13_ask_53 : decode cX13_ask 53 = .ok (.invokevirtual 440, 3) := by decide +kernel
theorem dX13_ask_56 : decode cX13_ask 56 = .ok (.aload_n 0, 1) := by decide +kernel
theorem dX13_ask_57 : decode cX13_ask 57 = .ok (.iload_n 1, 1) := by decide +kernel
theorem dX13_ask_58 : decode cX13_ask 58 = .ok (.invokevirtual 440, 3) := by decide +kernel
theorem dX13_ask_61 : decode cX13_ask 61 = .ok (.if_icmp .ge 5, 3) := by decide +kernel
theorem dX13_ask_64 : decode cX13_ask 64 = .ok (.iload_n 2, 1) := by decide +kernel
theorem dX13_ask_65 : decode cX13_ask 65 = .ok (.istore_n 1, 1) := by decide +kernel
theorem dX13_ask_66 : decode cX13_ask 66 = .ok (.iinc 2 1, 3) := by decide +kernel
theorem dX13_ask_69 : decode cX13_ask 69 = .ok (.goto (-29), 3) := by decide +kernel
theorem dX13_ask_72 : decode cX13_ask 72 = .ok (.aload_n 0, 1) := by decide +kernel
theorem dX13_ask_73 : decode cX13_ask 73 = .ok (.iload_n 1, 1) := by decide +kernel
theorem dX13_ask_74 : decode cX13_ask 74 = .ok (.invokevirtual 60, 3) := by decide +kernel
theorem dX13_ask_77 : decode cX13_ask 77 = .ok (.ireturn, 1) := by decide +kernel
theorem dX13_turnedBy_0 : decode cX13_turnedBy 0 = .ok (.aload_n 0, 1) := by decide +kernel
theorem dX13_turnedBy_1 : decode cX13_turnedBy 1 = .ok (.iconst 0, 1) := by decide +kernel
theorem dX13_turnedBy_2 : decode cX13_turnedBy 2 = .ok (.putfield 48, 3) := by decide +kernel
theorem dX13_turnedBy_5 : decode cX13_turnedBy 5 = .ok (.aload_n 0, 1) := by decide +kernel
theorem dX13_turnedBy_6 : decode cX13_turnedBy 6 = .ok (.iload_n 1, 1) := by decide +kernel
theorem dX13_turnedBy_7 : decode cX13_turnedBy 7 = .ok (.invokevirtual 351, 3) := by decide +kernel
theorem dX13_turnedBy_10 : decode cX13_turnedBy 10 = .ok (.ifCond .eq 15, 3) := by decide +kernel
theorem dX13_turnedBy_13 : decode cX13_turnedBy 13 = .ok (.aload_n 0, 1) := by decide +kernel
theorem dX13_turnedBy_14 : decode cX13_turnedBy 14 = .ok (.aload_n 0, 1) := by decide +kernel
theorem dX13_turnedBy_15 : decode cX13_turnedBy 15 = .ok (.iload_n 1, 1) := by decide +kernel
theorem dX13_turnedBy_16 : decode cX13_turnedBy 16 = .ok (.invokevirtual 434, 3) := by decide +kernel
theorem dX13_turnedBy_19 : decode cX13_turnedBy 19 = .ok (.invokevirtual 60, 3) := by decide +kernel
theorem dX13_turnedBy_22 : decode cX13_turnedBy 22 = .ok (.goto 8, 3) := by decide +kernel
theorem dX13_turnedBy_25 : decode cX13_turnedBy 25 = .ok (.aload_n 0, 1) := by decide +kernel
theorem dX13_turnedBy_26 : decode cX13_turnedBy 26 = .ok (.iconst 1, 1) := by decide +kernel
theorem dX13_turnedBy_27 : decode cX13_turnedBy 27 = .ok (.invokevirtual 54, 3) := by decide +kernel
theorem dX13_turnedBy_30 : decode cX13_turnedBy 30 = .ok (.ireturn, 1) := by decide +kernel
theorem dX13_holdsOn_0 : decode cX13_holdsOn 0 = .ok (.iconst 0, 1) := by decide +kernel
theorem dX13_holdsOn_1 : decode cX13_holdsOn 1 = .ok (.istore_n 3, 1) := by decide +kernel
theorem dX13_holdsOn_2 : decode cX13_holdsOn 2 = .ok (.iload_n 3, 1) := by decide +kernel
theorem dX13_holdsOn_3 : decode cX13_holdsOn 3 = .ok (.aload_n 0, 1) := by decide +kernel
theorem dX13_holdsOn_4 : decode cX13_holdsOn 4 = .ok (.getfield 301, 3) := by decide +kernel
theorem dX13_holdsOn_7 : decode cX13_holdsOn 7 = .ok (.getfield 223, 3) := by decide +kernel
theorem dX13_holdsOn_10 : decode cX13_holdsOn 10 = .ok (.if_icmp .ge 48, 3) := by decide +kernel
theorem dX13_holdsOn_13 : decode cX13_holdsOn 13 = .ok (.aload_n 1, 1) := by decide +kernel
theorem dX13_holdsOn_14 : decode cX13_holdsOn 14 = .ok (.bipush 18, 2) := by decide +kernel
theorem dX13_holdsOn_16 : decode cX13_holdsOn 16 = .ok (.ldc2_w 443, 3) := by decide +kernel
theorem dX13_holdsOn_19 : decode cX13_holdsOn 19 = .ok (.aload_n 1, 1) := by decide +kernel
theorem dX13_holdsOn_20 : decode cX13_holdsOn 20 = .ok (.bipush 18, 2) := by decide +kernel
theorem dX13_holdsOn_22 : decode cX13_holdsOn 22 = .ok (.iaload, 1) := by decide +kernel
theorem dX13_holdsOn_23 : decode cX13_holdsOn 23 = .ok (.i2l, 1) := by decide +kernel
theorem dX13_holdsOn_24 : decode cX13_holdsOn 24 = .ok (.lmul, 1) := by decide +kernel
theorem dX13_holdsOn_25 : decode cX13_holdsOn 25 = .ok (.ldc2_w 445, 3) := by decide +kernel
theorem dX13_holdsOn_28 : decode cX13_holdsOn 28 = .ok (.ladd, 1) := by decide +kernel
theorem dX13_holdsOn_29 : decode cX13_holdsOn 29 = .ok (.ldc2_w 447, 3) := by decide +kernel
theorem dX13_holdsOn_32 : decode cX13_holdsOn 32 = .ok (.lrem, 1) := by decide +kernel
theorem dX13_holdsOn_33 : decode cX13_holdsOn 33 = .ok (.l2i, 1) := by decide +kernel
theorem dX13_holdsOn_34 : decode cX13_holdsOn 34 = .ok (.iastore, 1) := by decide +kernel
theorem dX13_holdsOn_35 : decode cX13_holdsOn 35 = .ok (.aload_n 1, 1) := by decide +kernel
theorem dX13_holdsOn_36 : decode cX13_holdsOn 36 = .ok (.bipush 18, 2) := by decide +kernel
theorem dX13_holdsOn_38 : decode cX13_holdsOn 38 = .ok (.iaload, 1) := by decide +kernel
theorem dX13_holdsOn_39 : decode cX13_holdsOn 39 = .ok (.bipush 100, 2) := by decide +kernel
theorem dX13_holdsOn_41 : decode cX13_holdsOn 41 = .ok (.irem, 1) := by decide +kernel
theorem dX13_holdsOn_42 : decode cX13_holdsOn 42 = .ok (.aload_n 0, 1) := by decide +kernel
theorem dX13_holdsOn_43 : decode cX13_holdsOn 43 = .ok (.iload_n 2, 1) := by decide +kernel
theorem dX13_holdsOn_44 : decode cX13_holdsOn 44 = .ok (.invokevirtual 330, 3) := by decide +kernel
theorem dX13_holdsOn_47 : decode cX13_holdsOn 47 = .ok (.if_icmp .lt 5, 3) := by decide +kernel
theorem dX13_holdsOn_50 : decode cX13_holdsOn 50 = .ok (.iconst 0, 1) := by decide +kernel
theorem dX13_holdsOn_51 : decode cX13_holdsOn 51 = .ok (.ireturn, 1) := by decide +kernel
theorem dX13_holdsOn_52 : decode cX13_holdsOn 52 = .ok (.iinc 3 1, 3) := by decide +kernel
theorem dX13_holdsOn_55 : decode cX13_holdsOn 55 = .ok (.goto (-53), 3) := by decide +kernel
theorem dX13_holdsOn_58 : decode cX13_holdsOn 58 = .ok (.iconst 1, 1) := by decide +kernel
theorem dX13_holdsOn_59 : decode cX13_holdsOn 59 = .ok (.ireturn, 1) := by decide +kernel
theorem dX13_fights_0 : decode cX13_fights 0 = .ok (.aload_n 0, 1) := by decide +kernel
theorem dX13_fights_1 : decode cX13_fights 1 = .ok (.iconst 0, 1) := by decide +kernel
theorem dX13_fights_2 : decode cX13_fights 2 = .ok (.putfield 449, 3) := by decide +kernel
theorem dX13_fights_5 : decode cX13_fights 5 = .ok (.aload_n 0, 1) := by decide +kernel
theorem dX13_fights_6 : decode cX13_fights 6 = .ok (.iconst 0, 1) := by decide +kernel
theorem dX13_fights_7 : decode cX13_fights 7 = .ok (.putfield 452, 3) := by decide +kernel
theorem dX13_fights_10 : decode cX13_fights 10 = .ok (.aload_n 0, 1) := by decide +kernel
theorem dX13_fights_11 : decode cX13_fights 11 = .ok (.iconst 0, 1) := by decide +kernel
theorem dX13_fights_12 : decode cX13_fights 12 = .ok (.putfield 455, 3) := by decide +kernel
theorem dX13_fights_15 : decode cX13_fights 15 = .ok (.iconst 0, 1) := by decide +kernel
theorem dX13_fights_16 : decode cX13_fights 16 = .ok (.istore_n 2, 1) := by decide +kernel
theorem dX13_fights_17 : decode cX13_fights 17 = .ok (.iload_n 2, 1) := by decide +kernel
theorem dX13_fights_18 : decode cX13_fights 18 = .ok (.aload_n 0, 1) := by decide +kernel
theorem dX13_fights_19 : decode cX13_fights 19 = .ok (.getfield 301, 3) := by decide +kernel
theorem dX13_fights_22 : decode cX13_fights 22 = .ok (.getfield 195, 3) := by decide +kernel
theorem dX13_fights_25 : decode cX13_fights 25 = .ok (.if_icmp .ge 173, 3) := by decide +kernel
theorem dX13_fights_28 : decode cX13_fights 28 = .ok (.aload_n 0, 1) := by decide +kernel
theorem dX13_fights_29 : decode cX13_fights 29 = .ok (.iload_n 2, 1) := by decide +kernel
theorem dX13_fights_30 : decode cX13_fights 30 = .ok (.invokevirtual 310, 3) := by decide +kernel
theorem dX13_fights_33 : decode cX13_fights 33 = .ok (.ifCond .eq 6, 3) := by decide +kernel
theorem dX13_fights_36 : decode cX13_fights 36 = .ok (.goto 156, 3) := by decide +kernel
theorem dX13_fights_39 : decode cX13_fights 39 = .ok (.aload_n 0, 1) := by decide +kernel
theorem dX13_fights_40 : decode cX13_fights 40 = .ok (.aload_n 1, 1) := by decide +kernel
theorem dX13_fights_41 : decode cX13_fights 41 = .ok (.iload_n 2, 1) := by decide +kernel
theorem dX13_fights_42 : decode cX13_fights 42 = .ok (.invokevirtual 458, 3) := by decide +kernel
theorem dX13_fights_45 : decode cX13_fights 45 = .ok (.ifCond .ne 22, 3) := by decide +kernel
theorem dX13_fights_48 : decode cX13_fights 48 = .ok (.aload_n 0, 1) := by decide +kernel
theorem dX13_fights_49 : decode cX13_fights 49 = .ok (.dup, 1) := by decide +kernel
theorem dX13_fights_50 : decode cX13_fights 50 = .ok (.getfield 452, 3) := by decide +kernel
theorem dX13_fights_53 : decode cX13_fights 53 = .ok (.aload_n 0, 1) := by decide +kernel
theorem dX13_fights_54 : decode cX13_fights 54 = .ok (.iload_n 2, 1) := by decide +kernel
theorem dX13_fights_55 : decode cX13_fights 55 = .ok (.invokevirtual 317, 3) := by decide +kernel
theorem dX13_fights_58 : decode cX13_fights 58 = .ok (.iconst 2, 1) := by decide +kernel
theorem dX13_fights_59 : decode cX13_fights 59 = .ok (.idiv, 1) := by decide +kernel
theorem dX13_fights_60 : decode cX13_fights 60 = .ok (.iadd, 1) := by decide +kernel
theorem dX13_fights_61 : decode cX13_fights 61 = .ok (.putfield 452, 3) := by decide +kernel
theorem dX13_fights_64 : decode cX13_fights 64 = .ok (.goto 128, 3) := by decide +kernel
theorem dX13_fights_67 : decode cX13_fights 67 = .ok (.aload_n 1, 1) := by decide +kernel
theorem dX13_fights_68 : decode cX13_fights 68 = .ok (.iconst 0, 1) := by decide +kernel
theorem dX13_fights_69 : decode cX13_fights 69 = .ok (.iload_n 2, 1) := by decide +kernel
theorem dX13_fights_70 : decode cX13_fights 70 = .ok (.iadd, 1) := by decide +kernel
theorem dX13_fights_71 : decode cX13_fights 71 = .ok (.iaload, 1) := by decide +kernel
theorem dX13_fights_72 : decode cX13_fights 72 = .ok (.istore_n 3, 1) := by decide +kernel
theorem dX13_fights_73 : decode cX13_fights 73 = .ok (.aload_n 0, 1) := by decide +kernel
theorem dX13_fights_74 : decode cX13_fights 74 = .ok (.iload_n 2, 1) := by decide +kernel
theorem dX13_fights_75 : decode cX13_fights 75 = .ok (.aload_n 0, 1) := by decide +kernel
theorem dX13_fights_76 : decode cX13_fights 76 = .ok (.getfield 301, 3) := by decide +kernel
theorem dX13_fights_79 : decode cX13_fights 79 = .ok (.getfield 241, 3) := by decide +kernel
theorem dX13_fights_82 : decode cX13_fights 82 = .ok (.iload_n 3, 1) := by decide +kernel
theorem dX13_fights_83 : decode cX13_fights 83 = .ok (.iaload, 1) := by decide +kernel
theorem dX13_fights_84 : decode cX13_fights 84 = .ok (.aload_n 1, 1) := by decide +kernel
theorem dX13_fights_85 : decode cX13_fights 85 = .ok (.bipush 11, 2) := by decide +kernel
theorem dX13_fights_87 : decode cX13_fights 87 = .ok (.iload_n 3, 1) := by decide +kernel
theorem dX13_fights_88 : decode cX13_fights 88 = .ok (.iadd, 1) := by decide +kernel
theorem dX13_fights_89 : decode cX13_fights 89 = .ok (.iaload, 1) := by decide +kernel
theorem dX13_fights_90 : decode cX13_fights 90 = .ok (.iconst 0, 1) := by decide +kernel
theorem dX13_fights_91 : decode cX13_fights 91 = .ok (.invokevirtual 320, 3) := by decide +kernel
theorem dX13_fights_94 : decode cX13_fights 94 = .ok (.istore 4, 2) := by decide +kernel
theorem dX13_fights_96 : decode cX13_fights 96 = .ok (.aload_n 0, 1) := by decide +kernel
theorem dX13_fights_97 : decode cX13_fights 97 = .ok (.dup, 1) := by decide +kernel
theorem dX13_fights_98 : decode cX13_fights 98 = .ok (.getfield 452, 3) := by decide +kernel
theorem dX13_fights_101 : decode cX13_fights 101 = .ok (.aload_n 0, 1) := by decide +kernel
theorem dX13_fights_102 : decode cX13_fights 102 = .ok (.iload_n 2, 1) := by decide +kernel
theorem dX13_fights_103 : decode cX13_fights 103 = .ok (.aload_n 0, 1) := by decide +kernel
theorem dX13_fights_104 : decode cX13_fights 104 = .ok (.getfield 301, 3) := by decide +kernel
theorem dX13_fights_107 : decode cX13_fights 107 = .ok (.getfield 241, 3) := by decide +kernel
theorem dX13_fights_110 : decode cX13_fights 110 = .ok (.iload_n 3, 1) := by decide +kernel
theorem dX13_fights_111 : decode cX13_fights 111 = .ok (.iaload, 1) := by decide +kernel
theorem dX13_fights_112 : decode cX13_fights 112 = .ok (.aload_n 1, 1) := by decide +kernel
theorem dX13_fights_113 : decode cX13_fights 113 = .ok (.bipush 11, 2) := by decide +kernel
theorem dX13_fights_115 : decode cX13_fights 115 = .ok (.iload_n 3, 1) := by decide +kernel
theorem dX13_fights_116 : decode cX13_fights 116 = .ok (.iadd, 1) := by decide +kernel
theorem dX13_fights_117 : decode cX13_fights 117 = .ok (.iaload, 1) := by decide +kernel
theorem dX13_fights_118 : decode cX13_fights 118 = .ok (.iconst 1, 1) := by decide +kernel
theorem dX13_fights_119 : decode cX13_fights 119 = .ok (.invokevirtual 320, 3) := by decide +kernel
theorem dX13_fights_122 : decode cX13_fights 122 = .ok (.iadd, 1) := by decide +kernel
theorem dX13_fights_123 : decode cX13_fights 123 = .ok (.putfield 452, 3) := by decide +kernel
theorem dX13_fights_126 : decode cX13_fights 126 = .ok (.aload_n 0, 1) := by decide +kernel
theorem dX13_fights_127 : decode cX13_fights 127 = .ok (.dup, 1) := by decide +kernel
theorem dX13_fights_128 : decode cX13_fights 128 = .ok (.getfield 449, 3) := by decide +kernel
theorem dX13_fights_131 : decode cX13_fights 131 = .ok (.iload 4, 2) := by decide +kernel
theorem dX13_fights_133 : decode cX13_fights 133 = .ok (.iadd, 1) := by decide +kernel
theorem dX13_fights_134 : decode cX13_fights 134 = .ok (.putfield 449, 3) := by decide +kernel
theorem dX13_fights_137 : decode cX13_fights 137 = .ok (.aload_n 0, 1) := by decide +kernel
theorem dX13_fights_138 : decode cX13_fights 138 = .ok (.dup, 1) := by decide +kernel
theorem dX13_fights_139 : decode cX13_fights 139 = .ok (.getfield 455, 3) := by decide +kernel
theorem dX13_fights_142 : decode cX13_fights 142 = .ok (.iconst 1, 1) := by decide +kernel
theorem dX13_fights_143 : decode cX13_fights 143 = .ok (.iload_n 2, 1) := by decide +kernel
theorem dX13_fights_144 : decode cX13_fights 144 = .ok (.ishl, 1) := by decide +kernel
theorem dX13_fights_145 : decode cX13_fights 145 = .ok (.ior, 1) := by decide +kernel
theorem dX13_fights_146 : decode cX13_fights 146 = .ok (.putfield 455, 3) := by decide +kernel
theorem dX13_fights_149 : decode cX13_fights 149 = .ok (.aload_n 0, 1) := by decide +kernel
theorem dX13_fights_150 : decode cX13_fights 150 = .ok (.getfield 301, 3) := by decide +kernel
theorem dX13_fights_153 : decode cX13_fights 153 = .ok (.getfield 241, 3) := by decide +kernel
theorem dX13_fights_156 : decode cX13_fights 156 = .ok (.iload_n 3, 1) := by decide +kernel
theorem dX13_fights_157 : decode cX13_fights 157 = .ok (.iaload, 1) := by decide +kernel
theorem dX13_fights_158 : decode cX13_fights 158 = .ok (.iconst 2, 1) := by decide +kernel
theorem dX13_fights_159 : decode cX13_fights 159 = .ok (.if_icmp .ne 33, 3) := by decide +kernel
theorem dX13_fights_162 : decode cX13_fights 162 = .ok (.aload_n 1, 1) := by decide +kernel
theorem dX13_fights_163 : decode cX13_fights 163 = .ok (.bipush 11, 2) := by decide +kernel
theorem dX13_fights_165 : decode cX13_fights 165 = .ok (.iload_n 3, 1) := by decide +kernel
theorem dX13_fights_166 : decode cX13_fights 166 = .ok (.iadd, 1) := by decide +kernel
theorem dX13_fights_167 : decode cX13_fights 167 = .ok (.aload_n 1, 1) := by decide +kernel
theorem dX13_fights_168 : decode cX13_fights 168 = .ok (.bipush 11, 2) := by decide +kernel
theorem dX13_fights_170 : decode cX13_fights 170 = .ok (.iload_n 3, 1) := by decide +kernel
theorem dX13_fights_171 : decode cX13_fights 171 = .ok (.iadd, 1) := by decide +kernel
theorem dX13_fights_172 : decode cX13_fights 172 = .ok (.iaload, 1) := by decide +kernel
theorem dX13_fights_173 : decode cX13_fights 173 = .ok (.iload 4, 2) := by decide +kernel
theorem dX13_fights_175 : decode cX13_fights 175 = .ok (.if_icmp .le 15, 3) := by decide +kernel
theorem dX13_fights_178 : decode cX13_fights 178 = .ok (.aload_n 1, 1) := by decide +kernel
theorem dX13_fights_179 : decode cX13_fights 179 = .ok (.bipush 11, 2) := by decide +kernel
theorem dX13_fights_181 : decode cX13_fights 181 = .ok (.iload_n 3, 1) := by decide +kernel
theorem dX13_fights_182 : decode cX13_fights 182 = .ok (.iadd, 1) := by decide +kernel
theorem dX13_fights_183 : decode cX13_fights 183 = .ok (.iaload, 1) := by decide +kernel
theorem dX13_fights_184 : decode cX13_fights 184 = .ok (.iload 4, 2) := by decide +kernel
theorem dX13_fights_186 : decode cX13_fights 186 = .ok (.isub, 1) := by decide +kernel
theorem dX13_fights_187 : decode cX13_fights 187 = .ok (.goto 4, 3) := by decide +kernel
theorem dX13_fights_190 : decode cX13_fights 190 = .ok (.iconst 0, 1) := by decide +kernel
theorem dX13_fights_191 : decode cX13_fights 191 = .ok (.iastore, 1) := by decide +kernel
theorem dX13_fights_192 : decode cX13_fights 192 = .ok (.iinc 2 1, 3) := by decide +kernel
theorem dX13_fights_195 : decode cX13_fights 195 = .ok (.goto (-178), 3) := by decide +kernel
theorem dX13_fights_198 : decode cX13_fights 198 = .ok (.return_, 1) := by decide +kernel
theorem dX13_refusesBattles_0 : decode cX13_refusesBattles 0 = .ok (.iload_n 1, 1) := by decide +kernel
theorem dX13_refusesBattles_1 : decode cX13_refusesBattles 1 = .ok (.ifCond .ne 7, 3) := by decide +kernel
theorem dX13_refusesBattles_4 : decode cX13_refusesBattles 4 = .ok (.iconst 1, 1) := by decide +kernel
theorem dX13_refusesBattles_5 : decode cX13_refusesBattles 5 = .ok (.goto 29, 3) := by decide +kernel
theorem dX13_refusesBattles_8 : decode cX13_refusesBattles 8 = .ok (.iload_n 2, 1) := by decide +kernel
theorem dX13_refusesBattles_9 : decode cX13_refusesBattles 9 = .ok (.iconst 0, 1) := by decide +kernel
theorem dX13_refusesBattles_10 : decode cX13_refusesBattles 10 = .ok (.ldc_w 462, 3) := by decide +kernel
theorem dX13_refusesBattles_13 : decode cX13_refusesBattles 13 = .ok (.invokestatic 129, 3) := by decide +kernel
theorem dX13_refusesBattles_16 : decode cX13_refusesBattles 16 = .ok (.ifCond .eq 17, 3) := by decide +kernel
theorem dX13_refusesBattles_19 : decode cX13_refusesBattles 19 = .ok (.iload_n 3, 1) := by decide +kernel
theorem dX13_refusesBattles_20 : decode cX13_refusesBattles 20 = .ok (.iconst 1, 1) := by decide +kernel
theorem dX13_refusesBattles_21 : decode cX13_refusesBattles 21 = .ok (.bipush 90, 2) := by decide +kernel
theorem dX13_refusesBattles_23 : decode cX13_refusesBattles 23 = .ok (.invokestatic 129, 3) := by decide +kernel
theorem dX13_refusesBattles_26 : decode cX13_refusesBattles 26 = .ok (.ifCond .eq 7, 3) := by decide +kernel
theorem dX13_refusesBattles_29 : decode cX13_refusesBattles 29 = .ok (.iconst 0, 1) := by decide +kernel
theorem dX13_refusesBattles_30 : decode cX13_refusesBattles 30 = .ok (.goto 4, 3) := by decide +kernel
theorem dX13_refusesBattles_33 : decode cX13_refusesBattles 33 = .ok (.iconst 2, 1) := by decide +kernel
theorem dX13_refusesBattles_34 : decode cX13_refusesBattles 34 = .ok (.ireturn, 1) := by decide +kernel
theorem dX13_fightsAll_0 : decode cX13_fightsAll 0 = .ok (.iload_n 1, 1) := by decide +kernel
theorem dX13_fightsAll_1 : decode cX13_fightsAll 1 = .ok (.istore 4, 2) := by decide +kernel
theorem dX13_fightsAll_3 : decode cX13_fightsAll 3 = .ok (.aload_n 0, 1) := by decide +kernel
theorem dX13_fightsAll_4 : decode cX13_fightsAll 4 = .ok (.iconst 0, 1) := by decide +kernel
theorem dX13_fightsAll_5 : decode cX13_fightsAll 5 = .ok (.putfield 463, 3) := by decide +kernel
theorem dX13_fightsAll_8 : decode cX13_fightsAll 8 = .ok (.aload_n 0, 1) := by decide +kernel
theorem dX13_fightsAll_9 : decode cX13_fightsAll 9 = .ok (.iconst 0, 1) := by decide +kernel
theorem dX13_fightsAll_10 : decode cX13_fightsAll 10 = .ok (.putfield 466, 3) := by decide +kernel
theorem dX13_fightsAll_13 : decode cX13_fightsAll 13 = .ok (.aload_n 0, 1) := by decide +kernel
theorem dX13_fightsAll_14 : decode cX13_fightsAll 14 = .ok (.iconst 0, 1) := by decide +kernel
theorem dX13_fightsAll_15 : decode cX13_fightsAll 15 = .ok (.putfield 469, 3) := by decide +kernel
theorem dX13_fightsAll_18 : decode cX13_fightsAll 18 = .ok (.aload_n 0, 1) := by decide +kernel
theorem dX13_fightsAll_19 : decode cX13_fightsAll 19 = .ok (.iconst 0, 1) := by decide +kernel
theorem dX13_fightsAll_20 : decode cX13_fightsAll 20 = .ok (.putfield 472, 3) := by decide +kernel
theorem dX13_fightsAll_23 : decode cX13_fightsAll 23 = .ok (.iconst 0, 1) := by decide +kernel
theorem dX13_fightsAll_24 : decode cX13_fightsAll 24 = .ok (.istore 5, 2) := by decide +kernel
theorem dX13_fightsAll_26 : decode cX13_fightsAll 26 = .ok (.iload 5, 2) := by decide +kernel
theorem dX13_fightsAll_28 : decode cX13_fightsAll 28 = .ok (.iload_n 2, 1) := by decide +kernel
theorem dX13_fightsAll_29 : decode cX13_fightsAll 29 = .ok (.if_icmp .ge 115, 3) := by decide +kernel
theorem dX13_fightsAll_32 : decode cX13_fightsAll 32 = .ok (.aload_n 0, 1) := by decide +kernel
theorem dX13_fightsAll_33 : decode cX13_fightsAll 33 = .ok (.invokevirtual 475, 3) := by decide +kernel
theorem dX13_fightsAll_36 : decode cX13_fightsAll 36 = .ok (.aload_n 0, 1) := by decide +kernel
theorem dX13_fightsAll_37 : decode cX13_fightsAll 37 = .ok (.getfield 21, 3) := by decide +kernel
theorem dX13_fightsAll_40 : decode cX13_fightsAll 40 = .ok (.bipush 18, 2) := by decide +kernel
theorem dX13_fightsAll_42 : decode cX13_fightsAll 42 = .ok (.iload 4, 2) := by decide +kernel
theorem dX13_fightsAll_44 : decode cX13_fightsAll 44 = .ok (.iastore, 1) := by decide +kernel
theorem dX13_fightsAll_45 : decode cX13_fightsAll 45 = .ok (.aload_n 0, 1) := by decide +kernel
theorem dX13_fightsAll_46 : decode cX13_fightsAll 46 = .ok (.aload_n 0, 1) := by decide +kernel
theorem dX13_fightsAll_47 : decode cX13_fightsAll 47 = .ok (.getfield 21, 3) := by decide +kernel
theorem dX13_fightsAll_50 : decode cX13_fightsAll 50 = .ok (.invokevirtual 478, 3) := by decide +kernel
theorem dX13_fightsAll_53 : decode cX13_fightsAll 53 = .ok (.aload_n 0, 1) := by decide +kernel
theorem dX13_fightsAll_54 : decode cX13_fightsAll 54 = .ok (.getfield 21, 3) := by decide +kernel
theorem dX13_fightsAll_57 : decode cX13_fightsAll 57 = .ok (.bipush 18, 2) := by decide +kernel
theorem dX13_fightsAll_59 : decode cX13_fightsAll 59 = .ok (.iaload, 1) := by decide +kernel
theorem dX13_fightsAll_60 : decode cX13_fightsAll 60 = .ok (.istore 4, 2) := by decide +kernel
theorem dX13_fightsAll_62 : decode cX13_fightsAll 62 = .ok (.aload_n 0, 1) := by decide +kernel
theorem dX13_fightsAll_63 : decode cX13_fightsAll 63 = .ok (.dup, 1) := by decide +kernel
theorem dX13_fightsAll_64 : decode cX13_fightsAll 64 = .ok (.getfield 463, 3) := by decide +kernel
theorem dX13_fightsAll_67 : decode cX13_fightsAll 67 = .ok (.aload_n 0, 1) := by decide +kernel
theorem dX13_fightsAll_68 : decode cX13_fightsAll 68 = .ok (.getfield 449, 3) := by decide +kernel
theorem dX13_fightsAll_71 : decode cX13_fightsAll 71 = .ok (.iadd, 1) := by decide +kernel
theorem dX13_fightsAll_72 : decode cX13_fightsAll 72 = .ok (.putfield 463, 3) := by decide +kernel
theorem dX13_fightsAll_75 : decode cX13_fightsAll 75 = .ok (.aload_n 0, 1) := by decide +kernel
theorem dX13_fightsAll_76 : decode cX13_fightsAll 76 = .ok (.dup, 1) := by decide +kernel
theorem dX13_fightsAll_77 : decode cX13_fightsAll 77 = .ok (.getfield 466, 3) := by decide +kernel
theorem dX13_fightsAll_80 : decode cX13_fightsAll 80 = .ok (.aload_n 0, 1) := by decide +kernel
theorem dX13_fightsAll_81 : decode cX13_fightsAll 81 = .ok (.getfield 452, 3) := by decide +kernel
theorem dX13_fightsAll_84 : decode cX13_fightsAll 84 = .ok (.iadd, 1) := by decide +kernel
theorem dX13_fightsAll_85 : decode cX13_fightsAll 85 = .ok (.putfield 466, 3) := by decide +kernel
theorem dX13_fightsAll_88 : decode cX13_fightsAll 88 = .ok (.aload_n 0, 1) := by decide +kernel
theorem dX13_fightsAll_89 : decode cX13_fightsAll 89 = .ok (.dup, 1) := by decide +kernel
theorem dX13_fightsAll_90 : decode cX13_fightsAll 90 = .ok (.getfield 469, 3) := by decide +kernel
theorem dX13_fightsAll_93 : decode cX13_fightsAll 93 = .ok (.aload_n 0, 1) := by decide +kernel
theorem dX13_fightsAll_94 : decode cX13_fightsAll 94 = .ok (.getfield 449, 3) := by decide +kernel
theorem dX13_fightsAll_97 : decode cX13_fightsAll 97 = .ok (.aload_n 0, 1) := by decide +kernel
theorem dX13_fightsAll_98 : decode cX13_fightsAll 98 = .ok (.getfield 452, 3) := by decide +kernel
theorem dX13_fightsAll_101 : decode cX13_fightsAll 101 = .ok (.if_icmp .le 7, 3) := by decide +kernel
theorem dX13_fightsAll_104 : decode cX13_fightsAll 104 = .ok (.iconst 1, 1) := by decide +kernel
theorem dX13_fightsAll_105 : decode cX13_fightsAll 105 = .ok (.goto 4, 3) := by decide +kernel
theorem dX13_fightsAll_108 : decode cX13_fightsAll 108 = .ok (.iconst 0, 1) := by decide +kernel
theorem dX13_fightsAll_109 : decode cX13_fightsAll 109 = .ok (.iadd, 1) := by decide +kernel
theorem dX13_fightsAll_110 : decode cX13_fightsAll 110 = .ok (.putfield 469, 3) := by decide +kernel
theorem dX13_fightsAll_113 : decode cX13_fightsAll 113 = .ok (.aload_n 0, 1) := by decide +kernel
theorem dX13_fightsAll_114 : decode cX13_fightsAll 114 = .ok (.dup, 1) := by decide +kernel
theorem dX13_fightsAll_115 : decode cX13_fightsAll 115 = .ok (.getfield 472, 3) := by decide +kernel
theorem dX13_fightsAll_118 : decode cX13_fightsAll 118 = .ok (.aload_n 0, 1) := by decide +kernel
theorem dX13_fightsAll_119 : decode cX13_fightsAll 119 = .ok (.getfield 455, 3) := by decide +kernel
theorem dX13_fightsAll_122 : decode cX13_fightsAll 122 = .ok (.iload_n 3, 1) := by decide +kernel
theorem dX13_fightsAll_123 : decode cX13_fightsAll 123 = .ok (.invokestatic 229, 3) := by decide +kernel
theorem dX13_fightsAll_126 : decode cX13_fightsAll 126 = .ok (.ifCond .eq 7, 3) := by decide +kernel
theorem dX13_fightsAll_129 : decode cX13_fightsAll 129 = .ok (.iconst 1, 1) := by decide +kernel
theorem dX13_fightsAll_130 : decode cX13_fightsAll 130 = .ok (.goto 4, 3) := by decide +kernel
theorem dX13_fightsAll_133 : decode cX13_fightsAll 133 = .ok (.iconst 0, 1) := by decide +kernel
theorem dX13_fightsAll_134 : decode cX13_fightsAll 134 = .ok (.iadd, 1) := by decide +kernel
theorem dX13_fightsAll_135 : decode cX13_fightsAll 135 = .ok (.putfield 472, 3) := by decide +kernel
theorem dX13_fightsAll_138 : decode cX13_fightsAll 138 = .ok (.iinc 5 1, 3) := by decide +kernel
theorem dX13_fightsAll_141 : decode cX13_fightsAll 141 = .ok (.goto (-115), 3) := by decide +kernel
theorem dX13_fightsAll_144 : decode cX13_fightsAll 144 = .ok (.return_, 1) := by decide +kernel
theorem dX13_battles_0 : decode cX13_battles 0 = .ok (.aload_n 0, 1) := by decide +kernel
theorem dX13_battles_1 : decode cX13_battles 1 = .ok (.iconst 0, 1) := by decide +kernel
theorem dX13_battles_2 : decode cX13_battles 2 = .ok (.putfield 48, 3) := by decide +kernel
theorem dX13_battles_5 : decode cX13_battles 5 = .ok (.aload_n 0, 1) := by decide +kernel
theorem dX13_battles_6 : decode cX13_battles 6 = .ok (.aload_n 0, 1) := by decide +kernel
theorem dX13_battles_7 : decode cX13_battles 7 = .ok (.getfield 301, 3) := by decide +kernel
theorem dX13_battles_10 : decode cX13_battles 10 = .ok (.ifnull 7, 3) := by decide +kernel
theorem dX13_battles_13 : decode cX13_battles 13 = .ok (.iconst 1, 1) := by decide +kernel
theorem dX13_battles_14 : decode cX13_battles 14 = .ok (.goto 4, 3) := by decide +kernel
theorem dX13_battles_17 : decode cX13_battles 17 = .ok (.iconst 0, 1) := by decide +kernel
theorem dX13_battles_18 : decode cX13_battles 18 = .ok (.iload_n 1, 1) := by decide +kernel
theorem dX13_battles_19 : decode cX13_battles 19 = .ok (.iload_n 2, 1) := by decide +kernel
theorem dX13_battles_20 : decode cX13_battles 20 = .ok (.invokevirtual 482, 3) := by decide +kernel
theorem dX13_battles_23 : decode cX13_battles 23 = .ok (.istore 4, 2) := by decide +kernel
theorem dX13_battles_25 : decode cX13_battles 25 = .ok (.iload 4, 2) := by decide +kernel
theorem dX13_battles_27 : decode cX13_battles 27 = .ok (.ifCond .le 10, 3) := by decide +kernel
theorem dX13_battles_30 : decode cX13_battles 30 = .ok (.aload_n 0, 1) := by decide +kernel
theorem dX13_battles_31 : decode cX13_battles 31 = .ok (.iload 4, 2) := by decide +kernel
theorem dX13_battles_33 : decode cX13_battles 33 = .ok (.invokevirtual 54, 3) := by decide +kernel
theorem dX13_battles_36 : decode cX13_battles 36 = .ok (.ireturn, 1) := by decide +kernel
theorem dX13_battles_37 : decode cX13_battles 37 = .ok (.aload_n 0, 1) := by decide +kernel
theorem dX13_battles_38 : decode cX13_battles 38 = .ok (.iload_n 1, 1) := by decide +kernel
theorem dX13_battles_39 : decode cX13_battles 39 = .ok (.iload_n 2, 1) := by decide +kernel
theorem dX13_battles_40 : decode cX13_battles 40 = .ok (.iconst 0, 1) := by decide +kernel
theorem dX13_battles_41 : decode cX13_battles 41 = .ok (.invokevirtual 486, 3) := by decide +kernel
theorem dX13_battles_44 : decode cX13_battles 44 = .ok (.aload_n 0, 1) := by decide +kernel
theorem dX13_battles_45 : decode cX13_battles 45 = .ok (.iload_n 3, 1) := by decide +kernel
theorem dX13_battles_46 : decode cX13_battles 46 = .ok (.ifCond .eq 10, 3) := by decide +kernel
theorem dX13_battles_49 : decode cX13_battles 49 = .ok (.aload_n 0, 1) := by decide +kernel
theorem dX13_battles_50 : decode cX13_battles 50 = .ok (.getfield 466, 3) := by decide +kernel
theorem dX13_battles_53 : decode cX13_battles 53 = .ok (.goto 7, 3) := by decide +kernel
theorem dX13_battles_56 : decode cX13_battles 56 = .ok (.aload_n 0, 1) := by decide +kernel
theorem dX13_battles_57 : decode cX13_battles 57 = .ok (.getfield 463, 3) := by decide +kernel
theorem dX13_battles_60 : decode cX13_battles 60 = .ok (.invokevirtual 60, 3) := by decide +kernel
theorem dX13_battles_63 : decode cX13_battles 63 = .ok (.ireturn, 1) := by decide +kernel
theorem dX13_won_0 : decode cX13_won 0 = .ok (.aload_n 0, 1) := by decide +kernel
theorem dX13_won_1 : decode cX13_won 1 = .ok (.iconst 0, 1) := by decide +kernel
theorem dX13_won_2 : decode cX13_won 2 = .ok (.putfield 48, 3) := by decide +kernel
theorem dX13_won_5 : decode cX13_won 5 = .ok (.aload_n 0, 1) := by decide +kernel
theorem dX13_won_6 : decode cX13_won 6 = .ok (.aload_n 0, 1) := by decide +kernel
theorem dX13_won_7 : decode cX13_won 7 = .ok (.getfield 301, 3) := by decide +kernel
theorem dX13_won_10 : decode cX13_won 10 = .ok (.ifnull 7, 3) := by decide +kernel
theorem dX13_won_13 : decode cX13_won 13 = .ok (.iconst 1, 1) := by decide +kernel
theorem dX13_won_14 : decode cX13_won 14 = .ok (.goto 4, 3) := by decide +kernel
theorem dX13_won_17 : decode cX13_won 17 = .ok (.iconst 0, 1) := by decide +kernel
theorem dX13_won_18 : decode cX13_won 18 = .ok (.iload_n 1, 1) := by decide +kernel
theorem dX13_won_19 : decode cX13_won 19 = .ok (.iload_n 2, 1) := by decide +kernel
theorem dX13_won_20 : decode cX13_won 20 = .ok (.invokevirtual 482, 3) := by decide +kernel
theorem dX13_won_23 : decode cX13_won 23 = .ok (.istore_n 3, 1) := by decide +kernel
theorem dX13_won_24 : decode cX13_won 24 = .ok (.iload_n 3, 1) := by decide +kernel
theorem dX13_won_25 : decode cX13_won 25 = .ok (.ifCond .le 9, 3) := by decide +kernel
theorem dX13_won_28 : decode cX13_won 28 = .ok (.aload_n 0, 1) := by decide +kernel
theorem dX13_won_29 : decode cX13_won 29 = .ok (.iload_n 3, 1) := by decide +kernel
theorem dX13_won_30 : decode cX13_won 30 = .ok (.invokevirtual 54, 3) := by decide +kernel
theorem dX13_won_33 : decode cX13_won 33 = .ok (.ireturn, 1) := by decide +kernel
theorem dX13_won_34 : decode cX13_won 34 = .ok (.aload_n 0, 1) := by decide +kernel
theorem dX13_won_35 : decode cX13_won 35 = .ok (.iload_n 1, 1) := by decide +kernel
theorem dX13_won_36 : decode cX13_won 36 = .ok (.iload_n 2, 1) := by decide +kernel
theorem dX13_won_37 : decode cX13_won 37 = .ok (.iconst 0, 1) := by decide +kernel
theorem dX13_won_38 : decode cX13_won 38 = .ok (.invokevirtual 486, 3) := by decide +kernel
theorem dX13_won_41 : decode cX13_won 41 = .ok (.aload_n 0, 1) := by decide +kernel
theorem dX13_won_42 : decode cX13_won 42 = .ok (.aload_n 0, 1) := by decide +kernel
theorem dX13_won_43 : decode cX13_won 43 = .ok (.getfield 469, 3) := by decide +kernel
theorem dX13_won_46 : decode cX13_won 46 = .ok (.invokevirtual 60, 3) := by decide +kernel
theorem dX13_won_49 : decode cX13_won 49 = .ok (.ireturn, 1) := by decide +kernel
theorem dX13_acrossIn_0 : decode cX13_acrossIn 0 = .ok (.aload_n 0, 1) := by decide +kernel
theorem dX13_acrossIn_1 : decode cX13_acrossIn 1 = .ok (.iconst 0, 1) := by decide +kernel
theorem dX13_acrossIn_2 : decode cX13_acrossIn 2 = .ok (.putfield 48, 3) := by decide +kernel
theorem dX13_acrossIn_5 : decode cX13_acrossIn 5 = .ok (.aload_n 0, 1) := by decide +kernel
theorem dX13_acrossIn_6 : decode cX13_acrossIn 6 = .ok (.aload_n 0, 1) := by decide +kernel
theorem dX13_acrossIn_7 : decode cX13_acrossIn 7 = .ok (.iload_n 1, 1) := by decide +kernel
theorem dX13_acrossIn_8 : decode cX13_acrossIn 8 = .ok (.invokevirtual 351, 3) := by decide +kernel
theorem dX13_acrossIn_11 : decode cX13_acrossIn 11 = .ok (.iload_n 2, 1) := by decide +kernel
theorem dX13_acrossIn_12 : decode cX13_acrossIn 12 = .ok (.iload_n 3, 1) := by decide +kernel
theorem dX13_acrossIn_13 : decode cX13_acrossIn 13 = .ok (.invokevirtual 482, 3) := by decide +kernel
theorem dX13_acrossIn_16 : decode cX13_acrossIn 16 = .ok (.istore 4, 2) := by decide +kernel
theorem dX13_acrossIn_18 : decode cX13_acrossIn 18 = .ok (.iload 4, 2) := by decide +kernel
theorem dX13_acrossIn_20 : decode cX13_acrossIn 20 = .ok (.ifCond .le 10, 3) := by decide +kernel
theorem dX13_acrossIn_23 : decode cX13_acrossIn 23 = .ok (.aload_n 0, 1) := by decide +kernel
theorem dX13_acrossIn_24 : decode cX13_acrossIn 24 = .ok (.iload 4, 2) := by decide +kernel
theorem dX13_acrossIn_26 : decode cX13_acrossIn 26 = .ok (.invokevirtual 54, 3) := by decide +kernel
theorem dX13_acrossIn_29 : decode cX13_acrossIn 29 = .ok (.ireturn, 1) := by decide +kernel
theorem dX13_acrossIn_30 : decode cX13_acrossIn 30 = .ok (.aload_n 0, 1) := by decide +kernel
theorem dX13_acrossIn_31 : decode cX13_acrossIn 31 = .ok (.iload_n 2, 1) := by decide +kernel
theorem dX13_acrossIn_32 : decode cX13_acrossIn 32 = .ok (.iload_n 3, 1) := by decide +kernel
theorem dX13_acrossIn_33 : decode cX13_acrossIn 33 = .ok (.iload_n 1, 1) := by decide +kernel
theorem dX13_acrossIn_34 : decode cX13_acrossIn 34 = .ok (.invokevirtual 486, 3) := by decide +kernel
theorem dX13_acrossIn_37 : decode cX13_acrossIn 37 = .ok (.aload_n 0, 1) := by decide +kernel
theorem dX13_acrossIn_38 : decode cX13_acrossIn 38 = .ok (.aload_n 0, 1) := by decide +kernel
theorem dX13_acrossIn_39 : decode cX13_acrossIn 39 = .ok (.getfield 472, 3) := by decide +kernel
theorem dX13_acrossIn_42 : decode cX13_acrossIn 42 = .ok (.invokevirtual 60, 3) := by decide +kernel
theorem dX13_acrossIn_45 : decode cX13_acrossIn 45 = .ok (.ireturn, 1) := by decide +kernel
theorem dX13_remembers_0 : decode cX13_remembers 0 = .ok (.aload_n 0, 1) := by decide +kernel
theorem dX13_remembers_1 : decode cX13_remembers 1 = .ok (.getfield 304, 3) := by decide +kernel
theorem dX13_remembers_4 : decode cX13_remembers 4 = .ok (.bipush 16, 2) := by decide +kernel
theorem dX13_remembers_6 : decode cX13_remembers 6 = .ok (.if_icmp .ne 43, 3) := by decide +kernel
theorem dX13_remembers_9 : decode cX13_remembers 9 = .ok (.iconst 0, 1) := by decide +kernel
theorem dX13_remembers_10 : decode cX13_remembers 10 = .ok (.istore_n 1, 1) := by decide +kernel
theorem dX13_remembers_11 : decode cX13_remembers 11 = .ok (.iload_n 1, 1) := by decide +kernel
theorem dX13_remembers_12 : decode cX13_remembers 12 = .ok (.sipush 285, 3) := by decide +kernel
theorem dX13_remembers_15 : decode cX13_remembers 15 = .ok (.if_icmp .ge 24, 3) := by decide +kernel
theorem dX13_remembers_18 : decode cX13_remembers 18 = .ok (.aload_n 0, 1) := by decide +kernel
theorem dX13_remembers_19 : decode cX13_remembers 19 = .ok (.getfield 24, 3) := by decide +kernel
theorem dX13_remembers_22 : decode cX13_remembers 22 = .ok (.iload_n 1, 1) := by decide +kernel
theorem dX13_remembers_23 : decode cX13_remembers 23 = .ok (.aload_n 0, 1) := by decide +kernel
theorem dX13_remembers_24 : decode cX13_remembers 24 = .ok (.getfield 24, 3) := by decide +kernel
theorem dX13_remembers_27 : decode cX13_remembers 27 = .ok (.iload_n 1, 1) := by decide +kernel
theorem dX13_remembers_28 : decode cX13_remembers 28 = .ok (.bipush 19, 2) := by decide +kernel
theorem dX13_remembers_30 : decode cX13_remembers 30 = .ok (.iadd, 1) := by decide +kernel
theorem dX13_remembers_31 : decode cX13_remembers 31 = .ok (.iaload, 1) := by decide +kernel
theorem dX13_remembers_32 : decode cX13_remembers 32 = .ok (.iastore, 1) := by decide +kernel
theorem dX13_remembers_33 : decode cX13_remembers 33 = .ok (.iinc 1 1, 3) := by decide +kernel
theorem dX13_remembers_36 : decode cX13_remembers 36 = .ok (.goto (-25), 3) := by decide +kernel
theorem dX13_remembers_39 : decode cX13_remembers 39 = .ok (.aload_n 0, 1) := by decide +kernel
theorem dX13_remembers_40 : decode cX13_remembers 40 = .ok (.dup, 1) := by decide +kernel
theorem dX13_remembers_41 : decode cX13_remembers 41 = .ok (.getfield 304, 3) := by decide +kernel
theorem dX13_remembers_44 : decode cX13_remembers 44 = .ok (.iconst 1, 1) := by decide +kernel
theorem dX13_remembers_45 : decode cX13_remembers 45 = .ok (.isub, 1) := by decide +kernel
theorem dX13_remembers_46 : decode cX13_remembers 46 = .ok (.putfield 304, 3) := by decide +kernel
theorem dX13_remembers_49 : decode cX13_remembers 49 = .ok (.iconst 0, 1) := by decide +kernel
theorem dX13_remembers_50 : decode cX13_remembers 50 = .ok (.istore_n 1, 1) := by decide +kernel
theorem dX13_remembers_51 : decode cX13_remembers 51 = .ok (.iload_n 1, 1) := by decide +kernel
theorem dX13_remembers_52 : decode cX13_remembers 52 = .ok (.bipush 19, 2) := by decide +kernel
theorem dX13_remembers_54 : decode cX13_remembers 54 = .ok (.if_icmp .ge 29, 3) := by decide +kernel
theorem dX13_remembers_57 : decode cX13_remembers 57 = .ok (.aload_n 0, 1) := by decide +kernel
theorem dX13_remembers_58 : decode cX13_remembers 58 = .ok (.getfield 24, 3) := by decide +kernel
theorem dX13_remembers_61 : decode cX13_remembers 61 = .ok (.bipush 19, 2) := by decide +kernel
theorem dX13_remembers_63 : decode cX13_remembers 63 = .ok (.aload_n 0, 1) := by decide +kernel
theorem dX13_remembers_64 : decode cX13_remembers 64 = .ok (.getfield 304, 3) := by decide +kernel
theorem dX13_remembers_67 : decode cX13_remembers 67 = .ok (.imul, 1) := by decide +kernel
theorem dX13_remembers_68 : decode cX13_remembers 68 = .ok (.iload_n 1, 1) := by decide +kernel
theorem dX13_remembers_69 : decode cX13_remembers 69 = .ok (.iadd, 1) := by decide +kernel
theorem dX13_remembers_70 : decode cX13_remembers 70 = .ok (.aload_n 0, 1) := by decide +kernel
theorem dX13_remembers_71 : decode cX13_remembers 71 = .ok (.getfield 17, 3) := by decide +kernel
theorem dX13_remembers_74 : decode cX13_remembers 74 = .ok (.iload_n 1, 1) := by decide +kernel
theorem dX13_remembers_75 : decode cX13_remembers 75 = .ok (.iaload, 1) := by decide +kernel
theorem dX13_remembers_76 : decode cX13_remembers 76 = .ok (.iastore, 1) := by decide +kernel
theorem dX13_remembers_77 : decode cX13_remembers 77 = .ok (.iinc 1 1, 3) := by decide +kernel
theorem dX13_remembers_80 : decode cX13_remembers 80 = .ok (.goto (-29), 3) := by decide +kernel
theorem dX13_remembers_83 : decode cX13_remembers 83 = .ok (.aload_n 0, 1) := by decide +kernel
theorem dX13_remembers_84 : decode cX13_remembers 84 = .ok (.dup, 1) := by decide +kernel
theorem dX13_remembers_85 : decode cX13_remembers 85 = .ok (.getfield 304, 3) := by decide +kernel
theorem dX13_remembers_88 : decode cX13_remembers 88 = .ok (.iconst 1, 1) := by decide +kernel
theorem dX13_remembers_89 : decode cX13_remembers 89 = .ok (.iadd, 1) := by decide +kernel
theorem dX13_remembers_90 : decode cX13_remembers 90 = .ok (.putfield 304, 3) := by decide +kernel
theorem dX13_remembers_93 : decode cX13_remembers 93 = .ok (.return_, 1) := by decide +kernel
theorem dX13_move_0 : decode cX13_move 0 = .ok (.aload_n 0, 1) := by decide +kernel
theorem dX13_move_1 : decode cX13_move 1 = .ok (.iconst 0, 1) := by decide +kernel
theorem dX13_move_2 : decode cX13_move 2 = .ok (.putfield 48, 3) := by decide +kernel
theorem dX13_move_5 : decode cX13_move 5 = .ok (.aload_n 0, 1) := by decide +kernel
theorem dX13_move_6 : decode cX13_move 6 = .ok (.iload_n 1, 1) := by decide +kernel
theorem dX13_move_7 : decode cX13_move 7 = .ok (.invokevirtual 351, 3) := by decide +kernel
theorem dX13_move_10 : decode cX13_move 10 = .ok (.ifCond .eq 11, 3) := by decide +kernel
theorem dX13_move_13 : decode cX13_move 13 = .ok (.aload_n 0, 1) := by decide +kernel
theorem dX13_move_14 : decode cX13_move 14 = .ok (.iload_n 2, 1) := by decide +kernel
theorem dX13_move_15 : decode cX13_move 15 = .ok (.invokevirtual 348, 3) := by decide +kernel
theorem dX13_move_18 : decode cX13_move 18 = .ok (.ifCond .ne 9, 3) := by decide +kernel
theorem dX13_move_21 : decode cX13_move 21 = .ok (.aload_n 0, 1) := by decide +kernel
theorem dX13_move_22 : decode cX13_move 22 = .ok (.iconst 1, 1) := by decide +kernel
theorem dX13_move_23 : decode cX13_move 23 = .ok (.invokevirtual 489, 3) := by decide +kernel
theorem dX13_move_26 : decode cX13_move 26 = .ok (.ireturn, 1) := by decide +kernel
theorem dX13_move_27 : decode cX13_move 27 = .ok (.aload_n 0, 1) := by decide +kernel
theorem dX13_move_28 : decode cX13_move 28 = .ok (.getfield 17, 3) := by decide +kernel
theorem dX13_move_31 : decode cX13_move 31 = .ok (.iconst 0, 1) := by decide +kernel
theorem dX13_move_32 : decode cX13_move 32 = .ok (.iload_n 1, 1) := by decide +kernel
theorem dX13_move_33 : decode cX13_move 33 = .ok (.iadd, 1) := by decide +kernel
theorem dX13_move_34 : decode cX13_move 34 = .ok (.iaload, 1) := by decide +kernel
theorem dX13_move_35 : decode cX13_move 35 = .ok (.iload_n 2, 1) := by decide +kernel
theorem dX13_move_36 : decode cX13_move 36 = .ok (.if_icmp .eq 11, 3) := by decide +kernel
theorem dX13_move_39 : decode cX13_move 39 = .ok (.aload_n 0, 1) := by decide +kernel
theorem dX13_move_40 : decode cX13_move 40 = .ok (.iload_n 1, 1) := by decide +kernel
theorem dX13_move_41 : decode cX13_move 41 = .ok (.invokevirtual 310, 3) := by decide +kernel
theorem dX13_move_44 : decode cX13_move 44 = .ok (.ifCond .eq 9, 3) := by decide +kernel
theorem dX13_move_47 : decode cX13_move 47 = .ok (.aload_n 0, 1) := by decide +kernel
theorem dX13_move_48 : decode cX13_move 48 = .ok (.iconst 5, 1) := by decide +kernel
theorem dX13_move_49 : decode cX13_move 49 = .ok (.invokevirtual 489, 3) := by decide +kernel
theorem dX13_move_52 : decode cX13_move 52 = .ok (.ireturn, 1) := by decide +kernel
theorem dX13_move_53 : decode cX13_move 53 = .ok (.aload_n 0, 1) := by decide +kernel
theorem dX13_move_54 : decode cX13_move 54 = .ok (.invokevirtual 492, 3) := by decide +kernel
theorem dX13_move_57 : decode cX13_move 57 = .ok (.aload_n 0, 1) := by decide +kernel
theorem dX13_move_58 : decode cX13_move 58 = .ok (.getfield 17, 3) := by decide +kernel
theorem dX13_move_61 : decode cX13_move 61 = .ok (.iconst 0, 1) := by decide +kernel
theorem dX13_move_62 : decode cX13_move 62 = .ok (.iload_n 1, 1) := by decide +kernel
theorem dX13_move_63 : decode cX13_move 63 = .ok (.iadd, 1) := by decide +kernel
theorem dX13_move_64 : decode cX13_move 64 = .ok (.iload_n 2, 1) := by decide +kernel
theorem dX13_move_65 : decode cX13_move 65 = .ok (.iastore, 1) := by decide +kernel
theorem dX13_move_66 : decode cX13_move 66 = .ok (.aload_n 0, 1) := by decide +kernel
theorem dX13_move_67 : decode cX13_move 67 = .ok (.invokevirtual 495, 3) := by decide +kernel
theorem dX13_move_70 : decode cX13_move 70 = .ok (.ireturn, 1) := by decide +kernel
theorem dX13_wound_0 : decode cX13_wound 0 = .ok (.aload_n 0, 1) := by decide +kernel
theorem dX13_wound_1 : decode cX13_wound 1 = .ok (.iconst 0, 1) := by decide +kernel
theorem dX13_wound_2 : decode cX13_wound 2 = .ok (.putfield 48, 3) := by decide +kernel
theorem dX13_wound_5 : decode cX13_wound 5 = .ok (.aload_n 0, 1) := by decide +kernel
theorem dX13_wound_6 : decode cX13_wound 6 = .ok (.iload_n 1, 1) := by decide +kernel
theorem dX13_wound_7 : decode cX13_wound 7 = .ok (.invokevirtual 351, 3) := by decide +kernel
theorem dX13_wound_10 : decode cX13_wound 10 = .ok (.ifCond .ne 9, 3) := by decide +kernel
theorem dX13_wound_13 : decode cX13_wound 13 = .ok (.aload_n 0, 1) := by decide +kernel
theorem dX13_wound_14 : decode cX13_wound 14 = .ok (.iconst 1, 1) := by decide +kernel
theorem dX13_wound_15 : decode cX13_wound 15 = .ok (.invokevirtual 54, 3) := by decide +kernel
theorem dX13_wound_18 : decode cX13_wound 18 = .ok (.ireturn, 1) := by decide +kernel
theorem dX13_wound_19 : decode cX13_wound 19 = .ok (.iload_n 2, 1) := by decide +kernel
theorem dX13_wound_20 : decode cX13_wound 20 = .ok (.iconst 1, 1) := by decide +kernel
theorem dX13_wound_21 : decode cX13_wound 21 = .ok (.bipush 30, 2) := by decide +kernel
theorem dX13_wound_23 : decode cX13_wound 23 = .ok (.invokestatic 129, 3) := by decide +kernel
theorem dX13_wound_26 : decode cX13_wound 26 = .ok (.ifCond .ne 9, 3) := by decide +kernel
theorem dX13_wound_29 : decode cX13_wound 29 = .ok (.aload_n 0, 1) := by decide +kernel
theorem dX13_wound_30 : decode cX13_wound 30 = .ok (.iconst 2, 1) := by decide +kernel
theorem dX13_wound_31 : decode cX13_wound 31 = .ok (.invokevirtual 54, 3) := by decide +kernel
theorem dX13_wound_34 : decode cX13_wound 34 = .ok (.ireturn, 1) := by decide +kernel
theorem dX13_wound_35 : decode cX13_wound 35 = .ok (.aload_n 0, 1) := by decide +kernel
theorem dX13_wound_36 : decode cX13_wound 36 = .ok (.iload_n 1, 1) := by decide +kernel
theorem dX13_wound_37 : decode cX13_wound 37 = .ok (.invokevirtual 310, 3) := by decide +kernel
theorem dX13_wound_40 : decode cX13_wound 40 = .ok (.ifCond .eq 9, 3) := by decide +kernel
theorem dX13_wound_43 : decode cX13_wound 43 = .ok (.aload_n 0, 1) := by decide +kernel
theorem dX13_wound_44 : decode cX13_wound 44 = .ok (.iconst 5, 1) := by decide +kernel
theorem dX13_wound_45 : decode cX13_wound 45 = .ok (.invokevirtual 54, 3) := by decide +kernel
theorem dX13_wound_48 : decode cX13_wound 48 = .ok (.ireturn, 1) := by decide +kernel
theorem dX13_wound_49 : decode cX13_wound 49 = .ok (.aload_n 0, 1) := by decide +kernel
theorem dX13_wound_50 : decode cX13_wound 50 = .ok (.invokevirtual 492, 3) := by decide +kernel
theorem dX13_wound_53 : decode cX13_wound 53 = .ok (.aload_n 0, 1) := by decide +kernel
theorem dX13_wound_54 : decode cX13_wound 54 = .ok (.getfield 17, 3) := by decide +kernel
theorem dX13_wound_57 : decode cX13_wound 57 = .ok (.iconst 5, 1) := by decide +kernel
theorem dX13_wound_58 : decode cX13_wound 58 = .ok (.iload_n 1, 1) := by decide +kernel
theorem dX13_wound_59 : decode cX13_wound 59 = .ok (.iadd, 1) := by decide +kernel
theorem dX13_wound_60 : decode cX13_wound 60 = .ok (.dup2, 1) := by decide +kernel
theorem dX13_wound_61 : decode cX13_wound 61 = .ok (.iaload, 1) := by decide +kernel
theorem dX13_wound_62 : decode cX13_wound 62 = .ok (.iload_n 2, 1) := by decide +kernel
theorem dX13_wound_63 : decode cX13_wound 63 = .ok (.iadd, 1) := by decide +kernel
theorem dX13_wound_64 : decode cX13_wound 64 = .ok (.iastore, 1) := by decide +kernel
theorem dX13_wound_65 : decode cX13_wound 65 = .ok (.aload_n 0, 1) := by decide +kernel
theorem dX13_wound_66 : decode cX13_wound 66 = .ok (.aload_n 0, 1) := by decide +kernel
theorem dX13_wound_67 : decode cX13_wound 67 = .ok (.iload_n 1, 1) := by decide +kernel
theorem dX13_wound_68 : decode cX13_wound 68 = .ok (.invokevirtual 317, 3) := by decide +kernel
theorem dX13_wound_71 : decode cX13_wound 71 = .ok (.invokevirtual 60, 3) := by decide +kernel
theorem dX13_wound_74 : decode cX13_wound 74 = .ok (.ireturn, 1) := by decide +kernel
theorem dX13_hammer_0 : decode cX13_hammer 0 = .ok (.aload_n 0, 1) := by decide +kernel
theorem dX13_hammer_1 : decode cX13_hammer 1 = .ok (.iconst 0, 1) := by decide +kernel
theorem dX13_hammer_2 : decode cX13_hammer 2 = .ok (.putfield 48, 3) := by decide +kernel
theorem dX13_hammer_5 : decode cX13_hammer 5 = .ok (.aload_n 0, 1) := by decide +kernel
theorem dX13_hammer_6 : decode cX13_hammer 6 = .ok (.iload_n 1, 1) := by decide +kernel
theorem dX13_hammer_7 : decode cX13_hammer 7 = .ok (.invokevirtual 351, 3) := by decide +kernel
theorem dX13_hammer_10 : decode cX13_hammer 10 = .ok (.ifCond .ne 9, 3) := by decide +kernel
theorem dX13_hammer_13 : decode cX13_hammer 13 = .ok (.aload_n 0, 1) := by decide +kernel
theorem dX13_hammer_14 : decode cX13_hammer 14 = .ok (.iconst 1, 1) := by decide +kernel
theorem dX13_hammer_15 : decode cX13_hammer 15 = .ok (.invokevirtual 489, 3) := by decide +kernel
theorem dX13_hammer_18 : decode cX13_hammer 18 = .ok (.ireturn, 1) := by decide +kernel
theorem dX13_hammer_19 : decode cX13_hammer 19 = .ok (.aload_n 0, 1) := by decide +kernel
theorem dX13_hammer_20 : decode cX13_hammer 20 = .ok (.iload_n 1, 1) := by decide +kernel
theorem dX13_hammer_21 : decode cX13_hammer 21 = .ok (.invokevirtual 310, 3) := by decide +kernel
theorem dX13_hammer_24 : decode cX13_hammer 24 = .ok (.ifCond .eq 9, 3) := by decide +kernel
theorem dX13_hammer_27 : decode cX13_hammer 27 = .ok (.aload_n 0, 1) := by decide +kernel
theorem dX13_hammer_28 : decode cX13_hammer 28 = .ok (.iconst 5, 1) := by decide +kernel
theorem dX13_hammer_29 : decode cX13_hammer 29 = .ok (.invokevirtual 489, 3) := by decide +kernel
theorem dX13_hammer_32 : decode cX13_hammer 32 = .ok (.ireturn, 1) := by decide +kernel
theorem dX13_hammer_33 : decode cX13_hammer 33 = .ok (.aload_n 0, 1) := by decide +kernel
theorem dX13_hammer_34 : decode cX13_hammer 34 = .ok (.invokevirtual 492, 3) := by decide +kernel
theorem dX13_hammer_37 : decode cX13_hammer 37 = .ok (.aload_n 0, 1) := by decide +kernel
theorem dX13_hammer_38 : decode cX13_hammer 38 = .ok (.getfield 17, 3) := by decide +kernel
theorem dX13_hammer_41 : decode cX13_hammer 41 = .ok (.bipush 10, 2) := by decide +kernel
theorem dX13_hammer_43 : decode cX13_hammer 43 = .ok (.dup2, 1) := by decide +kernel
theorem dX13_hammer_44 : decode cX13_hammer 44 = .ok (.iaload, 1) := by decide +kernel
theorem dX13_hammer_45 : decode cX13_hammer 45 = .ok (.iconst 1, 1) := by decide +kernel
theorem dX13_hammer_46 : decode cX13_hammer 46 = .ok (.iload_n 1, 1) := by decide +kernel
theorem dX13_hammer_47 : decode cX13_hammer 47 = .ok (.ishl, 1) := by decide +kernel
theorem dX13_hammer_48 : decode cX13_hammer 48 = .ok (.ior, 1) := by decide +kernel
theorem dX13_hammer_49 : decode cX13_hammer 49 = .ok (.iastore, 1) := by decide +kernel
theorem dX13_hammer_50 : decode cX13_hammer 50 = .ok (.aload_n 0, 1) := by decide +kernel
theorem dX13_hammer_51 : decode cX13_hammer 51 = .ok (.invokevirtual 495, 3) := by decide +kernel
theorem dX13_hammer_54 : decode cX13_hammer 54 = .ok (.ireturn, 1) := by decide +kernel
theorem dX13_teach_0 : decode cX13_teach 0 = .ok (.aload_n 0, 1) := by decide +kernel
theorem dX13_teach_1 : decode cX13_teach 1 = .ok (.iconst 0, 1) := by decide +kernel
theorem dX13_teach_2 : decode cX13_teach 2 = .ok (.putfield 48, 3) := by decide +kernel
theorem dX13_teach_5 : decode cX13_teach 5 = .ok (.aload_n 0, 1) := by decide +kernel
theorem dX13_teach_6 : decode cX13_teach 6 = .ok (.iload_n 1, 1) := by decide +kernel
theorem dX13_teach_7 : decode cX13_teach 7 = .ok (.invokevirtual 348, 3) := by decide +kernel
theorem dX13_teach_10 : decode cX13_teach 10 = .ok (.ifCond .ne 9, 3) := by decide +kernel
theorem dX13_teach_13 : decode cX13_teach 13 = .ok (.aload_n 0, 1) := by decide +kernel
theorem dX13_teach_14 : decode cX13_teach 14 = .ok (.iconst 1, 1) := by decide +kernel
theorem dX13_teach_15 : decode cX13_teach 15 = .ok (.invokevirtual 54, 3) := by decide +kernel
theorem dX13_teach_18 : decode cX13_teach 18 = .ok (.ireturn, 1) := by decide +kernel
theorem dX13_teach_19 : decode cX13_teach 19 = .ok (.iload_n 2, 1) := by decide +kernel
theorem dX13_teach_20 : decode cX13_teach 20 = .ok (.iconst 1, 1) := by decide +kernel
theorem dX13_teach_21 : decode cX13_teach 21 = .ok (.bipush 30, 2) := by decide +kernel
theorem dX13_teach_23 : decode cX13_teach 23 = .ok (.invokestatic 129, 3) := by decide +kernel
theorem dX13_teach_26 : decode cX13_teach 26 = .ok (.ifCond .ne 9, 3) := by decide +kernel
theorem dX13_teach_29 : decode cX13_teach 29 = .ok (.aload_n 0, 1) := by decide +kernel
theorem dX13_teach_30 : decode cX13_teach 30 = .ok (.iconst 2, 1) := by decide +kernel
theorem dX13_teach_31 : decode cX13_teach 31 = .ok (.invokevirtual 54, 3) := by decide +kernel
theorem dX13_teach_34 : decode cX13_teach 34 = .ok (.ireturn, 1) := by decide +kernel
theorem dX13_teach_35 : decode cX13_teach 35 = .ok (.aload_n 0, 1) := by decide +kernel
theorem dX13_teach_36 : decode cX13_teach 36 = .ok (.getfield 301, 3) := by decide +kernel
theorem dX13_teach_39 : decode cX13_teach 39 = .ok (.getfield 241, 3) := by decide +kernel
theorem dX13_teach_42 : decode cX13_teach 42 = .ok (.iload_n 1, 1) := by decide +kernel
theorem dX13_teach_43 : decode cX13_teach 43 = .ok (.iaload, 1) := by decide +kernel
theorem dX13_teach_44 : decode cX13_teach 44 = .ok (.iconst 3, 1) := by decide +kernel
theorem dX13_teach_45 : decode cX13_teach 45 = .ok (.if_icmp .eq 9, 3) := by decide +kernel
theorem dX13_teach_48 : decode cX13_teach 48 = .ok (.aload_n 0, 1) := by decide +kernel
theorem dX13_teach_49 : decode cX13_teach 49 = .ok (.iconst 5, 1) := by decide +kernel
theorem dX13_teach_50 : decode cX13_teach 50 = .ok (.invokevirtual 54, 3) := by decide +kernel
theorem dX13_teach_53 : decode cX13_teach 53 = .ok (.ireturn, 1) := by decide +kernel
theorem dX13_teach_54 : decode cX13_teach 54 = .ok (.aload_n 0, 1) := by decide +kernel
theorem dX13_teach_55 : decode cX13_teach 55 = .ok (.invokevirtual 492, 3) := by decide +kernel
theorem dX13_teach_58 : decode cX13_teach 58 = .ok (.aload_n 0, 1) := by decide +kernel
theorem dX13_teach_59 : decode cX13_teach 59 = .ok (.getfield 17, 3) := by decide +kernel
theorem dX13_teach_62 : decode cX13_teach 62 = .ok (.bipush 11, 2) := by decide +kernel
theorem dX13_teach_64 : decode cX13_teach 64 = .ok (.iload_n 1, 1) := by decide +kernel
theorem dX13_teach_65 : decode cX13_teach 65 = .ok (.iadd, 1) := by decide +kernel
theorem dX13_teach_66 : decode cX13_teach 66 = .ok (.aload_n 0, 1) := by decide +kernel
theorem dX13_teach_67 : decode cX13_teach 67 = .ok (.getfield 17, 3) := by decide +kernel
theorem dX13_teach_70 : decode cX13_teach 70 = .ok (.bipush 11, 2) := by decide +kernel
theorem dX13_teach_72 : decode cX13_teach 72 = .ok (.iload_n 1, 1) := by decide +kernel
theorem dX13_teach_73 : decode cX13_teach 73 = .ok (.iadd, 1) := by decide +kernel
theorem dX13_teach_74 : decode cX13_teach 74 = .ok (.iaload, 1) := by decide +kernel
theorem dX13_teach_75 : decode cX13_teach 75 = .ok (.iload_n 2, 1) := by decide +kernel
theorem dX13_teach_76 : decode cX13_teach 76 = .ok (.iadd, 1) := by decide +kernel
theorem dX13_teach_77 : decode cX13_teach 77 = .ok (.bipush 30, 2) := by decide +kernel
theorem dX13_teach_79 : decode cX13_teach 79 = .ok (.if_icmp .ge 17, 3) := by decide +kernel
theorem dX13_teach_82 : decode cX13_teach 82 = .ok (.aload_n 0, 1) := by decide +kernel
theorem dX13_teach_83 : decode cX13_teach 83 = .ok (.getfield 17, 3) := by decide +kernel
theorem dX13_teach_86 : decode cX13_teach 86 = .ok (.bipush 11, 2) := by decide +kernel
theorem dX13_teach_88 : decode cX13_teach 88 = .ok (.iload_n 1, 1) := by decide +kernel
theorem dX13_teach_89 : decode cX13_teach 89 = .ok (.iadd, 1) := by decide +kernel
theorem dX13_teach_90 : decode cX13_teach 90 = .ok (.iaload, 1) := by decide +kernel
theorem dX13_teach_91 : decode cX13_teach 91 = .ok (.iload_n 2, 1) := by decide +kernel
theorem dX13_teach_92 : decode cX13_teach 92 = .ok (.iadd, 1) := by decide +kernel
theorem dX13_teach_93 : decode cX13_teach 93 = .ok (.goto 5, 3) := by decide +kernel
theorem dX13_teach_96 : decode cX13_teach 96 = .ok (.bipush 30, 2) := by decide +kernel
theorem dX13_teach_98 : decode cX13_teach 98 = .ok (.iastore, 1) := by decide +kernel
theorem dX13_teach_99 : decode cX13_teach 99 = .ok (.aload_n 0, 1) := by decide +kernel
theorem dX13_teach_100 : decode cX13_teach 100 = .ok (.aload_n 0, 1) := by decide +kernel
theorem dX13_teach_101 : decode cX13_teach 101 = .ok (.getfield 17, 3) := by decide +kernel
theorem dX13_teach_104 : decode cX13_teach 104 = .ok (.bipush 11, 2) := by decide +kernel
theorem dX13_teach_106 : decode cX13_teach 106 = .ok (.iload_n 1, 1) := by decide +kernel
theorem dX13_teach_107 : decode cX13_teach 107 = .ok (.iadd, 1) := by decide +kernel
theorem dX13_teach_108 : decode cX13_teach 108 = .ok (.iaload, 1) := by decide +kernel
theorem dX13_teach_109 : decode cX13_teach 109 = .ok (.invokevirtual 60, 3) := by decide +kernel
theorem dX13_teach_112 : decode cX13_teach 112 = .ok (.ireturn, 1) := by decide +kernel
theorem dX13_rain_0 : decode cX13_rain 0 = .ok (.aload_n 0, 1) := by decide +kernel
theorem dX13_rain_1 : decode cX13_rain 1 = .ok (.iconst 0, 1) := by decide +kernel
theorem dX13_rain_2 : decode cX13_rain 2 = .ok (.putfield 48, 3) := by decide +kernel
theorem dX13_rain_5 : decode cX13_rain 5 = .ok (.aload_n 0, 1) := by decide +kernel
theorem dX13_rain_6 : decode cX13_rain 6 = .ok (.getfield 301, 3) := by decide +kernel
theorem dX13_rain_9 : decode cX13_rain 9 = .ok (.ifnonnull 9, 3) := by decide +kernel
theorem dX13_rain_12 : decode cX13_rain 12 = .ok (.aload_n 0, 1) := by decide +kernel
theorem dX13_rain_13 : decode cX13_rain 13 = .ok (.iconst 1, 1) := by decide +kernel
theorem dX13_rain_14 : decode cX13_rain 14 = .ok (.invokevirtual 489, 3) := by decide +kernel
theorem dX13_rain_17 : decode cX13_rain 17 = .ok (.ireturn, 1) := by decide +kernel
theorem dX13_rain_18 : decode cX13_rain 18 = .ok (.aload_n 0, 1) := by decide +kernel
theorem dX13_rain_19 : decode cX13_rain 19 = .ok (.getfield 17, 3) := by decide +kernel
theorem dX13_rain_22 : decode cX13_rain 22 = .ok (.bipush 17, 2) := by decide +kernel
theorem dX13_rain_24 : decode cX13_rain 24 = .ok (.iaload, 1) := by decide +kernel
theorem dX13_rain_25 : decode cX13_rain 25 = .ok (.iconst 1, 1) := by decide +kernel
theorem dX13_rain_26 : decode cX13_rain 26 = .ok (.if_icmp .ne 7, 3) := by decide +kernel
theorem dX13_rain_29 : decode cX13_rain 29 = .ok (.iconst 1, 1) := by decide +kernel
theorem dX13_rain_30 : decode cX13_rain 30 = .ok (.goto 4, 3) := by decide +kernel
theorem dX13_rain_33 : decode cX13_rain 33 = .ok (.iconst 0, 1) := by decide +kernel
theorem dX13_rain_34 : decode cX13_rain 34 = .ok (.iload_n 1, 1) := by decide +kernel
theorem dX13_rain_35 : decode cX13_rain 35 = .ok (.if_icmp .ne 9, 3) := by decide +kernel
theorem dX13_rain_38 : decode cX13_rain 38 = .ok (.aload_n 0, 1) := by decide +kernel
theorem dX13_rain_39 : decode cX13_rain 39 = .ok (.iconst 5, 1) := by decide +kernel
theorem dX13_rain_40 : decode cX13_rain 40 = .ok (.invokevirtual 489, 3) := by decide +kernel
theorem dX13_rain_43 : decode cX13_rain 43 = .ok (.ireturn, 1) := by decide +kernel
theorem dX13_rain_44 : decode cX13_rain 44 = .ok (.aload_n 0, 1) := by decide +kernel
theorem dX13_rain_45 : decode cX13_rain 45 = .ok (.invokevirtual 492, 3) := by decide +kernel
theorem dX13_rain_48 : decode cX13_rain 48 = .ok (.aload_n 0, 1) := by decide +kernel
theorem dX13_rain_49 : decode cX13_rain 49 = .ok (.getfield 17, 3) := by decide +kernel
theorem dX13_rain_52 : decode cX13_rain 52 = .ok (.bipush 17, 2) := by decide +kernel
theorem dX13_rain_54 : decode cX13_rain 54 = .ok (.iload_n 1, 1) := by decide +kernel
theorem dX13_rain_55 : decode cX13_rain 55 = .ok (.ifCond .eq 7, 3) := by decide +kernel
theorem dX13_rain_58 : decode cX13_rain 58 = .ok (.iconst 1, 1) := by decide +kernel
theorem dX13_rain_59 : decode cX13_rain 59 = .ok (.goto 4, 3) := by decide +kernel
theorem dX13_rain_62 : decode cX13_rain 62 = .ok (.iconst 0, 1) := by decide +kernel
theorem dX13_rain_63 : decode cX13_rain 63 = .ok (.iastore, 1) := by decide +kernel
theorem dX13_rain_64 : decode cX13_rain 64 = .ok (.aload_n 0, 1) := by decide +kernel
theorem dX13_rain_65 : decode cX13_rain 65 = .ok (.invokevirtual 495, 3) := by decide +kernel
theorem dX13_rain_68 : decode cX13_rain 68 = .ok (.ireturn, 1) := by decide +kernel
theorem dX13_battle_0 : decode cX13_battle 0 = .ok (.aload_n 0, 1) := by decide +kernel
theorem dX13_battle_1 : decode cX13_battle 1 = .ok (.iconst 0, 1) := by decide +kernel
theorem dX13_battle_2 : decode cX13_battle 2 = .ok (.putfield 48, 3) := by decide +kernel
theorem dX13_battle_5 : decode cX13_battle 5 = .ok (.aload_n 0, 1) := by decide +kernel
theorem dX13_battle_6 : decode cX13_battle 6 = .ok (.getfield 301, 3) := by decide +kernel
theorem dX13_battle_9 : decode cX13_battle 9 = .ok (.ifnonnull 9, 3) := by decide +kernel
theorem dX13_battle_12 : decode cX13_battle 12 = .ok (.aload_n 0, 1) := by decide +kernel
theorem dX13_battle_13 : decode cX13_battle 13 = .ok (.iconst 1, 1) := by decide +kernel
theorem dX13_battle_14 : decode cX13_battle 14 = .ok (.invokevirtual 54, 3) := by decide +kernel
theorem dX13_battle_17 : decode cX13_battle 17 = .ok (.ireturn, 1) := by decide +kernel
theorem dX13_battle_18 : decode cX13_battle 18 = .ok (.aload_n 0, 1) := by decide +kernel
theorem dX13_battle_19 : decode cX13_battle 19 = .ok (.invokevirtual 492, 3) := by decide +kernel
theorem dX13_battle_22 : decode cX13_battle 22 = .ok (.aload_n 0, 1) := by decide +kernel
theorem dX13_battle_23 : decode cX13_battle 23 = .ok (.aload_n 0, 1) := by decide +kernel
theorem dX13_battle_24 : decode cX13_battle 24 = .ok (.getfield 17, 3) := by decide +kernel
theorem dX13_battle_27 : decode cX13_battle 27 = .ok (.invokevirtual 478, 3) := by decide +kernel
theorem dX13_battle_30 : decode cX13_battle 30 = .ok (.aload_n 0, 1) := by decide +kernel
theorem dX13_battle_31 : decode cX13_battle 31 = .ok (.aload_n 0, 1) := by decide +kernel
theorem dX13_battle_32 : decode cX13_battle 32 = .ok (.getfield 449, 3) := by decide +kernel
theorem dX13_battle_35 : decode cX13_battle 35 = .ok (.invokevirtual 60, 3) := by decide +kernel
theorem dX13_battle_38 : decode cX13_battle 38 = .ok (.ireturn, 1) := by decide +kernel
theorem dX13_seed_0 : decode cX13_seed 0 = .ok (.aload_n 0, 1) := by decide +kernel
theorem dX13_seed_1 : decode cX13_seed 1 = .ok (.iconst 0, 1) := by decide +kernel
theorem dX13_seed_2 : decode cX13_seed 2 = .ok (.putfield 48, 3) := by decide +kernel
theorem dX13_seed_5 : decode cX13_seed 5 = .ok (.aload_n 0, 1) := by decide +kernel
theorem dX13_seed_6 : decode cX13_seed 6 = .ok (.getfield 301, 3) := by decide +kernel
theorem dX13_seed_9 : decode cX13_seed 9 = .ok (.ifnonnull 9, 3) := by decide +kernel
theorem dX13_seed_12 : decode cX13_seed 12 = .ok (.aload_n 0, 1) := by decide +kernel
theorem dX13_seed_13 : decode cX13_seed 13 = .ok (.iconst 1, 1) := by decide +kernel
theorem dX13_seed_14 : decode cX13_seed 14 = .ok (.invokevirtual 489, 3) := by decide +kernel
theorem dX13_seed_17 : decode cX13_seed 17 = .ok (.ireturn, 1) := by decide +kernel
theorem dX13_seed_18 : decode cX13_seed 18 = .ok (.iload_n 1, 1) := by decide +kernel
theorem dX13_seed_19 : decode cX13_seed 19 = .ok (.iconst 0, 1) := by decide +kernel
theorem dX13_seed_20 : decode cX13_seed 20 = .ok (.ldc_w 462, 3) := by decide +kernel
theorem dX13_seed_23 : decode cX13_seed 23 = .ok (.invokestatic 129, 3) := by decide +kernel
theorem dX13_seed_26 : decode cX13_seed 26 = .ok (.ifCond .ne 9, 3) := by decide +kernel
theorem dX13_seed_29 : decode cX13_seed 29 = .ok (.aload_n 0, 1) := by decide +kernel
theorem dX13_seed_30 : decode cX13_seed 30 = .ok (.iconst 2, 1) := by decide +kernel
theorem dX13_seed_31 : decode cX13_seed 31 = .ok (.invokevirtual 489, 3) := by decide +kernel
theorem dX13_seed_34 : decode cX13_seed 34 = .ok (.ireturn, 1) := by decide +kernel
theorem dX13_seed_35 : decode cX13_seed 35 = .ok (.aload_n 0, 1) := by decide +kernel
theorem dX13_seed_36 : decode cX13_seed 36 = .ok (.getfield 17, 3) := by decide +kernel
theorem dX13_seed_39 : decode cX13_seed 39 = .ok (.bipush 18, 2) := by decide +kernel
theorem dX13_seed_41 : decode cX13_seed 41 = .ok (.iload_n 1, 1) := by decide +kernel
theorem dX13_seed_42 : decode cX13_seed 42 = .ok (.iastore, 1) := by decide +kernel
theorem dX13_seed_43 : decode cX13_seed 43 = .ok (.aload_n 0, 1) := by decide +kernel
theorem dX13_seed_44 : decode cX13_seed 44 = .ok (.invokevirtual 495, 3) := by decide +kernel
theorem dX13_seed_47 : decode cX13_seed 47 = .ok (.ireturn, 1) := by decide +kernel
theorem dX13_undo_0 : decode cX13_undo 0 = .ok (.aload_n 0, 1) := by decide +kernel
theorem dX13_undo_1 : decode cX13_undo 1 = .ok (.iconst 0, 1) := by decide +kernel
theorem dX13_undo_2 : decode cX13_undo 2 = .ok (.putfield 48, 3) := by decide +kernel
theorem dX13_undo_5 : decode cX13_undo 5 = .ok (.aload_n 0, 1) := by decide +kernel
theorem dX13_undo_6 : decode cX13_undo 6 = .ok (.getfield 301, 3) := by decide +kernel
theorem dX13_undo_9 : decode cX13_undo 9 = .ok (.ifnull 10, 3) := by decide +kernel
theorem dX13_undo_12 : decode cX13_undo 12 = .ok (.aload_n 0, 1) := by decide +kernel
theorem dX13_undo_13 : decode cX13_undo 13 = .ok (.getfield 304, 3) := by decide +kernel
theorem dX13_undo_16 : decode cX13_undo 16 = .ok (.ifCond .ne 10, 3) := by decide +kernel
theorem dX13_undo_19 : decode cX13_undo 19 = .ok (.aload_n 0, 1) := by decide +kernel
theorem dX13_undo_20 : decode cX13_undo 20 = .ok (.bipush 6, 2) := by decide +kernel
theorem dX13_undo_22 : decode cX13_undo 22 = .ok (.invokevirtual 489, 3) := by decide +kernel
theorem dX13_undo_25 : decode cX13_undo 25 = .ok (.ireturn, 1) := by decide +kernel
theorem dX13_undo_26 : decode cX13_undo 26 = .ok (.aload_n 0, 1) := by decide +kernel
theorem dX13_undo_27 : decode cX13_undo 27 = .ok (.dup, 1) := by decide +kernel
theorem dX13_undo_28 : decode cX13_undo 28 = .ok (.getfield 304, 3) := by decide +kernel
theorem dX13_undo_31 : decode cX13_undo 31 = .ok (.iconst 1, 1) := by decide +kernel
theorem dX13_undo_32 : decode cX13_undo 32 = .ok (.isub, 1) := by decide +kernel
theorem dX13_undo_33 : decode cX13_undo 33 = .ok (.putfield 304, 3) := by decide +kernel
theorem dX13_undo_36 : decode cX13_undo 36 = .ok (.iconst 0, 1) := by decide +kernel
theorem dX13_undo_37 : decode cX13_undo 37 = .ok (.istore_n 1, 1) := by decide +kernel
theorem dX13_undo_38 : decode cX13_undo 38 = .ok (.iload_n 1, 1) := by decide +kernel
theorem dX13_undo_39 : decode cX13_undo 39 = .ok (.bipush 19, 2) := by decide +kernel
theorem dX13_undo_41 : decode cX13_undo 41 = .ok (.if_icmp .ge 29, 3) := by decide +kernel
theorem dX13_undo_44 : decode cX13_undo 44 = .ok (.aload_n 0, 1) := by decide +kernel
theorem dX13_undo_45 : decode cX13_undo 45 = .ok (.getfield 17, 3) := by decide +kernel
theorem dX13_undo_48 : decode cX13_undo 48 = .ok (.iload_n 1, 1) := by decide +kernel
theorem dX13_undo_49 : decode cX13_undo 49 = .ok (.aload_n 0, 1) := by decide +kernel
theorem dX13_undo_50 : decode cX13_undo 50 = .ok (.getfield 24, 3) := by decide +kernel
theorem dX13_undo_53 : decode cX13_undo 53 = .ok (.bipush 19, 2) := by decide +kernel
theorem dX13_undo_55 : decode cX13_undo 55 = .ok (.aload_n 0, 1) := by decide +kernel
theorem dX13_undo_56 : decode cX13_undo 56 = .ok (.getfield 304, 3) := by decide +kernel
theorem dX13_undo_59 : decode cX13_undo 59 = .ok (.imul, 1) := by decide +kernel
theorem dX13_undo_60 : decode cX13_undo 60 = .ok (.iload_n 1, 1) := by decide +kernel
theorem dX13_undo_61 : decode cX13_undo 61 = .ok (.iadd, 1) := by decide +kernel
theorem dX13_undo_62 : decode cX13_undo 62 = .ok (.iaload, 1) := by decide +kernel
theorem dX13_undo_63 : decode cX13_undo 63 = .ok (.iastore, 1) := by decide +kernel
theorem dX13_undo_64 : decode cX13_undo 64 = .ok (.iinc 1 1, 3) := by decide +kernel
theorem dX13_undo_67 : decode cX13_undo 67 = .ok (.goto (-29), 3) := by decide +kernel
theorem dX13_undo_70 : decode cX13_undo 70 = .ok (.aload_n 0, 1) := by decide +kernel
theorem dX13_undo_71 : decode cX13_undo 71 = .ok (.invokevirtual 495, 3) := by decide +kernel
theorem dX13_undo_74 : decode cX13_undo 74 = .ok (.ireturn, 1) := by decide +kernel
theorem dX13_mark_0 : decode cX13_mark 0 = .ok (.aload_n 0, 1) := by decide +kernel
theorem dX13_mark_1 : decode cX13_mark 1 = .ok (.iconst 0, 1) := by decide +kernel
theorem dX13_mark_2 : decode cX13_mark 2 = .ok (.putfield 48, 3) := by decide +kernel
theorem dX13_mark_5 : decode cX13_mark 5 = .ok (.aload_n 0, 1) := by decide +kernel
theorem dX13_mark_6 : decode cX13_mark 6 = .ok (.getfield 301, 3) := by decide +kernel
theorem dX13_mark_9 : decode cX13_mark 9 = .ok (.ifnonnull 9, 3) := by decide +kernel
theorem dX13_mark_12 : decode cX13_mark 12 = .ok (.aload_n 0, 1) := by decide +kernel
theorem dX13_mark_13 : decode cX13_mark 13 = .ok (.iconst 1, 1) := by decide +kernel
theorem dX13_mark_14 : decode cX13_mark 14 = .ok (.invokevirtual 54, 3) := by decide +kernel
theorem dX13_mark_17 : decode cX13_mark 17 = .ok (.ireturn, 1) := by decide +kernel
theorem dX13_mark_18 : decode cX13_mark 18 = .ok (.aload_n 0, 1) := by decide +kernel
theorem dX13_mark_19 : decode cX13_mark 19 = .ok (.getfield 307, 3) := by decide +kernel
theorem dX13_mark_22 : decode cX13_mark 22 = .ok (.iconst 3, 1) := by decide +kernel
theorem dX13_mark_23 : decode cX13_mark 23 = .ok (.if_icmp .ne 9, 3) := by decide +kernel
theorem dX13_mark_26 : decode cX13_mark 26 = .ok (.aload_n 0, 1) := by decide +kernel
theorem dX13_mark_27 : decode cX13_mark 27 = .ok (.iconst 3, 1) := by decide +kernel
theorem dX13_mark_28 : decode cX13_mark 28 = .ok (.invokevirtual 54, 3) := by decide +kernel
theorem dX13_mark_31 : decode cX13_mark 31 = .ok (.ireturn, 1) := by decide +kernel
theorem dX13_mark_32 : decode cX13_mark 32 = .ok (.iconst 0, 1) := by decide +kernel
theorem dX13_mark_33 : decode cX13_mark 33 = .ok (.istore_n 1, 1) := by decide +kernel
theorem dX13_mark_34 : decode cX13_mark 34 = .ok (.iload_n 1, 1) := by decide +kernel
theorem dX13_mark_35 : decode cX13_mark 35 = .ok (.bipush 19, 2) := by decide +kernel
theorem dX13_mark_37 : decode cX13_mark 37 = .ok (.if_icmp .ge 29, 3) := by decide +kernel
theorem dX13_mark_40 : decode cX13_mark 40 = .ok (.aload_n 0, 1) := by decide +kernel
theorem dX13_mark_41 : decode cX13_mark 41 = .ok (.getfield 27, 3) := by decide +kernel
theorem dX13_mark_44 : decode cX13_mark 44 = .ok (.bipush 19, 2) := by decide +kernel
theorem dX13_mark_46 : decode cX13_mark 46 = .ok (.aload_n 0, 1) := by decide +kernel
theorem dX13_mark_47 : decode cX13_mark 47 = .ok (.getfield 307, 3) := by decide +kernel
theorem dX13_mark_50 : decode cX13_mark 50 = .ok (.imul, 1) := by decide +kernel
theorem dX13_mark_51 : decode cX13_mark 51 = .ok (.iload_n 1, 1) := by decide +kernel
theorem dX13_mark_52 : decode cX13_mark 52 = .ok (.iadd, 1) := by decide +kernel
theorem dX13_mark_53 : decode cX13_mark 53 = .ok (.aload_n 0, 1) := by decide +kernel
theorem dX13_mark_54 : decode cX13_mark 54 = .ok (.getfield 17, 3) := by decide +kernel
theorem dX13_mark_57 : decode cX13_mark 57 = .ok (.iload_n 1, 1) := by decide +kernel
theorem dX13_mark_58 : decode cX13_mark 58 = .ok (.iaload, 1) := by decide +kernel
theorem dX13_mark_59 : decode cX13_mark 59 = .ok (.iastore, 1) := by decide +kernel
theorem dX13_mark_60 : decode cX13_mark 60 = .ok (.iinc 1 1, 3) := by decide +kernel
theorem dX13_mark_63 : decode cX13_mark 63 = .ok (.goto (-29), 3) := by decide +kernel
theorem dX13_mark_66 : decode cX13_mark 66 = .ok (.aload_n 0, 1) := by decide +kernel
theorem dX13_mark_67 : decode cX13_mark 67 = .ok (.dup, 1) := by decide +kernel
theorem dX13_mark_68 : decode cX13_mark 68 = .ok (.getfield 307, 3) := by decide +kernel
theorem dX13_mark_71 : decode cX13_mark 71 = .ok (.iconst 1, 1) := by decide +kernel
theorem dX13_mark_72 : decode cX13_mark 72 = .ok (.iadd, 1) := by decide +kernel
theorem dX13_mark_73 : decode cX13_mark 73 = .ok (.putfield 307, 3) := by decide +kernel
theorem dX13_mark_76 : decode cX13_mark 76 = .ok (.aload_n 0, 1) := by decide +kernel
theorem dX13_mark_77 : decode cX13_mark 77 = .ok (.aload_n 0, 1) := by decide +kernel
theorem dX13_mark_78 : decode cX13_mark 78 = .ok (.getfield 307, 3) := by decide +kernel
theorem dX13_mark_81 : decode cX13_mark 81 = .ok (.iconst 1, 1) := by decide +kernel
theorem dX13_mark_82 : decode cX13_mark 82 = .ok (.isub, 1) := by decide +kernel
theorem dX13_mark_83 : decode cX13_mark 83 = .ok (.invokevirtual 60, 3) := by decide +kernel
theorem dX13_mark_86 : decode cX13_mark 86 = .ok (.ireturn, 1) := by decide +kernel
theorem dX13_back_0 : decode cX13_back 0 = .ok (.aload_n 0, 1) := by decide +kernel
theorem dX13_back_1 : decode cX13_back 1 = .ok (.iconst 0, 1) := by decide +kernel
theorem dX13_back_2 : decode cX13_back 2 = .ok (.putfield 48, 3) := by decide +kernel
theorem dX13_back_5 : decode cX13_back 5 = .ok (.aload_n 0, 1) := by decide +kernel
theorem dX13_back_6 : decode cX13_back 6 = .ok (.getfield 301, 3) := by decide +kernel
theorem dX13_back_9 : decode cX13_back 9 = .ok (.ifnull 15, 3) := by decide +kernel
theorem dX13_back_12 : decode cX13_back 12 = .ok (.iload_n 1, 1) := by decide +kernel
theorem dX13_back_13 : decode cX13_back 13 = .ok (.ifCond .lt 11, 3) := by decide +kernel
theorem dX13_back_16 : decode cX13_back 16 = .ok (.iload_n 1, 1) := by decide +kernel
theorem dX13_back_17 : decode cX13_back 17 = .ok (.aload_n 0, 1) := by decide +kernel
theorem dX13_back_18 : decode cX13_back 18 = .ok (.getfield 307, 3) := by decide +kernel
theorem dX13_back_21 : decode cX13_back 21 = .ok (.if_icmp .lt 9, 3) := by decide +kernel
theorem dX13_back_24 : decode cX13_back 24 = .ok (.aload_n 0, 1) := by decide +kernel
theorem dX13_back_25 : decode cX13_back 25 = .ok (.iconst 1, 1) := by decide +kernel
theorem dX13_back_26 : decode cX13_back 26 = .ok (.invokevirtual 489, 3) := by decide +kernel
theorem dX13_back_29 : decode cX13_back 29 = .ok (.ireturn, 1) := by decide +kernel
theorem dX13_back_30 : decode cX13_back 30 = .ok (.iconst 0, 1) := by decide +kernel
theorem dX13_back_31 : decode cX13_back 31 = .ok (.istore_n 2, 1) := by decide +kernel
theorem dX13_back_32 : decode cX13_back 32 = .ok (.iload_n 2, 1) := by decide +kernel
theorem dX13_back_33 : decode cX13_back 33 = .ok (.bipush 19, 2) := by decide +kernel
theorem dX13_back_35 : decode cX13_back 35 = .ok (.if_icmp .ge 26, 3) := by decide +kernel
theorem dX13_back_38 : decode cX13_back 38 = .ok (.aload_n 0, 1) := by decide +kernel
theorem dX13_back_39 : decode cX13_back 39 = .ok (.getfield 17, 3) := by decide +kernel
theorem dX13_back_42 : decode cX13_back 42 = .ok (.iload_n 2, 1) := by decide +kernel
theorem dX13_back_43 : decode cX13_back 43 = .ok (.aload_n 0, 1) := by decide +kernel
theorem dX13_back_44 : decode cX13_back 44 = .ok (.getfield 27, 3) := by decide +kernel
theorem dX13_back_47 : decode cX13_back 47 = .ok (.bipush 19, 2) := by decide +kernel
theorem dX13_back_49 : decode cX13_back 49 = .ok (.iload_n 1, 1) := by decide +kernel
theorem dX13_back_50 : decode cX13_back 50 = .ok (.imul, 1) := by decide +kernel
theorem dX13_back_51 : decode cX13_back 51 = .ok (.iload_n 2, 1) := by decide +kernel
theorem dX13_back_52 : decode cX13_back 52 = .ok (.iadd, 1) := by decide +kernel
theorem dX13_back_53 : decode cX13_back 53 = .ok (.iaload, 1) := by decide +kernel
theorem dX13_back_54 : decode cX13_back 54 = .ok (.iastore, 1) := by decide +kernel
theorem dX13_back_55 : decode cX13_back 55 = .ok (.iinc 2 1, 3) := by decide +kernel
theorem dX13_back_58 : decode cX13_back 58 = .ok (.goto (-26), 3) := by decide +kernel
theorem dX13_back_61 : decode cX13_back 61 = .ok (.aload_n 0, 1) := by decide +kernel
theorem dX13_back_62 : decode cX13_back 62 = .ok (.iconst 0, 1) := by decide +kernel
theorem dX13_back_63 : decode cX13_back 63 = .ok (.putfield 304, 3) := by decide +kernel
theorem dX13_back_66 : decode cX13_back 66 = .ok (.aload_n 0, 1) := by decide +kernel
theorem dX13_back_67 : decode cX13_back 67 = .ok (.invokevirtual 495, 3) := by decide +kernel
theorem dX13_back_70 : decode cX13_back 70 = .ok (.ireturn, 1) := by decide +kernel
theorem dX13_led_0 : decode cX13_led 0 = .ok (.aload_n 0, 1) := by decide +kernel
theorem dX13_led_1 : decode cX13_led 1 = .ok (.iconst 0, 1) := by decide +kernel
theorem dX13_led_2 : decode cX13_led 2 = .ok (.putfield 48, 3) := by decide +kernel
theorem dX13_led_5 : decode cX13_led 5 = .ok (.iconst 0, 1) := by decide +kernel
theorem dX13_led_6 : decode cX13_led 6 = .ok (.istore_n 2, 1) := by decide +kernel
theorem dX13_led_7 : decode cX13_led 7 = .ok (.iconst 0, 1) := by decide +kernel
theorem dX13_led_8 : decode cX13_led 8 = .ok (.istore_n 3, 1) := by decide +kernel
theorem dX13_led_9 : decode cX13_led 9 = .ok (.aload_n 0, 1) := by decide +kernel
theorem dX13_led_10 : decode cX13_led 10 = .ok (.getfield 301, 3) := by decide +kernel
theorem dX13_led_13 : decode cX13_led 13 = .ok (.ifnull 41, 3) := by decide +kernel
theorem dX13_led_16 : decode cX13_led 16 = .ok (.iload_n 3, 1) := by decide +kernel
theorem dX13_led_17 : decode cX13_led 17 = .ok (.aload_n 0, 1) := by decide +kernel
theorem dX13_led_18 : decode cX13_led 18 = .ok (.getfield 301, 3) := by decide +kernel
theorem dX13_led_21 : decode cX13_led 21 = .ok (.getfield 195, 3) := by decide +kernel
theorem dX13_led_24 : decode cX13_led 24 = .ok (.if_icmp .ge 30, 3) := by decide +kernel
theorem dX13_led_27 : decode cX13_led 27 = .ok (.aload_n 0, 1) := by decide +kernel
theorem dX13_led_28 : decode cX13_led 28 = .ok (.iload_n 3, 1) := by decide +kernel
theorem dX13_led_29 : decode cX13_led 29 = .ok (.invokevirtual 310, 3) := by decide +kernel
theorem dX13_led_32 : decode cX13_led 32 = .ok (.ifCond .ne 6, 3) := by decide +kernel
theorem dX13_led_35 : decode cX13_led 35 = .ok (.goto 13, 3) := by decide +kernel
theorem dX13_led_38 : decode cX13_led 38 = .ok (.iload_n 2, 1) := by decide +kernel
theorem dX13_led_39 : decode cX13_led 39 = .ok (.iload_n 1, 1) := by decide +kernel
theorem dX13_led_40 : decode cX13_led 40 = .ok (.if_icmp .ne 5, 3) := by decide +kernel
theorem dX13_led_43 : decode cX13_led 43 = .ok (.iload_n 3, 1) := by decide +kernel
theorem dX13_led_44 : decode cX13_led 44 = .ok (.ireturn, 1) := by decide +kernel
theorem dX13_led_45 : decode cX13_led 45 = .ok (.iinc 2 1, 3) := by decide +kernel
theorem dX13_led_48 : decode cX13_led 48 = .ok (.iinc 3 1, 3) := by decide +kernel
theorem dX13_led_51 : decode cX13_led 51 = .ok (.goto (-42), 3) := by decide +kernel
theorem dX13_led_54 : decode cX13_led 54 = .ok (.aload_n 0, 1) := by decide +kernel
theorem dX13_led_55 : decode cX13_led 55 = .ok (.iconst 1, 1) := by decide +kernel
theorem dX13_led_56 : decode cX13_led 56 = .ok (.putfield 48, 3) := by decide +kernel
theorem dX13_led_59 : decode cX13_led 59 = .ok (.iconst 0, 1) := by decide +kernel
theorem dX13_led_60 : decode cX13_led 60 = .ok (.ireturn, 1) := by decide +kernel
theorem dX13_size_0 : decode cX13_size 0 = .ok (.aload_n 0, 1) := by decide +kernel
theorem dX13_size_1 : decode cX13_size 1 = .ok (.iconst 0, 1) := by decide +kernel
theorem dX13_size_2 : decode cX13_size 2 = .ok (.putfield 48, 3) := by decide +kernel
theorem dX13_size_5 : decode cX13_size 5 = .ok (.iload_n 1, 1) := by decide +kernel
theorem dX13_size_6 : decode cX13_size 6 = .ok (.bipush 11, 2) := by decide +kernel
theorem dX13_size_8 : decode cX13_size 8 = .ok (.if_icmp .ne 8, 3) := by decide +kernel
theorem dX13_size_11 : decode cX13_size 11 = .ok (.aload_n 0, 1) := by decide +kernel
theorem dX13_size_12 : decode cX13_size 12 = .ok (.getfield 294, 3) := by decide +kernel
theorem dX13_size_15 : decode cX13_size 15 = .ok (.ireturn, 1) := by decide +kernel
theorem dX13_size_16 : decode cX13_size 16 = .ok (.iload_n 1, 1) := by decide +kernel
theorem dX13_size_17 : decode cX13_size 17 = .ok (.iconst 0, 1) := by decide +kernel
theorem dX13_size_18 : decode cX13_size 18 = .ok (.bipush 10, 2) := by decide +kernel
theorem dX13_size_20 : decode cX13_size 20 = .ok (.invokestatic 129, 3) := by decide +kernel
theorem dX13_size_23 : decode cX13_size 23 = .ok (.ifCond .ne 5, 3) := by decide +kernel
theorem dX13_size_26 : decode cX13_size 26 = .ok (.iconst (-1), 1) := by decide +kernel
theorem dX13_size_27 : decode cX13_size 27 = .ok (.ireturn, 1) := by decide +kernel
theorem dX13_size_28 : decode cX13_size 28 = .ok (.aload_n 0, 1) := by decide +kernel
theorem dX13_size_29 : decode cX13_size 29 = .ok (.getfield 301, 3) := by decide +kernel
theorem dX13_size_32 : decode cX13_size 32 = .ok (.ifnonnull 5, 3) := by decide +kernel
theorem dX13_size_35 : decode cX13_size 35 = .ok (.iconst 0, 1) := by decide +kernel
theorem dX13_size_36 : decode cX13_size 36 = .ok (.ireturn, 1) := by decide +kernel
theorem dX13_size_37 : decode cX13_size 37 = .ok (.iload_n 1, 1) := by decide +kernel
theorem dX13_size_38 : decode cX13_size 38 = .ok (.tableswitch 134 0 9 #[54, 62, 70, 78, 86, 94, 102, 113, 121, 129], 54) := by decide +kernel
theorem dX13_size_92 : decode cX13_size 92 = .ok (.aload_n 0, 1) := by decide +kernel
theorem dX13_size_93 : decode cX13_size 93 = .ok (.getfield 301, 3) := by decide +kernel
theorem dX13_size_96 : decode cX13_size 96 = .ok (.getfield 160, 3) := by decide +kernel
theorem dX13_size_99 : decode cX13_size 99 = .ok (.ireturn, 1) := by decide +kernel
theorem dX13_size_100 : decode cX13_size 100 = .ok (.aload_n 0, 1) := by decide +kernel
theorem dX13_size_101 : decode cX13_size 101 = .ok (.getfield 301, 3) := by decide +kernel
theorem dX13_size_104 : decode cX13_size 104 = .ok (.getfield 223, 3) := by decide +kernel
theorem dX13_size_107 : decode cX13_size 107 = .ok (.ireturn, 1) := by decide +kernel
theorem dX13_size_108 : decode cX13_size 108 = .ok (.aload_n 0, 1) := by decide +kernel
theorem dX13_size_109 : decode cX13_size 109 = .ok (.getfield 301, 3) := by decide +kernel
theorem dX13_size_112 : decode cX13_size 112 = .ok (.getfield 247, 3) := by decide +kernel
theorem dX13_size_115 : decode cX13_size 115 = .ok (.ireturn, 1) := by decide +kernel
theorem dX13_size_116 : decode cX13_size 116 = .ok (.aload_n 0, 1) := by decide +kernel
theorem dX13_size_117 : decode cX13_size 117 = .ok (.getfield 301, 3) := by decide +kernel
theorem dX13_size_120 : decode cX13_size 120 = .ok (.getfield 195, 3) := by decide +kernel
theorem dX13_size_123 : decode cX13_size 123 = .ok (.ireturn, 1) := by decide +kernel
theorem dX13_size_124 : decode cX13_size 124 = .ok (.aload_n 0, 1) := by decide +kernel
theorem dX13_size_125 : decode cX13_size 125 = .ok (.getfield 301, 3) := by decide +kernel
theorem dX13_size_128 : decode cX13_size 128 = .ok (.getfield 279, 3) := by decide +kernel
theorem dX13_size_131 : decode cX13_size 131 = .ok (.ireturn, 1) := by decide +kernel
theorem dX13_size_132 : decode cX13_size 132 = .ok (.aload_n 0, 1) := by decide +kernel
theorem dX13_size_133 : decode cX13_size 133 = .ok (.getfield 301, 3) := by decide +kernel
theorem dX13_size_136 : decode cX13_size 136 = .ok (.getfield 285, 3) := by decide +kernel
theorem dX13_size_139 : decode cX13_size 139 = .ok (.ireturn, 1) := by decide +kernel
theorem dX13_size_140 : decode cX13_size 140 = .ok (.aload_n 0, 1) := by decide +kernel
theorem dX13_size_141 : decode cX13_size 141 = .ok (.getfield 301, 3) := by decide +kernel
theorem dX13_size_144 : decode cX13_size 144 = .ok (.getfield 292, 3) := by decide +kernel
theorem dX13_size_147 : decode cX13_size 147 = .ok (.invokestatic 402, 3) := by decide +kernel
theorem dX13_size_150 : decode cX13_size 150 = .ok (.ireturn, 1) := by decide +kernel
theorem dX13_size_151 : decode cX13_size 151 = .ok (.aload_n 0, 1) := by decide +kernel
theorem dX13_size_152 : decode cX13_size 152 = .ok (.getfield 17, 3) := by decide +kernel
theorem dX13_size_155 : decode cX13_size 155 = .ok (.bipush 17, 2) := by decide +kernel
theorem dX13_size_157 : decode cX13_size 157 = .ok (.iaload, 1) := by decide +kernel
theorem dX13_size_158 : decode cX13_size 158 = .ok (.ireturn, 1) := by decide +kernel
theorem dX13_size_159 : decode cX13_size 159 = .ok (.aload_n 0, 1) := by decide +kernel
theorem dX13_size_160 : decode cX13_size 160 = .ok (.getfield 17, 3) := by decide +kernel
theorem dX13_size_163 : decode cX13_size 163 = .ok (.bipush 18, 2) := by decide +kernel
theorem dX13_size_165 : decode cX13_size 165 = .ok (.iaload, 1) := by decide +kernel
theorem dX13_size_166 : decode cX13_size 166 = .ok (.ireturn, 1) := by decide +kernel
theorem dX13_size_167 : decode cX13_size 167 = .ok (.aload_n 0, 1) := by decide +kernel
theorem dX13_size_168 : decode cX13_size 168 = .ok (.getfield 304, 3) := by decide +kernel
theorem dX13_size_171 : decode cX13_size 171 = .ok (.ireturn, 1) := by decide +kernel
theorem dX13_size_172 : decode cX13_size 172 = .ok (.aload_n 0, 1) := by decide +kernel
theorem dX13_size_173 : decode cX13_size 173 = .ok (.getfield 307, 3) := by decide +kernel
theorem dX13_size_176 : decode cX13_size 176 = .ok (.ireturn, 1) := by decide +kernel
theorem dX13_trouble_0 : decode cX13_trouble 0 = .ok (.aload_n 0, 1) := by decide +kernel
theorem dX13_trouble_1 : decode cX13_trouble 1 = .ok (.iconst 0, 1) := by decide +kernel
theorem dX13_trouble_2 : decode cX13_trouble 2 = .ok (.putfield 48, 3) := by decide +kernel
theorem dX13_trouble_5 : decode cX13_trouble 5 = .ok (.aload_n 0, 1) := by decide +kernel
theorem dX13_trouble_6 : decode cX13_trouble 6 = .ok (.getfield 51, 3) := by decide +kernel
theorem dX13_trouble_9 : decode cX13_trouble 9 = .ok (.ireturn, 1) := by decide +kernel
