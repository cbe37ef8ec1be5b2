theorem dX10_init_0 : decode cX10_init 0 = .ok (.aload_n 0, 1) := by decide +kernel
theorem dX10_init_1 : decode cX10_init 1 = .ok (.invokespecial 5, 3) := by decide +kernel
theorem dX10_init_4 : decode cX10_init 4 = .ok (.aload_n 0, 1) := by decide +kernel
theorem dX10_init_5 : decode cX10_init 5 = .ok (.new 11, 3) := by decide +kernel
theorem dX10_init_8 : decode cX10_init 8 = .ok (.dup, 1) := by decide +kernel
theorem dX10_init_9 : decode cX10_init 9 = .ok (.invokespecial 13, 3) := by decide +kernel
theorem dX10_init_12 : decode cX10_init 12 = .ok (.putfield 14, 3) := by decide +kernel
theorem dX10_init_15 : decode cX10_init 15 = .ok (.aload_n 0, 1) := by decide +kernel
theorem dX10_init_16 : decode cX10_init 16 = .ok (.new 18, 3) := by decide +kernel
theorem dX10_init_19 : decode cX10_init 19 = .ok (.dup, 1) := by decide +kernel
theorem dX10_init_20 : decode cX10_init 20 = .ok (.aload_n 0, 1) := by decide +kernel
theorem dX10_init_21 : decode cX10_init 21 = .ok (.getfield 14, 3) := by decide +kernel
theorem dX10_init_24 : decode cX10_init 24 = .ok (.invokespecial 20, 3) := by decide +kernel
theorem dX10_init_27 : decode cX10_init 27 = .ok (.putfield 23, 3) := by decide +kernel
theorem dX10_init_30 : decode cX10_init 30 = .ok (.aload_n 0, 1) := by decide +kernel
theorem dX10_init_31 : decode cX10_init 31 = .ok (.new 27, 3) := by decide +kernel
theorem dX10_init_34 : decode cX10_init 34 = .ok (.dup, 1) := by decide +kernel
theorem dX10_init_35 : decode cX10_init 35 = .ok (.aload_n 0, 1) := by decide +kernel
theorem dX10_init_36 : decode cX10_init 36 = .ok (.getfield 14, 3) := by decide +kernel
theorem dX10_init_39 : decode cX10_init 39 = .ok (.invokespecial 29, 3) := by decide +kernel
theorem dX10_init_42 : decode cX10_init 42 = .ok (.putfield 30, 3) := by decide +kernel
theorem dX10_init_45 : decode cX10_init 45 = .ok (.aload_n 0, 1) := by decide +kernel
theorem dX10_init_46 : decode cX10_init 46 = .ok (.new 34, 3) := by decide +kernel
theorem dX10_init_49 : decode cX10_init 49 = .ok (.dup, 1) := by decide +kernel
theorem dX10_init_50 : decode cX10_init 50 = .ok (.aload_n 0, 1) := by decide +kernel
theorem dX10_init_51 : decode cX10_init 51 = .ok (.getfield 14, 3) := by decide +kernel
theorem dX10_init_54 : decode cX10_init 54 = .ok (.aload_n 0, 1) := by decide +kernel
theorem dX10_init_55 : decode cX10_init 55 = .ok (.getfield 23, 3) := by decide +kernel
theorem dX10_init_58 : decode cX10_init 58 = .ok (.aload_n 0, 1) := by decide +kernel
theorem dX10_init_59 : decode cX10_init 59 = .ok (.getfield 30, 3) := by decide +kernel
theorem dX10_init_62 : decode cX10_init 62 = .ok (.invokespecial 36, 3) := by decide +kernel
theorem dX10_init_65 : decode cX10_init 65 = .ok (.putfield 39, 3) := by decide +kernel
theorem dX10_init_68 : decode cX10_init 68 = .ok (.aload_n 0, 1) := by decide +kernel
theorem dX10_init_69 : decode cX10_init 69 = .ok (.new 43, 3) := by decide +kernel
theorem dX10_init_72 : decode cX10_init 72 = .ok (.dup, 1) := by decide +kernel
theorem dX10_init_73 : decode cX10_init 73 = .ok (.aload_n 0, 1) := by decide +kernel
theorem dX10_init_74 : decode cX10_init 74 = .ok (.getfield 14, 3) := by decide +kernel
theorem dX10_init_77 : decode cX10_init 77 = .ok (.invokespecial 45, 3) := by decide +kernel
theorem dX10_init_80 : decode cX10_init 80 = .ok (.putfield 46, 3) := by decide +kernel
theorem dX10_init_83 : decode cX10_init 83 = .ok (.aload_n 0, 1) := by decide +kernel
theorem dX10_init_84 : decode cX10_init 84 = .ok (.new 50, 3) := by decide +kernel
theorem dX10_init_87 : decode cX10_init 87 = .ok (.dup, 1) := by decide +kernel
theorem dX10_init_88 : decode cX10_init 88 = .ok (.invokespecial 52, 3) := by decide +kernel
theorem dX10_init_91 : decode cX10_init 91 = .ok (.putfield 53, 3) := by decide +kernel
theorem dX10_init_94 : decode cX10_init 94 = .ok (.aload_n 0, 1) := by decide +kernel
theorem dX10_init_95 : decode cX10_init 95 = .ok (.new 57, 3) := by decide +kernel
theorem dX10_init_98 : decode cX10_init 98 = .ok (.dup, 1) := by decide +kernel
theorem dX10_init_99 : decode cX10_init 99 = .ok (.invokespecial 59, 3) := by decide +kernel
theorem dX10_init_102 : decode cX10_init 102 = .ok (.putfield 60, 3) := by decide +kernel
theorem dX10_init_105 : decode cX10_init 105 = .ok (.aload_n 0, 1) := by decide +kernel
theorem dX10_init_106 : decode cX10_init 106 = .ok (.new 64, 3) := by decide +kernel
theorem dX10_init_109 : decode cX10_init 109 = .ok (.dup, 1) := by decide +kernel
theorem dX10_init_110 : decode cX10_init 110 = .ok (.invokespecial 66, 3) := by decide +kernel
theorem dX10_init_113 : decode cX10_init 113 = .ok (.putfield 67, 3) := by decide +kernel
theorem dX10_init_116 : decode cX10_init 116 = .ok (.return_, 1) := by decide +kernel
theorem dX10_dot_0 : decode cX10_dot 0 = .ok (.iload_n 1, 1) := by decide +kernel
theorem dX10_dot_1 : decode cX10_dot 1 = .ok (.iconst 0, 1) := by decide +kernel
theorem dX10_dot_2 : decode cX10_dot 2 = .ok (.sipush 400, 3) := by decide +kernel
theorem dX10_dot_5 : decode cX10_dot 5 = .ok (.invokestatic 71, 3) := by decide +kernel
theorem dX10_dot_8 : decode cX10_dot 8 = .ok (.ifCond .eq 40, 3) := by decide +kernel
theorem dX10_dot_11 : decode cX10_dot 11 = .ok (.iload_n 2, 1) := by decide +kernel
theorem dX10_dot_12 : decode cX10_dot 12 = .ok (.sipush (-9000), 3) := by decide +kernel
theorem dX10_dot_15 : decode cX10_dot 15 = .ok (.sipush 9000, 3) := by decide +kernel
theorem dX10_dot_18 : decode cX10_dot 18 = .ok (.invokestatic 71, 3) := by decide +kernel
theorem dX10_dot_21 : decode cX10_dot 21 = .ok (.ifCond .eq 27, 3) := by decide +kernel
theorem dX10_dot_24 : decode cX10_dot 24 = .ok (.iload_n 3, 1) := by decide +kernel
theorem dX10_dot_25 : decode cX10_dot 25 = .ok (.sipush (-9000), 3) := by decide +kernel
theorem dX10_dot_28 : decode cX10_dot 28 = .ok (.sipush 9000, 3) := by decide +kernel
theorem dX10_dot_31 : decode cX10_dot 31 = .ok (.invokestatic 71, 3) := by decide +kernel
theorem dX10_dot_34 : decode cX10_dot 34 = .ok (.ifCond .eq 14, 3) := by decide +kernel
theorem dX10_dot_37 : decode cX10_dot 37 = .ok (.iload 4, 2) := by decide +kernel
theorem dX10_dot_39 : decode cX10_dot 39 = .ok (.iconst 0, 1) := by decide +kernel
theorem dX10_dot_40 : decode cX10_dot 40 = .ok (.bipush 9, 2) := by decide +kernel
theorem dX10_dot_42 : decode cX10_dot 42 = .ok (.invokestatic 71, 3) := by decide +kernel
theorem dX10_dot_45 : decode cX10_dot 45 = .ok (.ifCond .ne 6, 3) := by decide +kernel
theorem dX10_dot_48 : decode cX10_dot 48 = .ok (.bipush (-2), 2) := by decide +kernel
theorem dX10_dot_50 : decode cX10_dot 50 = .ok (.ireturn, 1) := by decide +kernel
theorem dX10_dot_51 : decode cX10_dot 51 = .ok (.aload_n 0, 1) := by decide +kernel
theorem dX10_dot_52 : decode cX10_dot 52 = .ok (.getfield 14, 3) := by decide +kernel
theorem dX10_dot_55 : decode cX10_dot 55 = .ok (.iload_n 1, 1) := by decide +kernel
theorem dX10_dot_56 : decode cX10_dot 56 = .ok (.iload_n 2, 1) := by decide +kernel
theorem dX10_dot_57 : decode cX10_dot 57 = .ok (.iload_n 3, 1) := by decide +kernel
theorem dX10_dot_58 : decode cX10_dot 58 = .ok (.invokevirtual 75, 3) := by decide +kernel
theorem dX10_dot_61 : decode cX10_dot 61 = .ok (.istore 5, 2) := by decide +kernel
theorem dX10_dot_63 : decode cX10_dot 63 = .ok (.iload 5, 2) := by decide +kernel
theorem dX10_dot_65 : decode cX10_dot 65 = .ok (.iconst (-1), 1) := by decide +kernel
theorem dX10_dot_66 : decode cX10_dot 66 = .ok (.if_icmp .eq 6, 3) := by decide +kernel
theorem dX10_dot_69 : decode cX10_dot 69 = .ok (.iload 5, 2) := by decide +kernel
theorem dX10_dot_71 : decode cX10_dot 71 = .ok (.ireturn, 1) := by decide +kernel
theorem dX10_dot_72 : decode cX10_dot 72 = .ok (.aload_n 0, 1) := by decide +kernel
theorem dX10_dot_73 : decode cX10_dot 73 = .ok (.getfield 14, 3) := by decide +kernel
theorem dX10_dot_76 : decode cX10_dot 76 = .ok (.iload_n 1, 1) := by decide +kernel
theorem dX10_dot_77 : decode cX10_dot 77 = .ok (.iload_n 2, 1) := by decide +kernel
theorem dX10_dot_78 : decode cX10_dot 78 = .ok (.iload_n 3, 1) := by decide +kernel
theorem dX10_dot_79 : decode cX10_dot 79 = .ok (.iload 4, 2) := by decide +kernel
theorem dX10_dot_81 : decode cX10_dot 81 = .ok (.invokevirtual 79, 3) := by decide +kernel
theorem dX10_dot_84 : decode cX10_dot 84 = .ok (.istore 6, 2) := by decide +kernel
theorem dX10_dot_86 : decode cX10_dot 86 = .ok (.iload 6, 2) := by decide +kernel
theorem dX10_dot_88 : decode cX10_dot 88 = .ok (.bipush (-4), 2) := by decide +kernel
theorem dX10_dot_90 : decode cX10_dot 90 = .ok (.if_icmp .eq 17, 3) := by decide +kernel
theorem dX10_dot_93 : decode cX10_dot 93 = .ok (.aload_n 0, 1) := by decide +kernel
theorem dX10_dot_94 : decode cX10_dot 94 = .ok (.getfield 53, 3) := by decide +kernel
theorem dX10_dot_97 : decode cX10_dot 97 = .ok (.invokevirtual 83, 3) := by decide +kernel
theorem dX10_dot_100 : decode cX10_dot 100 = .ok (.aload_n 0, 1) := by decide +kernel
theorem dX10_dot_101 : decode cX10_dot 101 = .ok (.getfield 39, 3) := by decide +kernel
theorem dX10_dot_104 : decode cX10_dot 104 = .ok (.invokevirtual 86, 3) := by decide +kernel
theorem dX10_dot_107 : decode cX10_dot 107 = .ok (.iload 6, 2) := by decide +kernel
theorem dX10_dot_109 : decode cX10_dot 109 = .ok (.ireturn, 1) := by decide +kernel
theorem dX10_pace_0 : decode cX10_pace 0 = .ok (.iload_n 1, 1) := by decide +kernel
theorem dX10_pace_1 : decode cX10_pace 1 = .ok (.iconst 1, 1) := by decide +kernel
theorem dX10_pace_2 : decode cX10_pace 2 = .ok (.bipush 20, 2) := by decide +kernel
theorem dX10_pace_4 : decode cX10_pace 4 = .ok (.invokestatic 71, 3) := by decide +kernel
theorem dX10_pace_7 : decode cX10_pace 7 = .ok (.ifCond .ne 6, 3) := by decide +kernel
theorem dX10_pace_10 : decode cX10_pace 10 = .ok (.bipush (-2), 2) := by decide +kernel
theorem dX10_pace_12 : decode cX10_pace 12 = .ok (.ireturn, 1) := by decide +kernel
theorem dX10_pace_13 : decode cX10_pace 13 = .ok (.aload_n 0, 1) := by decide +kernel
theorem dX10_pace_14 : decode cX10_pace 14 = .ok (.getfield 30, 3) := by decide +kernel
theorem dX10_pace_17 : decode cX10_pace 17 = .ok (.getfield 89, 3) := by decide +kernel
theorem dX10_pace_20 : decode cX10_pace 20 = .ok (.istore_n 2, 1) := by decide +kernel
theorem dX10_pace_21 : decode cX10_pace 21 = .ok (.aload_n 0, 1) := by decide +kernel
theorem dX10_pace_22 : decode cX10_pace 22 = .ok (.getfield 30, 3) := by decide +kernel
theorem dX10_pace_25 : decode cX10_pace 25 = .ok (.iload_n 1, 1) := by decide +kernel
theorem dX10_pace_26 : decode cX10_pace 26 = .ok (.putfield 89, 3) := by decide +kernel
theorem dX10_pace_29 : decode cX10_pace 29 = .ok (.aload_n 0, 1) := by decide +kernel
theorem dX10_pace_30 : decode cX10_pace 30 = .ok (.getfield 39, 3) := by decide +kernel
theorem dX10_pace_33 : decode cX10_pace 33 = .ok (.invokevirtual 86, 3) := by decide +kernel
theorem dX10_pace_36 : decode cX10_pace 36 = .ok (.iload_n 2, 1) := by decide +kernel
theorem dX10_pace_37 : decode cX10_pace 37 = .ok (.ireturn, 1) := by decide +kernel
theorem dX10_net_0 : decode cX10_net 0 = .ok (.iload_n 1, 1) := by decide +kernel
theorem dX10_net_1 : decode cX10_net 1 = .ok (.iconst 1, 1) := by decide +kernel
theorem dX10_net_2 : decode cX10_net 2 = .ok (.bipush 50, 2) := by decide +kernel
theorem dX10_net_4 : decode cX10_net 4 = .ok (.invokestatic 71, 3) := by decide +kernel
theorem dX10_net_7 : decode cX10_net 7 = .ok (.ifCond .eq 14, 3) := by decide +kernel
theorem dX10_net_10 : decode cX10_net 10 = .ok (.iload_n 2, 1) := by decide +kernel
theorem dX10_net_11 : decode cX10_net 11 = .ok (.iconst 0, 1) := by decide +kernel
theorem dX10_net_12 : decode cX10_net 12 = .ok (.sipush 200, 3) := by decide +kernel
theorem dX10_net_15 : decode cX10_net 15 = .ok (.invokestatic 71, 3) := by decide +kernel
theorem dX10_net_18 : decode cX10_net 18 = .ok (.ifCond .ne 6, 3) := by decide +kernel
theorem dX10_net_21 : decode cX10_net 21 = .ok (.bipush (-2), 2) := by decide +kernel
theorem dX10_net_23 : decode cX10_net 23 = .ok (.ireturn, 1) := by decide +kernel
theorem dX10_net_24 : decode cX10_net 24 = .ok (.aload_n 0, 1) := by decide +kernel
theorem dX10_net_25 : decode cX10_net 25 = .ok (.getfield 23, 3) := by decide +kernel
theorem dX10_net_28 : decode cX10_net 28 = .ok (.iload_n 1, 1) := by decide +kernel
theorem dX10_net_29 : decode cX10_net 29 = .ok (.putfield 93, 3) := by decide +kernel
theorem dX10_net_32 : decode cX10_net 32 = .ok (.aload_n 0, 1) := by decide +kernel
theorem dX10_net_33 : decode cX10_net 33 = .ok (.getfield 23, 3) := by decide +kernel
theorem dX10_net_36 : decode cX10_net 36 = .ok (.iload_n 2, 1) := by decide +kernel
theorem dX10_net_37 : decode cX10_net 37 = .ok (.putfield 96, 3) := by decide +kernel
theorem dX10_net_40 : decode cX10_net 40 = .ok (.aload_n 0, 1) := by decide +kernel
theorem dX10_net_41 : decode cX10_net 41 = .ok (.getfield 39, 3) := by decide +kernel
theorem dX10_net_44 : decode cX10_net 44 = .ok (.invokevirtual 86, 3) := by decide +kernel
theorem dX10_net_47 : decode cX10_net 47 = .ok (.iconst 0, 1) := by decide +kernel
theorem dX10_net_48 : decode cX10_net 48 = .ok (.ireturn, 1) := by decide +kernel
theorem dX10_about_0 : decode cX10_about 0 = .ok (.aload_n 0, 1) := by decide +kernel
theorem dX10_about_1 : decode cX10_about 1 = .ok (.getfield 14, 3) := by decide +kernel
theorem dX10_about_4 : decode cX10_about 4 = .ok (.iload_n 1, 1) := by decide +kernel
theorem dX10_about_5 : decode cX10_about 5 = .ok (.invokevirtual 99, 3) := by decide +kernel
theorem dX10_about_8 : decode cX10_about 8 = .ok (.ifCond .ne 5, 3) := by decide +kernel
theorem dX10_about_11 : decode cX10_about 11 = .ok (.iconst (-1), 1) := by decide +kernel
theorem dX10_about_12 : decode cX10_about 12 = .ok (.ireturn, 1) := by decide +kernel
theorem dX10_about_13 : decode cX10_about 13 = .ok (.iload_n 2, 1) := by decide +kernel
theorem dX10_about_14 : decode cX10_about 14 = .ok (.tableswitch 97 0 5 #[38, 48, 58, 68, 78, 87], 38) := by decide +kernel
theorem dX10_about_52 : decode cX10_about 52 = .ok (.aload_n 0, 1) := by decide +kernel
theorem dX10_about_53 : decode cX10_about 53 = .ok (.getfield 14, 3) := by decide +kernel
theorem dX10_about_56 : decode cX10_about 56 = .ok (.getfield 103, 3) := by decide +kernel
theorem dX10_about_59 : decode cX10_about 59 = .ok (.iload_n 1, 1) := by decide +kernel
theorem dX10_about_60 : decode cX10_about 60 = .ok (.iaload, 1) := by decide +kernel
theorem dX10_about_61 : decode cX10_about 61 = .ok (.ireturn, 1) := by decide +kernel
theorem dX10_about_62 : decode cX10_about 62 = .ok (.aload_n 0, 1) := by decide +kernel
theorem dX10_about_63 : decode cX10_about 63 = .ok (.getfield 14, 3) := by decide +kernel
theorem dX10_about_66 : decode cX10_about 66 = .ok (.getfield 107, 3) := by decide +kernel
theorem dX10_about_69 : decode cX10_about 69 = .ok (.iload_n 1, 1) := by decide +kernel
theorem dX10_about_70 : decode cX10_about 70 = .ok (.iaload, 1) := by decide +kernel
theorem dX10_about_71 : decode cX10_about 71 = .ok (.ireturn, 1) := by decide +kernel
theorem dX10_about_72 : decode cX10_about 72 = .ok (.aload_n 0, 1) := by decide +kernel
theorem dX10_about_73 : decode cX10_about 73 = .ok (.getfield 14, 3) := by decide +kernel
theorem dX10_about_76 : decode cX10_about 76 = .ok (.getfield 110, 3) := by decide +kernel
theorem dX10_about_79 : decode cX10_about 79 = .ok (.iload_n 1, 1) := by decide +kernel
theorem dX10_about_80 : decode cX10_about 80 = .ok (.iaload, 1) := by decide +kernel
theorem dX10_about_81 : decode cX10_about 81 = .ok (.ireturn, 1) := by decide +kernel
theorem dX10_about_82 : decode cX10_about 82 = .ok (.aload_n 0, 1) := by decide +kernel
theorem dX10_about_83 : decode cX10_about 83 = .ok (.getfield 14, 3) := by decide +kernel
theorem dX10_about_86 : decode cX10_about 86 = .ok (.getfield 113, 3) := by decide +kernel
theorem dX10_about_89 : decode cX10_about 89 = .ok (.iload_n 1, 1) := by decide +kernel
theorem dX10_about_90 : decode cX10_about 90 = .ok (.iaload, 1) := by decide +kernel
theorem dX10_about_91 : decode cX10_about 91 = .ok (.ireturn, 1) := by decide +kernel
theorem dX10_about_92 : decode cX10_about 92 = .ok (.aload_n 0, 1) := by decide +kernel
theorem dX10_about_93 : decode cX10_about 93 = .ok (.getfield 14, 3) := by decide +kernel
theorem dX10_about_96 : decode cX10_about 96 = .ok (.iload_n 1, 1) := by decide +kernel
theorem dX10_about_97 : decode cX10_about 97 = .ok (.invokevirtual 116, 3) := by decide +kernel
theorem dX10_about_100 : decode cX10_about 100 = .ok (.ireturn, 1) := by decide +kernel
theorem dX10_about_101 : decode cX10_about 101 = .ok (.aload_n 0, 1) := by decide +kernel
theorem dX10_about_102 : decode cX10_about 102 = .ok (.getfield 14, 3) := by decide +kernel
theorem dX10_about_105 : decode cX10_about 105 = .ok (.getfield 120, 3) := by decide +kernel
theorem dX10_about_108 : decode cX10_about 108 = .ok (.iload_n 1, 1) := by decide +kernel
theorem dX10_about_109 : decode cX10_about 109 = .ok (.iaload, 1) := by decide +kernel
theorem dX10_about_110 : decode cX10_about 110 = .ok (.ireturn, 1) := by decide +kernel
theorem dX10_about_111 : decode cX10_about 111 = .ok (.iconst (-1), 1) := by decide +kernel
theorem dX10_about_112 : decode cX10_about 112 = .ok (.ireturn, 1) := by decide +kernel
theorem dX10_bits_0 : decode cX10_bits 0 = .ok (.aload_n 0, 1) := by decide +kernel
theorem dX10_bits_1 : decode cX10_bits 1 = .ok (.getfield 30, 3) := by decide +kernel
theorem dX10_bits_4 : decode cX10_bits 4 = .ok (.invokevirtual 123, 3) := by decide +kernel
theorem dX10_bits_7 : decode cX10_bits 7 = .ok (.ireturn, 1) := by decide +kernel
theorem dX10_bit_0 : decode cX10_bit 0 = .ok (.iload_n 2, 1) := by decide +kernel
theorem dX10_bit_1 : decode cX10_bit 1 = .ok (.iconst 0, 1) := by decide +kernel
theorem dX10_bit_2 : decode cX10_bit 2 = .ok (.iconst 1, 1) := by decide +kernel
theorem dX10_bit_3 : decode cX10_bit 3 = .ok (.invokestatic 71, 3) := by decide +kernel
theorem dX10_bit_6 : decode cX10_bit 6 = .ok (.ifCond .eq 14, 3) := by decide +kernel
theorem dX10_bit_9 : decode cX10_bit 9 = .ok (.aload_n 0, 1) := by decide +kernel
theorem dX10_bit_10 : decode cX10_bit 10 = .ok (.getfield 30, 3) := by decide +kernel
theorem dX10_bit_13 : decode cX10_bit 13 = .ok (.iload_n 1, 1) := by decide +kernel
theorem dX10_bit_14 : decode cX10_bit 14 = .ok (.invokevirtual 127, 3) := by decide +kernel
theorem dX10_bit_17 : decode cX10_bit 17 = .ok (.ifCond .ne 5, 3) := by decide +kernel
theorem dX10_bit_20 : decode cX10_bit 20 = .ok (.iconst (-1), 1) := by decide +kernel
theorem dX10_bit_21 : decode cX10_bit 21 = .ok (.ireturn, 1) := by decide +kernel
theorem dX10_bit_22 : decode cX10_bit 22 = .ok (.iload_n 2, 1) := by decide +kernel
theorem dX10_bit_23 : decode cX10_bit 23 = .ok (.ifCond .ne 13, 3) := by decide +kernel
theorem dX10_bit_26 : decode cX10_bit 26 = .ok (.aload_n 0, 1) := by decide +kernel
theorem dX10_bit_27 : decode cX10_bit 27 = .ok (.getfield 30, 3) := by decide +kernel
theorem dX10_bit_30 : decode cX10_bit 30 = .ok (.getfield 130, 3) := by decide +kernel
theorem dX10_bit_33 : decode cX10_bit 33 = .ok (.goto 10, 3) := by decide +kernel
theorem dX10_bit_36 : decode cX10_bit 36 = .ok (.aload_n 0, 1) := by decide +kernel
theorem dX10_bit_37 : decode cX10_bit 37 = .ok (.getfield 30, 3) := by decide +kernel
theorem dX10_bit_40 : decode cX10_bit 40 = .ok (.getfield 133, 3) := by decide +kernel
theorem dX10_bit_43 : decode cX10_bit 43 = .ok (.ireturn, 1) := by decide +kernel
theorem dX10_pairs_0 : decode cX10_pairs 0 = .ok (.aload_n 0, 1) := by decide +kernel
theorem dX10_pairs_1 : decode cX10_pairs 1 = .ok (.getfield 39, 3) := by decide +kernel
theorem dX10_pairs_4 : decode cX10_pairs 4 = .ok (.invokevirtual 136, 3) := by decide +kernel
theorem dX10_pairs_7 : decode cX10_pairs 7 = .ok (.ireturn, 1) := by decide +kernel
theorem dX10_pair_0 : decode cX10_pair 0 = .ok (.iload_n 2, 1) := by decide +kernel
theorem dX10_pair_1 : decode cX10_pair 1 = .ok (.iconst 0, 1) := by decide +kernel
theorem dX10_pair_2 : decode cX10_pair 2 = .ok (.iconst 1, 1) := by decide +kernel
theorem dX10_pair_3 : decode cX10_pair 3 = .ok (.invokestatic 71, 3) := by decide +kernel
theorem dX10_pair_6 : decode cX10_pair 6 = .ok (.ifCond .eq 20, 3) := by decide +kernel
theorem dX10_pair_9 : decode cX10_pair 9 = .ok (.iload_n 1, 1) := by decide +kernel
theorem dX10_pair_10 : decode cX10_pair 10 = .ok (.iconst 0, 1) := by decide +kernel
theorem dX10_pair_11 : decode cX10_pair 11 = .ok (.aload_n 0, 1) := by decide +kernel
theorem dX10_pair_12 : decode cX10_pair 12 = .ok (.getfield 39, 3) := by decide +kernel
theorem dX10_pair_15 : decode cX10_pair 15 = .ok (.invokevirtual 136, 3) := by decide +kernel
theorem dX10_pair_18 : decode cX10_pair 18 = .ok (.iconst 1, 1) := by decide +kernel
theorem dX10_pair_19 : decode cX10_pair 19 = .ok (.isub, 1) := by decide +kernel
theorem dX10_pair_20 : decode cX10_pair 20 = .ok (.invokestatic 71, 3) := by decide +kernel
theorem dX10_pair_23 : decode cX10_pair 23 = .ok (.ifCond .ne 5, 3) := by decide +kernel
theorem dX10_pair_26 : decode cX10_pair 26 = .ok (.iconst (-1), 1) := by decide +kernel
theorem dX10_pair_27 : decode cX10_pair 27 = .ok (.ireturn, 1) := by decide +kernel
theorem dX10_pair_28 : decode cX10_pair 28 = .ok (.iload_n 2, 1) := by decide +kernel
theorem dX10_pair_29 : decode cX10_pair 29 = .ok (.ifCond .ne 15, 3) := by decide +kernel
theorem dX10_pair_32 : decode cX10_pair 32 = .ok (.aload_n 0, 1) := by decide +kernel
theorem dX10_pair_33 : decode cX10_pair 33 = .ok (.getfield 39, 3) := by decide +kernel
theorem dX10_pair_36 : decode cX10_pair 36 = .ok (.getfield 137, 3) := by decide +kernel
theorem dX10_pair_39 : decode cX10_pair 39 = .ok (.iload_n 1, 1) := by decide +kernel
theorem dX10_pair_40 : decode cX10_pair 40 = .ok (.iaload, 1) := by decide +kernel
theorem dX10_pair_41 : decode cX10_pair 41 = .ok (.goto 12, 3) := by decide +kernel
theorem dX10_pair_44 : decode cX10_pair 44 = .ok (.aload_n 0, 1) := by decide +kernel
theorem dX10_pair_45 : decode cX10_pair 45 = .ok (.getfield 39, 3) := by decide +kernel
theorem dX10_pair_48 : decode cX10_pair 48 = .ok (.getfield 140, 3) := by decide +kernel
theorem dX10_pair_51 : decode cX10_pair 51 = .ok (.iload_n 1, 1) := by decide +kernel
theorem dX10_pair_52 : decode cX10_pair 52 = .ok (.iaload, 1) := by decide +kernel
theorem dX10_pair_53 : decode cX10_pair 53 = .ok (.ireturn, 1) := by decide +kernel
theorem dX10_start_0 : decode cX10_start 0 = .ok (.iload_n 1, 1) := by decide +kernel
theorem dX10_start_1 : decode cX10_start 1 = .ok (.iconst 0, 1) := by decide +kernel
theorem dX10_start_2 : decode cX10_start 2 = .ok (.aload_n 0, 1) := by decide +kernel
theorem dX10_start_3 : decode cX10_start 3 = .ok (.getfield 39, 3) := by decide +kernel
theorem dX10_start_6 : decode cX10_start 6 = .ok (.invokevirtual 136, 3) := by decide +kernel
theorem dX10_start_9 : decode cX10_start 9 = .ok (.iconst 1, 1) := by decide +kernel
theorem dX10_start_10 : decode cX10_start 10 = .ok (.isub, 1) := by decide +kernel
theorem dX10_start_11 : decode cX10_start 11 = .ok (.invokestatic 71, 3) := by decide +kernel
theorem dX10_start_14 : decode cX10_start 14 = .ok (.ifCond .ne 5, 3) := by decide +kernel
theorem dX10_start_17 : decode cX10_start 17 = .ok (.iconst (-1), 1) := by decide +kernel
theorem dX10_start_18 : decode cX10_start 18 = .ok (.ireturn, 1) := by decide +kernel
theorem dX10_start_19 : decode cX10_start 19 = .ok (.iload_n 2, 1) := by decide +kernel
theorem dX10_start_20 : decode cX10_start 20 = .ok (.invokestatic 143, 3) := by decide +kernel
theorem dX10_start_23 : decode cX10_start 23 = .ok (.ifCond .ne 6, 3) := by decide +kernel
theorem dX10_start_26 : decode cX10_start 26 = .ok (.bipush (-2), 2) := by decide +kernel
theorem dX10_start_28 : decode cX10_start 28 = .ok (.ireturn, 1) := by decide +kernel
theorem dX10_start_29 : decode cX10_start 29 = .ok (.aload_n 0, 1) := by decide +kernel
theorem dX10_start_30 : decode cX10_start 30 = .ok (.getfield 39, 3) := by decide +kernel
theorem dX10_start_33 : decode cX10_start 33 = .ok (.aload_n 0, 1) := by decide +kernel
theorem dX10_start_34 : decode cX10_start 34 = .ok (.getfield 39, 3) := by decide +kernel
theorem dX10_start_37 : decode cX10_start 37 = .ok (.getfield 137, 3) := by decide +kernel
theorem dX10_start_40 : decode cX10_start 40 = .ok (.iload_n 1, 1) := by decide +kernel
theorem dX10_start_41 : decode cX10_start 41 = .ok (.iaload, 1) := by decide +kernel
theorem dX10_start_42 : decode cX10_start 42 = .ok (.aload_n 0, 1) := by decide +kernel
theorem dX10_start_43 : decode cX10_start 43 = .ok (.getfield 39, 3) := by decide +kernel
theorem dX10_start_46 : decode cX10_start 46 = .ok (.getfield 140, 3) := by decide +kernel
theorem dX10_start_49 : decode cX10_start 49 = .ok (.iload_n 1, 1) := by decide +kernel
theorem dX10_start_50 : decode cX10_start 50 = .ok (.iaload, 1) := by decide +kernel
theorem dX10_start_51 : decode cX10_start 51 = .ok (.aload_n 0, 1) := by decide +kernel
theorem dX10_start_52 : decode cX10_start 52 = .ok (.getfield 67, 3) := by decide +kernel
theorem dX10_start_55 : decode cX10_start 55 = .ok (.invokevirtual 146, 3) := by decide +kernel
theorem dX10_start_58 : decode cX10_start 58 = .ok (.aload_n 0, 1) := by decide +kernel
theorem dX10_start_59 : decode cX10_start 59 = .ok (.iload_n 2, 1) := by decide +kernel
theorem dX10_start_60 : decode cX10_start 60 = .ok (.invokevirtual 150, 3) := by decide +kernel
theorem dX10_start_63 : decode cX10_start 63 = .ok (.ireturn, 1) := by decide +kernel
theorem dX10_single_0 : decode cX10_single 0 = .ok (.aload_n 0, 1) := by decide +kernel
theorem dX10_single_1 : decode cX10_single 1 = .ok (.getfield 14, 3) := by decide +kernel
theorem dX10_single_4 : decode cX10_single 4 = .ok (.iload_n 1, 1) := by decide +kernel
theorem dX10_single_5 : decode cX10_single 5 = .ok (.invokevirtual 99, 3) := by decide +kernel
theorem dX10_single_8 : decode cX10_single 8 = .ok (.ifCond .ne 5, 3) := by decide +kernel
theorem dX10_single_11 : decode cX10_single 11 = .ok (.iconst (-1), 1) := by decide +kernel
theorem dX10_single_12 : decode cX10_single 12 = .ok (.ireturn, 1) := by decide +kernel
theorem dX10_single_13 : decode cX10_single 13 = .ok (.iload_n 2, 1) := by decide +kernel
theorem dX10_single_14 : decode cX10_single 14 = .ok (.invokestatic 143, 3) := by decide +kernel
theorem dX10_single_17 : decode cX10_single 17 = .ok (.ifCond .ne 6, 3) := by decide +kernel
theorem dX10_single_20 : decode cX10_single 20 = .ok (.bipush (-2), 2) := by decide +kernel
theorem dX10_single_22 : decode cX10_single 22 = .ok (.ireturn, 1) := by decide +kernel
theorem dX10_single_23 : decode cX10_single 23 = .ok (.aload_n 0, 1) := by decide +kernel
theorem dX10_single_24 : decode cX10_single 24 = .ok (.getfield 67, 3) := by decide +kernel
theorem dX10_single_27 : decode cX10_single 27 = .ok (.invokevirtual 153, 3) := by decide +kernel
theorem dX10_single_30 : decode cX10_single 30 = .ok (.aload_n 0, 1) := by decide +kernel
theorem dX10_single_31 : decode cX10_single 31 = .ok (.getfield 67, 3) := by decide +kernel
theorem dX10_single_34 : decode cX10_single 34 = .ok (.iload_n 1, 1) := by decide +kernel
theorem dX10_single_35 : decode cX10_single 35 = .ok (.invokevirtual 156, 3) := by decide +kernel
theorem dX10_single_38 : decode cX10_single 38 = .ok (.aload_n 0, 1) := by decide +kernel
theorem dX10_single_39 : decode cX10_single 39 = .ok (.getfield 14, 3) := by decide +kernel
theorem dX10_single_42 : decode cX10_single 42 = .ok (.iload_n 1, 1) := by decide +kernel
theorem dX10_single_43 : decode cX10_single 43 = .ok (.invokevirtual 159, 3) := by decide +kernel
theorem dX10_single_46 : decode cX10_single 46 = .ok (.ifCond .eq 17, 3) := by decide +kernel
theorem dX10_single_49 : decode cX10_single 49 = .ok (.aload_n 0, 1) := by decide +kernel
theorem dX10_single_50 : decode cX10_single 50 = .ok (.getfield 23, 3) := by decide +kernel
theorem dX10_single_53 : decode cX10_single 53 = .ok (.aload_n 0, 1) := by decide +kernel
theorem dX10_single_54 : decode cX10_single 54 = .ok (.getfield 67, 3) := by decide +kernel
theorem dX10_single_57 : decode cX10_single 57 = .ok (.invokevirtual 162, 3) := by decide +kernel
theorem dX10_single_60 : decode cX10_single 60 = .ok (.ifCond .ne 6, 3) := by decide +kernel
theorem dX10_single_63 : decode cX10_single 63 = .ok (.bipush (-3), 2) := by decide +kernel
theorem dX10_single_65 : decode cX10_single 65 = .ok (.ireturn, 1) := by decide +kernel
theorem dX10_single_66 : decode cX10_single 66 = .ok (.aload_n 0, 1) := by decide +kernel
theorem dX10_single_67 : decode cX10_single 67 = .ok (.iload_n 2, 1) := by decide +kernel
theorem dX10_single_68 : decode cX10_single 68 = .ok (.invokevirtual 150, 3) := by decide +kernel
theorem dX10_single_71 : decode cX10_single 71 = .ok (.ireturn, 1) := by decide +kernel
theorem dX10_join_0 : decode cX10_join 0 = .ok (.aload_n 0, 1) := by decide +kernel
theorem dX10_join_1 : decode cX10_join 1 = .ok (.getfield 46, 3) := by decide +kernel
theorem dX10_join_4 : decode cX10_join 4 = .ok (.iload_n 1, 1) := by decide +kernel
theorem dX10_join_5 : decode cX10_join 5 = .ok (.invokevirtual 166, 3) := by decide +kernel
theorem dX10_join_8 : decode cX10_join 8 = .ok (.ifCond .eq 14, 3) := by decide +kernel
theorem dX10_join_11 : decode cX10_join 11 = .ok (.aload_n 0, 1) := by decide +kernel
theorem dX10_join_12 : decode cX10_join 12 = .ok (.getfield 14, 3) := by decide +kernel
theorem dX10_join_15 : decode cX10_join 15 = .ok (.iload_n 2, 1) := by decide +kernel
theorem dX10_join_16 : decode cX10_join 16 = .ok (.invokevirtual 99, 3) := by decide +kernel
theorem dX10_join_19 : decode cX10_join 19 = .ok (.ifCond .ne 5, 3) := by decide +kernel
theorem dX10_join_22 : decode cX10_join 22 = .ok (.iconst (-1), 1) := by decide +kernel
theorem dX10_join_23 : decode cX10_join 23 = .ok (.ireturn, 1) := by decide +kernel
theorem dX10_join_24 : decode cX10_join 24 = .ok (.aload_n 0, 1) := by decide +kernel
theorem dX10_join_25 : decode cX10_join 25 = .ok (.getfield 14, 3) := by decide +kernel
theorem dX10_join_28 : decode cX10_join 28 = .ok (.iload_n 2, 1) := by decide +kernel
theorem dX10_join_29 : decode cX10_join 29 = .ok (.invokevirtual 159, 3) := by decide +kernel
theorem dX10_join_32 : decode cX10_join 32 = .ok (.ifCond .ne 6, 3) := by decide +kernel
theorem dX10_join_35 : decode cX10_join 35 = .ok (.bipush (-3), 2) := by decide +kernel
theorem dX10_join_37 : decode cX10_join 37 = .ok (.ireturn, 1) := by decide +kernel
theorem dX10_join_38 : decode cX10_join 38 = .ok (.aload_n 0, 1) := by decide +kernel
theorem dX10_join_39 : decode cX10_join 39 = .ok (.getfield 67, 3) := by decide +kernel
theorem dX10_join_42 : decode cX10_join 42 = .ok (.aload_n 0, 1) := by decide +kernel
theorem dX10_join_43 : decode cX10_join 43 = .ok (.getfield 46, 3) := by decide +kernel
theorem dX10_join_46 : decode cX10_join 46 = .ok (.getfield 167, 3) := by decide +kernel
theorem dX10_join_49 : decode cX10_join 49 = .ok (.iload_n 1, 1) := by decide +kernel
theorem dX10_join_50 : decode cX10_join 50 = .ok (.aaload, 1) := by decide +kernel
theorem dX10_join_51 : decode cX10_join 51 = .ok (.getfield 171, 3) := by decide +kernel
theorem dX10_join_54 : decode cX10_join 54 = .ok (.invokevirtual 176, 3) := by decide +kernel
theorem dX10_join_57 : decode cX10_join 57 = .ok (.aload_n 0, 1) := by decide +kernel
theorem dX10_join_58 : decode cX10_join 58 = .ok (.getfield 67, 3) := by decide +kernel
theorem dX10_join_61 : decode cX10_join 61 = .ok (.iload_n 2, 1) := by decide +kernel
theorem dX10_join_62 : decode cX10_join 62 = .ok (.invokevirtual 156, 3) := by decide +kernel
theorem dX10_join_65 : decode cX10_join 65 = .ok (.aload_n 0, 1) := by decide +kernel
theorem dX10_join_66 : decode cX10_join 66 = .ok (.iload_n 1, 1) := by decide +kernel
theorem dX10_join_67 : decode cX10_join 67 = .ok (.invokevirtual 180, 3) := by decide +kernel
theorem dX10_join_70 : decode cX10_join 70 = .ok (.ireturn, 1) := by decide +kernel
theorem dX10_joinBit_0 : decode cX10_joinBit 0 = .ok (.aload_n 0, 1) := by decide +kernel
theorem dX10_joinBit_1 : decode cX10_joinBit 1 = .ok (.getfield 46, 3) := by decide +kernel
theorem dX10_joinBit_4 : decode cX10_joinBit 4 = .ok (.iload_n 1, 1) := by decide +kernel
theorem dX10_joinBit_5 : decode cX10_joinBit 5 = .ok (.invokevirtual 166, 3) := by decide +kernel
theorem dX10_joinBit_8 : decode cX10_joinBit 8 = .ok (.ifCond .eq 14, 3) := by decide +kernel
theorem dX10_joinBit_11 : decode cX10_joinBit 11 = .ok (.aload_n 0, 1) := by decide +kernel
theorem dX10_joinBit_12 : decode cX10_joinBit 12 = .ok (.getfield 30, 3) := by decide +kernel
theorem dX10_joinBit_15 : decode cX10_joinBit 15 = .ok (.iload_n 2, 1) := by decide +kernel
theorem dX10_joinBit_16 : decode cX10_joinBit 16 = .ok (.invokevirtual 127, 3) := by decide +kernel
theorem dX10_joinBit_19 : decode cX10_joinBit 19 = .ok (.ifCond .ne 5, 3) := by decide +kernel
theorem dX10_joinBit_22 : decode cX10_joinBit 22 = .ok (.iconst (-1), 1) := by decide +kernel
theorem dX10_joinBit_23 : decode cX10_joinBit 23 = .ok (.ireturn, 1) := by decide +kernel
theorem dX10_joinBit_24 : decode cX10_joinBit 24 = .ok (.aload_n 0, 1) := by decide +kernel
theorem dX10_joinBit_25 : decode cX10_joinBit 25 = .ok (.getfield 67, 3) := by decide +kernel
theorem dX10_joinBit_28 : decode cX10_joinBit 28 = .ok (.aload_n 0, 1) := by decide +kernel
theorem dX10_joinBit_29 : decode cX10_joinBit 29 = .ok (.getfield 46, 3) := by decide +kernel
theorem dX10_joinBit_32 : decode cX10_joinBit 32 = .ok (.getfield 167, 3) := by decide +kernel
theorem dX10_joinBit_35 : decode cX10_joinBit 35 = .ok (.iload_n 1, 1) := by decide +kernel
theorem dX10_joinBit_36 : decode cX10_joinBit 36 = .ok (.aaload, 1) := by decide +kernel
theorem dX10_joinBit_37 : decode cX10_joinBit 37 = .ok (.getfield 171, 3) := by decide +kernel
theorem dX10_joinBit_40 : decode cX10_joinBit 40 = .ok (.invokevirtual 176, 3) := by decide +kernel
theorem dX10_joinBit_43 : decode cX10_joinBit 43 = .ok (.aload_n 0, 1) := by decide +kernel
theorem dX10_joinBit_44 : decode cX10_joinBit 44 = .ok (.getfield 67, 3) := by decide +kernel
theorem dX10_joinBit_47 : decode cX10_joinBit 47 = .ok (.aload_n 0, 1) := by decide +kernel
theorem dX10_joinBit_48 : decode cX10_joinBit 48 = .ok (.getfield 30, 3) := by decide +kernel
theorem dX10_joinBit_51 : decode cX10_joinBit 51 = .ok (.getfield 130, 3) := by decide +kernel
theorem dX10_joinBit_54 : decode cX10_joinBit 54 = .ok (.invokevirtual 156, 3) := by decide +kernel
theorem dX10_joinBit_57 : decode cX10_joinBit 57 = .ok (.aload_n 0, 1) := by decide +kernel
theorem dX10_joinBit_58 : decode cX10_joinBit 58 = .ok (.getfield 67, 3) := by decide +kernel
theorem dX10_joinBit_61 : decode cX10_joinBit 61 = .ok (.aload_n 0, 1) := by decide +kernel
theorem dX10_joinBit_62 : decode cX10_joinBit 62 = .ok (.getfield 30, 3) := by decide +kernel
theorem dX10_joinBit_65 : decode cX10_joinBit 65 = .ok (.getfield 133, 3) := by decide +kernel
theorem dX10_joinBit_68 : decode cX10_joinBit 68 = .ok (.invokevirtual 156, 3) := by decide +kernel
theorem dX10_joinBit_71 : decode cX10_joinBit 71 = .ok (.aload_n 0, 1) := by decide +kernel
theorem dX10_joinBit_72 : decode cX10_joinBit 72 = .ok (.iload_n 1, 1) := by decide +kernel
theorem dX10_joinBit_73 : decode cX10_joinBit 73 = .ok (.invokevirtual 180, 3) := by decide +kernel
theorem dX10_joinBit_76 : decode cX10_joinBit 76 = .ok (.ireturn, 1) := by decide +kernel
theorem dX10_force_0 : decode cX10_force 0 = .ok (.aload_n 0, 1) := by decide +kernel
theorem dX10_force_1 : decode cX10_force 1 = .ok (.getfield 46, 3) := by decide +kernel
theorem dX10_force_4 : decode cX10_force 4 = .ok (.iload_n 1, 1) := by decide +kernel
theorem dX10_force_5 : decode cX10_force 5 = .ok (.invokevirtual 166, 3) := by decide +kernel
theorem dX10_force_8 : decode cX10_force 8 = .ok (.ifCond .eq 14, 3) := by decide +kernel
theorem dX10_force_11 : decode cX10_force 11 = .ok (.aload_n 0, 1) := by decide +kernel
theorem dX10_force_12 : decode cX10_force 12 = .ok (.getfield 14, 3) := by decide +kernel
theorem dX10_force_15 : decode cX10_force 15 = .ok (.iload_n 2, 1) := by decide +kernel
theorem dX10_force_16 : decode cX10_force 16 = .ok (.invokevirtual 99, 3) := by decide +kernel
theorem dX10_force_19 : decode cX10_force 19 = .ok (.ifCond .ne 5, 3) := by decide +kernel
theorem dX10_force_22 : decode cX10_force 22 = .ok (.iconst (-1), 1) := by decide +kernel
theorem dX10_force_23 : decode cX10_force 23 = .ok (.ireturn, 1) := by decide +kernel
theorem dX10_force_24 : decode cX10_force 24 = .ok (.aload_n 0, 1) := by decide +kernel
theorem dX10_force_25 : decode cX10_force 25 = .ok (.getfield 14, 3) := by decide +kernel
theorem dX10_force_28 : decode cX10_force 28 = .ok (.iload_n 2, 1) := by decide +kernel
theorem dX10_force_29 : decode cX10_force 29 = .ok (.invokevirtual 159, 3) := by decide +kernel
theorem dX10_force_32 : decode cX10_force 32 = .ok (.ifCond .ne 6, 3) := by decide +kernel
theorem dX10_force_35 : decode cX10_force 35 = .ok (.bipush (-3), 2) := by decide +kernel
theorem dX10_force_37 : decode cX10_force 37 = .ok (.ireturn, 1) := by decide +kernel
theorem dX10_force_38 : decode cX10_force 38 = .ok (.aload_n 0, 1) := by decide +kernel
theorem dX10_force_39 : decode cX10_force 39 = .ok (.getfield 67, 3) := by decide +kernel
theorem dX10_force_42 : decode cX10_force 42 = .ok (.aload_n 0, 1) := by decide +kernel
theorem dX10_force_43 : decode cX10_force 43 = .ok (.getfield 46, 3) := by decide +kernel
theorem dX10_force_46 : decode cX10_force 46 = .ok (.getfield 167, 3) := by decide +kernel
theorem dX10_force_49 : decode cX10_force 49 = .ok (.iload_n 1, 1) := by decide +kernel
theorem dX10_force_50 : decode cX10_force 50 = .ok (.aaload, 1) := by decide +kernel
theorem dX10_force_51 : decode cX10_force 51 = .ok (.getfield 171, 3) := by decide +kernel
theorem dX10_force_54 : decode cX10_force 54 = .ok (.invokevirtual 176, 3) := by decide +kernel
theorem dX10_force_57 : decode cX10_force 57 = .ok (.aload_n 0, 1) := by decide +kernel
theorem dX10_force_58 : decode cX10_force 58 = .ok (.getfield 67, 3) := by decide +kernel
theorem dX10_force_61 : decode cX10_force 61 = .ok (.iload_n 2, 1) := by decide +kernel
theorem dX10_force_62 : decode cX10_force 62 = .ok (.invokevirtual 156, 3) := by decide +kernel
theorem dX10_force_65 : decode cX10_force 65 = .ok (.aload_n 0, 1) := by decide +kernel
theorem dX10_force_66 : decode cX10_force 66 = .ok (.getfield 67, 3) := by decide +kernel
theorem dX10_force_69 : decode cX10_force 69 = .ok (.getfield 183, 3) := by decide +kernel
theorem dX10_force_72 : decode cX10_force 72 = .ok (.bipush 8, 2) := by decide +kernel
theorem dX10_force_74 : decode cX10_force 74 = .ok (.if_icmp .le 8, 3) := by decide +kernel
theorem dX10_force_77 : decode cX10_force 77 = .ok (.bipush (-4), 2) := by decide +kernel
theorem dX10_force_79 : decode cX10_force 79 = .ok (.goto 8, 3) := by decide +kernel
theorem dX10_force_82 : decode cX10_force 82 = .ok (.aload_n 0, 1) := by decide +kernel
theorem dX10_force_83 : decode cX10_force 83 = .ok (.iload_n 1, 1) := by decide +kernel
theorem dX10_force_84 : decode cX10_force 84 = .ok (.invokevirtual 186, 3) := by decide +kernel
theorem dX10_force_87 : decode cX10_force 87 = .ok (.ireturn, 1) := by decide +kernel
theorem dX10_path_0 : decode cX10_path 0 = .ok (.iload_n 1, 1) := by decide +kernel
theorem dX10_path_1 : decode cX10_path 1 = .ok (.iconst 0, 1) := by decide +kernel
theorem dX10_path_2 : decode cX10_path 2 = .ok (.aload_n 0, 1) := by decide +kernel
theorem dX10_path_3 : decode cX10_path 3 = .ok (.getfield 46, 3) := by decide +kernel
theorem dX10_path_6 : decode cX10_path 6 = .ok (.getfield 189, 3) := by decide +kernel
theorem dX10_path_9 : decode cX10_path 9 = .ok (.iconst 1, 1) := by decide +kernel
theorem dX10_path_10 : decode cX10_path 10 = .ok (.isub, 1) := by decide +kernel
theorem dX10_path_11 : decode cX10_path 11 = .ok (.invokestatic 71, 3) := by decide +kernel
theorem dX10_path_14 : decode cX10_path 14 = .ok (.ifCond .ne 5, 3) := by decide +kernel
theorem dX10_path_17 : decode cX10_path 17 = .ok (.iconst (-1), 1) := by decide +kernel
theorem dX10_path_18 : decode cX10_path 18 = .ok (.ireturn, 1) := by decide +kernel
theorem dX10_path_19 : decode cX10_path 19 = .ok (.aload_n 0, 1) := by decide +kernel
theorem dX10_path_20 : decode cX10_path 20 = .ok (.getfield 46, 3) := by decide +kernel
theorem dX10_path_23 : decode cX10_path 23 = .ok (.getfield 167, 3) := by decide +kernel
theorem dX10_path_26 : decode cX10_path 26 = .ok (.iload_n 1, 1) := by decide +kernel
theorem dX10_path_27 : decode cX10_path 27 = .ok (.aaload, 1) := by decide +kernel
theorem dX10_path_28 : decode cX10_path 28 = .ok (.astore_n 3, 1) := by decide +kernel
theorem dX10_path_29 : decode cX10_path 29 = .ok (.iload_n 2, 1) := by decide +kernel
theorem dX10_path_30 : decode cX10_path 30 = .ok (.tableswitch 94 0 3 #[30, 35, 54, 81], 30) := by decide +kernel
theorem dX10_path_60 : decode cX10_path 60 = .ok (.aload_n 3, 1) := by decide +kernel
theorem dX10_path_61 : decode cX10_path 61 = .ok (.getfield 192, 3) := by decide +kernel
theorem dX10_path_64 : decode cX10_path 64 = .ok (.ireturn, 1) := by decide +kernel
theorem dX10_path_65 : decode cX10_path 65 = .ok (.aload_n 3, 1) := by decide +kernel
theorem dX10_path_66 : decode cX10_path 66 = .ok (.getfield 195, 3) := by decide +kernel
theorem dX10_path_69 : decode cX10_path 69 = .ok (.ifCond .eq 7, 3) := by decide +kernel
theorem dX10_path_72 : decode cX10_path 72 = .ok (.iconst 0, 1) := by decide +kernel
theorem dX10_path_73 : decode cX10_path 73 = .ok (.goto 10, 3) := by decide +kernel
theorem dX10_path_76 : decode cX10_path 76 = .ok (.aload_n 3, 1) := by decide +kernel
theorem dX10_path_77 : decode cX10_path 77 = .ok (.getfield 171, 3) := by decide +kernel
theorem dX10_path_80 : decode cX10_path 80 = .ok (.getfield 183, 3) := by decide +kernel
theorem dX10_path_83 : decode cX10_path 83 = .ok (.ireturn, 1) := by decide +kernel
theorem dX10_path_84 : decode cX10_path 84 = .ok (.aload_n 3, 1) := by decide +kernel
theorem dX10_path_85 : decode cX10_path 85 = .ok (.getfield 195, 3) := by decide +kernel
theorem dX10_path_88 : decode cX10_path 88 = .ok (.ifCond .ne 21, 3) := by decide +kernel
theorem dX10_path_91 : decode cX10_path 91 = .ok (.aload_n 0, 1) := by decide +kernel
theorem dX10_path_92 : decode cX10_path 92 = .ok (.getfield 23, 3) := by decide +kernel
theorem dX10_path_95 : decode cX10_path 95 = .ok (.aload_n 3, 1) := by decide +kernel
theorem dX10_path_96 : decode cX10_path 96 = .ok (.getfield 171, 3) := by decide +kernel
theorem dX10_path_99 : decode cX10_path 99 = .ok (.invokevirtual 162, 3) := by decide +kernel
theorem dX10_path_102 : decode cX10_path 102 = .ok (.ifCond .eq 7, 3) := by decide +kernel
theorem dX10_path_105 : decode cX10_path 105 = .ok (.iconst 1, 1) := by decide +kernel
theorem dX10_path_106 : decode cX10_path 106 = .ok (.goto 4, 3) := by decide +kernel
theorem dX10_path_109 : decode cX10_path 109 = .ok (.iconst 0, 1) := by decide +kernel
theorem dX10_path_110 : decode cX10_path 110 = .ok (.ireturn, 1) := by decide +kernel
theorem dX10_path_111 : decode cX10_path 111 = .ok (.aload_n 3, 1) := by decide +kernel
theorem dX10_path_112 : decode cX10_path 112 = .ok (.getfield 195, 3) := by decide +kernel
theorem dX10_path_115 : decode cX10_path 115 = .ok (.ifCond .eq 7, 3) := by decide +kernel
theorem dX10_path_118 : decode cX10_path 118 = .ok (.iconst 1, 1) := by decide +kernel
theorem dX10_path_119 : decode cX10_path 119 = .ok (.goto 4, 3) := by decide +kernel
theorem dX10_path_122 : decode cX10_path 122 = .ok (.iconst 0, 1) := by decide +kernel
theorem dX10_path_123 : decode cX10_path 123 = .ok (.ireturn, 1) := by decide +kernel
theorem dX10_path_124 : decode cX10_path 124 = .ok (.aload_n 3, 1) := by decide +kernel
theorem dX10_path_125 : decode cX10_path 125 = .ok (.getfield 195, 3) := by decide +kernel
theorem dX10_path_128 : decode cX10_path 128 = .ok (.ifCond .eq 7, 3) := by decide +kernel
theorem dX10_path_131 : decode cX10_path 131 = .ok (.iconst (-1), 1) := by decide +kernel
theorem dX10_path_132 : decode cX10_path 132 = .ok (.goto 11, 3) := by decide +kernel
theorem dX10_path_135 : decode cX10_path 135 = .ok (.aload_n 3, 1) := by decide +kernel
theorem dX10_path_136 : decode cX10_path 136 = .ok (.getfield 171, 3) := by decide +kernel
theorem dX10_path_139 : decode cX10_path 139 = .ok (.iload_n 2, 1) := by decide +kernel
theorem dX10_path_140 : decode cX10_path 140 = .ok (.invokestatic 199, 3) := by decide +kernel
theorem dX10_path_143 : decode cX10_path 143 = .ok (.ireturn, 1) := by decide +kernel
theorem dX10_heap_0 : decode cX10_heap 0 = .ok (.aload_n 0, 1) := by decide +kernel
theorem dX10_heap_1 : decode cX10_heap 1 = .ok (.getfield 46, 3) := by decide +kernel
theorem dX10_heap_4 : decode cX10_heap 4 = .ok (.iload_n 1, 1) := by decide +kernel
theorem dX10_heap_5 : decode cX10_heap 5 = .ok (.invokevirtual 166, 3) := by decide +kernel
theorem dX10_heap_8 : decode cX10_heap 8 = .ok (.ifCond .eq 25, 3) := by decide +kernel
theorem dX10_heap_11 : decode cX10_heap 11 = .ok (.aload_n 0, 1) := by decide +kernel
theorem dX10_heap_12 : decode cX10_heap 12 = .ok (.getfield 23, 3) := by decide +kernel
theorem dX10_heap_15 : decode cX10_heap 15 = .ok (.aload_n 0, 1) := by decide +kernel
theorem dX10_heap_16 : decode cX10_heap 16 = .ok (.getfield 46, 3) := by decide +kernel
theorem dX10_heap_19 : decode cX10_heap 19 = .ok (.getfield 167, 3) := by decide +kernel
theorem dX10_heap_22 : decode cX10_heap 22 = .ok (.iload_n 1, 1) := by decide +kernel
theorem dX10_heap_23 : decode cX10_heap 23 = .ok (.aaload, 1) := by decide +kernel
theorem dX10_heap_24 : decode cX10_heap 24 = .ok (.getfield 171, 3) := by decide +kernel
theorem dX10_heap_27 : decode cX10_heap 27 = .ok (.invokevirtual 203, 3) := by decide +kernel
theorem dX10_heap_30 : decode cX10_heap 30 = .ok (.goto 6, 3) := by decide +kernel
theorem dX10_heap_33 : decode cX10_heap 33 = .ok (.ldc2_w 207, 3) := by decide +kernel
theorem dX10_heap_36 : decode cX10_heap 36 = .ok (.lreturn, 1) := by decide +kernel
theorem dX10_ahead_0 : decode cX10_ahead 0 = .ok (.aload_n 0, 1) := by decide +kernel
theorem dX10_ahead_1 : decode cX10_ahead 1 = .ok (.getfield 46, 3) := by decide +kernel
theorem dX10_ahead_4 : decode cX10_ahead 4 = .ok (.iload_n 1, 1) := by decide +kernel
theorem dX10_ahead_5 : decode cX10_ahead 5 = .ok (.invokevirtual 166, 3) := by decide +kernel
theorem dX10_ahead_8 : decode cX10_ahead 8 = .ok (.ifCond .eq 23, 3) := by decide +kernel
theorem dX10_ahead_11 : decode cX10_ahead 11 = .ok (.iload_n 2, 1) := by decide +kernel
theorem dX10_ahead_12 : decode cX10_ahead 12 = .ok (.iconst 0, 1) := by decide +kernel
theorem dX10_ahead_13 : decode cX10_ahead 13 = .ok (.sipush 400, 3) := by decide +kernel
theorem dX10_ahead_16 : decode cX10_ahead 16 = .ok (.invokestatic 71, 3) := by decide +kernel
theorem dX10_ahead_19 : decode cX10_ahead 19 = .ok (.ifCond .eq 12, 3) := by decide +kernel
theorem dX10_ahead_22 : decode cX10_ahead 22 = .ok (.iload_n 3, 1) := by decide +kernel
theorem dX10_ahead_23 : decode cX10_ahead 23 = .ok (.iconst 0, 1) := by decide +kernel
theorem dX10_ahead_24 : decode cX10_ahead 24 = .ok (.iconst 3, 1) := by decide +kernel
theorem dX10_ahead_25 : decode cX10_ahead 25 = .ok (.invokestatic 71, 3) := by decide +kernel
theorem dX10_ahead_28 : decode cX10_ahead 28 = .ok (.ifCond .ne 7, 3) := by decide +kernel
theorem dX10_ahead_31 : decode cX10_ahead 31 = .ok (.ldc2_w 209, 3) := by decide +kernel
theorem dX10_ahead_34 : decode cX10_ahead 34 = .ok (.lreturn, 1) := by decide +kernel
theorem dX10_ahead_35 : decode cX10_ahead 35 = .ok (.aload_n 0, 1) := by decide +kernel
theorem dX10_ahead_36 : decode cX10_ahead 36 = .ok (.getfield 46, 3) := by decide +kernel
theorem dX10_ahead_39 : decode cX10_ahead 39 = .ok (.getfield 167, 3) := by decide +kernel
theorem dX10_ahead_42 : decode cX10_ahead 42 = .ok (.iload_n 1, 1) := by decide +kernel
theorem dX10_ahead_43 : decode cX10_ahead 43 = .ok (.aaload, 1) := by decide +kernel
theorem dX10_ahead_44 : decode cX10_ahead 44 = .ok (.getfield 171, 3) := by decide +kernel
theorem dX10_ahead_47 : decode cX10_ahead 47 = .ok (.astore 4, 2) := by decide +kernel
theorem dX10_ahead_49 : decode cX10_ahead 49 = .ok (.aload_n 0, 1) := by decide +kernel
theorem dX10_ahead_50 : decode cX10_ahead 50 = .ok (.getfield 23, 3) := by decide +kernel
theorem dX10_ahead_53 : decode cX10_ahead 53 = .ok (.aload 4, 2) := by decide +kernel
theorem dX10_ahead_55 : decode cX10_ahead 55 = .ok (.invokevirtual 162, 3) := by decide +kernel
theorem dX10_ahead_58 : decode cX10_ahead 58 = .ok (.ifCond .ne 7, 3) := by decide +kernel
theorem dX10_ahead_61 : decode cX10_ahead 61 = .ok (.ldc2_w 209, 3) := by decide +kernel
theorem dX10_ahead_64 : decode cX10_ahead 64 = .ok (.lreturn, 1) := by decide +kernel
theorem dX10_ahead_65 : decode cX10_ahead 65 = .ok (.aload_n 0, 1) := by decide +kernel
theorem dX10_ahead_66 : decode cX10_ahead 66 = .ok (.getfield 23, 3) := by decide +kernel
theorem dX10_ahead_69 : decode cX10_ahead 69 = .ok (.aload 4, 2) := by decide +kernel
theorem dX10_ahead_71 : decode cX10_ahead 71 = .ok (.iload_n 3, 1) := by decide +kernel
theorem dX10_ahead_72 : decode cX10_ahead 72 = .ok (.iconst 2, 1) := by decide +kernel
theorem dX10_ahead_73 : decode cX10_ahead 73 = .ok (.if_icmp .ge 7, 3) := by decide +kernel
theorem dX10_ahead_76 : decode cX10_ahead 76 = .ok (.iconst 0, 1) := by decide +kernel
theorem dX10_ahead_77 : decode cX10_ahead 77 = .ok (.goto 4, 3) := by decide +kernel
theorem dX10_ahead_80 : decode cX10_ahead 80 = .ok (.iconst 1, 1) := by decide +kernel
theorem dX10_ahead_81 : decode cX10_ahead 81 = .ok (.iload_n 2, 1) := by decide +kernel
theorem dX10_ahead_82 : decode cX10_ahead 82 = .ok (.iload_n 3, 1) := by decide +kernel
theorem dX10_ahead_83 : decode cX10_ahead 83 = .ok (.iconst 2, 1) := by decide +kernel
theorem dX10_ahead_84 : decode cX10_ahead 84 = .ok (.irem, 1) := by decide +kernel
theorem dX10_ahead_85 : decode cX10_ahead 85 = .ok (.iconst 1, 1) := by decide +kernel
theorem dX10_ahead_86 : decode cX10_ahead 86 = .ok (.if_icmp .ne 7, 3) := by decide +kernel
theorem dX10_ahead_89 : decode cX10_ahead 89 = .ok (.iconst 1, 1) := by decide +kernel
theorem dX10_ahead_90 : decode cX10_ahead 90 = .ok (.goto 4, 3) := by decide +kernel
theorem dX10_ahead_93 : decode cX10_ahead 93 = .ok (.iconst 0, 1) := by decide +kernel
theorem dX10_ahead_94 : decode cX10_ahead 94 = .ok (.invokevirtual 211, 3) := by decide +kernel
theorem dX10_ahead_97 : decode cX10_ahead 97 = .ok (.lreturn, 1) := by decide +kernel
theorem dX10_tellOff_0 : decode cX10_tellOff 0 = .ok (.aload_n 0, 1) := by decide +kernel
theorem dX10_tellOff_1 : decode cX10_tellOff 1 = .ok (.getfield 14, 3) := by decide +kernel
theorem dX10_tellOff_4 : decode cX10_tellOff 4 = .ok (.iload_n 1, 1) := by decide +kernel
theorem dX10_tellOff_5 : decode cX10_tellOff 5 = .ok (.invokevirtual 99, 3) := by decide +kernel
theorem dX10_tellOff_8 : decode cX10_tellOff 8 = .ok (.ifCond .eq 14, 3) := by decide +kernel
theorem dX10_tellOff_11 : decode cX10_tellOff 11 = .ok (.aload_n 0, 1) := by decide +kernel
theorem dX10_tellOff_12 : decode cX10_tellOff 12 = .ok (.getfield 14, 3) := by decide +kernel
theorem dX10_tellOff_15 : decode cX10_tellOff 15 = .ok (.iload_n 1, 1) := by decide +kernel
theorem dX10_tellOff_16 : decode cX10_tellOff 16 = .ok (.invokevirtual 159, 3) := by decide +kernel
theorem dX10_tellOff_19 : decode cX10_tellOff 19 = .ok (.ifCond .ne 5, 3) := by decide +kernel
theorem dX10_tellOff_22 : decode cX10_tellOff 22 = .ok (.iconst (-1), 1) := by decide +kernel
theorem dX10_tellOff_23 : decode cX10_tellOff 23 = .ok (.ireturn, 1) := by decide +kernel
theorem dX10_tellOff_24 : decode cX10_tellOff 24 = .ok (.iconst (-1), 1) := by decide +kernel
theorem dX10_tellOff_25 : decode cX10_tellOff 25 = .ok (.istore_n 2, 1) := by decide +kernel
theorem dX10_tellOff_26 : decode cX10_tellOff 26 = .ok (.iconst 0, 1) := by decide +kernel
theorem dX10_tellOff_27 : decode cX10_tellOff 27 = .ok (.istore_n 3, 1) := by decide +kernel
theorem dX10_tellOff_28 : decode cX10_tellOff 28 = .ok (.iload_n 3, 1) := by decide +kernel
theorem dX10_tellOff_29 : decode cX10_tellOff 29 = .ok (.aload_n 0, 1) := by decide +kernel
theorem dX10_tellOff_30 : decode cX10_tellOff 30 = .ok (.getfield 46, 3) := by decide +kernel
theorem dX10_tellOff_33 : decode cX10_tellOff 33 = .ok (.getfield 189, 3) := by decide +kernel
theorem dX10_tellOff_36 : decode cX10_tellOff 36 = .ok (.if_icmp .ge 52, 3) := by decide +kernel
theorem dX10_tellOff_39 : decode cX10_tellOff 39 = .ok (.aload_n 0, 1) := by decide +kernel
theorem dX10_tellOff_40 : decode cX10_tellOff 40 = .ok (.getfield 46, 3) := by decide +kernel
theorem dX10_tellOff_43 : decode cX10_tellOff 43 = .ok (.iload_n 3, 1) := by decide +kernel
theorem dX10_tellOff_44 : decode cX10_tellOff 44 = .ok (.invokevirtual 166, 3) := by decide +kernel
theorem dX10_tellOff_47 : decode cX10_tellOff 47 = .ok (.ifCond .eq 35, 3) := by decide +kernel
theorem dX10_tellOff_50 : decode cX10_tellOff 50 = .ok (.aload_n 0, 1) := by decide +kernel
theorem dX10_tellOff_51 : decode cX10_tellOff 51 = .ok (.getfield 23, 3) := by decide +kernel
theorem dX10_tellOff_54 : decode cX10_tellOff 54 = .ok (.aload_n 0, 1) := by decide +kernel
theorem dX10_tellOff_55 : decode cX10_tellOff 55 = .ok (.getfield 46, 3) := by decide +kernel
theorem dX10_tellOff_58 : decode cX10_tellOff 58 = .ok (.getfield 167, 3) := by decide +kernel
theorem dX10_tellOff_61 : decode cX10_tellOff 61 = .ok (.iload_n 3, 1) := by decide +kernel
theorem dX10_tellOff_62 : decode cX10_tellOff 62 = .ok (.aaload, 1) := by decide +kernel
theorem dX10_tellOff_63 : decode cX10_tellOff 63 = .ok (.getfield 171, 3) := by decide +kernel
theorem dX10_tellOff_66 : decode cX10_tellOff 66 = .ok (.iload_n 1, 1) := by decide +kernel
theorem dX10_tellOff_67 : decode cX10_tellOff 67 = .ok (.invokevirtual 215, 3) := by decide +kernel
theorem dX10_tellOff_70 : decode cX10_tellOff 70 = .ok (.ifCond .eq 12, 3) := by decide +kernel
theorem dX10_tellOff_73 : decode cX10_tellOff 73 = .ok (.iload_n 2, 1) := by decide +kernel
theorem dX10_tellOff_74 : decode cX10_tellOff 74 = .ok (.iconst (-1), 1) := by decide +kernel
theorem dX10_tellOff_75 : decode cX10_tellOff 75 = .ok (.if_icmp .eq 5, 3) := by decide +kernel
theorem dX10_tellOff_78 : decode cX10_tellOff 78 = .ok (.iconst (-1), 1) := by decide +kernel
theorem dX10_tellOff_79 : decode cX10_tellOff 79 = .ok (.ireturn, 1) := by decide +kernel
theorem dX10_tellOff_80 : decode cX10_tellOff 80 = .ok (.iload_n 3, 1) := by decide +kernel
theorem dX10_tellOff_81 : decode cX10_tellOff 81 = .ok (.istore_n 2, 1) := by decide +kernel
theorem dX10_tellOff_82 : decode cX10_tellOff 82 = .ok (.iinc 3 1, 3) := by decide +kernel
theorem dX10_tellOff_85 : decode cX10_tellOff 85 = .ok (.goto (-57), 3) := by decide +kernel
theorem dX10_tellOff_88 : decode cX10_tellOff 88 = .ok (.iload_n 2, 1) := by decide +kernel
theorem dX10_tellOff_89 : decode cX10_tellOff 89 = .ok (.ireturn, 1) := by decide +kernel
theorem dX10_fit_0 : decode cX10_fit 0 = .ok (.iload_n 3, 1) := by decide +kernel
theorem dX10_fit_1 : decode cX10_fit 1 = .ok (.iconst 0, 1) := by decide +kernel
theorem dX10_fit_2 : decode cX10_fit 2 = .ok (.iconst 1, 1) := by decide +kernel
theorem dX10_fit_3 : decode cX10_fit 3 = .ok (.invokestatic 71, 3) := by decide +kernel
theorem dX10_fit_6 : decode cX10_fit 6 = .ok (.ifCond .eq 22, 3) := by decide +kernel
theorem dX10_fit_9 : decode cX10_fit 9 = .ok (.iload 4, 2) := by decide +kernel
theorem dX10_fit_11 : decode cX10_fit 11 = .ok (.iconst 0, 1) := by decide +kernel
theorem dX10_fit_12 : decode cX10_fit 12 = .ok (.iconst 1, 1) := by decide +kernel
theorem dX10_fit_13 : decode cX10_fit 13 = .ok (.invokestatic 71, 3) := by decide +kernel
theorem dX10_fit_16 : decode cX10_fit 16 = .ok (.ifCond .eq 12, 3) := by decide +kernel
theorem dX10_fit_19 : decode cX10_fit 19 = .ok (.aload_n 0, 1) := by decide +kernel
theorem dX10_fit_20 : decode cX10_fit 20 = .ok (.iload_n 1, 1) := by decide +kernel
theorem dX10_fit_21 : decode cX10_fit 21 = .ok (.iload_n 2, 1) := by decide +kernel
theorem dX10_fit_22 : decode cX10_fit 22 = .ok (.invokevirtual 219, 3) := by decide +kernel
theorem dX10_fit_25 : decode cX10_fit 25 = .ok (.ifCond .ne 7, 3) := by decide +kernel
theorem dX10_fit_28 : decode cX10_fit 28 = .ok (.ldc2_w 209, 3) := by decide +kernel
theorem dX10_fit_31 : decode cX10_fit 31 = .ok (.lreturn, 1) := by decide +kernel
theorem dX10_fit_32 : decode cX10_fit 32 = .ok (.iload_n 3, 1) := by decide +kernel
theorem dX10_fit_33 : decode cX10_fit 33 = .ok (.ifCond .ne 23, 3) := by decide +kernel
theorem dX10_fit_36 : decode cX10_fit 36 = .ok (.aload_n 0, 1) := by decide +kernel
theorem dX10_fit_37 : decode cX10_fit 37 = .ok (.getfield 60, 3) := by decide +kernel
theorem dX10_fit_40 : decode cX10_fit 40 = .ok (.invokevirtual 223, 3) := by decide +kernel
theorem dX10_fit_43 : decode cX10_fit 43 = .ok (.aload_n 0, 1) := by decide +kernel
theorem dX10_fit_44 : decode cX10_fit 44 = .ok (.getfield 60, 3) := by decide +kernel
theorem dX10_fit_47 : decode cX10_fit 47 = .ok (.invokevirtual 227, 3) := by decide +kernel
theorem dX10_fit_50 : decode cX10_fit 50 = .ok (.iload 4, 2) := by decide +kernel
theorem dX10_fit_52 : decode cX10_fit 52 = .ok (.invokestatic 230, 3) := by decide +kernel
theorem dX10_fit_55 : decode cX10_fit 55 = .ok (.lreturn, 1) := by decide +kernel
theorem dX10_fit_56 : decode cX10_fit 56 = .ok (.aload_n 0, 1) := by decide +kernel
theorem dX10_fit_57 : decode cX10_fit 57 = .ok (.getfield 60, 3) := by decide +kernel
theorem dX10_fit_60 : decode cX10_fit 60 = .ok (.getfield 234, 3) := by decide +kernel
theorem dX10_fit_63 : decode cX10_fit 63 = .ok (.aload_n 0, 1) := by decide +kernel
theorem dX10_fit_64 : decode cX10_fit 64 = .ok (.getfield 60, 3) := by decide +kernel
theorem dX10_fit_67 : decode cX10_fit 67 = .ok (.getfield 238, 3) := by decide +kernel
theorem dX10_fit_70 : decode cX10_fit 70 = .ok (.iload 4, 2) := by decide +kernel
theorem dX10_fit_72 : decode cX10_fit 72 = .ok (.invokestatic 230, 3) := by decide +kernel
theorem dX10_fit_75 : decode cX10_fit 75 = .ok (.lreturn, 1) := by decide +kernel
theorem dX10_miss_0 : decode cX10_miss 0 = .ok (.iload 4, 2) := by decide +kernel
theorem dX10_miss_2 : decode cX10_miss 2 = .ok (.iconst 0, 1) := by decide +kernel
theorem dX10_miss_3 : decode cX10_miss 3 = .ok (.iconst 1, 1) := by decide +kernel
theorem dX10_miss_4 : decode cX10_miss 4 = .ok (.invokestatic 71, 3) := by decide +kernel
theorem dX10_miss_7 : decode cX10_miss 7 = .ok (.ifCond .eq 12, 3) := by decide +kernel
theorem dX10_miss_10 : decode cX10_miss 10 = .ok (.aload_n 0, 1) := by decide +kernel
theorem dX10_miss_11 : decode cX10_miss 11 = .ok (.iload_n 1, 1) := by decide +kernel
theorem dX10_miss_12 : decode cX10_miss 12 = .ok (.iload_n 3, 1) := by decide +kernel
theorem dX10_miss_13 : decode cX10_miss 13 = .ok (.invokevirtual 219, 3) := by decide +kernel
theorem dX10_miss_16 : decode cX10_miss 16 = .ok (.ifCond .ne 7, 3) := by decide +kernel
theorem dX10_miss_19 : decode cX10_miss 19 = .ok (.ldc2_w 209, 3) := by decide +kernel
theorem dX10_miss_22 : decode cX10_miss 22 = .ok (.lreturn, 1) := by decide +kernel
theorem dX10_miss_23 : decode cX10_miss 23 = .ok (.aload_n 0, 1) := by decide +kernel
theorem dX10_miss_24 : decode cX10_miss 24 = .ok (.getfield 46, 3) := by decide +kernel
theorem dX10_miss_27 : decode cX10_miss 27 = .ok (.getfield 167, 3) := by decide +kernel
theorem dX10_miss_30 : decode cX10_miss 30 = .ok (.iload_n 1, 1) := by decide +kernel
theorem dX10_miss_31 : decode cX10_miss 31 = .ok (.aaload, 1) := by decide +kernel
theorem dX10_miss_32 : decode cX10_miss 32 = .ok (.getfield 171, 3) := by decide +kernel
theorem dX10_miss_35 : decode cX10_miss 35 = .ok (.astore 5, 2) := by decide +kernel
theorem dX10_miss_37 : decode cX10_miss 37 = .ok (.iload_n 2, 1) := by decide +kernel
theorem dX10_miss_38 : decode cX10_miss 38 = .ok (.iconst 0, 1) := by decide +kernel
theorem dX10_miss_39 : decode cX10_miss 39 = .ok (.aload 5, 2) := by decide +kernel
theorem dX10_miss_41 : decode cX10_miss 41 = .ok (.getfield 183, 3) := by decide +kernel
theorem dX10_miss_44 : decode cX10_miss 44 = .ok (.iconst 1, 1) := by decide +kernel
theorem dX10_miss_45 : decode cX10_miss 45 = .ok (.isub, 1) := by decide +kernel
theorem dX10_miss_46 : decode cX10_miss 46 = .ok (.invokestatic 71, 3) := by decide +kernel
theorem dX10_miss_49 : decode cX10_miss 49 = .ok (.ifCond .ne 7, 3) := by decide +kernel
theorem dX10_miss_52 : decode cX10_miss 52 = .ok (.ldc2_w 209, 3) := by decide +kernel
theorem dX10_miss_55 : decode cX10_miss 55 = .ok (.lreturn, 1) := by decide +kernel
theorem dX10_miss_56 : decode cX10_miss 56 = .ok (.aload 5, 2) := by decide +kernel
theorem dX10_miss_58 : decode cX10_miss 58 = .ok (.getfield 241, 3) := by decide +kernel
theorem dX10_miss_61 : decode cX10_miss 61 = .ok (.iload_n 2, 1) := by decide +kernel
theorem dX10_miss_62 : decode cX10_miss 62 = .ok (.iaload, 1) := by decide +kernel
theorem dX10_miss_63 : decode cX10_miss 63 = .ok (.istore 6, 2) := by decide +kernel
theorem dX10_miss_65 : decode cX10_miss 65 = .ok (.aload_n 0, 1) := by decide +kernel
theorem dX10_miss_66 : decode cX10_miss 66 = .ok (.getfield 60, 3) := by decide +kernel
theorem dX10_miss_69 : decode cX10_miss 69 = .ok (.aload_n 0, 1) := by decide +kernel
theorem dX10_miss_70 : decode cX10_miss 70 = .ok (.getfield 14, 3) := by decide +kernel
theorem dX10_miss_73 : decode cX10_miss 73 = .ok (.getfield 103, 3) := by decide +kernel
theorem dX10_miss_76 : decode cX10_miss 76 = .ok (.iload 6, 2) := by decide +kernel
theorem dX10_miss_78 : decode cX10_miss 78 = .ok (.iaload, 1) := by decide +kernel
theorem dX10_miss_79 : decode cX10_miss 79 = .ok (.i2l, 1) := by decide +kernel
theorem dX10_miss_80 : decode cX10_miss 80 = .ok (.aload_n 0, 1) := by decide +kernel
theorem dX10_miss_81 : decode cX10_miss 81 = .ok (.getfield 14, 3) := by decide +kernel
theorem dX10_miss_84 : decode cX10_miss 84 = .ok (.iload 6, 2) := by decide +kernel
theorem dX10_miss_86 : decode cX10_miss 86 = .ok (.iload_n 3, 1) := by decide +kernel
theorem dX10_miss_87 : decode cX10_miss 87 = .ok (.invokevirtual 244, 3) := by decide +kernel
theorem dX10_miss_90 : decode cX10_miss 90 = .ok (.i2l, 1) := by decide +kernel
theorem dX10_miss_91 : decode cX10_miss 91 = .ok (.invokevirtual 248, 3) := by decide +kernel
theorem dX10_miss_94 : decode cX10_miss 94 = .ok (.lstore 7, 2) := by decide +kernel
theorem dX10_miss_96 : decode cX10_miss 96 = .ok (.lload 7, 2) := by decide +kernel
theorem dX10_miss_98 : decode cX10_miss 98 = .ok (.aload_n 0, 1) := by decide +kernel
theorem dX10_miss_99 : decode cX10_miss 99 = .ok (.getfield 60, 3) := by decide +kernel
theorem dX10_miss_102 : decode cX10_miss 102 = .ok (.invokevirtual 227, 3) := by decide +kernel
theorem dX10_miss_105 : decode cX10_miss 105 = .ok (.iload 4, 2) := by decide +kernel
theorem dX10_miss_107 : decode cX10_miss 107 = .ok (.invokestatic 230, 3) := by decide +kernel
theorem dX10_miss_110 : decode cX10_miss 110 = .ok (.lreturn, 1) := by decide +kernel
theorem dX10_part_0 : decode cX10_part 0 = .ok (.aload_n 0, 1) := by decide +kernel
theorem dX10_part_1 : decode cX10_part 1 = .ok (.getfield 46, 3) := by decide +kernel
theorem dX10_part_4 : decode cX10_part 4 = .ok (.iload_n 1, 1) := by decide +kernel
theorem dX10_part_5 : decode cX10_part 5 = .ok (.invokevirtual 166, 3) := by decide +kernel
theorem dX10_part_8 : decode cX10_part 8 = .ok (.ifCond .ne 5, 3) := by decide +kernel
theorem dX10_part_11 : decode cX10_part 11 = .ok (.iconst (-1), 1) := by decide +kernel
theorem dX10_part_12 : decode cX10_part 12 = .ok (.ireturn, 1) := by decide +kernel
theorem dX10_part_13 : decode cX10_part 13 = .ok (.aload_n 0, 1) := by decide +kernel
theorem dX10_part_14 : decode cX10_part 14 = .ok (.getfield 46, 3) := by decide +kernel
theorem dX10_part_17 : decode cX10_part 17 = .ok (.getfield 167, 3) := by decide +kernel
theorem dX10_part_20 : decode cX10_part 20 = .ok (.iload_n 1, 1) := by decide +kernel
theorem dX10_part_21 : decode cX10_part 21 = .ok (.aaload, 1) := by decide +kernel
theorem dX10_part_22 : decode cX10_part 22 = .ok (.getfield 171, 3) := by decide +kernel
theorem dX10_part_25 : decode cX10_part 25 = .ok (.astore_n 2, 1) := by decide +kernel
theorem dX10_part_26 : decode cX10_part 26 = .ok (.aload_n 0, 1) := by decide +kernel
theorem dX10_part_27 : decode cX10_part 27 = .ok (.aload_n 2, 1) := by decide +kernel
theorem dX10_part_28 : decode cX10_part 28 = .ok (.invokevirtual 252, 3) := by decide +kernel
theorem dX10_part_31 : decode cX10_part 31 = .ok (.istore_n 3, 1) := by decide +kernel
theorem dX10_part_32 : decode cX10_part 32 = .ok (.iload_n 3, 1) := by decide +kernel
theorem dX10_part_33 : decode cX10_part 33 = .ok (.ifCond .ne 5, 3) := by decide +kernel
theorem dX10_part_36 : decode cX10_part 36 = .ok (.iconst 0, 1) := by decide +kernel
theorem dX10_part_37 : decode cX10_part 37 = .ok (.ireturn, 1) := by decide +kernel
theorem dX10_part_38 : decode cX10_part 38 = .ok (.aload_n 2, 1) := by decide +kernel
theorem dX10_part_39 : decode cX10_part 39 = .ok (.getfield 183, 3) := by decide +kernel
theorem dX10_part_42 : decode cX10_part 42 = .ok (.istore 4, 2) := by decide +kernel
theorem dX10_part_44 : decode cX10_part 44 = .ok (.aload_n 0, 1) := by decide +kernel
theorem dX10_part_45 : decode cX10_part 45 = .ok (.aload_n 2, 1) := by decide +kernel
theorem dX10_part_46 : decode cX10_part 46 = .ok (.iload_n 3, 1) := by decide +kernel
theorem dX10_part_47 : decode cX10_part 47 = .ok (.invokevirtual 256, 3) := by decide +kernel
theorem dX10_part_50 : decode cX10_part 50 = .ok (.aload_n 0, 1) := by decide +kernel
theorem dX10_part_51 : decode cX10_part 51 = .ok (.iload_n 1, 1) := by decide +kernel
theorem dX10_part_52 : decode cX10_part 52 = .ok (.invokevirtual 260, 3) := by decide +kernel
theorem dX10_part_55 : decode cX10_part 55 = .ok (.pop, 1) := by decide +kernel
theorem dX10_part_56 : decode cX10_part 56 = .ok (.iload 4, 2) := by decide +kernel
theorem dX10_part_58 : decode cX10_part 58 = .ok (.aload_n 0, 1) := by decide +kernel
theorem dX10_part_59 : decode cX10_part 59 = .ok (.getfield 67, 3) := by decide +kernel
theorem dX10_part_62 : decode cX10_part 62 = .ok (.getfield 183, 3) := by decide +kernel
theorem dX10_part_65 : decode cX10_part 65 = .ok (.isub, 1) := by decide +kernel
theorem dX10_part_66 : decode cX10_part 66 = .ok (.ireturn, 1) := by decide +kernel
theorem dX10_same_0 : decode cX10_same 0 = .ok (.aload_n 0, 1) := by decide +kernel
theorem dX10_same_1 : decode cX10_same 1 = .ok (.getfield 46, 3) := by decide +kernel
theorem dX10_same_4 : decode cX10_same 4 = .ok (.iload_n 1, 1) := by decide +kernel
theorem dX10_same_5 : decode cX10_same 5 = .ok (.invokevirtual 166, 3) := by decide +kernel
theorem dX10_same_8 : decode cX10_same 8 = .ok (.ifCond .eq 14, 3) := by decide +kernel
theorem dX10_same_11 : decode cX10_same 11 = .ok (.aload_n 0, 1) := by decide +kernel
theorem dX10_same_12 : decode cX10_same 12 = .ok (.getfield 46, 3) := by decide +kernel
theorem dX10_same_15 : decode cX10_same 15 = .ok (.iload_n 2, 1) := by decide +kernel
theorem dX10_same_16 : decode cX10_same 16 = .ok (.invokevirtual 166, 3) := by decide +kernel
theorem dX10_same_19 : decode cX10_same 19 = .ok (.ifCond .ne 5, 3) := by decide +kernel
theorem dX10_same_22 : decode cX10_same 22 = .ok (.iconst (-1), 1) := by decide +kernel
theorem dX10_same_23 : decode cX10_same 23 = .ok (.ireturn, 1) := by decide +kernel
theorem dX10_same_24 : decode cX10_same 24 = .ok (.iload_n 1, 1) := by decide +kernel
theorem dX10_same_25 : decode cX10_same 25 = .ok (.iload_n 2, 1) := by decide +kernel
theorem dX10_same_26 : decode cX10_same 26 = .ok (.if_icmp .ne 6, 3) := by decide +kernel
theorem dX10_same_29 : decode cX10_same 29 = .ok (.bipush (-2), 2) := by decide +kernel
theorem dX10_same_31 : decode cX10_same 31 = .ok (.ireturn, 1) := by decide +kernel
theorem dX10_same_32 : decode cX10_same 32 = .ok (.aload_n 0, 1) := by decide +kernel
theorem dX10_same_33 : decode cX10_same 33 = .ok (.iload_n 1, 1) := by decide +kernel
theorem dX10_same_34 : decode cX10_same 34 = .ok (.iload_n 2, 1) := by decide +kernel
theorem dX10_same_35 : decode cX10_same 35 = .ok (.invokevirtual 264, 3) := by decide +kernel
theorem dX10_same_38 : decode cX10_same 38 = .ok (.aload_n 0, 1) := by decide +kernel
theorem dX10_same_39 : decode cX10_same 39 = .ok (.getfield 23, 3) := by decide +kernel
theorem dX10_same_42 : decode cX10_same 42 = .ok (.aload_n 0, 1) := by decide +kernel
theorem dX10_same_43 : decode cX10_same 43 = .ok (.getfield 67, 3) := by decide +kernel
theorem dX10_same_46 : decode cX10_same 46 = .ok (.invokevirtual 162, 3) := by decide +kernel
theorem dX10_same_49 : decode cX10_same 49 = .ok (.ifCond .eq 7, 3) := by decide +kernel
theorem dX10_same_52 : decode cX10_same 52 = .ok (.iconst 1, 1) := by decide +kernel
theorem dX10_same_53 : decode cX10_same 53 = .ok (.goto 4, 3) := by decide +kernel
theorem dX10_same_56 : decode cX10_same 56 = .ok (.iconst 0, 1) := by decide +kernel
theorem dX10_same_57 : decode cX10_same 57 = .ok (.ireturn, 1) := by decide +kernel
theorem dX10_merge_0 : decode cX10_merge 0 = .ok (.aload_n 0, 1) := by decide +kernel
theorem dX10_merge_1 : decode cX10_merge 1 = .ok (.getfield 46, 3) := by decide +kernel
theorem dX10_merge_4 : decode cX10_merge 4 = .ok (.iload_n 1, 1) := by decide +kernel
theorem dX10_merge_5 : decode cX10_merge 5 = .ok (.invokevirtual 166, 3) := by decide +kernel
theorem dX10_merge_8 : decode cX10_merge 8 = .ok (.ifCond .eq 14, 3) := by decide +kernel
theorem dX10_merge_11 : decode cX10_merge 11 = .ok (.aload_n 0, 1) := by decide +kernel
theorem dX10_merge_12 : decode cX10_merge 12 = .ok (.getfield 46, 3) := by decide +kernel
theorem dX10_merge_15 : decode cX10_merge 15 = .ok (.iload_n 2, 1) := by decide +kernel
theorem dX10_merge_16 : decode cX10_merge 16 = .ok (.invokevirtual 166, 3) := by decide +kernel
theorem dX10_merge_19 : decode cX10_merge 19 = .ok (.ifCond .ne 5, 3) := by decide +kernel
theorem dX10_merge_22 : decode cX10_merge 22 = .ok (.iconst (-1), 1) := by decide +kernel
theorem dX10_merge_23 : decode cX10_merge 23 = .ok (.ireturn, 1) := by decide +kernel
theorem dX10_merge_24 : decode cX10_merge 24 = .ok (.iload_n 1, 1) := by decide +kernel
theorem dX10_merge_25 : decode cX10_merge 25 = .ok (.iload_n 2, 1) := by decide +kernel
theorem dX10_merge_26 : decode cX10_merge 26 = .ok (.if_icmp .ne 6, 3) := by decide +kernel
theorem dX10_merge_29 : decode cX10_merge 29 = .ok (.bipush (-2), 2) := by decide +kernel
theorem dX10_merge_31 : decode cX10_merge 31 = .ok (.ireturn, 1) := by decide +kernel
theorem dX10_merge_32 : decode cX10_merge 32 = .ok (.iload_n 1, 1) := by decide +kernel
theorem dX10_merge_33 : decode cX10_merge 33 = .ok (.iload_n 2, 1) := by decide +kernel
theorem dX10_merge_34 : decode cX10_merge 34 = .ok (.invokestatic 268, 3) := by decide +kernel
theorem dX10_merge_37 : decode cX10_merge 37 = .ok (.istore_n 3, 1) := by decide +kernel
theorem dX10_merge_38 : decode cX10_merge 38 = .ok (.iload_n 1, 1) := by decide +kernel
theorem dX10_merge_39 : decode cX10_merge 39 = .ok (.iload_n 2, 1) := by decide +kernel
theorem dX10_merge_40 : decode cX10_merge 40 = .ok (.invokestatic 273, 3) := by decide +kernel
theorem dX10_merge_43 : decode cX10_merge 43 = .ok (.istore 4, 2) := by decide +kernel
theorem dX10_merge_45 : decode cX10_merge 45 = .ok (.aload_n 0, 1) := by decide +kernel
theorem dX10_merge_46 : decode cX10_merge 46 = .ok (.iload_n 3, 1) := by decide +kernel
theorem dX10_merge_47 : decode cX10_merge 47 = .ok (.iload 4, 2) := by decide +kernel
theorem dX10_merge_49 : decode cX10_merge 49 = .ok (.invokevirtual 264, 3) := by decide +kernel
theorem dX10_merge_52 : decode cX10_merge 52 = .ok (.aload_n 0, 1) := by decide +kernel
theorem dX10_merge_53 : decode cX10_merge 53 = .ok (.getfield 23, 3) := by decide +kernel
theorem dX10_merge_56 : decode cX10_merge 56 = .ok (.aload_n 0, 1) := by decide +kernel
theorem dX10_merge_57 : decode cX10_merge 57 = .ok (.getfield 67, 3) := by decide +kernel
theorem dX10_merge_60 : decode cX10_merge 60 = .ok (.invokevirtual 162, 3) := by decide +kernel
theorem dX10_merge_63 : decode cX10_merge 63 = .ok (.ifCond .ne 6, 3) := by decide +kernel
theorem dX10_merge_66 : decode cX10_merge 66 = .ok (.bipush (-3), 2) := by decide +kernel
theorem dX10_merge_68 : decode cX10_merge 68 = .ok (.ireturn, 1) := by decide +kernel
theorem dX10_merge_69 : decode cX10_merge 69 = .ok (.aload_n 0, 1) := by decide +kernel
theorem dX10_merge_70 : decode cX10_merge 70 = .ok (.getfield 67, 3) := by decide +kernel
theorem dX10_merge_73 : decode cX10_merge 73 = .ok (.getfield 183, 3) := by decide +kernel
theorem dX10_merge_76 : decode cX10_merge 76 = .ok (.bipush 8, 2) := by decide +kernel
theorem dX10_merge_78 : decode cX10_merge 78 = .ok (.if_icmp .le 6, 3) := by decide +kernel
theorem dX10_merge_81 : decode cX10_merge 81 = .ok (.bipush (-4), 2) := by decide +kernel
theorem dX10_merge_83 : decode cX10_merge 83 = .ok (.ireturn, 1) := by decide +kernel
theorem dX10_merge_84 : decode cX10_merge 84 = .ok (.aload_n 0, 1) := by decide +kernel
theorem dX10_merge_85 : decode cX10_merge 85 = .ok (.iload_n 3, 1) := by decide +kernel
theorem dX10_merge_86 : decode cX10_merge 86 = .ok (.invokevirtual 260, 3) := by decide +kernel
theorem dX10_merge_89 : decode cX10_merge 89 = .ok (.astore 5, 2) := by decide +kernel
theorem dX10_merge_91 : decode cX10_merge 91 = .ok (.aload 5, 2) := by decide +kernel
theorem dX10_merge_93 : decode cX10_merge 93 = .ok (.iload 4, 2) := by decide +kernel
theorem dX10_merge_95 : decode cX10_merge 95 = .ok (.putfield 276, 3) := by decide +kernel
theorem dX10_merge_98 : decode cX10_merge 98 = .ok (.aload_n 0, 1) := by decide +kernel
theorem dX10_merge_99 : decode cX10_merge 99 = .ok (.getfield 46, 3) := by decide +kernel
theorem dX10_merge_102 : decode cX10_merge 102 = .ok (.getfield 167, 3) := by decide +kernel
theorem dX10_merge_105 : decode cX10_merge 105 = .ok (.iload 4, 2) := by decide +kernel
theorem dX10_merge_107 : decode cX10_merge 107 = .ok (.aaload, 1) := by decide +kernel
theorem dX10_merge_108 : decode cX10_merge 108 = .ok (.iconst 1, 1) := by decide +kernel
theorem dX10_merge_109 : decode cX10_merge 109 = .ok (.putfield 195, 3) := by decide +kernel
theorem dX10_merge_112 : decode cX10_merge 112 = .ok (.iload_n 3, 1) := by decide +kernel
theorem dX10_merge_113 : decode cX10_merge 113 = .ok (.ireturn, 1) := by decide +kernel
theorem dX10_undo_0 : decode cX10_undo 0 = .ok (.aload_n 0, 1) := by decide +kernel
theorem dX10_undo_1 : decode cX10_undo 1 = .ok (.getfield 53, 3) := by decide +kernel
theorem dX10_undo_4 : decode cX10_undo 4 = .ok (.invokevirtual 281, 3) := by decide +kernel
theorem dX10_undo_7 : decode cX10_undo 7 = .ok (.astore_n 1, 1) := by decide +kernel
theorem dX10_undo_8 : decode cX10_undo 8 = .ok (.aload_n 1, 1) := by decide +kernel
theorem dX10_undo_9 : decode cX10_undo 9 = .ok (.ifnonnull 6, 3) := by decide +kernel
theorem dX10_undo_12 : decode cX10_undo 12 = .ok (.bipush (-3), 2) := by decide +kernel
theorem dX10_undo_14 : decode cX10_undo 14 = .ok (.ireturn, 1) := by decide +kernel
theorem dX10_undo_15 : decode cX10_undo 15 = .ok (.aload_n 0, 1) := by decide +kernel
theorem dX10_undo_16 : decode cX10_undo 16 = .ok (.getfield 46, 3) := by decide +kernel
theorem dX10_undo_19 : decode cX10_undo 19 = .ok (.aload_n 1, 1) := by decide +kernel
theorem dX10_undo_20 : decode cX10_undo 20 = .ok (.getfield 285, 3) := by decide +kernel
theorem dX10_undo_23 : decode cX10_undo 23 = .ok (.aload_n 1, 1) := by decide +kernel
theorem dX10_undo_24 : decode cX10_undo 24 = .ok (.getfield 287, 3) := by decide +kernel
theorem dX10_undo_27 : decode cX10_undo 27 = .ok (.invokevirtual 290, 3) := by decide +kernel
theorem dX10_undo_30 : decode cX10_undo 30 = .ok (.aload_n 1, 1) := by decide +kernel
theorem dX10_undo_31 : decode cX10_undo 31 = .ok (.getfield 294, 3) := by decide +kernel
theorem dX10_undo_34 : decode cX10_undo 34 = .ok (.ifCond .eq 19, 3) := by decide +kernel
theorem dX10_undo_37 : decode cX10_undo 37 = .ok (.aload_n 0, 1) := by decide +kernel
theorem dX10_undo_38 : decode cX10_undo 38 = .ok (.getfield 46, 3) := by decide +kernel
theorem dX10_undo_41 : decode cX10_undo 41 = .ok (.getfield 167, 3) := by decide +kernel
theorem dX10_undo_44 : decode cX10_undo 44 = .ok (.aload_n 1, 1) := by decide +kernel
theorem dX10_undo_45 : decode cX10_undo 45 = .ok (.getfield 285, 3) := by decide +kernel
theorem dX10_undo_48 : decode cX10_undo 48 = .ok (.aaload, 1) := by decide +kernel
theorem dX10_undo_49 : decode cX10_undo 49 = .ok (.iconst 1, 1) := by decide +kernel
theorem dX10_undo_50 : decode cX10_undo 50 = .ok (.putfield 195, 3) := by decide +kernel
theorem dX10_undo_53 : decode cX10_undo 53 = .ok (.aload_n 1, 1) := by decide +kernel
theorem dX10_undo_54 : decode cX10_undo 54 = .ok (.getfield 276, 3) := by decide +kernel
theorem dX10_undo_57 : decode cX10_undo 57 = .ok (.iconst (-1), 1) := by decide +kernel
theorem dX10_undo_58 : decode cX10_undo 58 = .ok (.if_icmp .eq 14, 3) := by decide +kernel
theorem dX10_undo_61 : decode cX10_undo 61 = .ok (.aload_n 0, 1) := by decide +kernel
theorem dX10_undo_62 : decode cX10_undo 62 = .ok (.getfield 46, 3) := by decide +kernel
theorem dX10_undo_65 : decode cX10_undo 65 = .ok (.aload_n 1, 1) := by decide +kernel
theorem dX10_undo_66 : decode cX10_undo 66 = .ok (.getfield 276, 3) := by decide +kernel
theorem dX10_undo_69 : decode cX10_undo 69 = .ok (.invokevirtual 297, 3) := by decide +kernel
theorem dX10_undo_72 : decode cX10_undo 72 = .ok (.aload_n 0, 1) := by decide +kernel
theorem dX10_undo_73 : decode cX10_undo 73 = .ok (.getfield 39, 3) := by decide +kernel
theorem dX10_undo_76 : decode cX10_undo 76 = .ok (.invokevirtual 86, 3) := by decide +kernel
theorem dX10_undo_79 : decode cX10_undo 79 = .ok (.aload_n 0, 1) := by decide +kernel
theorem dX10_undo_80 : decode cX10_undo 80 = .ok (.getfield 53, 3) := by decide +kernel
theorem dX10_undo_83 : decode cX10_undo 83 = .ok (.getfield 300, 3) := by decide +kernel
theorem dX10_undo_86 : decode cX10_undo 86 = .ok (.ireturn, 1) := by decide +kernel
theorem dX10_count_0 : decode cX10_count 0 = .ok (.iload_n 1, 1) := by decide +kernel
theorem dX10_count_1 : decode cX10_count 1 = .ok (.tableswitch 111 0 7 #[47, 55, 63, 71, 79, 87, 95, 103], 47) := by decide +kernel
theorem dX10_count_48 : decode cX10_count 48 = .ok (.aload_n 0, 1) := by decide +kernel
theorem dX10_count_49 : decode cX10_count 49 = .ok (.getfield 14, 3) := by decide +kernel
theorem dX10_count_52 : decode cX10_count 52 = .ok (.getfield 303, 3) := by decide +kernel
theorem dX10_count_55 : decode cX10_count 55 = .ok (.ireturn, 1) := by decide +kernel
theorem dX10_count_56 : decode cX10_count 56 = .ok (.aload_n 0, 1) := by decide +kernel
theorem dX10_count_57 : decode cX10_count 57 = .ok (.getfield 14, 3) := by decide +kernel
theorem dX10_count_60 : decode cX10_count 60 = .ok (.invokevirtual 306, 3) := by decide +kernel
theorem dX10_count_63 : decode cX10_count 63 = .ok (.ireturn, 1) := by decide +kernel
theorem dX10_count_64 : decode cX10_count 64 = .ok (.aload_n 0, 1) := by decide +kernel
theorem dX10_count_65 : decode cX10_count 65 = .ok (.getfield 46, 3) := by decide +kernel
theorem dX10_count_68 : decode cX10_count 68 = .ok (.invokevirtual 309, 3) := by decide +kernel
theorem dX10_count_71 : decode cX10_count 71 = .ok (.ireturn, 1) := by decide +kernel
theorem dX10_count_72 : decode cX10_count 72 = .ok (.aload_n 0, 1) := by decide +kernel
theorem dX10_count_73 : decode cX10_count 73 = .ok (.getfield 46, 3) := by decide +kernel
theorem dX10_count_76 : decode cX10_count 76 = .ok (.getfield 189, 3) := by decide +kernel
theorem dX10_count_79 : decode cX10_count 79 = .ok (.ireturn, 1) := by decide +kernel
theorem dX10_count_80 : decode cX10_count 80 = .ok (.aload_n 0, 1) := by decide +kernel
theorem dX10_count_81 : decode cX10_count 81 = .ok (.getfield 30, 3) := by decide +kernel
theorem dX10_count_84 : decode cX10_count 84 = .ok (.getfield 89, 3) := by decide +kernel
theorem dX10_count_87 : decode cX10_count 87 = .ok (.ireturn, 1) := by decide +kernel
theorem dX10_count_88 : decode cX10_count 88 = .ok (.aload_n 0, 1) := by decide +kernel
theorem dX10_count_89 : decode cX10_count 89 = .ok (.getfield 23, 3) := by decide +kernel
theorem dX10_count_92 : decode cX10_count 92 = .ok (.getfield 93, 3) := by decide +kernel
theorem dX10_count_95 : decode cX10_count 95 = .ok (.ireturn, 1) := by decide +kernel
theorem dX10_count_96 : decode cX10_count 96 = .ok (.aload_n 0, 1) := by decide +kernel
theorem dX10_count_97 : decode cX10_count 97 = .ok (.getfield 23, 3) := by decide +kernel
theorem dX10_count_100 : decode cX10_count 100 = .ok (.getfield 96, 3) := by decide +kernel
theorem dX10_count_103 : decode cX10_count 103 = .ok (.ireturn, 1) := by decide +kernel
theorem dX10_count_104 : decode cX10_count 104 = .ok (.aload_n 0, 1) := by decide +kernel
theorem dX10_count_105 : decode cX10_count 105 = .ok (.getfield 53, 3) := by decide +kernel
theorem dX10_count_108 : decode cX10_count 108 = .ok (.getfield 300, 3) := by decide +kernel
theorem dX10_count_111 : decode cX10_count 111 = .ok (.ireturn, 1) := by decide +kernel
theorem dX10_count_112 : decode cX10_count 112 = .ok (.iconst (-1), 1) := by decide +kernel
theorem dX10_count_113 : decode cX10_count 113 = .ok (.ireturn, 1) := by decide +kernel
theorem dX10_isWithin_0 : decode cX10_isWithin 0 = .ok (.iload_n 0, 1) := by decide +kernel
theorem dX10_isWithin_1 : decode cX10_isWithin 1 = .ok (.iload_n 1, 1) := by decide +kernel
theorem dX10_isWithin_2 : decode cX10_isWithin 2 = .ok (.if_icmp .lt 12, 3) := by decide +kernel
theorem dX10_isWithin_5 : decode cX10_isWithin 5 = .ok (.iload_n 0, 1) := by decide +kernel
theorem dX10_isWithin_6 : decode cX10_isWithin 6 = .ok (.iload_n 2, 1) := by decide +kernel
theorem dX10_isWithin_7 : decode cX10_isWithin 7 = .ok (.if_icmp .gt 7, 3) := by decide +kernel
theorem dX10_isWithin_10 : decode cX10_isWithin 10 = .ok (.iconst 1, 1) := by decide +kernel
theorem dX10_isWithin_11 : decode cX10_isWithin 11 = .ok (.goto 4, 3) := by decide +kernel
theorem dX10_isWithin_14 : decode cX10_isWithin 14 = .ok (.iconst 0, 1) := by decide +kernel
theorem dX10_isWithin_15 : decode cX10_isWithin 15 = .ok (.ireturn, 1) := by decide +kernel
theorem dX10_isName_0 : decode cX10_isName 0 = .ok (.iload_n 0, 1) := by decide +kernel
theorem dX10_isName_1 : decode cX10_isName 1 = .ok (.iconst 0, 1) := by decide +kernel
theorem dX10_isName_2 : decode cX10_isName 2 = .ok (.sipush 999, 3) := by decide +kernel
theorem dX10_isName_5 : decode cX10_isName 5 = .ok (.invokestatic 71, 3) := by decide +kernel
theorem dX10_isName_8 : decode cX10_isName 8 = .ok (.ireturn, 1) := by decide +kernel
theorem dX10_dotOfRow_0 : decode cX10_dotOfRow 0 = .ok (.iload_n 1, 1) := by decide +kernel
theorem dX10_dotOfRow_1 : decode cX10_dotOfRow 1 = .ok (.bipush 10, 2) := by decide +kernel
theorem dX10_dotOfRow_3 : decode cX10_dotOfRow 3 = .ok (.if_icmp .lt 14, 3) := by decide +kernel
theorem dX10_dotOfRow_6 : decode cX10_dotOfRow 6 = .ok (.iload_n 1, 1) := by decide +kernel
theorem dX10_dotOfRow_7 : decode cX10_dotOfRow 7 = .ok (.bipush 10, 2) := by decide +kernel
theorem dX10_dotOfRow_9 : decode cX10_dotOfRow 9 = .ok (.isub, 1) := by decide +kernel
theorem dX10_dotOfRow_10 : decode cX10_dotOfRow 10 = .ok (.aload_n 0, 1) := by decide +kernel
theorem dX10_dotOfRow_11 : decode cX10_dotOfRow 11 = .ok (.getfield 183, 3) := by decide +kernel
theorem dX10_dotOfRow_14 : decode cX10_dotOfRow 14 = .ok (.if_icmp .lt 5, 3) := by decide +kernel
theorem dX10_dotOfRow_17 : decode cX10_dotOfRow 17 = .ok (.iconst (-1), 1) := by decide +kernel
theorem dX10_dotOfRow_18 : decode cX10_dotOfRow 18 = .ok (.ireturn, 1) := by decide +kernel
theorem dX10_dotOfRow_19 : decode cX10_dotOfRow 19 = .ok (.aload_n 0, 1) := by decide +kernel
theorem dX10_dotOfRow_20 : decode cX10_dotOfRow 20 = .ok (.getfield 241, 3) := by decide +kernel
theorem dX10_dotOfRow_23 : decode cX10_dotOfRow 23 = .ok (.iload_n 1, 1) := by decide +kernel
theorem dX10_dotOfRow_24 : decode cX10_dotOfRow 24 = .ok (.bipush 10, 2) := by decide +kernel
theorem dX10_dotOfRow_26 : decode cX10_dotOfRow 26 = .ok (.isub, 1) := by decide +kernel
theorem dX10_dotOfRow_27 : decode cX10_dotOfRow 27 = .ok (.iaload, 1) := by decide +kernel
theorem dX10_dotOfRow_28 : decode cX10_dotOfRow 28 = .ok (.ireturn, 1) := by decide +kernel
theorem dX10_begin_0 : decode cX10_begin 0 = .ok (.aload_n 0, 1) := by decide +kernel
theorem dX10_begin_1 : decode cX10_begin 1 = .ok (.getfield 46, 3) := by decide +kernel
theorem dX10_begin_4 : decode cX10_begin 4 = .ok (.iload_n 1, 1) := by decide +kernel
theorem dX10_begin_5 : decode cX10_begin 5 = .ok (.invokevirtual 312, 3) := by decide +kernel
theorem dX10_begin_8 : decode cX10_begin 8 = .ok (.istore_n 2, 1) := by decide +kernel
theorem dX10_begin_9 : decode cX10_begin 9 = .ok (.iload_n 2, 1) := by decide +kernel
theorem dX10_begin_10 : decode cX10_begin 10 = .ok (.bipush (-4), 2) := by decide +kernel
theorem dX10_begin_12 : decode cX10_begin 12 = .ok (.if_icmp .eq 14, 3) := by decide +kernel
theorem dX10_begin_15 : decode cX10_begin 15 = .ok (.aload_n 0, 1) := by decide +kernel
theorem dX10_begin_16 : decode cX10_begin 16 = .ok (.iload_n 2, 1) := by decide +kernel
theorem dX10_begin_17 : decode cX10_begin 17 = .ok (.invokevirtual 260, 3) := by decide +kernel
theorem dX10_begin_20 : decode cX10_begin 20 = .ok (.astore_n 3, 1) := by decide +kernel
theorem dX10_begin_21 : decode cX10_begin 21 = .ok (.aload_n 3, 1) := by decide +kernel
theorem dX10_begin_22 : decode cX10_begin 22 = .ok (.iconst 1, 1) := by decide +kernel
theorem dX10_begin_23 : decode cX10_begin 23 = .ok (.putfield 294, 3) := by decide +kernel
theorem dX10_begin_26 : decode cX10_begin 26 = .ok (.iload_n 2, 1) := by decide +kernel
theorem dX10_begin_27 : decode cX10_begin 27 = .ok (.ireturn, 1) := by decide +kernel
theorem dX10_joinGroup_0 : decode cX10_joinGroup 0 = .ok (.aload_n 0, 1) := by decide +kernel
theorem dX10_joinGroup_1 : decode cX10_joinGroup 1 = .ok (.getfield 23, 3) := by decide +kernel
theorem dX10_joinGroup_4 : decode cX10_joinGroup 4 = .ok (.aload_n 0, 1) := by decide +kernel
theorem dX10_joinGroup_5 : decode cX10_joinGroup 5 = .ok (.getfield 67, 3) := by decide +kernel
theorem dX10_joinGroup_8 : decode cX10_joinGroup 8 = .ok (.invokevirtual 162, 3) := by decide +kernel
theorem dX10_joinGroup_11 : decode cX10_joinGroup 11 = .ok (.ifCond .ne 6, 3) := by decide +kernel
theorem dX10_joinGroup_14 : decode cX10_joinGroup 14 = .ok (.bipush (-3), 2) := by decide +kernel
theorem dX10_joinGroup_16 : decode cX10_joinGroup 16 = .ok (.ireturn, 1) := by decide +kernel
theorem dX10_joinGroup_17 : decode cX10_joinGroup 17 = .ok (.aload_n 0, 1) := by decide +kernel
theorem dX10_joinGroup_18 : decode cX10_joinGroup 18 = .ok (.getfield 67, 3) := by decide +kernel
theorem dX10_joinGroup_21 : decode cX10_joinGroup 21 = .ok (.getfield 183, 3) := by decide +kernel
theorem dX10_joinGroup_24 : decode cX10_joinGroup 24 = .ok (.bipush 8, 2) := by decide +kernel
theorem dX10_joinGroup_26 : decode cX10_joinGroup 26 = .ok (.if_icmp .le 8, 3) := by decide +kernel
theorem dX10_joinGroup_29 : decode cX10_joinGroup 29 = .ok (.bipush (-4), 2) := by decide +kernel
theorem dX10_joinGroup_31 : decode cX10_joinGroup 31 = .ok (.goto 8, 3) := by decide +kernel
theorem dX10_joinGroup_34 : decode cX10_joinGroup 34 = .ok (.aload_n 0, 1) := by decide +kernel
theorem dX10_joinGroup_35 : decode cX10_joinGroup 35 = .ok (.iload_n 1, 1) := by decide +kernel
theorem dX10_joinGroup_36 : decode cX10_joinGroup 36 = .ok (.invokevirtual 186, 3) := by decide +kernel
theorem dX10_joinGroup_39 : decode cX10_joinGroup 39 = .ok (.ireturn, 1) := by decide +kernel
theorem dX10_lengthen_0 : decode cX10_lengthen 0 = .ok (.aload_n 0, 1) := by decide +kernel
theorem dX10_lengthen_1 : decode cX10_lengthen 1 = .ok (.iload_n 1, 1) := by decide +kernel
theorem dX10_lengthen_2 : decode cX10_lengthen 2 = .ok (.invokevirtual 260, 3) := by decide +kernel
theorem dX10_lengthen_5 : decode cX10_lengthen 5 = .ok (.pop, 1) := by decide +kernel
theorem dX10_lengthen_6 : decode cX10_lengthen 6 = .ok (.aload_n 0, 1) := by decide +kernel
theorem dX10_lengthen_7 : decode cX10_lengthen 7 = .ok (.getfield 67, 3) := by decide +kernel
theorem dX10_lengthen_10 : decode cX10_lengthen 10 = .ok (.getfield 183, 3) := by decide +kernel
theorem dX10_lengthen_13 : decode cX10_lengthen 13 = .ok (.ireturn, 1) := by decide +kernel
theorem dX10_changeRow_0 : decode cX10_changeRow 0 = .ok (.aload_n 0, 1) := by decide +kernel
theorem dX10_changeRow_1 : decode cX10_changeRow 1 = .ok (.getfield 53, 3) := by decide +kernel
theorem dX10_changeRow_4 : decode cX10_changeRow 4 = .ok (.iload_n 1, 1) := by decide +kernel
theorem dX10_changeRow_5 : decode cX10_changeRow 5 = .ok (.aload_n 0, 1) := by decide +kernel
theorem dX10_changeRow_6 : decode cX10_changeRow 6 = .ok (.getfield 46, 3) := by decide +kernel
theorem dX10_changeRow_9 : decode cX10_changeRow 9 = .ok (.getfield 167, 3) := by decide +kernel
theorem dX10_changeRow_12 : decode cX10_changeRow 12 = .ok (.iload_n 1, 1) := by decide +kernel
theorem dX10_changeRow_13 : decode cX10_changeRow 13 = .ok (.aaload, 1) := by decide +kernel
theorem dX10_changeRow_14 : decode cX10_changeRow 14 = .ok (.getfield 171, 3) := by decide +kernel
theorem dX10_changeRow_17 : decode cX10_changeRow 17 = .ok (.invokevirtual 314, 3) := by decide +kernel
theorem dX10_changeRow_20 : decode cX10_changeRow 20 = .ok (.astore_n 2, 1) := by decide +kernel
theorem dX10_changeRow_21 : decode cX10_changeRow 21 = .ok (.aload_n 0, 1) := by decide +kernel
theorem dX10_changeRow_22 : decode cX10_changeRow 22 = .ok (.getfield 46, 3) := by decide +kernel
theorem dX10_changeRow_25 : decode cX10_changeRow 25 = .ok (.iload_n 1, 1) := by decide +kernel
theorem dX10_changeRow_26 : decode cX10_changeRow 26 = .ok (.aload_n 0, 1) := by decide +kernel
theorem dX10_changeRow_27 : decode cX10_changeRow 27 = .ok (.getfield 67, 3) := by decide +kernel
theorem dX10_changeRow_30 : decode cX10_changeRow 30 = .ok (.invokevirtual 290, 3) := by decide +kernel
theorem dX10_changeRow_33 : decode cX10_changeRow 33 = .ok (.aload_n 0, 1) := by decide +kernel
theorem dX10_changeRow_34 : decode cX10_changeRow 34 = .ok (.getfield 39, 3) := by decide +kernel
theorem dX10_changeRow_37 : decode cX10_changeRow 37 = .ok (.invokevirtual 86, 3) := by decide +kernel
theorem dX10_changeRow_40 : decode cX10_changeRow 40 = .ok (.aload_n 2, 1) := by decide +kernel
theorem dX10_changeRow_41 : decode cX10_changeRow 41 = .ok (.areturn, 1) := by decide +kernel
theorem dX10_gatherBoth_0 : decode cX10_gatherBoth 0 = .ok (.aload_n 0, 1) := by decide +kernel
theorem dX10_gatherBoth_1 : decode cX10_gatherBoth 1 = .ok (.getfield 67, 3) := by decide +kernel
theorem dX10_gatherBoth_4 : decode cX10_gatherBoth 4 = .ok (.aload_n 0, 1) := by decide +kernel
theorem dX10_gatherBoth_5 : decode cX10_gatherBoth 5 = .ok (.getfield 46, 3) := by decide +kernel
theorem dX10_gatherBoth_8 : decode cX10_gatherBoth 8 = .ok (.getfield 167, 3) := by decide +kernel
theorem dX10_gatherBoth_11 : decode cX10_gatherBoth 11 = .ok (.iload_n 1, 1) := by decide +kernel
theorem dX10_gatherBoth_12 : decode cX10_gatherBoth 12 = .ok (.aaload, 1) := by decide +kernel
theorem dX10_gatherBoth_13 : decode cX10_gatherBoth 13 = .ok (.getfield 171, 3) := by decide +kernel
theorem dX10_gatherBoth_16 : decode cX10_gatherBoth 16 = .ok (.invokevirtual 176, 3) := by decide +kernel
theorem dX10_gatherBoth_19 : decode cX10_gatherBoth 19 = .ok (.aload_n 0, 1) := by decide +kernel
theorem dX10_gatherBoth_20 : decode cX10_gatherBoth 20 = .ok (.getfield 67, 3) := by decide +kernel
theorem dX10_gatherBoth_23 : decode cX10_gatherBoth 23 = .ok (.aload_n 0, 1) := by decide +kernel
theorem dX10_gatherBoth_24 : decode cX10_gatherBoth 24 = .ok (.getfield 46, 3) := by decide +kernel
theorem dX10_gatherBoth_27 : decode cX10_gatherBoth 27 = .ok (.getfield 167, 3) := by decide +kernel
theorem dX10_gatherBoth_30 : decode cX10_gatherBoth 30 = .ok (.iload_n 2, 1) := by decide +kernel
theorem dX10_gatherBoth_31 : decode cX10_gatherBoth 31 = .ok (.aaload, 1) := by decide +kernel
theorem dX10_gatherBoth_32 : decode cX10_gatherBoth 32 = .ok (.getfield 171, 3) := by decide +kernel
theorem dX10_gatherBoth_35 : decode cX10_gatherBoth 35 = .ok (.invokevirtual 318, 3) := by decide +kernel
theorem dX10_gatherBoth_38 : decode cX10_gatherBoth 38 = .ok (.return_, 1) := by decide +kernel
theorem dX10_lay_0 : decode cX10_lay 0 = .ok (.aload_n 0, 1) := by decide +kernel
theorem dX10_lay_1 : decode cX10_lay 1 = .ok (.getfield 46, 3) := by decide +kernel
theorem dX10_lay_4 : decode cX10_lay 4 = .ok (.iload_n 1, 1) := by decide +kernel
theorem dX10_lay_5 : decode cX10_lay 5 = .ok (.invokevirtual 166, 3) := by decide +kernel
theorem dX10_lay_8 : decode cX10_lay 8 = .ok (.ifCond .eq 43, 3) := by decide +kernel
theorem dX10_lay_11 : decode cX10_lay 11 = .ok (.iload_n 2, 1) := by decide +kernel
theorem dX10_lay_12 : decode cX10_lay 12 = .ok (.iconst 0, 1) := by decide +kernel
theorem dX10_lay_13 : decode cX10_lay 13 = .ok (.iconst 1, 1) := by decide +kernel
theorem dX10_lay_14 : decode cX10_lay 14 = .ok (.invokestatic 71, 3) := by decide +kernel
theorem dX10_lay_17 : decode cX10_lay 17 = .ok (.ifCond .eq 34, 3) := by decide +kernel
theorem dX10_lay_20 : decode cX10_lay 20 = .ok (.aload_n 0, 1) := by decide +kernel
theorem dX10_lay_21 : decode cX10_lay 21 = .ok (.getfield 60, 3) := by decide +kernel
theorem dX10_lay_24 : decode cX10_lay 24 = .ok (.aload_n 0, 1) := by decide +kernel
theorem dX10_lay_25 : decode cX10_lay 25 = .ok (.getfield 14, 3) := by decide +kernel
theorem dX10_lay_28 : decode cX10_lay 28 = .ok (.aload_n 0, 1) := by decide +kernel
theorem dX10_lay_29 : decode cX10_lay 29 = .ok (.getfield 46, 3) := by decide +kernel
theorem dX10_lay_32 : decode cX10_lay 32 = .ok (.getfield 167, 3) := by decide +kernel
theorem dX10_lay_35 : decode cX10_lay 35 = .ok (.iload_n 1, 1) := by decide +kernel
theorem dX10_lay_36 : decode cX10_lay 36 = .ok (.aaload, 1) := by decide +kernel
theorem dX10_lay_37 : decode cX10_lay 37 = .ok (.getfield 171, 3) := by decide +kernel
theorem dX10_lay_40 : decode cX10_lay 40 = .ok (.iload_n 2, 1) := by decide +kernel
theorem dX10_lay_41 : decode cX10_lay 41 = .ok (.invokevirtual 321, 3) := by decide +kernel
theorem dX10_lay_44 : decode cX10_lay 44 = .ok (.ifCond .eq 7, 3) := by decide +kernel
theorem dX10_lay_47 : decode cX10_lay 47 = .ok (.iconst 1, 1) := by decide +kernel
theorem dX10_lay_48 : decode cX10_lay 48 = .ok (.goto 4, 3) := by decide +kernel
theorem dX10_lay_51 : decode cX10_lay 51 = .ok (.iconst 0, 1) := by decide +kernel
theorem dX10_lay_52 : decode cX10_lay 52 = .ok (.ireturn, 1) := by decide +kernel
theorem dX10_parting_0 : decode cX10_parting 0 = .ok (.iconst 1, 1) := by decide +kernel
theorem dX10_parting_1 : decode cX10_parting 1 = .ok (.aload_n 1, 1) := by decide +kernel
theorem dX10_parting_2 : decode cX10_parting 2 = .ok (.getfield 183, 3) := by decide +kernel
theorem dX10_parting_5 : decode cX10_parting 5 = .ok (.ishl, 1) := by decide +kernel
theorem dX10_parting_6 : decode cX10_parting 6 = .ok (.iconst 1, 1) := by decide +kernel
theorem dX10_parting_7 : decode cX10_parting 7 = .ok (.isub, 1) := by decide +kernel
theorem dX10_parting_8 : decode cX10_parting 8 = .ok (.istore_n 2, 1) := by decide +kernel
theorem dX10_parting_9 : decode cX10_parting 9 = .ok (.iload_n 2, 1) := by decide +kernel
theorem dX10_parting_10 : decode cX10_parting 10 = .ok (.istore_n 3, 1) := by decide +kernel
theorem dX10_parting_11 : decode cX10_parting 11 = .ok (.iload_n 3, 1) := by decide +kernel
theorem dX10_parting_12 : decode cX10_parting 12 = .ok (.ifCond .lt 42, 3) := by decide +kernel
theorem dX10_parting_15 : decode cX10_parting 15 = .ok (.iload_n 3, 1) := by decide +kernel
theorem dX10_parting_16 : decode cX10_parting 16 = .ok (.invokestatic 325, 3) := by decide +kernel
theorem dX10_parting_19 : decode cX10_parting 19 = .ok (.iload_n 2, 1) := by decide +kernel
theorem dX10_parting_20 : decode cX10_parting 20 = .ok (.invokestatic 325, 3) := by decide +kernel
theorem dX10_parting_23 : decode cX10_parting 23 = .ok (.if_icmp .ge 25, 3) := by decide +kernel
theorem dX10_parting_26 : decode cX10_parting 26 = .ok (.aload_n 0, 1) := by decide +kernel
theorem dX10_parting_27 : decode cX10_parting 27 = .ok (.aload_n 1, 1) := by decide +kernel
theorem dX10_parting_28 : decode cX10_parting 28 = .ok (.iload_n 3, 1) := by decide +kernel
theorem dX10_parting_29 : decode cX10_parting 29 = .ok (.invokevirtual 256, 3) := by decide +kernel
theorem dX10_parting_32 : decode cX10_parting 32 = .ok (.aload_n 0, 1) := by decide +kernel
theorem dX10_parting_33 : decode cX10_parting 33 = .ok (.getfield 23, 3) := by decide +kernel
theorem dX10_parting_36 : decode cX10_parting 36 = .ok (.aload_n 0, 1) := by decide +kernel
theorem dX10_parting_37 : decode cX10_parting 37 = .ok (.getfield 67, 3) := by decide +kernel
theorem dX10_parting_40 : decode cX10_parting 40 = .ok (.invokevirtual 162, 3) := by decide +kernel
theorem dX10_parting_43 : decode cX10_parting 43 = .ok (.ifCond .eq 5, 3) := by decide +kernel
theorem dX10_parting_46 : decode cX10_parting 46 = .ok (.iload_n 3, 1) := by decide +kernel
theorem dX10_parting_47 : decode cX10_parting 47 = .ok (.istore_n 2, 1) := by decide +kernel
theorem dX10_parting_48 : decode cX10_parting 48 = .ok (.iinc 3 (-1), 3) := by decide +kernel
theorem dX10_parting_51 : decode cX10_parting 51 = .ok (.goto (-40), 3) := by decide +kernel
theorem dX10_parting_54 : decode cX10_parting 54 = .ok (.iload_n 2, 1) := by decide +kernel
theorem dX10_parting_55 : decode cX10_parting 55 = .ok (.ireturn, 1) := by decide +kernel
theorem dX10_keepStaying_0 : decode cX10_keepStaying 0 = .ok (.aload_n 0, 1) := by decide +kernel
theorem dX10_keepStaying_1 : decode cX10_keepStaying 1 = .ok (.getfield 67, 3) := by decide +kernel
theorem dX10_keepStaying_4 : decode cX10_keepStaying 4 = .ok (.invokevirtual 153, 3) := by decide +kernel
theorem dX10_keepStaying_7 : decode cX10_keepStaying 7 = .ok (.iconst 0, 1) := by decide +kernel
theorem dX10_keepStaying_8 : decode cX10_keepStaying 8 = .ok (.istore_n 3, 1) := by decide +kernel
theorem dX10_keepStaying_9 : decode cX10_keepStaying 9 = .ok (.iload_n 3, 1) := by decide +kernel
theorem dX10_keepStaying_10 : decode cX10_keepStaying 10 = .ok (.aload_n 1, 1) := by decide +kernel
theorem dX10_keepStaying_11 : decode cX10_keepStaying 11 = .ok (.getfield 183, 3) := by decide +kernel
theorem dX10_keepStaying_14 : decode cX10_keepStaying 14 = .ok (.if_icmp .ge 37, 3) := by decide +kernel
theorem dX10_keepStaying_17 : decode cX10_keepStaying 17 = .ok (.iload_n 2, 1) := by decide +kernel
theorem dX10_keepStaying_18 : decode cX10_keepStaying 18 = .ok (.aload_n 1, 1) := by decide +kernel
theorem dX10_keepStaying_19 : decode cX10_keepStaying 19 = .ok (.getfield 183, 3) := by decide +kernel
theorem dX10_keepStaying_22 : decode cX10_keepStaying 22 = .ok (.iconst 1, 1) := by decide +kernel
theorem dX10_keepStaying_23 : decode cX10_keepStaying 23 = .ok (.isub, 1) := by decide +kernel
theorem dX10_keepStaying_24 : decode cX10_keepStaying 24 = .ok (.iload_n 3, 1) := by decide +kernel
theorem dX10_keepStaying_25 : decode cX10_keepStaying 25 = .ok (.isub, 1) := by decide +kernel
theorem dX10_keepStaying_26 : decode cX10_keepStaying 26 = .ok (.ishr, 1) := by decide +kernel
theorem dX10_keepStaying_27 : decode cX10_keepStaying 27 = .ok (.iconst 1, 1) := by decide +kernel
theorem dX10_keepStaying_28 : decode cX10_keepStaying 28 = .ok (.iand, 1) := by decide +kernel
theorem dX10_keepStaying_29 : decode cX10_keepStaying 29 = .ok (.ifCond .ne 16, 3) := by decide +kernel
theorem dX10_keepStaying_32 : decode cX10_keepStaying 32 = .ok (.aload_n 0, 1) := by decide +kernel
theorem dX10_keepStaying_33 : decode cX10_keepStaying 33 = .ok (.getfield 67, 3) := by decide +kernel
theorem dX10_keepStaying_36 : decode cX10_keepStaying 36 = .ok (.aload_n 1, 1) := by decide +kernel
theorem dX10_keepStaying_37 : decode cX10_keepStaying 37 = .ok (.getfield 241, 3) := by decide +kernel
theorem dX10_keepStaying_40 : decode cX10_keepStaying 40 = .ok (.iload_n 3, 1) := by decide +kernel
theorem dX10_keepStaying_41 : decode cX10_keepStaying 41 = .ok (.iaload, 1) := by decide +kernel
theorem dX10_keepStaying_42 : decode cX10_keepStaying 42 = .ok (.invokevirtual 156, 3) := by decide +kernel
theorem dX10_keepStaying_45 : decode cX10_keepStaying 45 = .ok (.iinc 3 1, 3) := by decide +kernel
theorem dX10_keepStaying_48 : decode cX10_keepStaying 48 = .ok (.goto (-39), 3) := by decide +kernel
theorem dX10_keepStaying_51 : decode cX10_keepStaying 51 = .ok (.return_, 1) := by decide +kernel
