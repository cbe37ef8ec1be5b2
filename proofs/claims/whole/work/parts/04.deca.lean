theorem dX0_init_0 : decode cX0_init 0 = .ok (.aload_n 0, 1) := by decide +kernel
theorem dX0_init_1 : decode cX0_init 1 = .ok (.invokespecial 1, 3) := by decide +kernel
theorem dX0_init_4 : decode cX0_init 4 = .ok (.aload_n 0, 1) := by decide +kernel
theorem dX0_init_5 : decode cX0_init 5 = .ok (.new 7, 3) := by decide +kernel
theorem dX0_init_8 : decode cX0_init 8 = .ok (.dup, 1) := by decide +kernel
theorem dX0_init_9 : decode cX0_init 9 = .ok (.invokespecial 9, 3) := by decide +kernel
theorem dX0_init_12 : decode cX0_init 12 = .ok (.putfield 10, 3) := by decide +kernel
theorem dX0_init_15 : decode cX0_init 15 = .ok (.return_, 1) := by decide +kernel
theorem dX1_init_0 : decode cX1_init 0 = .ok (.aload_n 0, 1) := by decide +kernel
theorem dX1_init_1 : decode cX1_init 1 = .ok (.invokespecial 3, 3) := by decide +kernel
theorem dX1_init_4 : decode cX1_init 4 = .ok (.aload_n 0, 1) := by decide +kernel
theorem dX1_init_5 : decode cX1_init 5 = .ok (.bipush 30, 2) := by decide +kernel
theorem dX1_init_7 : decode cX1_init 7 = .ok (.anewarray 9, 3) := by decide +kernel
theorem dX1_init_10 : decode cX1_init 10 = .ok (.putfield 11, 3) := by decide +kernel
theorem dX1_init_13 : decode cX1_init 13 = .ok (.iconst 0, 1) := by decide +kernel
theorem dX1_init_14 : decode cX1_init 14 = .ok (.istore_n 1, 1) := by decide +kernel
theorem dX1_init_15 : decode cX1_init 15 = .ok (.iload_n 1, 1) := by decide +kernel
theorem dX1_init_16 : decode cX1_init 16 = .ok (.bipush 30, 2) := by decide +kernel
theorem dX1_init_18 : decode cX1_init 18 = .ok (.if_icmp .ge 22, 3) := by decide +kernel
theorem dX1_init_21 : decode cX1_init 21 = .ok (.aload_n 0, 1) := by decide +kernel
theorem dX1_init_22 : decode cX1_init 22 = .ok (.getfield 11, 3) := by decide +kernel
theorem dX1_init_25 : decode cX1_init 25 = .ok (.iload_n 1, 1) := by decide +kernel
theorem dX1_init_26 : decode cX1_init 26 = .ok (.new 9, 3) := by decide +kernel
theorem dX1_init_29 : decode cX1_init 29 = .ok (.dup, 1) := by decide +kernel
theorem dX1_init_30 : decode cX1_init 30 = .ok (.invokespecial 17, 3) := by decide +kernel
theorem dX1_init_33 : decode cX1_init 33 = .ok (.aastore, 1) := by decide +kernel
theorem dX1_init_34 : decode cX1_init 34 = .ok (.iinc 1 1, 3) := by decide +kernel
theorem dX1_init_37 : decode cX1_init 37 = .ok (.goto (-22), 3) := by decide +kernel
theorem dX1_init_40 : decode cX1_init 40 = .ok (.return_, 1) := by decide +kernel
theorem dX1_keep_0 : decode cX1_keep 0 = .ok (.aload_n 0, 1) := by decide +kernel
theorem dX1_keep_1 : decode cX1_keep 1 = .ok (.getfield 11, 3) := by decide +kernel
theorem dX1_keep_4 : decode cX1_keep 4 = .ok (.aload_n 0, 1) := by decide +kernel
theorem dX1_keep_5 : decode cX1_keep 5 = .ok (.getfield 18, 3) := by decide +kernel
theorem dX1_keep_8 : decode cX1_keep 8 = .ok (.aaload, 1) := by decide +kernel
theorem dX1_keep_9 : decode cX1_keep 9 = .ok (.astore_n 3, 1) := by decide +kernel
theorem dX1_keep_10 : decode cX1_keep 10 = .ok (.aload_n 3, 1) := by decide +kernel
theorem dX1_keep_11 : decode cX1_keep 11 = .ok (.iload_n 1, 1) := by decide +kernel
theorem dX1_keep_12 : decode cX1_keep 12 = .ok (.putfield 22, 3) := by decide +kernel
theorem dX1_keep_15 : decode cX1_keep 15 = .ok (.aload_n 3, 1) := by decide +kernel
theorem dX1_keep_16 : decode cX1_keep 16 = .ok (.iconst 0, 1) := by decide +kernel
theorem dX1_keep_17 : decode cX1_keep 17 = .ok (.putfield 25, 3) := by decide +kernel
theorem dX1_keep_20 : decode cX1_keep 20 = .ok (.aload_n 3, 1) := by decide +kernel
theorem dX1_keep_21 : decode cX1_keep 21 = .ok (.iconst (-1), 1) := by decide +kernel
theorem dX1_keep_22 : decode cX1_keep 22 = .ok (.putfield 29, 3) := by decide +kernel
theorem dX1_keep_25 : decode cX1_keep 25 = .ok (.aload_n 3, 1) := by decide +kernel
theorem dX1_keep_26 : decode cX1_keep 26 = .ok (.getfield 32, 3) := by decide +kernel
theorem dX1_keep_29 : decode cX1_keep 29 = .ok (.aload_n 2, 1) := by decide +kernel
theorem dX1_keep_30 : decode cX1_keep 30 = .ok (.invokevirtual 36, 3) := by decide +kernel
theorem dX1_keep_33 : decode cX1_keep 33 = .ok (.aload_n 0, 1) := by decide +kernel
theorem dX1_keep_34 : decode cX1_keep 34 = .ok (.aload_n 0, 1) := by decide +kernel
theorem dX1_keep_35 : decode cX1_keep 35 = .ok (.getfield 18, 3) := by decide +kernel
theorem dX1_keep_38 : decode cX1_keep 38 = .ok (.iconst 1, 1) := by decide +kernel
theorem dX1_keep_39 : decode cX1_keep 39 = .ok (.iadd, 1) := by decide +kernel
theorem dX1_keep_40 : decode cX1_keep 40 = .ok (.bipush 30, 2) := by decide +kernel
theorem dX1_keep_42 : decode cX1_keep 42 = .ok (.irem, 1) := by decide +kernel
theorem dX1_keep_43 : decode cX1_keep 43 = .ok (.putfield 18, 3) := by decide +kernel
theorem dX1_keep_46 : decode cX1_keep 46 = .ok (.aload_n 0, 1) := by decide +kernel
theorem dX1_keep_47 : decode cX1_keep 47 = .ok (.aload_n 0, 1) := by decide +kernel
theorem dX1_keep_48 : decode cX1_keep 48 = .ok (.getfield 42, 3) := by decide +kernel
theorem dX1_keep_51 : decode cX1_keep 51 = .ok (.iconst 1, 1) := by decide +kernel
theorem dX1_keep_52 : decode cX1_keep 52 = .ok (.iadd, 1) := by decide +kernel
theorem dX1_keep_53 : decode cX1_keep 53 = .ok (.bipush 30, 2) := by decide +kernel
theorem dX1_keep_55 : decode cX1_keep 55 = .ok (.invokestatic 45, 3) := by decide +kernel
theorem dX1_keep_58 : decode cX1_keep 58 = .ok (.putfield 42, 3) := by decide +kernel
theorem dX1_keep_61 : decode cX1_keep 61 = .ok (.aload_n 3, 1) := by decide +kernel
theorem dX1_keep_62 : decode cX1_keep 62 = .ok (.areturn, 1) := by decide +kernel
theorem dX1_takeLatest_0 : decode cX1_takeLatest 0 = .ok (.aload_n 0, 1) := by decide +kernel
theorem dX1_takeLatest_1 : decode cX1_takeLatest 1 = .ok (.getfield 42, 3) := by decide +kernel
theorem dX1_takeLatest_4 : decode cX1_takeLatest 4 = .ok (.ifCond .ne 5, 3) := by decide +kernel
theorem dX1_takeLatest_7 : decode cX1_takeLatest 7 = .ok (.aconst_null, 1) := by decide +kernel
theorem dX1_takeLatest_8 : decode cX1_takeLatest 8 = .ok (.areturn, 1) := by decide +kernel
theorem dX1_takeLatest_9 : decode cX1_takeLatest 9 = .ok (.aload_n 0, 1) := by decide +kernel
theorem dX1_takeLatest_10 : decode cX1_takeLatest 10 = .ok (.aload_n 0, 1) := by decide +kernel
theorem dX1_takeLatest_11 : decode cX1_takeLatest 11 = .ok (.getfield 18, 3) := by decide +kernel
theorem dX1_takeLatest_14 : decode cX1_takeLatest 14 = .ok (.bipush 30, 2) := by decide +kernel
theorem dX1_takeLatest_16 : decode cX1_takeLatest 16 = .ok (.iadd, 1) := by decide +kernel
theorem dX1_takeLatest_17 : decode cX1_takeLatest 17 = .ok (.iconst 1, 1) := by decide +kernel
theorem dX1_takeLatest_18 : decode cX1_takeLatest 18 = .ok (.isub, 1) := by decide +kernel
theorem dX1_takeLatest_19 : decode cX1_takeLatest 19 = .ok (.bipush 30, 2) := by decide +kernel
theorem dX1_takeLatest_21 : decode cX1_takeLatest 21 = .ok (.irem, 1) := by decide +kernel
theorem dX1_takeLatest_22 : decode cX1_takeLatest 22 = .ok (.putfield 18, 3) := by decide +kernel
theorem dX1_takeLatest_25 : decode cX1_takeLatest 25 = .ok (.aload_n 0, 1) := by decide +kernel
theorem dX1_takeLatest_26 : decode cX1_takeLatest 26 = .ok (.dup, 1) := by decide +kernel
theorem dX1_takeLatest_27 : decode cX1_takeLatest 27 = .ok (.getfield 42, 3) := by decide +kernel
theorem dX1_takeLatest_30 : decode cX1_takeLatest 30 = .ok (.iconst 1, 1) := by decide +kernel
theorem dX1_takeLatest_31 : decode cX1_takeLatest 31 = .ok (.isub, 1) := by decide +kernel
theorem dX1_takeLatest_32 : decode cX1_takeLatest 32 = .ok (.putfield 42, 3) := by decide +kernel
theorem dX1_takeLatest_35 : decode cX1_takeLatest 35 = .ok (.aload_n 0, 1) := by decide +kernel
theorem dX1_takeLatest_36 : decode cX1_takeLatest 36 = .ok (.getfield 11, 3) := by decide +kernel
theorem dX1_takeLatest_39 : decode cX1_takeLatest 39 = .ok (.aload_n 0, 1) := by decide +kernel
theorem dX1_takeLatest_40 : decode cX1_takeLatest 40 = .ok (.getfield 18, 3) := by decide +kernel
theorem dX1_takeLatest_43 : decode cX1_takeLatest 43 = .ok (.aaload, 1) := by decide +kernel
theorem dX1_takeLatest_44 : decode cX1_takeLatest 44 = .ok (.areturn, 1) := by decide +kernel
theorem dX1_forgetAll_0 : decode cX1_forgetAll 0 = .ok (.aload_n 0, 1) := by decide +kernel
theorem dX1_forgetAll_1 : decode cX1_forgetAll 1 = .ok (.iconst 0, 1) := by decide +kernel
theorem dX1_forgetAll_2 : decode cX1_forgetAll 2 = .ok (.putfield 42, 3) := by decide +kernel
theorem dX1_forgetAll_5 : decode cX1_forgetAll 5 = .ok (.return_, 1) := by decide +kernel
theorem dX2_init_0 : decode cX2_init 0 = .ok (.aload_n 0, 1) := by decide +kernel
theorem dX2_init_1 : decode cX2_init 1 = .ok (.invokespecial 1, 3) := by decide +kernel
theorem dX2_init_4 : decode cX2_init 4 = .ok (.aload_n 0, 1) := by decide +kernel
theorem dX2_init_5 : decode cX2_init 5 = .ok (.bipush 10, 2) := by decide +kernel
theorem dX2_init_7 : decode cX2_init 7 = .ok (.putfield 7, 3) := by decide +kernel
theorem dX2_init_10 : decode cX2_init 10 = .ok (.aload_n 0, 1) := by decide +kernel
theorem dX2_init_11 : decode cX2_init 11 = .ok (.aload_n 1, 1) := by decide +kernel
theorem dX2_init_12 : decode cX2_init 12 = .ok (.putfield 13, 3) := by decide +kernel
theorem dX2_init_15 : decode cX2_init 15 = .ok (.return_, 1) := by decide +kernel
theorem dX2_isBit_0 : decode cX2_isBit 0 = .ok (.aload_n 0, 1) := by decide +kernel
theorem dX2_isBit_1 : decode cX2_isBit 1 = .ok (.getfield 13, 3) := by decide +kernel
theorem dX2_isBit_4 : decode cX2_isBit 4 = .ok (.getfield 17, 3) := by decide +kernel
theorem dX2_isBit_7 : decode cX2_isBit 7 = .ok (.iload_n 2, 1) := by decide +kernel
theorem dX2_isBit_8 : decode cX2_isBit 8 = .ok (.iaload, 1) := by decide +kernel
theorem dX2_isBit_9 : decode cX2_isBit 9 = .ok (.aload_n 0, 1) := by decide +kernel
theorem dX2_isBit_10 : decode cX2_isBit 10 = .ok (.getfield 13, 3) := by decide +kernel
theorem dX2_isBit_13 : decode cX2_isBit 13 = .ok (.getfield 17, 3) := by decide +kernel
theorem dX2_isBit_16 : decode cX2_isBit 16 = .ok (.iload_n 1, 1) := by decide +kernel
theorem dX2_isBit_17 : decode cX2_isBit 17 = .ok (.iaload, 1) := by decide +kernel
theorem dX2_isBit_18 : decode cX2_isBit 18 = .ok (.isub, 1) := by decide +kernel
theorem dX2_isBit_19 : decode cX2_isBit 19 = .ok (.istore_n 3, 1) := by decide +kernel
theorem dX2_isBit_20 : decode cX2_isBit 20 = .ok (.iload_n 3, 1) := by decide +kernel
theorem dX2_isBit_21 : decode cX2_isBit 21 = .ok (.ifCond .le 110, 3) := by decide +kernel
theorem dX2_isBit_24 : decode cX2_isBit 24 = .ok (.aload_n 0, 1) := by decide +kernel
theorem dX2_isBit_25 : decode cX2_isBit 25 = .ok (.getfield 13, 3) := by decide +kernel
theorem dX2_isBit_28 : decode cX2_isBit 28 = .ok (.iload_n 1, 1) := by decide +kernel
theorem dX2_isBit_29 : decode cX2_isBit 29 = .ok (.invokevirtual 23, 3) := by decide +kernel
theorem dX2_isBit_32 : decode cX2_isBit 32 = .ok (.ifCond .eq 99, 3) := by decide +kernel
theorem dX2_isBit_35 : decode cX2_isBit 35 = .ok (.aload_n 0, 1) := by decide +kernel
theorem dX2_isBit_36 : decode cX2_isBit 36 = .ok (.getfield 13, 3) := by decide +kernel
theorem dX2_isBit_39 : decode cX2_isBit 39 = .ok (.iload_n 2, 1) := by decide +kernel
theorem dX2_isBit_40 : decode cX2_isBit 40 = .ok (.invokevirtual 23, 3) := by decide +kernel
theorem dX2_isBit_43 : decode cX2_isBit 43 = .ok (.ifCond .eq 88, 3) := by decide +kernel
theorem dX2_isBit_46 : decode cX2_isBit 46 = .ok (.aload_n 0, 1) := by decide +kernel
theorem dX2_isBit_47 : decode cX2_isBit 47 = .ok (.getfield 13, 3) := by decide +kernel
theorem dX2_isBit_50 : decode cX2_isBit 50 = .ok (.iload_n 1, 1) := by decide +kernel
theorem dX2_isBit_51 : decode cX2_isBit 51 = .ok (.invokevirtual 27, 3) := by decide +kernel
theorem dX2_isBit_54 : decode cX2_isBit 54 = .ok (.aload_n 0, 1) := by decide +kernel
theorem dX2_isBit_55 : decode cX2_isBit 55 = .ok (.getfield 13, 3) := by decide +kernel
theorem dX2_isBit_58 : decode cX2_isBit 58 = .ok (.iload_n 2, 1) := by decide +kernel
theorem dX2_isBit_59 : decode cX2_isBit 59 = .ok (.invokevirtual 27, 3) := by decide +kernel
theorem dX2_isBit_62 : decode cX2_isBit 62 = .ok (.if_icmp .ne 69, 3) := by decide +kernel
theorem dX2_isBit_65 : decode cX2_isBit 65 = .ok (.aload_n 0, 1) := by decide +kernel
theorem dX2_isBit_66 : decode cX2_isBit 66 = .ok (.getfield 13, 3) := by decide +kernel
theorem dX2_isBit_69 : decode cX2_isBit 69 = .ok (.getfield 31, 3) := by decide +kernel
theorem dX2_isBit_72 : decode cX2_isBit 72 = .ok (.iload_n 2, 1) := by decide +kernel
theorem dX2_isBit_73 : decode cX2_isBit 73 = .ok (.iaload, 1) := by decide +kernel
theorem dX2_isBit_74 : decode cX2_isBit 74 = .ok (.aload_n 0, 1) := by decide +kernel
theorem dX2_isBit_75 : decode cX2_isBit 75 = .ok (.getfield 13, 3) := by decide +kernel
theorem dX2_isBit_78 : decode cX2_isBit 78 = .ok (.getfield 31, 3) := by decide +kernel
theorem dX2_isBit_81 : decode cX2_isBit 81 = .ok (.iload_n 1, 1) := by decide +kernel
theorem dX2_isBit_82 : decode cX2_isBit 82 = .ok (.iaload, 1) := by decide +kernel
theorem dX2_isBit_83 : decode cX2_isBit 83 = .ok (.isub, 1) := by decide +kernel
theorem dX2_isBit_84 : decode cX2_isBit 84 = .ok (.invokestatic 34, 3) := by decide +kernel
theorem dX2_isBit_87 : decode cX2_isBit 87 = .ok (.aload_n 0, 1) := by decide +kernel
theorem dX2_isBit_88 : decode cX2_isBit 88 = .ok (.getfield 7, 3) := by decide +kernel
theorem dX2_isBit_91 : decode cX2_isBit 91 = .ok (.iload_n 3, 1) := by decide +kernel
theorem dX2_isBit_92 : decode cX2_isBit 92 = .ok (.imul, 1) := by decide +kernel
theorem dX2_isBit_93 : decode cX2_isBit 93 = .ok (.if_icmp .gt 38, 3) := by decide +kernel
theorem dX2_isBit_96 : decode cX2_isBit 96 = .ok (.aload_n 0, 1) := by decide +kernel
theorem dX2_isBit_97 : decode cX2_isBit 97 = .ok (.getfield 13, 3) := by decide +kernel
theorem dX2_isBit_100 : decode cX2_isBit 100 = .ok (.getfield 39, 3) := by decide +kernel
theorem dX2_isBit_103 : decode cX2_isBit 103 = .ok (.iload_n 2, 1) := by decide +kernel
theorem dX2_isBit_104 : decode cX2_isBit 104 = .ok (.iaload, 1) := by decide +kernel
theorem dX2_isBit_105 : decode cX2_isBit 105 = .ok (.aload_n 0, 1) := by decide +kernel
theorem dX2_isBit_106 : decode cX2_isBit 106 = .ok (.getfield 13, 3) := by decide +kernel
theorem dX2_isBit_109 : decode cX2_isBit 109 = .ok (.getfield 39, 3) := by decide +kernel
theorem dX2_isBit_112 : decode cX2_isBit 112 = .ok (.iload_n 1, 1) := by decide +kernel
theorem dX2_isBit_113 : decode cX2_isBit 113 = .ok (.iaload, 1) := by decide +kernel
theorem dX2_isBit_114 : decode cX2_isBit 114 = .ok (.isub, 1) := by decide +kernel
theorem dX2_isBit_115 : decode cX2_isBit 115 = .ok (.invokestatic 34, 3) := by decide +kernel
theorem dX2_isBit_118 : decode cX2_isBit 118 = .ok (.aload_n 0, 1) := by decide +kernel
theorem dX2_isBit_119 : decode cX2_isBit 119 = .ok (.getfield 7, 3) := by decide +kernel
theorem dX2_isBit_122 : decode cX2_isBit 122 = .ok (.iload_n 3, 1) := by decide +kernel
theorem dX2_isBit_123 : decode cX2_isBit 123 = .ok (.imul, 1) := by decide +kernel
theorem dX2_isBit_124 : decode cX2_isBit 124 = .ok (.if_icmp .gt 7, 3) := by decide +kernel
theorem dX2_isBit_127 : decode cX2_isBit 127 = .ok (.iconst 1, 1) := by decide +kernel
theorem dX2_isBit_128 : decode cX2_isBit 128 = .ok (.goto 4, 3) := by decide +kernel
theorem dX2_isBit_131 : decode cX2_isBit 131 = .ok (.iconst 0, 1) := by decide +kernel
theorem dX2_isBit_132 : decode cX2_isBit 132 = .ok (.ireturn, 1) := by decide +kernel
theorem dX2_total_0 : decode cX2_total 0 = .ok (.iconst 0, 1) := by decide +kernel
theorem dX2_total_1 : decode cX2_total 1 = .ok (.istore_n 1, 1) := by decide +kernel
theorem dX2_total_2 : decode cX2_total 2 = .ok (.iconst 0, 1) := by decide +kernel
theorem dX2_total_3 : decode cX2_total 3 = .ok (.istore_n 2, 1) := by decide +kernel
theorem dX2_total_4 : decode cX2_total 4 = .ok (.iload_n 2, 1) := by decide +kernel
theorem dX2_total_5 : decode cX2_total 5 = .ok (.aload_n 0, 1) := by decide +kernel
theorem dX2_total_6 : decode cX2_total 6 = .ok (.getfield 13, 3) := by decide +kernel
theorem dX2_total_9 : decode cX2_total 9 = .ok (.getfield 42, 3) := by decide +kernel
theorem dX2_total_12 : decode cX2_total 12 = .ok (.if_icmp .ge 40, 3) := by decide +kernel
theorem dX2_total_15 : decode cX2_total 15 = .ok (.iconst 0, 1) := by decide +kernel
theorem dX2_total_16 : decode cX2_total 16 = .ok (.istore_n 3, 1) := by decide +kernel
theorem dX2_total_17 : decode cX2_total 17 = .ok (.iload_n 3, 1) := by decide +kernel
theorem dX2_total_18 : decode cX2_total 18 = .ok (.aload_n 0, 1) := by decide +kernel
theorem dX2_total_19 : decode cX2_total 19 = .ok (.getfield 13, 3) := by decide +kernel
theorem dX2_total_22 : decode cX2_total 22 = .ok (.getfield 42, 3) := by decide +kernel
theorem dX2_total_25 : decode cX2_total 25 = .ok (.if_icmp .ge 21, 3) := by decide +kernel
theorem dX2_total_28 : decode cX2_total 28 = .ok (.aload_n 0, 1) := by decide +kernel
theorem dX2_total_29 : decode cX2_total 29 = .ok (.iload_n 2, 1) := by decide +kernel
theorem dX2_total_30 : decode cX2_total 30 = .ok (.iload_n 3, 1) := by decide +kernel
theorem dX2_total_31 : decode cX2_total 31 = .ok (.invokevirtual 45, 3) := by decide +kernel
theorem dX2_total_34 : decode cX2_total 34 = .ok (.ifCond .eq 6, 3) := by decide +kernel
theorem dX2_total_37 : decode cX2_total 37 = .ok (.iinc 1 1, 3) := by decide +kernel
theorem dX2_total_40 : decode cX2_total 40 = .ok (.iinc 3 1, 3) := by decide +kernel
theorem dX2_total_43 : decode cX2_total 43 = .ok (.goto (-26), 3) := by decide +kernel
theorem dX2_total_46 : decode cX2_total 46 = .ok (.iinc 2 1, 3) := by decide +kernel
theorem dX2_total_49 : decode cX2_total 49 = .ok (.goto (-45), 3) := by decide +kernel
theorem dX2_total_52 : decode cX2_total 52 = .ok (.iload_n 1, 1) := by decide +kernel
theorem dX2_total_53 : decode cX2_total 53 = .ok (.ireturn, 1) := by decide +kernel
theorem dX2_seek_0 : decode cX2_seek 0 = .ok (.iload_n 1, 1) := by decide +kernel
theorem dX2_seek_1 : decode cX2_seek 1 = .ok (.istore_n 2, 1) := by decide +kernel
theorem dX2_seek_2 : decode cX2_seek 2 = .ok (.iconst 0, 1) := by decide +kernel
theorem dX2_seek_3 : decode cX2_seek 3 = .ok (.istore_n 3, 1) := by decide +kernel
theorem dX2_seek_4 : decode cX2_seek 4 = .ok (.iload_n 3, 1) := by decide +kernel
theorem dX2_seek_5 : decode cX2_seek 5 = .ok (.aload_n 0, 1) := by decide +kernel
theorem dX2_seek_6 : decode cX2_seek 6 = .ok (.getfield 13, 3) := by decide +kernel
theorem dX2_seek_9 : decode cX2_seek 9 = .ok (.getfield 42, 3) := by decide +kernel
theorem dX2_seek_12 : decode cX2_seek 12 = .ok (.if_icmp .ge 64, 3) := by decide +kernel
theorem dX2_seek_15 : decode cX2_seek 15 = .ok (.iload_n 2, 1) := by decide +kernel
theorem dX2_seek_16 : decode cX2_seek 16 = .ok (.ifCond .lt 60, 3) := by decide +kernel
theorem dX2_seek_19 : decode cX2_seek 19 = .ok (.iconst 0, 1) := by decide +kernel
theorem dX2_seek_20 : decode cX2_seek 20 = .ok (.istore 4, 2) := by decide +kernel
theorem dX2_seek_22 : decode cX2_seek 22 = .ok (.iload 4, 2) := by decide +kernel
theorem dX2_seek_24 : decode cX2_seek 24 = .ok (.aload_n 0, 1) := by decide +kernel
theorem dX2_seek_25 : decode cX2_seek 25 = .ok (.getfield 13, 3) := by decide +kernel
theorem dX2_seek_28 : decode cX2_seek 28 = .ok (.getfield 42, 3) := by decide +kernel
theorem dX2_seek_31 : decode cX2_seek 31 = .ok (.if_icmp .ge 39, 3) := by decide +kernel
theorem dX2_seek_34 : decode cX2_seek 34 = .ok (.aload_n 0, 1) := by decide +kernel
theorem dX2_seek_35 : decode cX2_seek 35 = .ok (.iload_n 3, 1) := by decide +kernel
theorem dX2_seek_36 : decode cX2_seek 36 = .ok (.iload 4, 2) := by decide +kernel
theorem dX2_seek_38 : decode cX2_seek 38 = .ok (.invokevirtual 45, 3) := by decide +kernel
theorem dX2_seek_41 : decode cX2_seek 41 = .ok (.ifCond .eq 23, 3) := by decide +kernel
theorem dX2_seek_44 : decode cX2_seek 44 = .ok (.iload_n 2, 1) := by decide +kernel
theorem dX2_seek_45 : decode cX2_seek 45 = .ok (.ifCond .ne 16, 3) := by decide +kernel
theorem dX2_seek_48 : decode cX2_seek 48 = .ok (.aload_n 0, 1) := by decide +kernel
theorem dX2_seek_49 : decode cX2_seek 49 = .ok (.iload_n 3, 1) := by decide +kernel
theorem dX2_seek_50 : decode cX2_seek 50 = .ok (.putfield 49, 3) := by decide +kernel
theorem dX2_seek_53 : decode cX2_seek 53 = .ok (.aload_n 0, 1) := by decide +kernel
theorem dX2_seek_54 : decode cX2_seek 54 = .ok (.iload 4, 2) := by decide +kernel
theorem dX2_seek_56 : decode cX2_seek 56 = .ok (.putfield 52, 3) := by decide +kernel
theorem dX2_seek_59 : decode cX2_seek 59 = .ok (.iconst 1, 1) := by decide +kernel
theorem dX2_seek_60 : decode cX2_seek 60 = .ok (.ireturn, 1) := by decide +kernel
theorem dX2_seek_61 : decode cX2_seek 61 = .ok (.iinc 2 (-1), 3) := by decide +kernel
theorem dX2_seek_64 : decode cX2_seek 64 = .ok (.iinc 4 1, 3) := by decide +kernel
theorem dX2_seek_67 : decode cX2_seek 67 = .ok (.goto (-45), 3) := by decide +kernel
theorem dX2_seek_70 : decode cX2_seek 70 = .ok (.iinc 3 1, 3) := by decide +kernel
theorem dX2_seek_73 : decode cX2_seek 73 = .ok (.goto (-69), 3) := by decide +kernel
theorem dX2_seek_76 : decode cX2_seek 76 = .ok (.iconst 0, 1) := by decide +kernel
theorem dX2_seek_77 : decode cX2_seek 77 = .ok (.ireturn, 1) := by decide +kernel
theorem dX3_init_0 : decode cX3_init 0 = .ok (.aload_n 0, 1) := by decide +kernel
theorem dX3_init_1 : decode cX3_init 1 = .ok (.invokespecial 3, 3) := by decide +kernel
theorem dX3_init_4 : decode cX3_init 4 = .ok (.return_, 1) := by decide +kernel
theorem dX3_through_0 : decode cX3_through 0 = .ok (.aload_n 0, 1) := by decide +kernel
theorem dX3_through_1 : decode cX3_through 1 = .ok (.aload_n 2, 1) := by decide +kernel
theorem dX3_through_2 : decode cX3_through 2 = .ok (.getfield 9, 3) := by decide +kernel
theorem dX3_through_5 : decode cX3_through 5 = .ok (.i2l, 1) := by decide +kernel
theorem dX3_through_6 : decode cX3_through 6 = .ok (.putfield 15, 3) := by decide +kernel
theorem dX3_through_9 : decode cX3_through 9 = .ok (.aload_n 0, 1) := by decide +kernel
theorem dX3_through_10 : decode cX3_through 10 = .ok (.lconst 0, 1) := by decide +kernel
theorem dX3_through_11 : decode cX3_through 11 = .ok (.putfield 21, 3) := by decide +kernel
theorem dX3_through_14 : decode cX3_through 14 = .ok (.aload_n 0, 1) := by decide +kernel
theorem dX3_through_15 : decode cX3_through 15 = .ok (.lconst 0, 1) := by decide +kernel
theorem dX3_through_16 : decode cX3_through 16 = .ok (.putfield 24, 3) := by decide +kernel
theorem dX3_through_19 : decode cX3_through 19 = .ok (.lconst 0, 1) := by decide +kernel
theorem dX3_through_20 : decode cX3_through 20 = .ok (.lstore 4, 2) := by decide +kernel
theorem dX3_through_22 : decode cX3_through 22 = .ok (.lconst 0, 1) := by decide +kernel
theorem dX3_through_23 : decode cX3_through 23 = .ok (.lstore 6, 2) := by decide +kernel
theorem dX3_through_25 : decode cX3_through 25 = .ok (.iconst 0, 1) := by decide +kernel
theorem dX3_through_26 : decode cX3_through 26 = .ok (.istore 8, 2) := by decide +kernel
theorem dX3_through_28 : decode cX3_through 28 = .ok (.iload 8, 2) := by decide +kernel
theorem dX3_through_30 : decode cX3_through 30 = .ok (.aload_n 2, 1) := by decide +kernel
theorem dX3_through_31 : decode cX3_through 31 = .ok (.getfield 9, 3) := by decide +kernel
theorem dX3_through_34 : decode cX3_through 34 = .ok (.if_icmp .ge 81, 3) := by decide +kernel
theorem dX3_through_37 : decode cX3_through 37 = .ok (.aload_n 1, 1) := by decide +kernel
theorem dX3_through_38 : decode cX3_through 38 = .ok (.getfield 27, 3) := by decide +kernel
theorem dX3_through_41 : decode cX3_through 41 = .ok (.aload_n 2, 1) := by decide +kernel
theorem dX3_through_42 : decode cX3_through 42 = .ok (.getfield 33, 3) := by decide +kernel
theorem dX3_through_45 : decode cX3_through 45 = .ok (.iload 8, 2) := by decide +kernel
theorem dX3_through_47 : decode cX3_through 47 = .ok (.iaload, 1) := by decide +kernel
theorem dX3_through_48 : decode cX3_through 48 = .ok (.iaload, 1) := by decide +kernel
theorem dX3_through_49 : decode cX3_through 49 = .ok (.i2l, 1) := by decide +kernel
theorem dX3_through_50 : decode cX3_through 50 = .ok (.lstore 9, 2) := by decide +kernel
theorem dX3_through_52 : decode cX3_through 52 = .ok (.aload_n 1, 1) := by decide +kernel
theorem dX3_through_53 : decode cX3_through 53 = .ok (.aload_n 2, 1) := by decide +kernel
theorem dX3_through_54 : decode cX3_through 54 = .ok (.getfield 33, 3) := by decide +kernel
theorem dX3_through_57 : decode cX3_through 57 = .ok (.iload 8, 2) := by decide +kernel
theorem dX3_through_59 : decode cX3_through 59 = .ok (.iaload, 1) := by decide +kernel
theorem dX3_through_60 : decode cX3_through 60 = .ok (.iload_n 3, 1) := by decide +kernel
theorem dX3_through_61 : decode cX3_through 61 = .ok (.invokevirtual 35, 3) := by decide +kernel
theorem dX3_through_64 : decode cX3_through 64 = .ok (.i2l, 1) := by decide +kernel
theorem dX3_through_65 : decode cX3_through 65 = .ok (.lstore 11, 2) := by decide +kernel
theorem dX3_through_67 : decode cX3_through 67 = .ok (.aload_n 0, 1) := by decide +kernel
theorem dX3_through_68 : decode cX3_through 68 = .ok (.dup, 1) := by decide +kernel
theorem dX3_through_69 : decode cX3_through 69 = .ok (.getfield 21, 3) := by decide +kernel
theorem dX3_through_72 : decode cX3_through 72 = .ok (.lload 9, 2) := by decide +kernel
theorem dX3_through_74 : decode cX3_through 74 = .ok (.ladd, 1) := by decide +kernel
theorem dX3_through_75 : decode cX3_through 75 = .ok (.putfield 21, 3) := by decide +kernel
theorem dX3_through_78 : decode cX3_through 78 = .ok (.aload_n 0, 1) := by decide +kernel
theorem dX3_through_79 : decode cX3_through 79 = .ok (.dup, 1) := by decide +kernel
theorem dX3_through_80 : decode cX3_through 80 = .ok (.getfield 24, 3) := by decide +kernel
theorem dX3_through_83 : decode cX3_through 83 = .ok (.lload 11, 2) := by decide +kernel
theorem dX3_through_85 : decode cX3_through 85 = .ok (.ladd, 1) := by decide +kernel
theorem dX3_through_86 : decode cX3_through 86 = .ok (.putfield 24, 3) := by decide +kernel
theorem dX3_through_89 : decode cX3_through 89 = .ok (.lload 4, 2) := by decide +kernel
theorem dX3_through_91 : decode cX3_through 91 = .ok (.lload 9, 2) := by decide +kernel
theorem dX3_through_93 : decode cX3_through 93 = .ok (.lload 9, 2) := by decide +kernel
theorem dX3_through_95 : decode cX3_through 95 = .ok (.lmul, 1) := by decide +kernel
theorem dX3_through_96 : decode cX3_through 96 = .ok (.ladd, 1) := by decide +kernel
theorem dX3_through_97 : decode cX3_through 97 = .ok (.lstore 4, 2) := by decide +kernel
theorem dX3_through_99 : decode cX3_through 99 = .ok (.lload 6, 2) := by decide +kernel
theorem dX3_through_101 : decode cX3_through 101 = .ok (.lload 9, 2) := by decide +kernel
theorem dX3_through_103 : decode cX3_through 103 = .ok (.lload 11, 2) := by decide +kernel
theorem dX3_through_105 : decode cX3_through 105 = .ok (.lmul, 1) := by decide +kernel
theorem dX3_through_106 : decode cX3_through 106 = .ok (.ladd, 1) := by decide +kernel
theorem dX3_through_107 : decode cX3_through 107 = .ok (.lstore 6, 2) := by decide +kernel
theorem dX3_through_109 : decode cX3_through 109 = .ok (.iinc 8 1, 3) := by decide +kernel
theorem dX3_through_112 : decode cX3_through 112 = .ok (.goto (-84), 3) := by decide +kernel
theorem dX3_through_115 : decode cX3_through 115 = .ok (.aload_n 0, 1) := by decide +kernel
theorem dX3_through_116 : decode cX3_through 116 = .ok (.aload_n 0, 1) := by decide +kernel
theorem dX3_through_117 : decode cX3_through 117 = .ok (.getfield 15, 3) := by decide +kernel
theorem dX3_through_120 : decode cX3_through 120 = .ok (.lload 6, 2) := by decide +kernel
theorem dX3_through_122 : decode cX3_through 122 = .ok (.lmul, 1) := by decide +kernel
theorem dX3_through_123 : decode cX3_through 123 = .ok (.aload_n 0, 1) := by decide +kernel
theorem dX3_through_124 : decode cX3_through 124 = .ok (.getfield 21, 3) := by decide +kernel
theorem dX3_through_127 : decode cX3_through 127 = .ok (.aload_n 0, 1) := by decide +kernel
theorem dX3_through_128 : decode cX3_through 128 = .ok (.getfield 24, 3) := by decide +kernel
theorem dX3_through_131 : decode cX3_through 131 = .ok (.lmul, 1) := by decide +kernel
theorem dX3_through_132 : decode cX3_through 132 = .ok (.lsub, 1) := by decide +kernel
theorem dX3_through_133 : decode cX3_through 133 = .ok (.putfield 39, 3) := by decide +kernel
theorem dX3_through_136 : decode cX3_through 136 = .ok (.aload_n 0, 1) := by decide +kernel
theorem dX3_through_137 : decode cX3_through 137 = .ok (.aload_n 0, 1) := by decide +kernel
theorem dX3_through_138 : decode cX3_through 138 = .ok (.getfield 15, 3) := by decide +kernel
theorem dX3_through_141 : decode cX3_through 141 = .ok (.lload 4, 2) := by decide +kernel
theorem dX3_through_143 : decode cX3_through 143 = .ok (.lmul, 1) := by decide +kernel
theorem dX3_through_144 : decode cX3_through 144 = .ok (.aload_n 0, 1) := by decide +kernel
theorem dX3_through_145 : decode cX3_through 145 = .ok (.getfield 21, 3) := by decide +kernel
theorem dX3_through_148 : decode cX3_through 148 = .ok (.aload_n 0, 1) := by decide +kernel
theorem dX3_through_149 : decode cX3_through 149 = .ok (.getfield 21, 3) := by decide +kernel
theorem dX3_through_152 : decode cX3_through 152 = .ok (.lmul, 1) := by decide +kernel
theorem dX3_through_153 : decode cX3_through 153 = .ok (.lsub, 1) := by decide +kernel
theorem dX3_through_154 : decode cX3_through 154 = .ok (.putfield 42, 3) := by decide +kernel
theorem dX3_through_157 : decode cX3_through 157 = .ok (.aload_n 0, 1) := by decide +kernel
theorem dX3_through_158 : decode cX3_through 158 = .ok (.getfield 42, 3) := by decide +kernel
theorem dX3_through_161 : decode cX3_through 161 = .ok (.lconst 0, 1) := by decide +kernel
theorem dX3_through_162 : decode cX3_through 162 = .ok (.lcmp, 1) := by decide +kernel
theorem dX3_through_163 : decode cX3_through 163 = .ok (.ifCond .le 7, 3) := by decide +kernel
theorem dX3_through_166 : decode cX3_through 166 = .ok (.iconst 1, 1) := by decide +kernel
theorem dX3_through_167 : decode cX3_through 167 = .ok (.goto 4, 3) := by decide +kernel
theorem dX3_through_170 : decode cX3_through 170 = .ok (.iconst 0, 1) := by decide +kernel
theorem dX3_through_171 : decode cX3_through 171 = .ok (.ireturn, 1) := by decide +kernel
theorem dX3_placeTop_0 : decode cX3_placeTop 0 = .ok (.aload_n 0, 1) := by decide +kernel
theorem dX3_placeTop_1 : decode cX3_placeTop 1 = .ok (.getfield 24, 3) := by decide +kernel
theorem dX3_placeTop_4 : decode cX3_placeTop 4 = .ok (.aload_n 0, 1) := by decide +kernel
theorem dX3_placeTop_5 : decode cX3_placeTop 5 = .ok (.getfield 42, 3) := by decide +kernel
theorem dX3_placeTop_8 : decode cX3_placeTop 8 = .ok (.lmul, 1) := by decide +kernel
theorem dX3_placeTop_9 : decode cX3_placeTop 9 = .ok (.aload_n 0, 1) := by decide +kernel
theorem dX3_placeTop_10 : decode cX3_placeTop 10 = .ok (.getfield 39, 3) := by decide +kernel
theorem dX3_placeTop_13 : decode cX3_placeTop 13 = .ok (.aload_n 0, 1) := by decide +kernel
theorem dX3_placeTop_14 : decode cX3_placeTop 14 = .ok (.getfield 21, 3) := by decide +kernel
theorem dX3_placeTop_17 : decode cX3_placeTop 17 = .ok (.lmul, 1) := by decide +kernel
theorem dX3_placeTop_18 : decode cX3_placeTop 18 = .ok (.lsub, 1) := by decide +kernel
theorem dX3_placeTop_19 : decode cX3_placeTop 19 = .ok (.lreturn, 1) := by decide +kernel
theorem dX3_placeBelow_0 : decode cX3_placeBelow 0 = .ok (.aload_n 0, 1) := by decide +kernel
theorem dX3_placeBelow_1 : decode cX3_placeBelow 1 = .ok (.getfield 15, 3) := by decide +kernel
theorem dX3_placeBelow_4 : decode cX3_placeBelow 4 = .ok (.aload_n 0, 1) := by decide +kernel
theorem dX3_placeBelow_5 : decode cX3_placeBelow 5 = .ok (.getfield 42, 3) := by decide +kernel
theorem dX3_placeBelow_8 : decode cX3_placeBelow 8 = .ok (.lmul, 1) := by decide +kernel
theorem dX3_placeBelow_9 : decode cX3_placeBelow 9 = .ok (.lreturn, 1) := by decide +kernel
theorem dX3_missTop_0 : decode cX3_missTop 0 = .ok (.lload_n 3, 1) := by decide +kernel
theorem dX3_missTop_1 : decode cX3_missTop 1 = .ok (.aload_n 0, 1) := by decide +kernel
theorem dX3_missTop_2 : decode cX3_missTop 2 = .ok (.invokevirtual 45, 3) := by decide +kernel
theorem dX3_missTop_5 : decode cX3_missTop 5 = .ok (.lmul, 1) := by decide +kernel
theorem dX3_missTop_6 : decode cX3_missTop 6 = .ok (.aload_n 0, 1) := by decide +kernel
theorem dX3_missTop_7 : decode cX3_missTop 7 = .ok (.invokevirtual 49, 3) := by decide +kernel
theorem dX3_missTop_10 : decode cX3_missTop 10 = .ok (.lsub, 1) := by decide +kernel
theorem dX3_missTop_11 : decode cX3_missTop 11 = .ok (.aload_n 0, 1) := by decide +kernel
theorem dX3_missTop_12 : decode cX3_missTop 12 = .ok (.getfield 39, 3) := by decide +kernel
theorem dX3_missTop_15 : decode cX3_missTop 15 = .ok (.aload_n 0, 1) := by decide +kernel
theorem dX3_missTop_16 : decode cX3_missTop 16 = .ok (.getfield 15, 3) := by decide +kernel
theorem dX3_missTop_19 : decode cX3_missTop 19 = .ok (.lmul, 1) := by decide +kernel
theorem dX3_missTop_20 : decode cX3_missTop 20 = .ok (.lload_n 1, 1) := by decide +kernel
theorem dX3_missTop_21 : decode cX3_missTop 21 = .ok (.lmul, 1) := by decide +kernel
theorem dX3_missTop_22 : decode cX3_missTop 22 = .ok (.lsub, 1) := by decide +kernel
theorem dX3_missTop_23 : decode cX3_missTop 23 = .ok (.invokestatic 52, 3) := by decide +kernel
theorem dX3_missTop_26 : decode cX3_missTop 26 = .ok (.lreturn, 1) := by decide +kernel
theorem dX3_reduced_0 : decode cX3_reduced 0 = .ok (.lload_n 0, 1) := by decide +kernel
theorem dX3_reduced_1 : decode cX3_reduced 1 = .ok (.invokestatic 52, 3) := by decide +kernel
theorem dX3_reduced_4 : decode cX3_reduced 4 = .ok (.lload_n 2, 1) := by decide +kernel
theorem dX3_reduced_5 : decode cX3_reduced 5 = .ok (.invokestatic 52, 3) := by decide +kernel
theorem dX3_reduced_8 : decode cX3_reduced 8 = .ok (.invokestatic 58, 3) := by decide +kernel
theorem dX3_reduced_11 : decode cX3_reduced 11 = .ok (.lstore 5, 2) := by decide +kernel
theorem dX3_reduced_13 : decode cX3_reduced 13 = .ok (.lload 5, 2) := by decide +kernel
theorem dX3_reduced_15 : decode cX3_reduced 15 = .ok (.lconst 0, 1) := by decide +kernel
theorem dX3_reduced_16 : decode cX3_reduced 16 = .ok (.lcmp, 1) := by decide +kernel
theorem dX3_reduced_17 : decode cX3_reduced 17 = .ok (.ifCond .ne 7, 3) := by decide +kernel
theorem dX3_reduced_20 : decode cX3_reduced 20 = .ok (.ldc2_w 62, 3) := by decide +kernel
theorem dX3_reduced_23 : decode cX3_reduced 23 = .ok (.lreturn, 1) := by decide +kernel
theorem dX3_reduced_24 : decode cX3_reduced 24 = .ok (.iload 4, 2) := by decide +kernel
theorem dX3_reduced_26 : decode cX3_reduced 26 = .ok (.ifCond .ne 7, 3) := by decide +kernel
theorem dX3_reduced_29 : decode cX3_reduced 29 = .ok (.lload_n 0, 1) := by decide +kernel
theorem dX3_reduced_30 : decode cX3_reduced 30 = .ok (.goto 4, 3) := by decide +kernel
theorem dX3_reduced_33 : decode cX3_reduced 33 = .ok (.lload_n 2, 1) := by decide +kernel
theorem dX3_reduced_34 : decode cX3_reduced 34 = .ok (.lload 5, 2) := by decide +kernel
theorem dX3_reduced_36 : decode cX3_reduced 36 = .ok (.ldiv, 1) := by decide +kernel
theorem dX3_reduced_37 : decode cX3_reduced 37 = .ok (.lreturn, 1) := by decide +kernel
theorem dX3_commonDivisor_0 : decode cX3_commonDivisor 0 = .ok (.lload_n 0, 1) := by decide +kernel
theorem dX3_commonDivisor_1 : decode cX3_commonDivisor 1 = .ok (.lstore 4, 2) := by decide +kernel
theorem dX3_commonDivisor_3 : decode cX3_commonDivisor 3 = .ok (.lload_n 2, 1) := by decide +kernel
theorem dX3_commonDivisor_4 : decode cX3_commonDivisor 4 = .ok (.lstore 6, 2) := by decide +kernel
theorem dX3_commonDivisor_6 : decode cX3_commonDivisor 6 = .ok (.iconst 0, 1) := by decide +kernel
theorem dX3_commonDivisor_7 : decode cX3_commonDivisor 7 = .ok (.istore 8, 2) := by decide +kernel
theorem dX3_commonDivisor_9 : decode cX3_commonDivisor 9 = .ok (.iload 8, 2) := by decide +kernel
theorem dX3_commonDivisor_11 : decode cX3_commonDivisor 11 = .ok (.sipush 200, 3) := by decide +kernel
theorem dX3_commonDivisor_14 : decode cX3_commonDivisor 14 = .ok (.if_icmp .ge 31, 3) := by decide +kernel
theorem dX3_commonDivisor_17 : decode cX3_commonDivisor 17 = .ok (.lload 6, 2) := by decide +kernel
theorem dX3_commonDivisor_19 : decode cX3_commonDivisor 19 = .ok (.lconst 0, 1) := by decide +kernel
theorem dX3_commonDivisor_20 : decode cX3_commonDivisor 20 = .ok (.lcmp, 1) := by decide +kernel
theorem dX3_commonDivisor_21 : decode cX3_commonDivisor 21 = .ok (.ifCond .eq 24, 3) := by decide +kernel
theorem dX3_commonDivisor_24 : decode cX3_commonDivisor 24 = .ok (.lload 4, 2) := by decide +kernel
theorem dX3_commonDivisor_26 : decode cX3_commonDivisor 26 = .ok (.lload 6, 2) := by decide +kernel
theorem dX3_commonDivisor_28 : decode cX3_commonDivisor 28 = .ok (.lrem, 1) := by decide +kernel
theorem dX3_commonDivisor_29 : decode cX3_commonDivisor 29 = .ok (.lstore 9, 2) := by decide +kernel
theorem dX3_commonDivisor_31 : decode cX3_commonDivisor 31 = .ok (.lload 6, 2) := by decide +kernel
theorem dX3_commonDivisor_33 : decode cX3_commonDivisor 33 = .ok (.lstore 4, 2) := by decide +kernel
theorem dX3_commonDivisor_35 : decode cX3_commonDivisor 35 = .ok (.lload 9, 2) := by decide +kernel
theorem dX3_commonDivisor_37 : decode cX3_commonDivisor 37 = .ok (.lstore 6, 2) := by decide +kernel
theorem dX3_commonDivisor_39 : decode cX3_commonDivisor 39 = .ok (.iinc 8 1, 3) := by decide +kernel
theorem dX3_commonDivisor_42 : decode cX3_commonDivisor 42 = .ok (.goto (-33), 3) := by decide +kernel
theorem dX3_commonDivisor_45 : decode cX3_commonDivisor 45 = .ok (.lload 4, 2) := by decide +kernel
theorem dX3_commonDivisor_47 : decode cX3_commonDivisor 47 = .ok (.lreturn, 1) := by decide +kernel
theorem dX4_init_0 : decode cX4_init 0 = .ok (.aload_n 0, 1) := by decide +kernel
theorem dX4_init_1 : decode cX4_init 1 = .ok (.invokespecial 3, 3) := by decide +kernel
theorem dX4_init_4 : decode cX4_init 4 = .ok (.aload_n 0, 1) := by decide +kernel
theorem dX4_init_5 : decode cX4_init 5 = .ok (.bipush 10, 2) := by decide +kernel
theorem dX4_init_7 : decode cX4_init 7 = .ok (.putfield 9, 3) := by decide +kernel
theorem dX4_init_10 : decode cX4_init 10 = .ok (.aload_n 0, 1) := by decide +kernel
theorem dX4_init_11 : decode cX4_init 11 = .ok (.bipush 10, 2) := by decide +kernel
theorem dX4_init_13 : decode cX4_init 13 = .ok (.putfield 15, 3) := by decide +kernel
theorem dX4_init_16 : decode cX4_init 16 = .ok (.aload_n 0, 1) := by decide +kernel
theorem dX4_init_17 : decode cX4_init 17 = .ok (.aload_n 1, 1) := by decide +kernel
theorem dX4_init_18 : decode cX4_init 18 = .ok (.putfield 18, 3) := by decide +kernel
theorem dX4_init_21 : decode cX4_init 21 = .ok (.return_, 1) := by decide +kernel
theorem dX4_span_0 : decode cX4_span 0 = .ok (.sipush (-2000), 3) := by decide +kernel
theorem dX4_span_3 : decode cX4_span 3 = .ok (.istore 4, 2) := by decide +kernel
theorem dX4_span_5 : decode cX4_span 5 = .ok (.sipush 2000, 3) := by decide +kernel
theorem dX4_span_8 : decode cX4_span 8 = .ok (.istore 5, 2) := by decide +kernel
theorem dX4_span_10 : decode cX4_span 10 = .ok (.iconst 0, 1) := by decide +kernel
theorem dX4_span_11 : decode cX4_span 11 = .ok (.istore 6, 2) := by decide +kernel
theorem dX4_span_13 : decode cX4_span 13 = .ok (.iload 6, 2) := by decide +kernel
theorem dX4_span_15 : decode cX4_span 15 = .ok (.aload_n 1, 1) := by decide +kernel
theorem dX4_span_16 : decode cX4_span 16 = .ok (.getfield 22, 3) := by decide +kernel
theorem dX4_span_19 : decode cX4_span 19 = .ok (.if_icmp .ge 78, 3) := by decide +kernel
theorem dX4_span_22 : decode cX4_span 22 = .ok (.iload 4, 2) := by decide +kernel
theorem dX4_span_24 : decode cX4_span 24 = .ok (.iload 5, 2) := by decide +kernel
theorem dX4_span_26 : decode cX4_span 26 = .ok (.if_icmp .gt 71, 3) := by decide +kernel
theorem dX4_span_29 : decode cX4_span 29 = .ok (.aload_n 1, 1) := by decide +kernel
theorem dX4_span_30 : decode cX4_span 30 = .ok (.getfield 27, 3) := by decide +kernel
theorem dX4_span_33 : decode cX4_span 33 = .ok (.iload 6, 2) := by decide +kernel
theorem dX4_span_35 : decode cX4_span 35 = .ok (.iaload, 1) := by decide +kernel
theorem dX4_span_36 : decode cX4_span 36 = .ok (.istore 7, 2) := by decide +kernel
theorem dX4_span_38 : decode cX4_span 38 = .ok (.aload_n 0, 1) := by decide +kernel
theorem dX4_span_39 : decode cX4_span 39 = .ok (.getfield 18, 3) := by decide +kernel
theorem dX4_span_42 : decode cX4_span 42 = .ok (.iload 7, 2) := by decide +kernel
theorem dX4_span_44 : decode cX4_span 44 = .ok (.iload_n 2, 1) := by decide +kernel
theorem dX4_span_45 : decode cX4_span 45 = .ok (.invokevirtual 31, 3) := by decide +kernel
theorem dX4_span_48 : decode cX4_span 48 = .ok (.iload_n 3, 1) := by decide +kernel
theorem dX4_span_49 : decode cX4_span 49 = .ok (.aload_n 0, 1) := by decide +kernel
theorem dX4_span_50 : decode cX4_span 50 = .ok (.getfield 18, 3) := by decide +kernel
theorem dX4_span_53 : decode cX4_span 53 = .ok (.getfield 37, 3) := by decide +kernel
theorem dX4_span_56 : decode cX4_span 56 = .ok (.iload 7, 2) := by decide +kernel
theorem dX4_span_58 : decode cX4_span 58 = .ok (.iaload, 1) := by decide +kernel
theorem dX4_span_59 : decode cX4_span 59 = .ok (.imul, 1) := by decide +kernel
theorem dX4_span_60 : decode cX4_span 60 = .ok (.isub, 1) := by decide +kernel
theorem dX4_span_61 : decode cX4_span 61 = .ok (.istore 8, 2) := by decide +kernel
theorem dX4_span_63 : decode cX4_span 63 = .ok (.iload 4, 2) := by decide +kernel
theorem dX4_span_65 : decode cX4_span 65 = .ok (.iload 8, 2) := by decide +kernel
theorem dX4_span_67 : decode cX4_span 67 = .ok (.aload_n 0, 1) := by decide +kernel
theorem dX4_span_68 : decode cX4_span 68 = .ok (.getfield 15, 3) := by decide +kernel
theorem dX4_span_71 : decode cX4_span 71 = .ok (.isub, 1) := by decide +kernel
theorem dX4_span_72 : decode cX4_span 72 = .ok (.invokestatic 40, 3) := by decide +kernel
theorem dX4_span_75 : decode cX4_span 75 = .ok (.istore 4, 2) := by decide +kernel
theorem dX4_span_77 : decode cX4_span 77 = .ok (.iload 5, 2) := by decide +kernel
theorem dX4_span_79 : decode cX4_span 79 = .ok (.iload 8, 2) := by decide +kernel
theorem dX4_span_81 : decode cX4_span 81 = .ok (.aload_n 0, 1) := by decide +kernel
theorem dX4_span_82 : decode cX4_span 82 = .ok (.getfield 15, 3) := by decide +kernel
theorem dX4_span_85 : decode cX4_span 85 = .ok (.iadd, 1) := by decide +kernel
theorem dX4_span_86 : decode cX4_span 86 = .ok (.invokestatic 45, 3) := by decide +kernel
theorem dX4_span_89 : decode cX4_span 89 = .ok (.istore 5, 2) := by decide +kernel
theorem dX4_span_91 : decode cX4_span 91 = .ok (.iinc 6 1, 3) := by decide +kernel
theorem dX4_span_94 : decode cX4_span 94 = .ok (.goto (-81), 3) := by decide +kernel
theorem dX4_span_97 : decode cX4_span 97 = .ok (.iconst 1, 1) := by decide +kernel
theorem dX4_span_98 : decode cX4_span 98 = .ok (.aload_n 0, 1) := by decide +kernel
theorem dX4_span_99 : decode cX4_span 99 = .ok (.getfield 9, 3) := by decide +kernel
theorem dX4_span_102 : decode cX4_span 102 = .ok (.invokestatic 40, 3) := by decide +kernel
theorem dX4_span_105 : decode cX4_span 105 = .ok (.istore 6, 2) := by decide +kernel
theorem dX4_span_107 : decode cX4_span 107 = .ok (.aload_n 0, 1) := by decide +kernel
theorem dX4_span_108 : decode cX4_span 108 = .ok (.iload 4, 2) := by decide +kernel
theorem dX4_span_110 : decode cX4_span 110 = .ok (.ineg, 1) := by decide +kernel
theorem dX4_span_111 : decode cX4_span 111 = .ok (.iload 6, 2) := by decide +kernel
theorem dX4_span_113 : decode cX4_span 113 = .ok (.invokestatic 48, 3) := by decide +kernel
theorem dX4_span_116 : decode cX4_span 116 = .ok (.ineg, 1) := by decide +kernel
theorem dX4_span_117 : decode cX4_span 117 = .ok (.putfield 51, 3) := by decide +kernel
theorem dX4_span_120 : decode cX4_span 120 = .ok (.aload_n 0, 1) := by decide +kernel
theorem dX4_span_121 : decode cX4_span 121 = .ok (.iload 5, 2) := by decide +kernel
theorem dX4_span_123 : decode cX4_span 123 = .ok (.iload 6, 2) := by decide +kernel
theorem dX4_span_125 : decode cX4_span 125 = .ok (.invokestatic 48, 3) := by decide +kernel
theorem dX4_span_128 : decode cX4_span 128 = .ok (.putfield 54, 3) := by decide +kernel
theorem dX4_span_131 : decode cX4_span 131 = .ok (.aload_n 0, 1) := by decide +kernel
theorem dX4_span_132 : decode cX4_span 132 = .ok (.getfield 51, 3) := by decide +kernel
theorem dX4_span_135 : decode cX4_span 135 = .ok (.aload_n 0, 1) := by decide +kernel
theorem dX4_span_136 : decode cX4_span 136 = .ok (.getfield 54, 3) := by decide +kernel
theorem dX4_span_139 : decode cX4_span 139 = .ok (.if_icmp .gt 7, 3) := by decide +kernel
theorem dX4_span_142 : decode cX4_span 142 = .ok (.iconst 1, 1) := by decide +kernel
theorem dX4_span_143 : decode cX4_span 143 = .ok (.goto 4, 3) := by decide +kernel
theorem dX4_span_146 : decode cX4_span 146 = .ok (.iconst 0, 1) := by decide +kernel
theorem dX4_span_147 : decode cX4_span 147 = .ok (.ireturn, 1) := by decide +kernel
theorem dX4_linesBy_0 : decode cX4_linesBy 0 = .ok (.lconst 0, 1) := by decide +kernel
theorem dX4_linesBy_1 : decode cX4_linesBy 1 = .ok (.lstore_n 3, 1) := by decide +kernel
theorem dX4_linesBy_2 : decode cX4_linesBy 2 = .ok (.bipush (-20), 2) := by decide +kernel
theorem dX4_linesBy_4 : decode cX4_linesBy 4 = .ok (.istore 5, 2) := by decide +kernel
theorem dX4_linesBy_6 : decode cX4_linesBy 6 = .ok (.iload 5, 2) := by decide +kernel
theorem dX4_linesBy_8 : decode cX4_linesBy 8 = .ok (.bipush 20, 2) := by decide +kernel
theorem dX4_linesBy_10 : decode cX4_linesBy 10 = .ok (.if_icmp .gt 35, 3) := by decide +kernel
theorem dX4_linesBy_13 : decode cX4_linesBy 13 = .ok (.aload_n 0, 1) := by decide +kernel
theorem dX4_linesBy_14 : decode cX4_linesBy 14 = .ok (.aload_n 1, 1) := by decide +kernel
theorem dX4_linesBy_15 : decode cX4_linesBy 15 = .ok (.iload_n 2, 1) := by decide +kernel
theorem dX4_linesBy_16 : decode cX4_linesBy 16 = .ok (.iload 5, 2) := by decide +kernel
theorem dX4_linesBy_18 : decode cX4_linesBy 18 = .ok (.invokevirtual 57, 3) := by decide +kernel
theorem dX4_linesBy_21 : decode cX4_linesBy 21 = .ok (.ifCond .eq 18, 3) := by decide +kernel
theorem dX4_linesBy_24 : decode cX4_linesBy 24 = .ok (.lload_n 3, 1) := by decide +kernel
theorem dX4_linesBy_25 : decode cX4_linesBy 25 = .ok (.aload_n 0, 1) := by decide +kernel
theorem dX4_linesBy_26 : decode cX4_linesBy 26 = .ok (.getfield 54, 3) := by decide +kernel
theorem dX4_linesBy_29 : decode cX4_linesBy 29 = .ok (.aload_n 0, 1) := by decide +kernel
theorem dX4_linesBy_30 : decode cX4_linesBy 30 = .ok (.getfield 51, 3) := by decide +kernel
theorem dX4_linesBy_33 : decode cX4_linesBy 33 = .ok (.isub, 1) := by decide +kernel
theorem dX4_linesBy_34 : decode cX4_linesBy 34 = .ok (.iconst 1, 1) := by decide +kernel
theorem dX4_linesBy_35 : decode cX4_linesBy 35 = .ok (.iadd, 1) := by decide +kernel
theorem dX4_linesBy_36 : decode cX4_linesBy 36 = .ok (.i2l, 1) := by decide +kernel
theorem dX4_linesBy_37 : decode cX4_linesBy 37 = .ok (.ladd, 1) := by decide +kernel
theorem dX4_linesBy_38 : decode cX4_linesBy 38 = .ok (.lstore_n 3, 1) := by decide +kernel
theorem dX4_linesBy_39 : decode cX4_linesBy 39 = .ok (.iinc 5 1, 3) := by decide +kernel
theorem dX4_linesBy_42 : decode cX4_linesBy 42 = .ok (.goto (-36), 3) := by decide +kernel
theorem dX4_linesBy_45 : decode cX4_linesBy 45 = .ok (.lload_n 3, 1) := by decide +kernel
theorem dX4_linesBy_46 : decode cX4_linesBy 46 = .ok (.lreturn, 1) := by decide +kernel
theorem dX4_linesOf_0 : decode cX4_linesOf 0 = .ok (.aload_n 0, 1) := by decide +kernel
theorem dX4_linesOf_1 : decode cX4_linesOf 1 = .ok (.aload_n 1, 1) := by decide +kernel
theorem dX4_linesOf_2 : decode cX4_linesOf 2 = .ok (.iconst 0, 1) := by decide +kernel
theorem dX4_linesOf_3 : decode cX4_linesOf 3 = .ok (.invokevirtual 61, 3) := by decide +kernel
theorem dX4_linesOf_6 : decode cX4_linesOf 6 = .ok (.aload_n 0, 1) := by decide +kernel
theorem dX4_linesOf_7 : decode cX4_linesOf 7 = .ok (.aload_n 1, 1) := by decide +kernel
theorem dX4_linesOf_8 : decode cX4_linesOf 8 = .ok (.iconst 1, 1) := by decide +kernel
theorem dX4_linesOf_9 : decode cX4_linesOf 9 = .ok (.invokevirtual 61, 3) := by decide +kernel
theorem dX4_linesOf_12 : decode cX4_linesOf 12 = .ok (.lmul, 1) := by decide +kernel
theorem dX4_linesOf_13 : decode cX4_linesOf 13 = .ok (.lreturn, 1) := by decide +kernel
theorem dX4_isSoundBy_0 : decode cX4_isSoundBy 0 = .ok (.bipush (-20), 2) := by decide +kernel
theorem dX4_isSoundBy_2 : decode cX4_isSoundBy 2 = .ok (.istore_n 3, 1) := by decide +kernel
theorem dX4_isSoundBy_3 : decode cX4_isSoundBy 3 = .ok (.iload_n 3, 1) := by decide +kernel
theorem dX4_isSoundBy_4 : decode cX4_isSoundBy 4 = .ok (.bipush 20, 2) := by decide +kernel
theorem dX4_isSoundBy_6 : decode cX4_isSoundBy 6 = .ok (.if_icmp .gt 21, 3) := by decide +kernel
theorem dX4_isSoundBy_9 : decode cX4_isSoundBy 9 = .ok (.aload_n 0, 1) := by decide +kernel
theorem dX4_isSoundBy_10 : decode cX4_isSoundBy 10 = .ok (.aload_n 1, 1) := by decide +kernel
theorem dX4_isSoundBy_11 : decode cX4_isSoundBy 11 = .ok (.iload_n 2, 1) := by decide +kernel
theorem dX4_isSoundBy_12 : decode cX4_isSoundBy 12 = .ok (.iload_n 3, 1) := by decide +kernel
theorem dX4_isSoundBy_13 : decode cX4_isSoundBy 13 = .ok (.invokevirtual 57, 3) := by decide +kernel
theorem dX4_isSoundBy_16 : decode cX4_isSoundBy 16 = .ok (.ifCond .eq 5, 3) := by decide +kernel
theorem dX4_isSoundBy_19 : decode cX4_isSoundBy 19 = .ok (.iconst 1, 1) := by decide +kernel
theorem dX4_isSoundBy_20 : decode cX4_isSoundBy 20 = .ok (.ireturn, 1) := by decide +kernel
theorem dX4_isSoundBy_21 : decode cX4_isSoundBy 21 = .ok (.iinc 3 1, 3) := by decide +kernel
theorem dX4_isSoundBy_24 : decode cX4_isSoundBy 24 = .ok (.goto (-21), 3) := by decide +kernel
theorem dX4_isSoundBy_27 : decode cX4_isSoundBy 27 = .ok (.iconst 0, 1) := by decide +kernel
theorem dX4_isSoundBy_28 : decode cX4_isSoundBy 28 = .ok (.ireturn, 1) := by decide +kernel
theorem dX4_isSound_0 : decode cX4_isSound 0 = .ok (.aload_n 0, 1) := by decide +kernel
theorem dX4_isSound_1 : decode cX4_isSound 1 = .ok (.aload_n 1, 1) := by decide +kernel
theorem dX4_isSound_2 : decode cX4_isSound 2 = .ok (.iconst 0, 1) := by decide +kernel
theorem dX4_isSound_3 : decode cX4_isSound 3 = .ok (.invokevirtual 65, 3) := by decide +kernel
theorem dX4_isSound_6 : decode cX4_isSound 6 = .ok (.ifCond .eq 16, 3) := by decide +kernel
theorem dX4_isSound_9 : decode cX4_isSound 9 = .ok (.aload_n 0, 1) := by decide +kernel
theorem dX4_isSound_10 : decode cX4_isSound 10 = .ok (.aload_n 1, 1) := by decide +kernel
theorem dX4_isSound_11 : decode cX4_isSound 11 = .ok (.iconst 1, 1) := by decide +kernel
theorem dX4_isSound_12 : decode cX4_isSound 12 = .ok (.invokevirtual 65, 3) := by decide +kernel
theorem dX4_isSound_15 : decode cX4_isSound 15 = .ok (.ifCond .eq 7, 3) := by decide +kernel
theorem dX4_isSound_18 : decode cX4_isSound 18 = .ok (.iconst 1, 1) := by decide +kernel
theorem dX4_isSound_19 : decode cX4_isSound 19 = .ok (.goto 4, 3) := by decide +kernel
theorem dX4_isSound_22 : decode cX4_isSound 22 = .ok (.iconst 0, 1) := by decide +kernel
theorem dX4_isSound_23 : decode cX4_isSound 23 = .ok (.ireturn, 1) := by decide +kernel
theorem dX4_edge_0 : decode cX4_edge 0 = .ok (.ldc2_w 69, 3) := by decide +kernel
theorem dX4_edge_3 : decode cX4_edge 3 = .ok (.lstore 5, 2) := by decide +kernel
theorem dX4_edge_5 : decode cX4_edge 5 = .ok (.bipush (-20), 2) := by decide +kernel
theorem dX4_edge_7 : decode cX4_edge 7 = .ok (.istore 7, 2) := by decide +kernel
theorem dX4_edge_9 : decode cX4_edge 9 = .ok (.iload 7, 2) := by decide +kernel
theorem dX4_edge_11 : decode cX4_edge 11 = .ok (.bipush 20, 2) := by decide +kernel
theorem dX4_edge_13 : decode cX4_edge 13 = .ok (.if_icmp .gt 88, 3) := by decide +kernel
theorem dX4_edge_16 : decode cX4_edge 16 = .ok (.aload_n 0, 1) := by decide +kernel
theorem dX4_edge_17 : decode cX4_edge 17 = .ok (.aload_n 1, 1) := by decide +kernel
theorem dX4_edge_18 : decode cX4_edge 18 = .ok (.iload_n 2, 1) := by decide +kernel
theorem dX4_edge_19 : decode cX4_edge 19 = .ok (.iload 7, 2) := by decide +kernel
theorem dX4_edge_21 : decode cX4_edge 21 = .ok (.invokevirtual 57, 3) := by decide +kernel
theorem dX4_edge_24 : decode cX4_edge 24 = .ok (.ifCond .eq 71, 3) := by decide +kernel
theorem dX4_edge_27 : decode cX4_edge 27 = .ok (.iload 4, 2) := by decide +kernel
theorem dX4_edge_29 : decode cX4_edge 29 = .ok (.ifCond .eq 10, 3) := by decide +kernel
theorem dX4_edge_32 : decode cX4_edge 32 = .ok (.aload_n 0, 1) := by decide +kernel
theorem dX4_edge_33 : decode cX4_edge 33 = .ok (.getfield 54, 3) := by decide +kernel
theorem dX4_edge_36 : decode cX4_edge 36 = .ok (.goto 7, 3) := by decide +kernel
theorem dX4_edge_39 : decode cX4_edge 39 = .ok (.aload_n 0, 1) := by decide +kernel
theorem dX4_edge_40 : decode cX4_edge 40 = .ok (.getfield 51, 3) := by decide +kernel
theorem dX4_edge_43 : decode cX4_edge 43 = .ok (.i2l, 1) := by decide +kernel
theorem dX4_edge_44 : decode cX4_edge 44 = .ok (.aload_n 0, 1) := by decide +kernel
theorem dX4_edge_45 : decode cX4_edge 45 = .ok (.getfield 9, 3) := by decide +kernel
theorem dX4_edge_48 : decode cX4_edge 48 = .ok (.i2l, 1) := by decide +kernel
theorem dX4_edge_49 : decode cX4_edge 49 = .ok (.lmul, 1) := by decide +kernel
theorem dX4_edge_50 : decode cX4_edge 50 = .ok (.iload 7, 2) := by decide +kernel
theorem dX4_edge_52 : decode cX4_edge 52 = .ok (.iload_n 3, 1) := by decide +kernel
theorem dX4_edge_53 : decode cX4_edge 53 = .ok (.imul, 1) := by decide +kernel
theorem dX4_edge_54 : decode cX4_edge 54 = .ok (.i2l, 1) := by decide +kernel
theorem dX4_edge_55 : decode cX4_edge 55 = .ok (.ladd, 1) := by decide +kernel
theorem dX4_edge_56 : decode cX4_edge 56 = .ok (.lstore 8, 2) := by decide +kernel
theorem dX4_edge_58 : decode cX4_edge 58 = .ok (.lload 5, 2) := by decide +kernel
theorem dX4_edge_60 : decode cX4_edge 60 = .ok (.ldc2_w 69, 3) := by decide +kernel
theorem dX4_edge_63 : decode cX4_edge 63 = .ok (.lcmp, 1) := by decide +kernel
theorem dX4_edge_64 : decode cX4_edge 64 = .ok (.ifCond .eq 27, 3) := by decide +kernel
theorem dX4_edge_67 : decode cX4_edge 67 = .ok (.iload 4, 2) := by decide +kernel
theorem dX4_edge_69 : decode cX4_edge 69 = .ok (.ifCond .eq 14, 3) := by decide +kernel
theorem dX4_edge_72 : decode cX4_edge 72 = .ok (.lload 8, 2) := by decide +kernel
theorem dX4_edge_74 : decode cX4_edge 74 = .ok (.lload 5, 2) := by decide +kernel
theorem dX4_edge_76 : decode cX4_edge 76 = .ok (.lcmp, 1) := by decide +kernel
theorem dX4_edge_77 : decode cX4_edge 77 = .ok (.ifCond .le 18, 3) := by decide +kernel
theorem dX4_edge_80 : decode cX4_edge 80 = .ok (.goto 11, 3) := by decide +kernel
theorem dX4_edge_83 : decode cX4_edge 83 = .ok (.lload 8, 2) := by decide +kernel
theorem dX4_edge_85 : decode cX4_edge 85 = .ok (.lload 5, 2) := by decide +kernel
theorem dX4_edge_87 : decode cX4_edge 87 = .ok (.lcmp, 1) := by decide +kernel
theorem dX4_edge_88 : decode cX4_edge 88 = .ok (.ifCond .ge 7, 3) := by decide +kernel
theorem dX4_edge_91 : decode cX4_edge 91 = .ok (.lload 8, 2) := by decide +kernel
theorem dX4_edge_93 : decode cX4_edge 93 = .ok (.lstore 5, 2) := by decide +kernel
theorem dX4_edge_95 : decode cX4_edge 95 = .ok (.iinc 7 1, 3) := by decide +kernel
theorem dX4_edge_98 : decode cX4_edge 98 = .ok (.goto (-89), 3) := by decide +kernel
theorem dX4_edge_101 : decode cX4_edge 101 = .ok (.lload 5, 2) := by decide +kernel
theorem dX4_edge_103 : decode cX4_edge 103 = .ok (.lreturn, 1) := by decide +kernel
theorem dX4_reachesBy_0 : decode cX4_reachesBy 0 = .ok (.aload_n 0, 1) := by decide +kernel
theorem dX4_reachesBy_1 : decode cX4_reachesBy 1 = .ok (.getfield 18, 3) := by decide +kernel
theorem dX4_reachesBy_4 : decode cX4_reachesBy 4 = .ok (.iload_n 2, 1) := by decide +kernel
theorem dX4_reachesBy_5 : decode cX4_reachesBy 5 = .ok (.iload_n 3, 1) := by decide +kernel
theorem dX4_reachesBy_6 : decode cX4_reachesBy 6 = .ok (.invokevirtual 31, 3) := by decide +kernel
theorem dX4_reachesBy_9 : decode cX4_reachesBy 9 = .ok (.istore 4, 2) := by decide +kernel
theorem dX4_reachesBy_11 : decode cX4_reachesBy 11 = .ok (.aload_n 0, 1) := by decide +kernel
theorem dX4_reachesBy_12 : decode cX4_reachesBy 12 = .ok (.getfield 18, 3) := by decide +kernel
theorem dX4_reachesBy_15 : decode cX4_reachesBy 15 = .ok (.getfield 37, 3) := by decide +kernel
theorem dX4_reachesBy_18 : decode cX4_reachesBy 18 = .ok (.iload_n 2, 1) := by decide +kernel
theorem dX4_reachesBy_19 : decode cX4_reachesBy 19 = .ok (.iaload, 1) := by decide +kernel
theorem dX4_reachesBy_20 : decode cX4_reachesBy 20 = .ok (.istore 5, 2) := by decide +kernel
theorem dX4_reachesBy_22 : decode cX4_reachesBy 22 = .ok (.iload 4, 2) := by decide +kernel
theorem dX4_reachesBy_24 : decode cX4_reachesBy 24 = .ok (.i2l, 1) := by decide +kernel
theorem dX4_reachesBy_25 : decode cX4_reachesBy 25 = .ok (.aload_n 0, 1) := by decide +kernel
theorem dX4_reachesBy_26 : decode cX4_reachesBy 26 = .ok (.aload_n 1, 1) := by decide +kernel
theorem dX4_reachesBy_27 : decode cX4_reachesBy 27 = .ok (.iload_n 3, 1) := by decide +kernel
theorem dX4_reachesBy_28 : decode cX4_reachesBy 28 = .ok (.iload 5, 2) := by decide +kernel
theorem dX4_reachesBy_30 : decode cX4_reachesBy 30 = .ok (.iconst 0, 1) := by decide +kernel
theorem dX4_reachesBy_31 : decode cX4_reachesBy 31 = .ok (.invokevirtual 71, 3) := by decide +kernel
theorem dX4_reachesBy_34 : decode cX4_reachesBy 34 = .ok (.aload_n 0, 1) := by decide +kernel
theorem dX4_reachesBy_35 : decode cX4_reachesBy 35 = .ok (.getfield 15, 3) := by decide +kernel
theorem dX4_reachesBy_38 : decode cX4_reachesBy 38 = .ok (.i2l, 1) := by decide +kernel
theorem dX4_reachesBy_39 : decode cX4_reachesBy 39 = .ok (.lsub, 1) := by decide +kernel
theorem dX4_reachesBy_40 : decode cX4_reachesBy 40 = .ok (.lcmp, 1) := by decide +kernel
theorem dX4_reachesBy_41 : decode cX4_reachesBy 41 = .ok (.ifCond .lt 29, 3) := by decide +kernel
theorem dX4_reachesBy_44 : decode cX4_reachesBy 44 = .ok (.iload 4, 2) := by decide +kernel
theorem dX4_reachesBy_46 : decode cX4_reachesBy 46 = .ok (.i2l, 1) := by decide +kernel
theorem dX4_reachesBy_47 : decode cX4_reachesBy 47 = .ok (.aload_n 0, 1) := by decide +kernel
theorem dX4_reachesBy_48 : decode cX4_reachesBy 48 = .ok (.aload_n 1, 1) := by decide +kernel
theorem dX4_reachesBy_49 : decode cX4_reachesBy 49 = .ok (.iload_n 3, 1) := by decide +kernel
theorem dX4_reachesBy_50 : decode cX4_reachesBy 50 = .ok (.iload 5, 2) := by decide +kernel
theorem dX4_reachesBy_52 : decode cX4_reachesBy 52 = .ok (.iconst 1, 1) := by decide +kernel
theorem dX4_reachesBy_53 : decode cX4_reachesBy 53 = .ok (.invokevirtual 71, 3) := by decide +kernel
theorem dX4_reachesBy_56 : decode cX4_reachesBy 56 = .ok (.aload_n 0, 1) := by decide +kernel
theorem dX4_reachesBy_57 : decode cX4_reachesBy 57 = .ok (.getfield 15, 3) := by decide +kernel
theorem dX4_reachesBy_60 : decode cX4_reachesBy 60 = .ok (.i2l, 1) := by decide +kernel
theorem dX4_reachesBy_61 : decode cX4_reachesBy 61 = .ok (.ladd, 1) := by decide +kernel
theorem dX4_reachesBy_62 : decode cX4_reachesBy 62 = .ok (.lcmp, 1) := by decide +kernel
theorem dX4_reachesBy_63 : decode cX4_reachesBy 63 = .ok (.ifCond .gt 7, 3) := by decide +kernel
theorem dX4_reachesBy_66 : decode cX4_reachesBy 66 = .ok (.iconst 1, 1) := by decide +kernel
theorem dX4_reachesBy_67 : decode cX4_reachesBy 67 = .ok (.goto 4, 3) := by decide +kernel
theorem dX4_reachesBy_70 : decode cX4_reachesBy 70 = .ok (.iconst 0, 1) := by decide +kernel
theorem dX4_reachesBy_71 : decode cX4_reachesBy 71 = .ok (.ireturn, 1) := by decide +kernel
theorem dX4_reaches_0 : decode cX4_reaches 0 = .ok (.aload_n 0, 1) := by decide +kernel
theorem dX4_reaches_1 : decode cX4_reaches 1 = .ok (.aload_n 1, 1) := by decide +kernel
theorem dX4_reaches_2 : decode cX4_reaches 2 = .ok (.invokevirtual 75, 3) := by decide +kernel
theorem dX4_reaches_5 : decode cX4_reaches 5 = .ok (.ifCond .eq 27, 3) := by decide +kernel
theorem dX4_reaches_8 : decode cX4_reaches 8 = .ok (.aload_n 0, 1) := by decide +kernel
theorem dX4_reaches_9 : decode cX4_reaches 9 = .ok (.aload_n 1, 1) := by decide +kernel
theorem dX4_reaches_10 : decode cX4_reaches 10 = .ok (.iload_n 2, 1) := by decide +kernel
theorem dX4_reaches_11 : decode cX4_reaches 11 = .ok (.iconst 0, 1) := by decide +kernel
theorem dX4_reaches_12 : decode cX4_reaches 12 = .ok (.invokevirtual 79, 3) := by decide +kernel
theorem dX4_reaches_15 : decode cX4_reaches 15 = .ok (.ifCond .eq 17, 3) := by decide +kernel
theorem dX4_reaches_18 : decode cX4_reaches 18 = .ok (.aload_n 0, 1) := by decide +kernel
theorem dX4_reaches_19 : decode cX4_reaches 19 = .ok (.aload_n 1, 1) := by decide +kernel
theorem dX4_reaches_20 : decode cX4_reaches 20 = .ok (.iload_n 2, 1) := by decide +kernel
theorem dX4_reaches_21 : decode cX4_reaches 21 = .ok (.iconst 1, 1) := by decide +kernel
theorem dX4_reaches_22 : decode cX4_reaches 22 = .ok (.invokevirtual 79, 3) := by decide +kernel
theorem dX4_reaches_25 : decode cX4_reaches 25 = .ok (.ifCond .eq 7, 3) := by decide +kernel
theorem dX4_reaches_28 : decode cX4_reaches 28 = .ok (.iconst 1, 1) := by decide +kernel
theorem dX4_reaches_29 : decode cX4_reaches 29 = .ok (.goto 4, 3) := by decide +kernel
theorem dX4_reaches_32 : decode cX4_reaches 32 = .ok (.iconst 0, 1) := by decide +kernel
theorem dX4_reaches_33 : decode cX4_reaches 33 = .ok (.ireturn, 1) := by decide +kernel
theorem dX5_init_0 : decode cX5_init 0 = .ok (.aload_n 0, 1) := by decide +kernel
theorem dX5_init_1 : decode cX5_init 1 = .ok (.invokespecial 3, 3) := by decide +kernel
theorem dX5_init_4 : decode cX5_init 4 = .ok (.aload_n 0, 1) := by decide +kernel
theorem dX5_init_5 : decode cX5_init 5 = .ok (.sipush 780, 3) := by decide +kernel
theorem dX5_init_8 : decode cX5_init 8 = .ok (.newarray .int, 2) := by decide +kernel
theorem dX5_init_10 : decode cX5_init 10 = .ok (.putfield 9, 3) := by decide +kernel
theorem dX5_init_13 : decode cX5_init 13 = .ok (.aload_n 0, 1) := by decide +kernel
theorem dX5_init_14 : decode cX5_init 14 = .ok (.sipush 780, 3) := by decide +kernel
theorem dX5_init_17 : decode cX5_init 17 = .ok (.newarray .int, 2) := by decide +kernel
theorem dX5_init_19 : decode cX5_init 19 = .ok (.putfield 15, 3) := by decide +kernel
theorem dX5_init_22 : decode cX5_init 22 = .ok (.aload_n 0, 1) := by decide +kernel
theorem dX5_init_23 : decode cX5_init 23 = .ok (.bipush 40, 2) := by decide +kernel
theorem dX5_init_25 : decode cX5_init 25 = .ok (.newarray .int, 2) := by decide +kernel
theorem dX5_init_27 : decode cX5_init 27 = .ok (.putfield 18, 3) := by decide +kernel
theorem dX5_init_30 : decode cX5_init 30 = .ok (.aload_n 0, 1) := by decide +kernel
theorem dX5_init_31 : decode cX5_init 31 = .ok (.bipush 40, 2) := by decide +kernel
theorem dX5_init_33 : decode cX5_init 33 = .ok (.newarray .int, 2) := by decide +kernel
theorem dX5_init_35 : decode cX5_init 35 = .ok (.putfield 21, 3) := by decide +kernel
theorem dX5_init_38 : decode cX5_init 38 = .ok (.aload_n 0, 1) := by decide +kernel
theorem dX5_init_39 : decode cX5_init 39 = .ok (.new 24, 3) := by decide +kernel
theorem dX5_init_42 : decode cX5_init 42 = .ok (.dup, 1) := by decide +kernel
theorem dX5_init_43 : decode cX5_init 43 = .ok (.invokespecial 26, 3) := by decide +kernel
theorem dX5_init_46 : decode cX5_init 46 = .ok (.putfield 27, 3) := by decide +kernel
theorem dX5_init_49 : decode cX5_init 49 = .ok (.aload_n 0, 1) := by decide +kernel
theorem dX5_init_50 : decode cX5_init 50 = .ok (.aload_n 1, 1) := by decide +kernel
theorem dX5_init_51 : decode cX5_init 51 = .ok (.putfield 31, 3) := by decide +kernel
theorem dX5_init_54 : decode cX5_init 54 = .ok (.aload_n 0, 1) := by decide +kernel
theorem dX5_init_55 : decode cX5_init 55 = .ok (.aload_n 2, 1) := by decide +kernel
theorem dX5_init_56 : decode cX5_init 56 = .ok (.putfield 35, 3) := by decide +kernel
theorem dX5_init_59 : decode cX5_init 59 = .ok (.aload_n 0, 1) := by decide +kernel
theorem dX5_init_60 : decode cX5_init 60 = .ok (.aload_n 3, 1) := by decide +kernel
theorem dX5_init_61 : decode cX5_init 61 = .ok (.putfield 39, 3) := by decide +kernel
theorem dX5_init_64 : decode cX5_init 64 = .ok (.return_, 1) := by decide +kernel
theorem dX5_forget_0 : decode cX5_forget 0 = .ok (.aload_n 0, 1) := by decide +kernel
theorem dX5_forget_1 : decode cX5_forget 1 = .ok (.iconst 0, 1) := by decide +kernel
theorem dX5_forget_2 : decode cX5_forget 2 = .ok (.putfield 43, 3) := by decide +kernel
theorem dX5_forget_5 : decode cX5_forget 5 = .ok (.return_, 1) := by decide +kernel
theorem dX5_total_0 : decode cX5_total 0 = .ok (.aload_n 0, 1) := by decide +kernel
theorem dX5_total_1 : decode cX5_total 1 = .ok (.getfield 43, 3) := by decide +kernel
theorem dX5_total_4 : decode cX5_total 4 = .ok (.ifCond .ne 16, 3) := by decide +kernel
theorem dX5_total_7 : decode cX5_total 7 = .ok (.aload_n 0, 1) := by decide +kernel
theorem dX5_total_8 : decode cX5_total 8 = .ok (.invokevirtual 47, 3) := by decide +kernel
theorem dX5_total_11 : decode cX5_total 11 = .ok (.aload_n 0, 1) := by decide +kernel
theorem dX5_total_12 : decode cX5_total 12 = .ok (.invokevirtual 50, 3) := by decide +kernel
theorem dX5_total_15 : decode cX5_total 15 = .ok (.aload_n 0, 1) := by decide +kernel
theorem dX5_total_16 : decode cX5_total 16 = .ok (.iconst 1, 1) := by decide +kernel
theorem dX5_total_17 : decode cX5_total 17 = .ok (.putfield 43, 3) := by decide +kernel
theorem dX5_total_20 : decode cX5_total 20 = .ok (.aload_n 0, 1) := by decide +kernel
theorem dX5_total_21 : decode cX5_total 21 = .ok (.getfield 53, 3) := by decide +kernel
theorem dX5_total_24 : decode cX5_total 24 = .ok (.bipush 40, 2) := by decide +kernel
theorem dX5_total_26 : decode cX5_total 26 = .ok (.if_icmp .le 7, 3) := by decide +kernel
theorem dX5_total_29 : decode cX5_total 29 = .ok (.iconst (-1), 1) := by decide +kernel
theorem dX5_total_30 : decode cX5_total 30 = .ok (.goto 7, 3) := by decide +kernel
theorem dX5_total_33 : decode cX5_total 33 = .ok (.aload_n 0, 1) := by decide +kernel
theorem dX5_total_34 : decode cX5_total 34 = .ok (.getfield 57, 3) := by decide +kernel
theorem dX5_total_37 : decode cX5_total 37 = .ok (.ireturn, 1) := by decide +kernel
theorem dX5_gather_0 : decode cX5_gather 0 = .ok (.aload_n 3, 1) := by decide +kernel
theorem dX5_gather_1 : decode cX5_gather 1 = .ok (.invokevirtual 60, 3) := by decide +kernel
theorem dX5_gather_4 : decode cX5_gather 4 = .ok (.aload_n 3, 1) := by decide +kernel
theorem dX5_gather_5 : decode cX5_gather 5 = .ok (.aload_n 0, 1) := by decide +kernel
theorem dX5_gather_6 : decode cX5_gather 6 = .ok (.getfield 18, 3) := by decide +kernel
theorem dX5_gather_9 : decode cX5_gather 9 = .ok (.iload_n 1, 1) := by decide +kernel
theorem dX5_gather_10 : decode cX5_gather 10 = .ok (.iaload, 1) := by decide +kernel
theorem dX5_gather_11 : decode cX5_gather 11 = .ok (.invokevirtual 63, 3) := by decide +kernel
theorem dX5_gather_14 : decode cX5_gather 14 = .ok (.aload_n 3, 1) := by decide +kernel
theorem dX5_gather_15 : decode cX5_gather 15 = .ok (.aload_n 0, 1) := by decide +kernel
theorem dX5_gather_16 : decode cX5_gather 16 = .ok (.getfield 21, 3) := by decide +kernel
theorem dX5_gather_19 : decode cX5_gather 19 = .ok (.iload_n 1, 1) := by decide +kernel
theorem dX5_gather_20 : decode cX5_gather 20 = .ok (.iaload, 1) := by decide +kernel
theorem dX5_gather_21 : decode cX5_gather 21 = .ok (.invokevirtual 63, 3) := by decide +kernel
theorem dX5_gather_24 : decode cX5_gather 24 = .ok (.aload_n 3, 1) := by decide +kernel
theorem dX5_gather_25 : decode cX5_gather 25 = .ok (.aload_n 0, 1) := by decide +kernel
theorem dX5_gather_26 : decode cX5_gather 26 = .ok (.getfield 18, 3) := by decide +kernel
theorem dX5_gather_29 : decode cX5_gather 29 = .ok (.iload_n 2, 1) := by decide +kernel
theorem dX5_gather_30 : decode cX5_gather 30 = .ok (.iaload, 1) := by decide +kernel
theorem dX5_gather_31 : decode cX5_gather 31 = .ok (.invokevirtual 63, 3) := by decide +kernel
theorem dX5_gather_34 : decode cX5_gather 34 = .ok (.aload_n 3, 1) := by decide +kernel
theorem dX5_gather_35 : decode cX5_gather 35 = .ok (.aload_n 0, 1) := by decide +kernel
theorem dX5_gather_36 : decode cX5_gather 36 = .ok (.getfield 21, 3) := by decide +kernel
theorem dX5_gather_39 : decode cX5_gather 39 = .ok (.iload_n 2, 1) := by decide +kernel
theorem dX5_gather_40 : decode cX5_gather 40 = .ok (.iaload, 1) := by decide +kernel
theorem dX5_gather_41 : decode cX5_gather 41 = .ok (.invokevirtual 63, 3) := by decide +kernel
theorem dX5_gather_44 : decode cX5_gather 44 = .ok (.return_, 1) := by decide +kernel
theorem dX5_findBits_0 : decode cX5_findBits 0 = .ok (.aload_n 0, 1) := by decide +kernel
theorem dX5_findBits_1 : decode cX5_findBits 1 = .ok (.iconst 0, 1) := by decide +kernel
theorem dX5_findBits_2 : decode cX5_findBits 2 = .ok (.putfield 53, 3) := by decide +kernel
theorem dX5_findBits_5 : decode cX5_findBits 5 = .ok (.iconst 0, 1) := by decide +kernel
theorem dX5_findBits_6 : decode cX5_findBits 6 = .ok (.istore_n 1, 1) := by decide +kernel
theorem dX5_findBits_7 : decode cX5_findBits 7 = .ok (.iload_n 1, 1) := by decide +kernel
theorem dX5_findBits_8 : decode cX5_findBits 8 = .ok (.aload_n 0, 1) := by decide +kernel
theorem dX5_findBits_9 : decode cX5_findBits 9 = .ok (.getfield 31, 3) := by decide +kernel
theorem dX5_findBits_12 : decode cX5_findBits 12 = .ok (.getfield 67, 3) := by decide +kernel
theorem dX5_findBits_15 : decode cX5_findBits 15 = .ok (.if_icmp .ge 46, 3) := by decide +kernel
theorem dX5_findBits_18 : decode cX5_findBits 18 = .ok (.iconst 0, 1) := by decide +kernel
theorem dX5_findBits_19 : decode cX5_findBits 19 = .ok (.istore_n 2, 1) := by decide +kernel
theorem dX5_findBits_20 : decode cX5_findBits 20 = .ok (.iload_n 2, 1) := by decide +kernel
theorem dX5_findBits_21 : decode cX5_findBits 21 = .ok (.aload_n 0, 1) := by decide +kernel
theorem dX5_findBits_22 : decode cX5_findBits 22 = .ok (.getfield 31, 3) := by decide +kernel
theorem dX5_findBits_25 : decode cX5_findBits 25 = .ok (.getfield 67, 3) := by decide +kernel
theorem dX5_findBits_28 : decode cX5_findBits 28 = .ok (.if_icmp .ge 27, 3) := by decide +kernel
theorem dX5_findBits_31 : decode cX5_findBits 31 = .ok (.aload_n 0, 1) := by decide +kernel
theorem dX5_findBits_32 : decode cX5_findBits 32 = .ok (.getfield 39, 3) := by decide +kernel
theorem dX5_findBits_35 : decode cX5_findBits 35 = .ok (.iload_n 1, 1) := by decide +kernel
theorem dX5_findBits_36 : decode cX5_findBits 36 = .ok (.iload_n 2, 1) := by decide +kernel
theorem dX5_findBits_37 : decode cX5_findBits 37 = .ok (.invokevirtual 72, 3) := by decide +kernel
theorem dX5_findBits_40 : decode cX5_findBits 40 = .ok (.ifCond .eq 9, 3) := by decide +kernel
theorem dX5_findBits_43 : decode cX5_findBits 43 = .ok (.aload_n 0, 1) := by decide +kernel
theorem dX5_findBits_44 : decode cX5_findBits 44 = .ok (.iload_n 1, 1) := by decide +kernel
theorem dX5_findBits_45 : decode cX5_findBits 45 = .ok (.iload_n 2, 1) := by decide +kernel
theorem dX5_findBits_46 : decode cX5_findBits 46 = .ok (.invokevirtual 78, 3) := by decide +kernel
theorem dX5_findBits_49 : decode cX5_findBits 49 = .ok (.iinc 2 1, 3) := by decide +kernel
theorem dX5_findBits_52 : decode cX5_findBits 52 = .ok (.goto (-32), 3) := by decide +kernel
theorem dX5_findBits_55 : decode cX5_findBits 55 = .ok (.iinc 1 1, 3) := by decide +kernel
theorem dX5_findBits_58 : decode cX5_findBits 58 = .ok (.goto (-51), 3) := by decide +kernel
theorem dX5_findBits_61 : decode cX5_findBits 61 = .ok (.return_, 1) := by decide +kernel
theorem dX5_keepBit_0 : decode cX5_keepBit 0 = .ok (.aload_n 0, 1) := by decide +kernel
theorem dX5_keepBit_1 : decode cX5_keepBit 1 = .ok (.getfield 53, 3) := by decide +kernel
theorem dX5_keepBit_4 : decode cX5_keepBit 4 = .ok (.bipush 40, 2) := by decide +kernel
theorem dX5_keepBit_6 : decode cX5_keepBit 6 = .ok (.if_icmp .ge 23, 3) := by decide +kernel
theorem dX5_keepBit_9 : decode cX5_keepBit 9 = .ok (.aload_n 0, 1) := by decide +kernel
theorem dX5_keepBit_10 : decode cX5_keepBit 10 = .ok (.getfield 18, 3) := by decide +kernel
theorem dX5_keepBit_13 : decode cX5_keepBit 13 = .ok (.aload_n 0, 1) := by decide +kernel
theorem dX5_keepBit_14 : decode cX5_keepBit 14 = .ok (.getfield 53, 3) := by decide +kernel
theorem dX5_keepBit_17 : decode cX5_keepBit 17 = .ok (.iload_n 1, 1) := by decide +kernel
theorem dX5_keepBit_18 : decode cX5_keepBit 18 = .ok (.iastore, 1) := by decide +kernel
theorem dX5_keepBit_19 : decode cX5_keepBit 19 = .ok (.aload_n 0, 1) := by decide +kernel
theorem dX5_keepBit_20 : decode cX5_keepBit 20 = .ok (.getfield 21, 3) := by decide +kernel
theorem dX5_keepBit_23 : decode cX5_keepBit 23 = .ok (.aload_n 0, 1) := by decide +kernel
theorem dX5_keepBit_24 : decode cX5_keepBit 24 = .ok (.getfield 53, 3) := by decide +kernel
theorem dX5_keepBit_27 : decode cX5_keepBit 27 = .ok (.iload_n 2, 1) := by decide +kernel
theorem dX5_keepBit_28 : decode cX5_keepBit 28 = .ok (.iastore, 1) := by decide +kernel
theorem dX5_keepBit_29 : decode cX5_keepBit 29 = .ok (.aload_n 0, 1) := by decide +kernel
theorem dX5_keepBit_30 : decode cX5_keepBit 30 = .ok (.dup, 1) := by decide +kernel
theorem dX5_keepBit_31 : decode cX5_keepBit 31 = .ok (.getfield 53, 3) := by decide +kernel
theorem dX5_keepBit_34 : decode cX5_keepBit 34 = .ok (.iconst 1, 1) := by decide +kernel
theorem dX5_keepBit_35 : decode cX5_keepBit 35 = .ok (.iadd, 1) := by decide +kernel
theorem dX5_keepBit_36 : decode cX5_keepBit 36 = .ok (.putfield 53, 3) := by decide +kernel
theorem dX5_keepBit_39 : decode cX5_keepBit 39 = .ok (.return_, 1) := by decide +kernel
theorem dX5_findPairs_0 : decode cX5_findPairs 0 = .ok (.aload_n 0, 1) := by decide +kernel
theorem dX5_findPairs_1 : decode cX5_findPairs 1 = .ok (.iconst 0, 1) := by decide +kernel
theorem dX5_findPairs_2 : decode cX5_findPairs 2 = .ok (.putfield 57, 3) := by decide +kernel
theorem dX5_findPairs_5 : decode cX5_findPairs 5 = .ok (.aload_n 0, 1) := by decide +kernel
theorem dX5_findPairs_6 : decode cX5_findPairs 6 = .ok (.getfield 53, 3) := by decide +kernel
theorem dX5_findPairs_9 : decode cX5_findPairs 9 = .ok (.bipush 40, 2) := by decide +kernel
theorem dX5_findPairs_11 : decode cX5_findPairs 11 = .ok (.if_icmp .le 4, 3) := by decide +kernel
theorem dX5_findPairs_14 : decode cX5_findPairs 14 = .ok (.return_, 1) := by decide +kernel
theorem dX5_findPairs_15 : decode cX5_findPairs 15 = .ok (.iconst 0, 1) := by decide +kernel
theorem dX5_findPairs_16 : decode cX5_findPairs 16 = .ok (.istore_n 1, 1) := by decide +kernel
theorem dX5_findPairs_17 : decode cX5_findPairs 17 = .ok (.iload_n 1, 1) := by decide +kernel
theorem dX5_findPairs_18 : decode cX5_findPairs 18 = .ok (.aload_n 0, 1) := by decide +kernel
theorem dX5_findPairs_19 : decode cX5_findPairs 19 = .ok (.getfield 53, 3) := by decide +kernel
theorem dX5_findPairs_22 : decode cX5_findPairs 22 = .ok (.if_icmp .ge 66, 3) := by decide +kernel
theorem dX5_findPairs_25 : decode cX5_findPairs 25 = .ok (.iload_n 1, 1) := by decide +kernel
theorem dX5_findPairs_26 : decode cX5_findPairs 26 = .ok (.iconst 1, 1) := by decide +kernel
theorem dX5_findPairs_27 : decode cX5_findPairs 27 = .ok (.iadd, 1) := by decide +kernel
theorem dX5_findPairs_28 : decode cX5_findPairs 28 = .ok (.istore_n 2, 1) := by decide +kernel
theorem dX5_findPairs_29 : decode cX5_findPairs 29 = .ok (.iload_n 2, 1) := by decide +kernel
theorem dX5_findPairs_30 : decode cX5_findPairs 30 = .ok (.aload_n 0, 1) := by decide +kernel
theorem dX5_findPairs_31 : decode cX5_findPairs 31 = .ok (.getfield 53, 3) := by decide +kernel
theorem dX5_findPairs_34 : decode cX5_findPairs 34 = .ok (.if_icmp .ge 48, 3) := by decide +kernel
theorem dX5_findPairs_37 : decode cX5_findPairs 37 = .ok (.aload_n 0, 1) := by decide +kernel
theorem dX5_findPairs_38 : decode cX5_findPairs 38 = .ok (.iload_n 1, 1) := by decide +kernel
theorem dX5_findPairs_39 : decode cX5_findPairs 39 = .ok (.iload_n 2, 1) := by decide +kernel
theorem dX5_findPairs_40 : decode cX5_findPairs 40 = .ok (.aload_n 0, 1) := by decide +kernel
theorem dX5_findPairs_41 : decode cX5_findPairs 41 = .ok (.getfield 27, 3) := by decide +kernel
theorem dX5_findPairs_44 : decode cX5_findPairs 44 = .ok (.invokevirtual 82, 3) := by decide +kernel
theorem dX5_findPairs_47 : decode cX5_findPairs 47 = .ok (.aload_n 0, 1) := by decide +kernel
theorem dX5_findPairs_48 : decode cX5_findPairs 48 = .ok (.iload_n 1, 1) := by decide +kernel
theorem dX5_findPairs_49 : decode cX5_findPairs 49 = .ok (.iload_n 2, 1) := by decide +kernel
theorem dX5_findPairs_50 : decode cX5_findPairs 50 = .ok (.invokevirtual 86, 3) := by decide +kernel
theorem dX5_findPairs_53 : decode cX5_findPairs 53 = .ok (.ifCond .eq 23, 3) := by decide +kernel
theorem dX5_findPairs_56 : decode cX5_findPairs 56 = .ok (.aload_n 0, 1) := by decide +kernel
theorem dX5_findPairs_57 : decode cX5_findPairs 57 = .ok (.getfield 35, 3) := by decide +kernel
theorem dX5_findPairs_60 : decode cX5_findPairs 60 = .ok (.aload_n 0, 1) := by decide +kernel
theorem dX5_findPairs_61 : decode cX5_findPairs 61 = .ok (.getfield 27, 3) := by decide +kernel
theorem dX5_findPairs_64 : decode cX5_findPairs 64 = .ok (.invokevirtual 89, 3) := by decide +kernel
theorem dX5_findPairs_67 : decode cX5_findPairs 67 = .ok (.ifCond .eq 9, 3) := by decide +kernel
theorem dX5_findPairs_70 : decode cX5_findPairs 70 = .ok (.aload_n 0, 1) := by decide +kernel
theorem dX5_findPairs_71 : decode cX5_findPairs 71 = .ok (.iload_n 1, 1) := by decide +kernel
theorem dX5_findPairs_72 : decode cX5_findPairs 72 = .ok (.iload_n 2, 1) := by decide +kernel
theorem dX5_findPairs_73 : decode cX5_findPairs 73 = .ok (.invokevirtual 95, 3) := by decide +kernel
theorem dX5_findPairs_76 : decode cX5_findPairs 76 = .ok (.iinc 2 1, 3) := by decide +kernel
theorem dX5_findPairs_79 : decode cX5_findPairs 79 = .ok (.goto (-50), 3) := by decide +kernel
theorem dX5_findPairs_82 : decode cX5_findPairs 82 = .ok (.iinc 1 1, 3) := by decide +kernel
theorem dX5_findPairs_85 : decode cX5_findPairs 85 = .ok (.goto (-68), 3) := by decide +kernel
theorem dX5_findPairs_88 : decode cX5_findPairs 88 = .ok (.return_, 1) := by decide +kernel
theorem dX5_areOfUnlikeNights_0 : decode cX5_areOfUnlikeNights 0 = .ok (.aload_n 0, 1) := by decide +kernel
theorem dX5_areOfUnlikeNights_1 : decode cX5_areOfUnlikeNights 1 = .ok (.getfield 31, 3) := by decide +kernel
theorem dX5_areOfUnlikeNights_4 : decode cX5_areOfUnlikeNights 4 = .ok (.aload_n 0, 1) := by decide +kernel
theorem dX5_areOfUnlikeNights_5 : decode cX5_areOfUnlikeNights 5 = .ok (.getfield 18, 3) := by decide +kernel
theorem dX5_areOfUnlikeNights_8 : decode cX5_areOfUnlikeNights 8 = .ok (.iload_n 1, 1) := by decide +kernel
theorem dX5_areOfUnlikeNights_9 : decode cX5_areOfUnlikeNights 9 = .ok (.iaload, 1) := by decide +kernel
theorem dX5_areOfUnlikeNights_10 : decode cX5_areOfUnlikeNights 10 = .ok (.invokevirtual 98, 3) := by decide +kernel
theorem dX5_areOfUnlikeNights_13 : decode cX5_areOfUnlikeNights 13 = .ok (.aload_n 0, 1) := by decide +kernel
theorem dX5_areOfUnlikeNights_14 : decode cX5_areOfUnlikeNights 14 = .ok (.getfield 31, 3) := by decide +kernel
theorem dX5_areOfUnlikeNights_17 : decode cX5_areOfUnlikeNights 17 = .ok (.aload_n 0, 1) := by decide +kernel
theorem dX5_areOfUnlikeNights_18 : decode cX5_areOfUnlikeNights 18 = .ok (.getfield 18, 3) := by decide +kernel
theorem dX5_areOfUnlikeNights_21 : decode cX5_areOfUnlikeNights 21 = .ok (.iload_n 2, 1) := by decide +kernel
theorem dX5_areOfUnlikeNights_22 : decode cX5_areOfUnlikeNights 22 = .ok (.iaload, 1) := by decide +kernel
theorem dX5_areOfUnlikeNights_23 : decode cX5_areOfUnlikeNights 23 = .ok (.invokevirtual 98, 3) := by decide +kernel
theorem dX5_areOfUnlikeNights_26 : decode cX5_areOfUnlikeNights 26 = .ok (.if_icmp .eq 7, 3) := by decide +kernel
theorem dX5_areOfUnlikeNights_29 : decode cX5_areOfUnlikeNights 29 = .ok (.iconst 1, 1) := by decide +kernel
theorem dX5_areOfUnlikeNights_30 : decode cX5_areOfUnlikeNights 30 = .ok (.goto 4, 3) := by decide +kernel
theorem dX5_areOfUnlikeNights_33 : decode cX5_areOfUnlikeNights 33 = .ok (.iconst 0, 1) := by decide +kernel
theorem dX5_areOfUnlikeNights_34 : decode cX5_areOfUnlikeNights 34 = .ok (.ireturn, 1) := by decide +kernel
theorem dX5_keepPair_0 : decode cX5_keepPair 0 = .ok (.aload_n 0, 1) := by decide +kernel
theorem dX5_keepPair_1 : decode cX5_keepPair 1 = .ok (.getfield 57, 3) := by decide +kernel
theorem dX5_keepPair_4 : decode cX5_keepPair 4 = .ok (.sipush 780, 3) := by decide +kernel
theorem dX5_keepPair_7 : decode cX5_keepPair 7 = .ok (.if_icmp .ge 33, 3) := by decide +kernel
theorem dX5_keepPair_10 : decode cX5_keepPair 10 = .ok (.aload_n 0, 1) := by decide +kernel
theorem dX5_keepPair_11 : decode cX5_keepPair 11 = .ok (.getfield 9, 3) := by decide +kernel
theorem dX5_keepPair_14 : decode cX5_keepPair 14 = .ok (.aload_n 0, 1) := by decide +kernel
theorem dX5_keepPair_15 : decode cX5_keepPair 15 = .ok (.getfield 57, 3) := by decide +kernel
theorem dX5_keepPair_18 : decode cX5_keepPair 18 = .ok (.iload_n 1, 1) := by decide +kernel
theorem dX5_keepPair_19 : decode cX5_keepPair 19 = .ok (.iastore, 1) := by decide +kernel
theorem dX5_keepPair_20 : decode cX5_keepPair 20 = .ok (.aload_n 0, 1) := by decide +kernel
theorem dX5_keepPair_21 : decode cX5_keepPair 21 = .ok (.getfield 15, 3) := by decide +kernel
theorem dX5_keepPair_24 : decode cX5_keepPair 24 = .ok (.aload_n 0, 1) := by decide +kernel
theorem dX5_keepPair_25 : decode cX5_keepPair 25 = .ok (.getfield 57, 3) := by decide +kernel
theorem dX5_keepPair_28 : decode cX5_keepPair 28 = .ok (.iload_n 2, 1) := by decide +kernel
theorem dX5_keepPair_29 : decode cX5_keepPair 29 = .ok (.iastore, 1) := by decide +kernel
theorem dX5_keepPair_30 : decode cX5_keepPair 30 = .ok (.aload_n 0, 1) := by decide +kernel
theorem dX5_keepPair_31 : decode cX5_keepPair 31 = .ok (.dup, 1) := by decide +kernel
theorem dX5_keepPair_32 : decode cX5_keepPair 32 = .ok (.getfield 57, 3) := by decide +kernel
theorem dX5_keepPair_35 : decode cX5_keepPair 35 = .ok (.iconst 1, 1) := by decide +kernel
theorem dX5_keepPair_36 : decode cX5_keepPair 36 = .ok (.iadd, 1) := by decide +kernel
theorem dX5_keepPair_37 : decode cX5_keepPair 37 = .ok (.putfield 57, 3) := by decide +kernel
theorem dX5_keepPair_40 : decode cX5_keepPair 40 = .ok (.return_, 1) := by decide +kernel
theorem dX6_init_0 : decode cX6_init 0 = .ok (.aload_n 0, 1) := by decide +kernel
theorem dX6_init_1 : decode cX6_init 1 = .ok (.invokespecial 3, 3) := by decide +kernel
theorem dX6_init_4 : decode cX6_init 4 = .ok (.aload_n 0, 1) := by decide +kernel
theorem dX6_init_5 : decode cX6_init 5 = .ok (.bipush 16, 2) := by decide +kernel
theorem dX6_init_7 : decode cX6_init 7 = .ok (.newarray .int, 2) := by decide +kernel
theorem dX6_init_9 : decode cX6_init 9 = .ok (.putfield 11, 3) := by decide +kernel
theorem dX6_init_12 : decode cX6_init 12 = .ok (.return_, 1) := by decide +kernel
theorem dX6_clear_0 : decode cX6_clear 0 = .ok (.aload_n 0, 1) := by decide +kernel
theorem dX6_clear_1 : decode cX6_clear 1 = .ok (.iconst 0, 1) := by decide +kernel
theorem dX6_clear_2 : decode cX6_clear 2 = .ok (.putfield 15, 3) := by decide +kernel
theorem dX6_clear_5 : decode cX6_clear 5 = .ok (.return_, 1) := by decide +kernel
theorem dX6_add_0 : decode cX6_add 0 = .ok (.aload_n 0, 1) := by decide +kernel
theorem dX6_add_1 : decode cX6_add 1 = .ok (.getfield 15, 3) := by decide +kernel
theorem dX6_add_4 : decode cX6_add 4 = .ok (.bipush 16, 2) := by decide +kernel
theorem dX6_add_6 : decode cX6_add 6 = .ok (.if_icmp .ge 23, 3) := by decide +kernel
theorem dX6_add_9 : decode cX6_add 9 = .ok (.aload_n 0, 1) := by decide +kernel
theorem dX6_add_10 : decode cX6_add 10 = .ok (.getfield 11, 3) := by decide +kernel
theorem dX6_add_13 : decode cX6_add 13 = .ok (.aload_n 0, 1) := by decide +kernel
theorem dX6_add_14 : decode cX6_add 14 = .ok (.getfield 15, 3) := by decide +kernel
theorem dX6_add_17 : decode cX6_add 17 = .ok (.iload_n 1, 1) := by decide +kernel
theorem dX6_add_18 : decode cX6_add 18 = .ok (.iastore, 1) := by decide +kernel
theorem dX6_add_19 : decode cX6_add 19 = .ok (.aload_n 0, 1) := by decide +kernel
theorem dX6_add_20 : decode cX6_add 20 = .ok (.dup, 1) := by decide +kernel
theorem dX6_add_21 : decode cX6_add 21 = .ok (.getfield 15, 3) := by decide +kernel
theorem dX6_add_24 : decode cX6_add 24 = .ok (.iconst 1, 1) := by decide +kernel
theorem dX6_add_25 : decode cX6_add 25 = .ok (.iadd, 1) := by decide +kernel
theorem dX6_add_26 : decode cX6_add 26 = .ok (.putfield 15, 3) := by decide +kernel
theorem dX6_add_29 : decode cX6_add 29 = .ok (.return_, 1) := by decide +kernel
theorem dX6_addAll_0 : decode cX6_addAll 0 = .ok (.iconst 0, 1) := by decide +kernel
theorem dX6_addAll_1 : decode cX6_addAll 1 = .ok (.istore_n 2, 1) := by decide +kernel
theorem dX6_addAll_2 : decode cX6_addAll 2 = .ok (.iload_n 2, 1) := by decide +kernel
theorem dX6_addAll_3 : decode cX6_addAll 3 = .ok (.aload_n 1, 1) := by decide +kernel
theorem dX6_addAll_4 : decode cX6_addAll 4 = .ok (.getfield 15, 3) := by decide +kernel
theorem dX6_addAll_7 : decode cX6_addAll 7 = .ok (.if_icmp .ge 19, 3) := by decide +kernel
theorem dX6_addAll_10 : decode cX6_addAll 10 = .ok (.aload_n 0, 1) := by decide +kernel
theorem dX6_addAll_11 : decode cX6_addAll 11 = .ok (.aload_n 1, 1) := by decide +kernel
theorem dX6_addAll_12 : decode cX6_addAll 12 = .ok (.getfield 11, 3) := by decide +kernel
theorem dX6_addAll_15 : decode cX6_addAll 15 = .ok (.iload_n 2, 1) := by decide +kernel
theorem dX6_addAll_16 : decode cX6_addAll 16 = .ok (.iaload, 1) := by decide +kernel
theorem dX6_addAll_17 : decode cX6_addAll 17 = .ok (.invokevirtual 19, 3) := by decide +kernel
theorem dX6_addAll_20 : decode cX6_addAll 20 = .ok (.iinc 2 1, 3) := by decide +kernel
theorem dX6_addAll_23 : decode cX6_addAll 23 = .ok (.goto (-21), 3) := by decide +kernel
theorem dX6_addAll_26 : decode cX6_addAll 26 = .ok (.return_, 1) := by decide +kernel
theorem dX6_become_0 : decode cX6_become 0 = .ok (.aload_n 0, 1) := by decide +kernel
theorem dX6_become_1 : decode cX6_become 1 = .ok (.invokevirtual 23, 3) := by decide +kernel
theorem dX6_become_4 : decode cX6_become 4 = .ok (.aload_n 0, 1) := by decide +kernel
theorem dX6_become_5 : decode cX6_become 5 = .ok (.aload_n 1, 1) := by decide +kernel
theorem dX6_become_6 : decode cX6_become 6 = .ok (.invokevirtual 26, 3) := by decide +kernel
theorem dX6_become_9 : decode cX6_become 9 = .ok (.return_, 1) := by decide +kernel
theorem dX7_init_0 : decode cX7_init 0 = .ok (.aload_n 0, 1) := by decide +kernel
theorem dX7_init_1 : decode cX7_init 1 = .ok (.invokespecial 3, 3) := by decide +kernel
theorem dX7_init_4 : decode cX7_init 4 = .ok (.aload_n 0, 1) := by decide +kernel
theorem dX7_init_5 : decode cX7_init 5 = .ok (.bipush 60, 2) := by decide +kernel
theorem dX7_init_7 : decode cX7_init 7 = .ok (.newarray .int, 2) := by decide +kernel
theorem dX7_init_9 : decode cX7_init 9 = .ok (.putfield 9, 3) := by decide +kernel
theorem dX7_init_12 : decode cX7_init 12 = .ok (.aload_n 0, 1) := by decide +kernel
theorem dX7_init_13 : decode cX7_init 13 = .ok (.bipush 60, 2) := by decide +kernel
theorem dX7_init_15 : decode cX7_init 15 = .ok (.newarray .int, 2) := by decide +kernel
theorem dX7_init_17 : decode cX7_init 17 = .ok (.putfield 15, 3) := by decide +kernel
theorem dX7_init_20 : decode cX7_init 20 = .ok (.aload_n 0, 1) := by decide +kernel
theorem dX7_init_21 : decode cX7_init 21 = .ok (.bipush 60, 2) := by decide +kernel
theorem dX7_init_23 : decode cX7_init 23 = .ok (.newarray .int, 2) := by decide +kernel
theorem dX7_init_25 : decode cX7_init 25 = .ok (.putfield 18, 3) := by decide +kernel
theorem dX7_init_28 : decode cX7_init 28 = .ok (.aload_n 0, 1) := by decide +kernel
theorem dX7_init_29 : decode cX7_init 29 = .ok (.bipush 60, 2) := by decide +kernel
theorem dX7_init_31 : decode cX7_init 31 = .ok (.newarray .int, 2) := by decide +kernel
theorem dX7_init_33 : decode cX7_init 33 = .ok (.putfield 21, 3) := by decide +kernel
theorem dX7_init_36 : decode cX7_init 36 = .ok (.aload_n 0, 1) := by decide +kernel
theorem dX7_init_37 : decode cX7_init 37 = .ok (.bipush 60, 2) := by decide +kernel
theorem dX7_init_39 : decode cX7_init 39 = .ok (.newarray .int, 2) := by decide +kernel
theorem dX7_init_41 : decode cX7_init 41 = .ok (.putfield 24, 3) := by decide +kernel
theorem dX7_init_44 : decode cX7_init 44 = .ok (.return_, 1) := by decide +kernel
theorem dX7_has_0 : decode cX7_has 0 = .ok (.iload_n 1, 1) := by decide +kernel
theorem dX7_has_1 : decode cX7_has 1 = .ok (.ifCond .lt 15, 3) := by decide +kernel
theorem dX7_has_4 : decode cX7_has 4 = .ok (.iload_n 1, 1) := by decide +kernel
theorem dX7_has_5 : decode cX7_has 5 = .ok (.aload_n 0, 1) := by decide +kernel
theorem dX7_has_6 : decode cX7_has 6 = .ok (.getfield 27, 3) := by decide +kernel
theorem dX7_has_9 : decode cX7_has 9 = .ok (.if_icmp .ge 7, 3) := by decide +kernel
theorem dX7_has_12 : decode cX7_has 12 = .ok (.iconst 1, 1) := by decide +kernel
theorem dX7_has_13 : decode cX7_has 13 = .ok (.goto 4, 3) := by decide +kernel
theorem dX7_has_16 : decode cX7_has 16 = .ok (.iconst 0, 1) := by decide +kernel
theorem dX7_has_17 : decode cX7_has 17 = .ok (.ireturn, 1) := by decide +kernel
theorem dX7_isFree_0 : decode cX7_isFree 0 = .ok (.aload_n 0, 1) := by decide +kernel
theorem dX7_isFree_1 : decode cX7_isFree 1 = .ok (.getfield 24, 3) := by decide +kernel
theorem dX7_isFree_4 : decode cX7_isFree 4 = .ok (.iload_n 1, 1) := by decide +kernel
theorem dX7_isFree_5 : decode cX7_isFree 5 = .ok (.iaload, 1) := by decide +kernel
theorem dX7_isFree_6 : decode cX7_isFree 6 = .ok (.iconst (-1), 1) := by decide +kernel
theorem dX7_isFree_7 : decode cX7_isFree 7 = .ok (.if_icmp .ne 7, 3) := by decide +kernel
theorem dX7_isFree_10 : decode cX7_isFree 10 = .ok (.iconst 1, 1) := by decide +kernel
theorem dX7_isFree_11 : decode cX7_isFree 11 = .ok (.goto 4, 3) := by decide +kernel
theorem dX7_isFree_14 : decode cX7_isFree 14 = .ok (.iconst 0, 1) := by decide +kernel
theorem dX7_isFree_15 : decode cX7_isFree 15 = .ok (.ireturn, 1) := by decide +kernel
theorem dX7_nightOf_0 : decode cX7_nightOf 0 = .ok (.aload_n 0, 1) := by decide +kernel
theorem dX7_nightOf_1 : decode cX7_nightOf 1 = .ok (.getfield 9, 3) := by decide +kernel
theorem dX7_nightOf_4 : decode cX7_nightOf 4 = .ok (.iload_n 1, 1) := by decide +kernel
theorem dX7_nightOf_5 : decode cX7_nightOf 5 = .ok (.iaload, 1) := by decide +kernel
theorem dX7_nightOf_6 : decode cX7_nightOf 6 = .ok (.bipush 24, 2) := by decide +kernel
theorem dX7_nightOf_8 : decode cX7_nightOf 8 = .ok (.idiv, 1) := by decide +kernel
theorem dX7_nightOf_9 : decode cX7_nightOf 9 = .ok (.ireturn, 1) := by decide +kernel
theorem dX7_placeOf_0 : decode cX7_placeOf 0 = .ok (.iload_n 2, 1) := by decide +kernel
theorem dX7_placeOf_1 : decode cX7_placeOf 1 = .ok (.ifCond .ne 12, 3) := by decide +kernel
theorem dX7_placeOf_4 : decode cX7_placeOf 4 = .ok (.aload_n 0, 1) := by decide +kernel
theorem dX7_placeOf_5 : decode cX7_placeOf 5 = .ok (.getfield 15, 3) := by decide +kernel
theorem dX7_placeOf_8 : decode cX7_placeOf 8 = .ok (.iload_n 1, 1) := by decide +kernel
theorem dX7_placeOf_9 : decode cX7_placeOf 9 = .ok (.iaload, 1) := by decide +kernel
theorem dX7_placeOf_10 : decode cX7_placeOf 10 = .ok (.goto 9, 3) := by decide +kernel
theorem dX7_placeOf_13 : decode cX7_placeOf 13 = .ok (.aload_n 0, 1) := by decide +kernel
theorem dX7_placeOf_14 : decode cX7_placeOf 14 = .ok (.getfield 18, 3) := by decide +kernel
theorem dX7_placeOf_17 : decode cX7_placeOf 17 = .ok (.iload_n 1, 1) := by decide +kernel
theorem dX7_placeOf_18 : decode cX7_placeOf 18 = .ok (.iaload, 1) := by decide +kernel
theorem dX7_placeOf_19 : decode cX7_placeOf 19 = .ok (.ireturn, 1) := by decide +kernel
theorem dX7_find_0 : decode cX7_find 0 = .ok (.iconst 0, 1) := by decide +kernel
theorem dX7_find_1 : decode cX7_find 1 = .ok (.istore 4, 2) := by decide +kernel
theorem dX7_find_3 : decode cX7_find 3 = .ok (.iload 4, 2) := by decide +kernel
theorem dX7_find_5 : decode cX7_find 5 = .ok (.aload_n 0, 1) := by decide +kernel
theorem dX7_find_6 : decode cX7_find 6 = .ok (.getfield 27, 3) := by decide +kernel
theorem dX7_find_9 : decode cX7_find 9 = .ok (.if_icmp .ge 45, 3) := by decide +kernel
theorem dX7_find_12 : decode cX7_find 12 = .ok (.aload_n 0, 1) := by decide +kernel
theorem dX7_find_13 : decode cX7_find 13 = .ok (.getfield 9, 3) := by decide +kernel
theorem dX7_find_16 : decode cX7_find 16 = .ok (.iload 4, 2) := by decide +kernel
theorem dX7_find_18 : decode cX7_find 18 = .ok (.iaload, 1) := by decide +kernel
theorem dX7_find_19 : decode cX7_find 19 = .ok (.iload_n 1, 1) := by decide +kernel
theorem dX7_find_20 : decode cX7_find 20 = .ok (.if_icmp .ne 28, 3) := by decide +kernel
theorem dX7_find_23 : decode cX7_find 23 = .ok (.aload_n 0, 1) := by decide +kernel
theorem dX7_find_24 : decode cX7_find 24 = .ok (.getfield 15, 3) := by decide +kernel
theorem dX7_find_27 : decode cX7_find 27 = .ok (.iload 4, 2) := by decide +kernel
theorem dX7_find_29 : decode cX7_find 29 = .ok (.iaload, 1) := by decide +kernel
theorem dX7_find_30 : decode cX7_find 30 = .ok (.iload_n 2, 1) := by decide +kernel
theorem dX7_find_31 : decode cX7_find 31 = .ok (.if_icmp .ne 17, 3) := by decide +kernel
theorem dX7_find_34 : decode cX7_find 34 = .ok (.aload_n 0, 1) := by decide +kernel
theorem dX7_find_35 : decode cX7_find 35 = .ok (.getfield 18, 3) := by decide +kernel
theorem dX7_find_38 : decode cX7_find 38 = .ok (.iload 4, 2) := by decide +kernel
theorem dX7_find_40 : decode cX7_find 40 = .ok (.iaload, 1) := by decide +kernel
theorem dX7_find_41 : decode cX7_find 41 = .ok (.iload_n 3, 1) := by decide +kernel
theorem dX7_find_42 : decode cX7_find 42 = .ok (.if_icmp .ne 6, 3) := by decide +kernel
theorem dX7_find_45 : decode cX7_find 45 = .ok (.iload 4, 2) := by decide +kernel
theorem dX7_find_47 : decode cX7_find 47 = .ok (.ireturn, 1) := by decide +kernel
theorem dX7_find_48 : decode cX7_find 48 = .ok (.iinc 4 1, 3) := by decide +kernel
theorem dX7_find_51 : decode cX7_find 51 = .ok (.goto (-48), 3) := by decide +kernel
theorem dX7_find_54 : decode cX7_find 54 = .ok (.iconst (-1), 1) := by decide +kernel
theorem dX7_find_55 : decode cX7_find 55 = .ok (.ireturn, 1) := by decide +kernel
theorem dX7_add_0 : decode cX7_add 0 = .ok (.aload_n 0, 1) := by decide +kernel
theorem dX7_add_1 : decode cX7_add 1 = .ok (.getfield 27, 3) := by decide +kernel
theorem dX7_add_4 : decode cX7_add 4 = .ok (.bipush 60, 2) := by decide +kernel
theorem dX7_add_6 : decode cX7_add 6 = .ok (.if_icmp .lt 6, 3) := by decide +kernel
theorem dX7_add_9 : decode cX7_add 9 = .ok (.bipush (-4), 2) := by decide +kernel
theorem dX7_add_11 : decode cX7_add 11 = .ok (.ireturn, 1) := by decide +kernel
theorem dX7_add_12 : decode cX7_add 12 = .ok (.aload_n 0, 1) := by decide +kernel
theorem dX7_add_13 : decode cX7_add 13 = .ok (.getfield 27, 3) := by decide +kernel
theorem dX7_add_16 : decode cX7_add 16 = .ok (.istore 5, 2) := by decide +kernel
theorem dX7_add_18 : decode cX7_add 18 = .ok (.aload_n 0, 1) := by decide +kernel
theorem dX7_add_19 : decode cX7_add 19 = .ok (.getfield 9, 3) := by decide +kernel
theorem dX7_add_22 : decode cX7_add 22 = .ok (.iload 5, 2) := by decide +kernel
theorem dX7_add_24 : decode cX7_add 24 = .ok (.iload_n 1, 1) := by decide +kernel
theorem dX7_add_25 : decode cX7_add 25 = .ok (.iastore, 1) := by decide +kernel
theorem dX7_add_26 : decode cX7_add 26 = .ok (.aload_n 0, 1) := by decide +kernel
theorem dX7_add_27 : decode cX7_add 27 = .ok (.getfield 15, 3) := by decide +kernel
theorem dX7_add_30 : decode cX7_add 30 = .ok (.iload 5, 2) := by decide +kernel
theorem dX7_add_32 : decode cX7_add 32 = .ok (.iload_n 2, 1) := by decide +kernel
theorem dX7_add_33 : decode cX7_add 33 = .ok (.iastore, 1) := by decide +kernel
theorem dX7_add_34 : decode cX7_add 34 = .ok (.aload_n 0, 1) := by decide +kernel
theorem dX7_add_35 : decode cX7_add 35 = .ok (.getfield 18, 3) := by decide +kernel
theorem dX7_add_38 : decode cX7_add 38 = .ok (.iload 5, 2) := by decide +kernel
theorem dX7_add_40 : decode cX7_add 40 = .ok (.iload_n 3, 1) := by decide +kernel
theorem dX7_add_41 : decode cX7_add 41 = .ok (.iastore, 1) := by decide +kernel
theorem dX7_add_42 : decode cX7_add 42 = .ok (.aload_n 0, 1) := by decide +kernel
theorem dX7_add_43 : decode cX7_add 43 = .ok (.getfield 21, 3) := by decide +kernel
theorem dX7_add_46 : decode cX7_add 46 = .ok (.iload 5, 2) := by decide +kernel
theorem dX7_add_48 : decode cX7_add 48 = .ok (.iload 4, 2) := by decide +kernel
theorem dX7_add_50 : decode cX7_add 50 = .ok (.iastore, 1) := by decide +kernel
theorem dX7_add_51 : decode cX7_add 51 = .ok (.aload_n 0, 1) := by decide +kernel
theorem dX7_add_52 : decode cX7_add 52 = .ok (.getfield 24, 3) := by decide +kernel
theorem dX7_add_55 : decode cX7_add 55 = .ok (.iload 5, 2) := by decide +kernel
theorem dX7_add_57 : decode cX7_add 57 = .ok (.iconst (-1), 1) := by decide +kernel
theorem dX7_add_58 : decode cX7_add 58 = .ok (.iastore, 1) := by decide +kernel
theorem dX7_add_59 : decode cX7_add 59 = .ok (.aload_n 0, 1) := by decide +kernel
theorem dX7_add_60 : decode cX7_add 60 = .ok (.dup, 1) := by decide +kernel
theorem dX7_add_61 : decode cX7_add 61 = .ok (.getfield 27, 3) := by decide +kernel
theorem dX7_add_64 : decode cX7_add 64 = .ok (.iconst 1, 1) := by decide +kernel
theorem dX7_add_65 : decode cX7_add 65 = .ok (.iadd, 1) := by decide +kernel
theorem dX7_add_66 : decode cX7_add 66 = .ok (.putfield 27, 3) := by decide +kernel
theorem dX7_add_69 : decode cX7_add 69 = .ok (.iload 5, 2) := by decide +kernel
theorem dX7_add_71 : decode cX7_add 71 = .ok (.ireturn, 1) := by decide +kernel
theorem dX7_freeOnes_0 : decode cX7_freeOnes 0 = .ok (.iconst 0, 1) := by decide +kernel
theorem dX7_freeOnes_1 : decode cX7_freeOnes 1 = .ok (.istore_n 1, 1) := by decide +kernel
theorem dX7_freeOnes_2 : decode cX7_freeOnes 2 = .ok (.iconst 0, 1) := by decide +kernel
theorem dX7_freeOnes_3 : decode cX7_freeOnes 3 = .ok (.istore_n 2, 1) := by decide +kernel
theorem dX7_freeOnes_4 : decode cX7_freeOnes 4 = .ok (.iload_n 2, 1) := by decide +kernel
theorem dX7_freeOnes_5 : decode cX7_freeOnes 5 = .ok (.aload_n 0, 1) := by decide +kernel
theorem dX7_freeOnes_6 : decode cX7_freeOnes 6 = .ok (.getfield 27, 3) := by decide +kernel
theorem dX7_freeOnes_9 : decode cX7_freeOnes 9 = .ok (.if_icmp .ge 20, 3) := by decide +kernel
theorem dX7_freeOnes_12 : decode cX7_freeOnes 12 = .ok (.aload_n 0, 1) := by decide +kernel
theorem dX7_freeOnes_13 : decode cX7_freeOnes 13 = .ok (.iload_n 2, 1) := by decide +kernel
theorem dX7_freeOnes_14 : decode cX7_freeOnes 14 = .ok (.invokevirtual 31, 3) := by decide +kernel
theorem dX7_freeOnes_17 : decode cX7_freeOnes 17 = .ok (.ifCond .eq 6, 3) := by decide +kernel
theorem dX7_freeOnes_20 : decode cX7_freeOnes 20 = .ok (.iinc 1 1, 3) := by decide +kernel
theorem dX7_freeOnes_23 : decode cX7_freeOnes 23 = .ok (.iinc 2 1, 3) := by decide +kernel
theorem dX7_freeOnes_26 : decode cX7_freeOnes 26 = .ok (.goto (-22), 3) := by decide +kernel
theorem dX7_freeOnes_29 : decode cX7_freeOnes 29 = .ok (.iload_n 1, 1) := by decide +kernel
theorem dX7_freeOnes_30 : decode cX7_freeOnes 30 = .ok (.ireturn, 1) := by decide +kernel
theorem dX7_putAll_0 : decode cX7_putAll 0 = .ok (.iconst 0, 1) := by decide +kernel
theorem dX7_putAll_1 : decode cX7_putAll 1 = .ok (.istore_n 3, 1) := by decide +kernel
theorem dX7_putAll_2 : decode cX7_putAll 2 = .ok (.iload_n 3, 1) := by decide +kernel
theorem dX7_putAll_3 : decode cX7_putAll 3 = .ok (.aload_n 1, 1) := by decide +kernel
theorem dX7_putAll_4 : decode cX7_putAll 4 = .ok (.getfield 35, 3) := by decide +kernel
theorem dX7_putAll_7 : decode cX7_putAll 7 = .ok (.if_icmp .ge 21, 3) := by decide +kernel
theorem dX7_putAll_10 : decode cX7_putAll 10 = .ok (.aload_n 0, 1) := by decide +kernel
theorem dX7_putAll_11 : decode cX7_putAll 11 = .ok (.getfield 24, 3) := by decide +kernel
theorem dX7_putAll_14 : decode cX7_putAll 14 = .ok (.aload_n 1, 1) := by decide +kernel
theorem dX7_putAll_15 : decode cX7_putAll 15 = .ok (.getfield 40, 3) := by decide +kernel
theorem dX7_putAll_18 : decode cX7_putAll 18 = .ok (.iload_n 3, 1) := by decide +kernel
theorem dX7_putAll_19 : decode cX7_putAll 19 = .ok (.iaload, 1) := by decide +kernel
theorem dX7_putAll_20 : decode cX7_putAll 20 = .ok (.iload_n 2, 1) := by decide +kernel
theorem dX7_putAll_21 : decode cX7_putAll 21 = .ok (.iastore, 1) := by decide +kernel
theorem dX7_putAll_22 : decode cX7_putAll 22 = .ok (.iinc 3 1, 3) := by decide +kernel
theorem dX7_putAll_25 : decode cX7_putAll 25 = .ok (.goto (-23), 3) := by decide +kernel
theorem dX7_putAll_28 : decode cX7_putAll 28 = .ok (.return_, 1) := by decide +kernel
theorem dX8_init_0 : decode cX8_init 0 = .ok (.aload_n 0, 1) := by decide +kernel
theorem dX8_init_1 : decode cX8_init 1 = .ok (.invokespecial 1, 3) := by decide +kernel
theorem dX8_init_4 : decode cX8_init 4 = .ok (.aload_n 0, 1) := by decide +kernel
theorem dX8_init_5 : decode cX8_init 5 = .ok (.new 7, 3) := by decide +kernel
theorem dX8_init_8 : decode cX8_init 8 = .ok (.dup, 1) := by decide +kernel
theorem dX8_init_9 : decode cX8_init 9 = .ok (.invokespecial 9, 3) := by decide +kernel
theorem dX8_init_12 : decode cX8_init 12 = .ok (.putfield 10, 3) := by decide +kernel
theorem dX8_init_15 : decode cX8_init 15 = .ok (.return_, 1) := by decide +kernel
theorem dX9_init_0 : decode cX9_init 0 = .ok (.aload_n 0, 1) := by decide +kernel
theorem dX9_init_1 : decode cX9_init 1 = .ok (.invokespecial 3, 3) := by decide +kernel
theorem dX9_init_4 : decode cX9_init 4 = .ok (.aload_n 0, 1) := by decide +kernel
theorem dX9_init_5 : decode cX9_init 5 = .ok (.bipush 12, 2) := by decide +kernel
theorem dX9_init_7 : decode cX9_init 7 = .ok (.anewarray 9, 3) := by decide +kernel
theorem dX9_init_10 : decode cX9_init 10 = .ok (.putfield 11, 3) := by decide +kernel
theorem dX9_init_13 : decode cX9_init 13 = .ok (.aload_n 0, 1) := by decide +kernel
theorem dX9_init_14 : decode cX9_init 14 = .ok (.aload_n 1, 1) := by decide +kernel
theorem dX9_init_15 : decode cX9_init 15 = .ok (.putfield 17, 3) := by decide +kernel
theorem dX9_init_18 : decode cX9_init 18 = .ok (.iconst 0, 1) := by decide +kernel
theorem dX9_init_19 : decode cX9_init 19 = .ok (.istore_n 2, 1) := by decide +kernel
theorem dX9_init_20 : decode cX9_init 20 = .ok (.iload_n 2, 1) := by decide +kernel
theorem dX9_init_21 : decode cX9_init 21 = .ok (.bipush 12, 2) := by decide +kernel
theorem dX9_init_23 : decode cX9_init 23 = .ok (.if_icmp .ge 22, 3) := by decide +kernel
theorem dX9_init_26 : decode cX9_init 26 = .ok (.aload_n 0, 1) := by decide +kernel
theorem dX9_init_27 : decode cX9_init 27 = .ok (.getfield 11, 3) := by decide +kernel
theorem dX9_init_30 : decode cX9_init 30 = .ok (.iload_n 2, 1) := by decide +kernel
theorem dX9_init_31 : decode cX9_init 31 = .ok (.new 9, 3) := by decide +kernel
theorem dX9_init_34 : decode cX9_init 34 = .ok (.dup, 1) := by decide +kernel
theorem dX9_init_35 : decode cX9_init 35 = .ok (.invokespecial 21, 3) := by decide +kernel
theorem dX9_init_38 : decode cX9_init 38 = .ok (.aastore, 1) := by decide +kernel
theorem dX9_init_39 : decode cX9_init 39 = .ok (.iinc 2 1, 3) := by decide +kernel
theorem dX9_init_42 : decode cX9_init 42 = .ok (.goto (-22), 3) := by decide +kernel
theorem dX9_init_45 : decode cX9_init 45 = .ok (.return_, 1) := by decide +kernel
theorem dX9_has_0 : decode cX9_has 0 = .ok (.iload_n 1, 1) := by decide +kernel
theorem dX9_has_1 : decode cX9_has 1 = .ok (.ifCond .lt 27, 3) := by decide +kernel
theorem dX9_has_4 : decode cX9_has 4 = .ok (.iload_n 1, 1) := by decide +kernel
theorem dX9_has_5 : decode cX9_has 5 = .ok (.aload_n 0, 1) := by decide +kernel
theorem dX9_has_6 : decode cX9_has 6 = .ok (.getfield 22, 3) := by decide +kernel
theorem dX9_has_9 : decode cX9_has 9 = .ok (.if_icmp .ge 19, 3) := by decide +kernel
theorem dX9_has_12 : decode cX9_has 12 = .ok (.aload_n 0, 1) := by decide +kernel
theorem dX9_has_13 : decode cX9_has 13 = .ok (.getfield 11, 3) := by decide +kernel
theorem dX9_has_16 : decode cX9_has 16 = .ok (.iload_n 1, 1) := by decide +kernel
theorem dX9_has_17 : decode cX9_has 17 = .ok (.aaload, 1) := by decide +kernel
theorem dX9_has_18 : decode cX9_has 18 = .ok (.getfield 26, 3) := by decide +kernel
theorem dX9_has_21 : decode cX9_has 21 = .ok (.ifCond .ne 7, 3) := by decide +kernel
theorem dX9_has_24 : decode cX9_has 24 = .ok (.iconst 1, 1) := by decide +kernel
theorem dX9_has_25 : decode cX9_has 25 = .ok (.goto 4, 3) := by decide +kernel
theorem dX9_has_28 : decode cX9_has 28 = .ok (.iconst 0, 1) := by decide +kernel
theorem dX9_has_29 : decode cX9_has 29 = .ok (.ireturn, 1) := by decide +kernel
theorem dX9_add_0 : decode cX9_add 0 = .ok (.aload_n 0, 1) := by decide +kernel
theorem dX9_add_1 : decode cX9_add 1 = .ok (.getfield 22, 3) := by decide +kernel
theorem dX9_add_4 : decode cX9_add 4 = .ok (.bipush 12, 2) := by decide +kernel
theorem dX9_add_6 : decode cX9_add 6 = .ok (.if_icmp .lt 6, 3) := by decide +kernel
theorem dX9_add_9 : decode cX9_add 9 = .ok (.bipush (-4), 2) := by decide +kernel
theorem dX9_add_11 : decode cX9_add 11 = .ok (.ireturn, 1) := by decide +kernel
theorem dX9_add_12 : decode cX9_add 12 = .ok (.aload_n 0, 1) := by decide +kernel
theorem dX9_add_13 : decode cX9_add 13 = .ok (.getfield 22, 3) := by decide +kernel
theorem dX9_add_16 : decode cX9_add 16 = .ok (.istore_n 2, 1) := by decide +kernel
theorem dX9_add_17 : decode cX9_add 17 = .ok (.aload_n 0, 1) := by decide +kernel
theorem dX9_add_18 : decode cX9_add 18 = .ok (.getfield 11, 3) := by decide +kernel
theorem dX9_add_21 : decode cX9_add 21 = .ok (.iload_n 2, 1) := by decide +kernel
theorem dX9_add_22 : decode cX9_add 22 = .ok (.aaload, 1) := by decide +kernel
theorem dX9_add_23 : decode cX9_add 23 = .ok (.iload_n 1, 1) := by decide +kernel
theorem dX9_add_24 : decode cX9_add 24 = .ok (.putfield 30, 3) := by decide +kernel
theorem dX9_add_27 : decode cX9_add 27 = .ok (.aload_n 0, 1) := by decide +kernel
theorem dX9_add_28 : decode cX9_add 28 = .ok (.dup, 1) := by decide +kernel
theorem dX9_add_29 : decode cX9_add 29 = .ok (.getfield 22, 3) := by decide +kernel
theorem dX9_add_32 : decode cX9_add 32 = .ok (.iconst 1, 1) := by decide +kernel
theorem dX9_add_33 : decode cX9_add 33 = .ok (.iadd, 1) := by decide +kernel
theorem dX9_add_34 : decode cX9_add 34 = .ok (.putfield 22, 3) := by decide +kernel
theorem dX9_add_37 : decode cX9_add 37 = .ok (.iload_n 2, 1) := by decide +kernel
theorem dX9_add_38 : decode cX9_add 38 = .ok (.ireturn, 1) := by decide +kernel
theorem dX9_notGone_0 : decode cX9_notGone 0 = .ok (.iconst 0, 1) := by decide +kernel
theorem dX9_notGone_1 : decode cX9_notGone 1 = .ok (.istore_n 1, 1) := by decide +kernel
theorem dX9_notGone_2 : decode cX9_notGone 2 = .ok (.iconst 0, 1) := by decide +kernel
theorem dX9_notGone_3 : decode cX9_notGone 3 = .ok (.istore_n 2, 1) := by decide +kernel
theorem dX9_notGone_4 : decode cX9_notGone 4 = .ok (.iload_n 2, 1) := by decide +kernel
theorem dX9_notGone_5 : decode cX9_notGone 5 = .ok (.aload_n 0, 1) := by decide +kernel
theorem dX9_notGone_6 : decode cX9_notGone 6 = .ok (.getfield 22, 3) := by decide +kernel
theorem dX9_notGone_9 : decode cX9_notGone 9 = .ok (.if_icmp .ge 20, 3) := by decide +kernel
theorem dX9_notGone_12 : decode cX9_notGone 12 = .ok (.aload_n 0, 1) := by decide +kernel
theorem dX9_notGone_13 : decode cX9_notGone 13 = .ok (.iload_n 2, 1) := by decide +kernel
theorem dX9_notGone_14 : decode cX9_notGone 14 = .ok (.invokevirtual 33, 3) := by decide +kernel
theorem dX9_notGone_17 : decode cX9_notGone 17 = .ok (.ifCond .eq 6, 3) := by decide +kernel
theorem dX9_notGone_20 : decode cX9_notGone 20 = .ok (.iinc 1 1, 3) := by decide +kernel
theorem dX9_notGone_23 : decode cX9_notGone 23 = .ok (.iinc 2 1, 3) := by decide +kernel
theorem dX9_notGone_26 : decode cX9_notGone 26 = .ok (.goto (-22), 3) := by decide +kernel
theorem dX9_notGone_29 : decode cX9_notGone 29 = .ok (.iload_n 1, 1) := by decide +kernel
theorem dX9_notGone_30 : decode cX9_notGone 30 = .ok (.ireturn, 1) := by decide +kernel
theorem dX9_replaceRow_0 : decode cX9_replaceRow 0 = .ok (.aload_n 0, 1) := by decide +kernel
theorem dX9_replaceRow_1 : decode cX9_replaceRow 1 = .ok (.getfield 11, 3) := by decide +kernel
theorem dX9_replaceRow_4 : decode cX9_replaceRow 4 = .ok (.iload_n 1, 1) := by decide +kernel
theorem dX9_replaceRow_5 : decode cX9_replaceRow 5 = .ok (.aaload, 1) := by decide +kernel
theorem dX9_replaceRow_6 : decode cX9_replaceRow 6 = .ok (.getfield 37, 3) := by decide +kernel
theorem dX9_replaceRow_9 : decode cX9_replaceRow 9 = .ok (.astore_n 3, 1) := by decide +kernel
theorem dX9_replaceRow_10 : decode cX9_replaceRow 10 = .ok (.aload_n 0, 1) := by decide +kernel
theorem dX9_replaceRow_11 : decode cX9_replaceRow 11 = .ok (.getfield 17, 3) := by decide +kernel
theorem dX9_replaceRow_14 : decode cX9_replaceRow 14 = .ok (.aload_n 3, 1) := by decide +kernel
theorem dX9_replaceRow_15 : decode cX9_replaceRow 15 = .ok (.iconst (-1), 1) := by decide +kernel
theorem dX9_replaceRow_16 : decode cX9_replaceRow 16 = .ok (.invokevirtual 41, 3) := by decide +kernel
theorem dX9_replaceRow_19 : decode cX9_replaceRow 19 = .ok (.aload_n 3, 1) := by decide +kernel
theorem dX9_replaceRow_20 : decode cX9_replaceRow 20 = .ok (.aload_n 2, 1) := by decide +kernel
theorem dX9_replaceRow_21 : decode cX9_replaceRow 21 = .ok (.invokevirtual 47, 3) := by decide +kernel
theorem dX9_replaceRow_24 : decode cX9_replaceRow 24 = .ok (.aload_n 0, 1) := by decide +kernel
theorem dX9_replaceRow_25 : decode cX9_replaceRow 25 = .ok (.getfield 17, 3) := by decide +kernel
theorem dX9_replaceRow_28 : decode cX9_replaceRow 28 = .ok (.aload_n 3, 1) := by decide +kernel
theorem dX9_replaceRow_29 : decode cX9_replaceRow 29 = .ok (.iload_n 1, 1) := by decide +kernel
theorem dX9_replaceRow_30 : decode cX9_replaceRow 30 = .ok (.invokevirtual 41, 3) := by decide +kernel
theorem dX9_replaceRow_33 : decode cX9_replaceRow 33 = .ok (.return_, 1) := by decide +kernel
theorem dX9_bringBack_0 : decode cX9_bringBack 0 = .ok (.aload_n 0, 1) := by decide +kernel
theorem dX9_bringBack_1 : decode cX9_bringBack 1 = .ok (.getfield 11, 3) := by decide +kernel
theorem dX9_bringBack_4 : decode cX9_bringBack 4 = .ok (.iload_n 1, 1) := by decide +kernel
theorem dX9_bringBack_5 : decode cX9_bringBack 5 = .ok (.aaload, 1) := by decide +kernel
theorem dX9_bringBack_6 : decode cX9_bringBack 6 = .ok (.iconst 0, 1) := by decide +kernel
theorem dX9_bringBack_7 : decode cX9_bringBack 7 = .ok (.putfield 26, 3) := by decide +kernel
theorem dX9_bringBack_10 : decode cX9_bringBack 10 = .ok (.aload_n 0, 1) := by decide +kernel
theorem dX9_bringBack_11 : decode cX9_bringBack 11 = .ok (.getfield 17, 3) := by decide +kernel
theorem dX9_bringBack_14 : decode cX9_bringBack 14 = .ok (.aload_n 0, 1) := by decide +kernel
theorem dX9_bringBack_15 : decode cX9_bringBack 15 = .ok (.getfield 11, 3) := by decide +kernel
theorem dX9_bringBack_18 : decode cX9_bringBack 18 = .ok (.iload_n 1, 1) := by decide +kernel
theorem dX9_bringBack_19 : decode cX9_bringBack 19 = .ok (.aaload, 1) := by decide +kernel
theorem dX9_bringBack_20 : decode cX9_bringBack 20 = .ok (.getfield 37, 3) := by decide +kernel
theorem dX9_bringBack_23 : decode cX9_bringBack 23 = .ok (.iload_n 1, 1) := by decide +kernel
theorem dX9_bringBack_24 : decode cX9_bringBack 24 = .ok (.invokevirtual 41, 3) := by decide +kernel
theorem dX9_bringBack_27 : decode cX9_bringBack 27 = .ok (.return_, 1) := by decide +kernel
theorem dJ6_bitCount_0f7a4_0 : decode cJ6_bitCount_0f7a4 0 = .ok (.iload_n 0, 1) := by decide +kernel
theorem dJ6_bitCount_0f7a4_1 : decode cJ6_bitCount_0f7a4 1 = .ok (.iload_n 0, 1) := by decide +kernel
theorem dJ6_bitCount_0f7a4_2 : decode cJ6_bitCount_0f7a4 2 = .ok (.iconst 1, 1) := by decide +kernel
theorem dJ6_bitCount_0f7a4_3 : decode cJ6_bitCount_0f7a4 3 = .ok (.iushr, 1) := by decide +kernel
theorem dJ6_bitCount_0f7a4_4 : decode cJ6_bitCount_0f7a4 4 = .ok (.ldc_w 265, 3) := by decide +kernel
theorem dJ6_bitCount_0f7a4_7 : decode cJ6_bitCount_0f7a4 7 = .ok (.iand, 1) := by decide +kernel
theorem dJ6_bitCount_0f7a4_8 : decode cJ6_bitCount_0f7a4 8 = .ok (.isub, 1) := by decide +kernel
theorem dJ6_bitCount_0f7a4_9 : decode cJ6_bitCount_0f7a4 9 = .ok (.istore_n 0, 1) := by decide +kernel
theorem dJ6_bitCount_0f7a4_10 : decode cJ6_bitCount_0f7a4 10 = .ok (.iload_n 0, 1) := by decide +kernel
theorem dJ6_bitCount_0f7a4_11 : decode cJ6_bitCount_0f7a4 11 = .ok (.ldc_w 266, 3) := by decide +kernel
theorem dJ6_bitCount_0f7a4_14 : decode cJ6_bitCount_0f7a4 14 = .ok (.iand, 1) := by decide +kernel
theorem dJ6_bitCount_0f7a4_15 : decode cJ6_bitCount_0f7a4 15 = .ok (.iload_n 0, 1) := by decide +kernel
theorem dJ6_bitCount_0f7a4_16 : decode cJ6_bitCount_0f7a4 16 = .ok (.iconst 2, 1) := by decide +kernel
theorem dJ6_bitCount_0f7a4_17 : decode cJ6_bitCount_0f7a4 17 = .ok (.iushr, 1) := by decide +kernel
theorem dJ6_bitCount_0f7a4_18 : decode cJ6_bitCount_0f7a4 18 = .ok (.ldc_w 266, 3) := by decide +kernel
theorem dJ6_bitCount_0f7a4_21 : decode cJ6_bitCount_0f7a4 21 = .ok (.iand, 1) := by decide +kernel
theorem dJ6_bitCount_0f7a4_22 : decode cJ6_bitCount_0f7a4 22 = .ok (.iadd, 1) := by decide +kernel
theorem dJ6_bitCount_0f7a4_23 : decode cJ6_bitCount_0f7a4 23 = .ok (.istore_n 0, 1) := by decide +kernel
theorem dJ6_bitCount_0f7a4_24 : decode cJ6_bitCount_0f7a4 24 = .ok (.iload_n 0, 1) := by decide +kernel
theorem dJ6_bitCount_0f7a4_25 : decode cJ6_bitCount_0f7a4 25 = .ok (.iload_n 0, 1) := by decide +kernel
theorem dJ6_bitCount_0f7a4_26 : decode cJ6_bitCount_0f7a4 26 = .ok (.iconst 4, 1) := by decide +kernel
theorem dJ6_bitCount_0f7a4_27 : decode cJ6_bitCount_0f7a4 27 = .ok (.iushr, 1) := by decide +kernel
theorem dJ6_bitCount_0f7a4_28 : decode cJ6_bitCount_0f7a4 28 = .ok (.iadd, 1) := by decide +kernel
theorem dJ6_bitCount_0f7a4_29 : decode cJ6_bitCount_0f7a4 29 = .ok (.ldc_w 267, 3) := by decide +kernel
theorem dJ6_bitCount_0f7a4_32 : decode cJ6_bitCount_0f7a4 32 = .ok (.iand, 1) := by decide +kernel
theorem dJ6_bitCount_0f7a4_33 : decode cJ6_bitCount_0f7a4 33 = .ok (.istore_n 0, 1) := by decide +kernel
theorem dJ6_bitCount_0f7a4_34 : decode cJ6_bitCount_0f7a4 34 = .ok (.iload_n 0, 1) := by decide +kernel
theorem dJ6_bitCount_0f7a4_35 : decode cJ6_bitCount_0f7a4 35 = .ok (.iload_n 0, 1) := by decide +kernel
theorem dJ6_bitCount_0f7a4_36 : decode cJ6_bitCount_0f7a4 36 = .ok (.bipush 8, 2) := by decide +kernel
theorem dJ6_bitCount_0f7a4_38 : decode cJ6_bitCount_0f7a4 38 = .ok (.iushr, 1) := by decide +kernel
theorem dJ6_bitCount_0f7a4_39 : decode cJ6_bitCount_0f7a4 39 = .ok (.iadd, 1) := by decide +kernel
theorem dJ6_bitCount_0f7a4_40 : decode cJ6_bitCount_0f7a4 40 = .ok (.istore_n 0, 1) := by decide +kernel
theorem dJ6_bitCount_0f7a4_41 : decode cJ6_bitCount_0f7a4 41 = .ok (.iload_n 0, 1) := by decide +kernel
theorem dJ6_bitCount_0f7a4_42 : decode cJ6_bitCount_0f7a4 42 = .ok (.iload_n 0, 1) := by decide +kernel
theorem dJ6_bitCount_0f7a4_43 : decode cJ6_bitCount_0f7a4 43 = .ok (.bipush 16, 2) := by decide +kernel
theorem dJ6_bitCount_0f7a4_45 : decode cJ6_bitCount_0f7a4 45 = .ok (.iushr, 1) := by decide +kernel
theorem dJ6_bitCount_0f7a4_46 : decode cJ6_bitCount_0f7a4 46 = .ok (.iadd, 1) := by decide +kernel
theorem dJ6_bitCount_0f7a4_47 : decode cJ6_bitCount_0f7a4 47 = .ok (.istore_n 0, 1) := by decide +kernel
theorem dJ6_bitCount_0f7a4_48 : decode cJ6_bitCount_0f7a4 48 = .ok (.iload_n 0, 1) := by decide +kernel
theorem dJ6_bitCount_0f7a4_49 : decode cJ6_bitCount_0f7a4 49 = .ok (.bipush 63, 2) := by decide +kernel
theorem dJ6_bitCount_0f7a4_51 : decode cJ6_bitCount_0f7a4 51 = .ok (.iand, 1) := by decide +kernel
theorem dJ6_bitCount_0f7a4_52 : decode cJ6_bitCount_0f7a4 52 = .ok (.ireturn, 1) := by decide +kernel
theorem dJ9_floorDiv_7cf53_0 : decode cJ9_floorDiv_7cf53 0 = .ok (.iload_n 0, 1) := by decide +kernel
theorem dJ9_floorDiv_7cf53_1 : decode cJ9_floorDiv_7cf53 1 = .ok (.iload_n 1, 1) := by decide +kernel
theorem dJ9_floorDiv_7cf53_2 : decode cJ9_floorDiv_7cf53 2 = .ok (.idiv, 1) := by decide +kernel
theorem dJ9_floorDiv_7cf53_3 : decode cJ9_floorDiv_7cf53 3 = .ok (.istore_n 2, 1) := by decide +kernel
theorem dJ9_floorDiv_7cf53_4 : decode cJ9_floorDiv_7cf53 4 = .ok (.iload_n 0, 1) := by decide +kernel
theorem dJ9_floorDiv_7cf53_5 : decode cJ9_floorDiv_7cf53 5 = .ok (.iload_n 1, 1) := by decide +kernel
theorem dJ9_floorDiv_7cf53_6 : decode cJ9_floorDiv_7cf53 6 = .ok (.ixor, 1) := by decide +kernel
theorem dJ9_floorDiv_7cf53_7 : decode cJ9_floorDiv_7cf53 7 = .ok (.ifCond .ge 14, 3) := by decide +kernel
theorem dJ9_floorDiv_7cf53_10 : decode cJ9_floorDiv_7cf53 10 = .ok (.iload_n 2, 1) := by decide +kernel
theorem dJ9_floorDiv_7cf53_11 : decode cJ9_floorDiv_7cf53 11 = .ok (.iload_n 1, 1) := by decide +kernel
theorem dJ9_floorDiv_7cf53_12 : decode cJ9_floorDiv_7cf53 12 = .ok (.imul, 1) := by decide +kernel
theorem dJ9_floorDiv_7cf53_13 : decode cJ9_floorDiv_7cf53 13 = .ok (.iload_n 0, 1) := by decide +kernel
theorem dJ9_floorDiv_7cf53_14 : decode cJ9_floorDiv_7cf53 14 = .ok (.if_icmp .eq 7, 3) := by decide +kernel
theorem dJ9_floorDiv_7cf53_17 : decode cJ9_floorDiv_7cf53 17 = .ok (.iload_n 2, 1) := by decide +kernel
theorem dJ9_floorDiv_7cf53_18 : decode cJ9_floorDiv_7cf53 18 = .ok (.iconst 1, 1) := by decide +kernel
theorem dJ9_floorDiv_7cf53_19 : decode cJ9_floorDiv_7cf53 19 = .ok (.isub, 1) := by decide +kernel
theorem dJ9_floorDiv_7cf53_20 : decode cJ9_floorDiv_7cf53 20 = .ok (.ireturn, 1) := by decide +kernel
theorem dJ9_floorDiv_7cf53_21 : decode cJ9_floorDiv_7cf53 21 = .ok (.iload_n 2, 1) := by decide +kernel
theorem dJ9_floorDiv_7cf53_22 : decode cJ9_floorDiv_7cf53 22 = .ok (.ireturn, 1) := by decide +kernel
theorem dJ9_abs_0f7a4_0 : decode cJ9_abs_0f7a4 0 = .ok (.iload_n 0, 1) := by decide +kernel
theorem dJ9_abs_0f7a4_1 : decode cJ9_abs_0f7a4 1 = .ok (.ifCond .ge 8, 3) := by decide +kernel
theorem dJ9_abs_0f7a4_4 : decode cJ9_abs_0f7a4 4 = .ok (.iload_n 0, 1) := by decide +kernel
theorem dJ9_abs_0f7a4_5 : decode cJ9_abs_0f7a4 5 = .ok (.ineg, 1) := by decide +kernel
theorem dJ9_abs_0f7a4_6 : decode cJ9_abs_0f7a4 6 = .ok (.goto 4, 3) := by decide +kernel
theorem dJ9_abs_0f7a4_9 : decode cJ9_abs_0f7a4 9 = .ok (.iload_n 0, 1) := by decide +kernel
theorem dJ9_abs_0f7a4_10 : decode cJ9_abs_0f7a4 10 = .ok (.ireturn, 1) := by decide +kernel
theorem dJ9_abs_067f4_0 : decode cJ9_abs_067f4 0 = .ok (.lload_n 0, 1) := by decide +kernel
theorem dJ9_abs_067f4_1 : decode cJ9_abs_067f4 1 = .ok (.lconst 0, 1) := by decide +kernel
theorem dJ9_abs_067f4_2 : decode cJ9_abs_067f4 2 = .ok (.lcmp, 1) := by decide +kernel
theorem dJ9_abs_067f4_3 : decode cJ9_abs_067f4 3 = .ok (.ifCond .ge 8, 3) := by decide +kernel
theorem dJ9_abs_067f4_6 : decode cJ9_abs_067f4 6 = .ok (.lload_n 0, 1) := by decide +kernel
theorem dJ9_abs_067f4_7 : decode cJ9_abs_067f4 7 = .ok (.lneg, 1) := by decide +kernel
theorem dJ9_abs_067f4_8 : decode cJ9_abs_067f4 8 = .ok (.goto 4, 3) := by decide +kernel
theorem dJ9_abs_067f4_11 : decode cJ9_abs_067f4 11 = .ok (.lload_n 0, 1) := by decide +kernel
theorem dJ9_abs_067f4_12 : decode cJ9_abs_067f4 12 = .ok (.lreturn, 1) := by decide +kernel
theorem dJ9_max_7cf53_0 : decode cJ9_max_7cf53 0 = .ok (.iload_n 0, 1) := by decide +kernel
theorem dJ9_max_7cf53_1 : decode cJ9_max_7cf53 1 = .ok (.iload_n 1, 1) := by decide +kernel
theorem dJ9_max_7cf53_2 : decode cJ9_max_7cf53 2 = .ok (.if_icmp .lt 7, 3) := by decide +kernel
theorem dJ9_max_7cf53_5 : decode cJ9_max_7cf53 5 = .ok (.iload_n 0, 1) := by decide +kernel
theorem dJ9_max_7cf53_6 : decode cJ9_max_7cf53 6 = .ok (.goto 4, 3) := by decide +kernel
theorem dJ9_max_7cf53_9 : decode cJ9_max_7cf53 9 = .ok (.iload_n 1, 1) := by decide +kernel
theorem dJ9_max_7cf53_10 : decode cJ9_max_7cf53 10 = .ok (.ireturn, 1) := by decide +kernel
theorem dJ9_max_f86c9_0 : decode cJ9_max_f86c9 0 = .ok (.lload_n 0, 1) := by decide +kernel
theorem dJ9_max_f86c9_1 : decode cJ9_max_f86c9 1 = .ok (.lload_n 2, 1) := by decide +kernel
theorem dJ9_max_f86c9_2 : decode cJ9_max_f86c9 2 = .ok (.lcmp, 1) := by decide +kernel
theorem dJ9_max_f86c9_3 : decode cJ9_max_f86c9 3 = .ok (.ifCond .lt 7, 3) := by decide +kernel
theorem dJ9_max_f86c9_6 : decode cJ9_max_f86c9 6 = .ok (.lload_n 0, 1) := by decide +kernel
theorem dJ9_max_f86c9_7 : decode cJ9_max_f86c9 7 = .ok (.goto 4, 3) := by decide +kernel
theorem dJ9_max_f86c9_10 : decode cJ9_max_f86c9 10 = .ok (.lload_n 2, 1) := by decide +kernel
theorem dJ9_max_f86c9_11 : decode cJ9_max_f86c9 11 = .ok (.lreturn, 1) := by decide +kernel
theorem dJ9_min_7cf53_0 : decode cJ9_min_7cf53 0 = .ok (.iload_n 0, 1) := by decide +kernel
theorem dJ9_min_7cf53_1 : decode cJ9_min_7cf53 1 = .ok (.iload_n 1, 1) := by decide +kernel
theorem dJ9_min_7cf53_2 : decode cJ9_min_7cf53 2 = .ok (.if_icmp .gt 7, 3) := by decide +kernel
theorem dJ9_min_7cf53_5 : decode cJ9_min_7cf53 5 = .ok (.iload_n 0, 1) := by decide +kernel
theorem dJ9_min_7cf53_6 : decode cJ9_min_7cf53 6 = .ok (.goto 4, 3) := by decide +kernel
theorem dJ9_min_7cf53_9 : decode cJ9_min_7cf53 9 = .ok (.iload_n 1, 1) := by decide +kernel
theorem dJ9_min_7cf53_10 : decode cJ9_min_7cf53 10 = .ok (.ireturn, 1) := by decide +kernel
theorem dJ9_min_f86c9_0 : decode cJ9_min_f86c9 0 = .ok (.lload_n 0, 1) := by decide +kernel
theorem dJ9_min_f86c9_1 : decode cJ9_min_f86c9 1 = .ok (.lload_n 2, 1) := by decide +kernel
theorem dJ9_min_f86c9_2 : decode cJ9_min_f86c9 2 = .ok (.lcmp, 1) := by decide +kernel
theorem dJ9_min_f86c9_3 : decode cJ9_min_f86c9 3 = .ok (.ifCond .gt 7, 3) := by decide +kernel
theorem dJ9_min_f86c9_6 : decode cJ9_min_f86c9 6 = .ok (.lload_n 0, 1) := by decide +kernel
theorem dJ9_min_f86c9_7 : decode cJ9_min_f86c9 7 = .ok (.goto 4, 3) := by decide +kernel
theorem dJ9_min_f86c9_10 : decode cJ9_min_f86c9 10 = .ok (.lload_n 2, 1) := by decide +kernel
theorem dJ9_min_f86c9_11 : decode cJ9_min_f86c9 11 = .ok (.lreturn, 1) := by decide +kernel
