theorem dX11_init_0 : decode cX11_init 0 = .ok (.aload_n 0, 1) := by decide +kernel
theorem dX11_init_1 : decode cX11_init 1 = .ok (.invokespecial 1, 3) := by decide +kernel
theorem dX11_init_4 : decode cX11_init 4 = .ok (.aload_n 0, 1) := by decide +kernel
theorem dX11_init_5 : decode cX11_init 5 = .ok (.bipush 10, 2) := by decide +kernel
theorem dX11_init_7 : decode cX11_init 7 = .ok (.putfield 7, 3) := by decide +kernel
theorem dX11_init_10 : decode cX11_init 10 = .ok (.aload_n 0, 1) := by decide +kernel
theorem dX11_init_11 : decode cX11_init 11 = .ok (.bipush 10, 2) := by decide +kernel
theorem dX11_init_13 : decode cX11_init 13 = .ok (.putfield 13, 3) := by decide +kernel
theorem dX11_init_16 : decode cX11_init 16 = .ok (.aload_n 0, 1) := by decide +kernel
theorem dX11_init_17 : decode cX11_init 17 = .ok (.bipush 10, 2) := by decide +kernel
theorem dX11_init_19 : decode cX11_init 19 = .ok (.putfield 16, 3) := by decide +kernel
theorem dX11_init_22 : decode cX11_init 22 = .ok (.aload_n 0, 1) := by decide +kernel
theorem dX11_init_23 : decode cX11_init 23 = .ok (.bipush 60, 2) := by decide +kernel
theorem dX11_init_25 : decode cX11_init 25 = .ok (.newarray .int, 2) := by decide +kernel
theorem dX11_init_27 : decode cX11_init 27 = .ok (.putfield 19, 3) := by decide +kernel
theorem dX11_init_30 : decode cX11_init 30 = .ok (.aload_n 0, 1) := by decide +kernel
theorem dX11_init_31 : decode cX11_init 31 = .ok (.bipush 60, 2) := by decide +kernel
theorem dX11_init_33 : decode cX11_init 33 = .ok (.newarray .int, 2) := by decide +kernel
theorem dX11_init_35 : decode cX11_init 35 = .ok (.putfield 23, 3) := by decide +kernel
theorem dX11_init_38 : decode cX11_init 38 = .ok (.aload_n 0, 1) := by decide +kernel
theorem dX11_init_39 : decode cX11_init 39 = .ok (.bipush 60, 2) := by decide +kernel
theorem dX11_init_41 : decode cX11_init 41 = .ok (.newarray .int, 2) := by decide +kernel
theorem dX11_init_43 : decode cX11_init 43 = .ok (.putfield 26, 3) := by decide +kernel
theorem dX11_init_46 : decode cX11_init 46 = .ok (.aload_n 0, 1) := by decide +kernel
theorem dX11_init_47 : decode cX11_init 47 = .ok (.bipush 60, 2) := by decide +kernel
theorem dX11_init_49 : decode cX11_init 49 = .ok (.newarray .int, 2) := by decide +kernel
theorem dX11_init_51 : decode cX11_init 51 = .ok (.putfield 29, 3) := by decide +kernel
theorem dX11_init_54 : decode cX11_init 54 = .ok (.aload_n 0, 1) := by decide +kernel
theorem dX11_init_55 : decode cX11_init 55 = .ok (.bipush 60, 2) := by decide +kernel
theorem dX11_init_57 : decode cX11_init 57 = .ok (.newarray .int, 2) := by decide +kernel
theorem dX11_init_59 : decode cX11_init 59 = .ok (.putfield 32, 3) := by decide +kernel
theorem dX11_init_62 : decode cX11_init 62 = .ok (.aload_n 0, 1) := by decide +kernel
theorem dX11_init_63 : decode cX11_init 63 = .ok (.bipush 12, 2) := by decide +kernel
theorem dX11_init_65 : decode cX11_init 65 = .ok (.newarray .int, 2) := by decide +kernel
theorem dX11_init_67 : decode cX11_init 67 = .ok (.putfield 35, 3) := by decide +kernel
theorem dX11_init_70 : decode cX11_init 70 = .ok (.aload_n 0, 1) := by decide +kernel
theorem dX11_init_71 : decode cX11_init 71 = .ok (.bipush 12, 2) := by decide +kernel
theorem dX11_init_73 : decode cX11_init 73 = .ok (.newarray .int, 2) := by decide +kernel
theorem dX11_init_75 : decode cX11_init 75 = .ok (.putfield 38, 3) := by decide +kernel
theorem dX11_init_78 : decode cX11_init 78 = .ok (.aload_n 0, 1) := by decide +kernel
theorem dX11_init_79 : decode cX11_init 79 = .ok (.bipush 96, 2) := by decide +kernel
theorem dX11_init_81 : decode cX11_init 81 = .ok (.newarray .int, 2) := by decide +kernel
theorem dX11_init_83 : decode cX11_init 83 = .ok (.putfield 41, 3) := by decide +kernel
theorem dX11_init_86 : decode cX11_init 86 = .ok (.aload_n 0, 1) := by decide +kernel
theorem dX11_init_87 : decode cX11_init 87 = .ok (.bipush 12, 2) := by decide +kernel
theorem dX11_init_89 : decode cX11_init 89 = .ok (.newarray .boolean, 2) := by decide +kernel
theorem dX11_init_91 : decode cX11_init 91 = .ok (.putfield 44, 3) := by decide +kernel
theorem dX11_init_94 : decode cX11_init 94 = .ok (.aload_n 0, 1) := by decide +kernel
theorem dX11_init_95 : decode cX11_init 95 = .ok (.bipush 16, 2) := by decide +kernel
theorem dX11_init_97 : decode cX11_init 97 = .ok (.newarray .int, 2) := by decide +kernel
theorem dX11_init_99 : decode cX11_init 99 = .ok (.putfield 48, 3) := by decide +kernel
theorem dX11_init_102 : decode cX11_init 102 = .ok (.aload_n 0, 1) := by decide +kernel
theorem dX11_init_103 : decode cX11_init 103 = .ok (.sipush 1800, 3) := by decide +kernel
theorem dX11_init_106 : decode cX11_init 106 = .ok (.newarray .int, 2) := by decide +kernel
theorem dX11_init_108 : decode cX11_init 108 = .ok (.putfield 51, 3) := by decide +kernel
theorem dX11_init_111 : decode cX11_init 111 = .ok (.aload_n 0, 1) := by decide +kernel
theorem dX11_init_112 : decode cX11_init 112 = .ok (.sipush 1800, 3) := by decide +kernel
theorem dX11_init_115 : decode cX11_init 115 = .ok (.newarray .int, 2) := by decide +kernel
theorem dX11_init_117 : decode cX11_init 117 = .ok (.putfield 54, 3) := by decide +kernel
theorem dX11_init_120 : decode cX11_init 120 = .ok (.aload_n 0, 1) := by decide +kernel
theorem dX11_init_121 : decode cX11_init 121 = .ok (.sipush 800, 3) := by decide +kernel
theorem dX11_init_124 : decode cX11_init 124 = .ok (.newarray .int, 2) := by decide +kernel
theorem dX11_init_126 : decode cX11_init 126 = .ok (.putfield 57, 3) := by decide +kernel
theorem dX11_init_129 : decode cX11_init 129 = .ok (.aload_n 0, 1) := by decide +kernel
theorem dX11_init_130 : decode cX11_init 130 = .ok (.sipush 800, 3) := by decide +kernel
theorem dX11_init_133 : decode cX11_init 133 = .ok (.newarray .int, 2) := by decide +kernel
theorem dX11_init_135 : decode cX11_init 135 = .ok (.putfield 60, 3) := by decide +kernel
theorem dX11_init_138 : decode cX11_init 138 = .ok (.aload_n 0, 1) := by decide +kernel
theorem dX11_init_139 : decode cX11_init 139 = .ok (.bipush 30, 2) := by decide +kernel
theorem dX11_init_141 : decode cX11_init 141 = .ok (.newarray .int, 2) := by decide +kernel
theorem dX11_init_143 : decode cX11_init 143 = .ok (.putfield 63, 3) := by decide +kernel
theorem dX11_init_146 : decode cX11_init 146 = .ok (.aload_n 0, 1) := by decide +kernel
theorem dX11_init_147 : decode cX11_init 147 = .ok (.sipush 360, 3) := by decide +kernel
theorem dX11_init_150 : decode cX11_init 150 = .ok (.newarray .int, 2) := by decide +kernel
theorem dX11_init_152 : decode cX11_init 152 = .ok (.putfield 66, 3) := by decide +kernel
theorem dX11_init_155 : decode cX11_init 155 = .ok (.aload_n 0, 1) := by decide +kernel
theorem dX11_init_156 : decode cX11_init 156 = .ok (.sipush 2880, 3) := by decide +kernel
theorem dX11_init_159 : decode cX11_init 159 = .ok (.newarray .int, 2) := by decide +kernel
theorem dX11_init_161 : decode cX11_init 161 = .ok (.putfield 69, 3) := by decide +kernel
theorem dX11_init_164 : decode cX11_init 164 = .ok (.aload_n 0, 1) := by decide +kernel
theorem dX11_init_165 : decode cX11_init 165 = .ok (.sipush 360, 3) := by decide +kernel
theorem dX11_init_168 : decode cX11_init 168 = .ok (.newarray .boolean, 2) := by decide +kernel
theorem dX11_init_170 : decode cX11_init 170 = .ok (.putfield 72, 3) := by decide +kernel
theorem dX11_init_173 : decode cX11_init 173 = .ok (.return_, 1) := by decide +kernel
theorem dX11_isIn_0 : decode cX11_isIn 0 = .ok (.iload_n 0, 1) := by decide +kernel
theorem dX11_isIn_1 : decode cX11_isIn 1 = .ok (.iload_n 1, 1) := by decide +kernel
theorem dX11_isIn_2 : decode cX11_isIn 2 = .ok (.if_icmp .lt 12, 3) := by decide +kernel
theorem dX11_isIn_5 : decode cX11_isIn 5 = .ok (.iload_n 0, 1) := by decide +kernel
theorem dX11_isIn_6 : decode cX11_isIn 6 = .ok (.iload_n 2, 1) := by decide +kernel
theorem dX11_isIn_7 : decode cX11_isIn 7 = .ok (.if_icmp .gt 7, 3) := by decide +kernel
theorem dX11_isIn_10 : decode cX11_isIn 10 = .ok (.iconst 1, 1) := by decide +kernel
theorem dX11_isIn_11 : decode cX11_isIn 11 = .ok (.goto 4, 3) := by decide +kernel
theorem dX11_isIn_14 : decode cX11_isIn 14 = .ok (.iconst 0, 1) := by decide +kernel
theorem dX11_isIn_15 : decode cX11_isIn 15 = .ok (.ireturn, 1) := by decide +kernel
theorem dX11_isDot_0 : decode cX11_isDot 0 = .ok (.iload_n 1, 1) := by decide +kernel
theorem dX11_isDot_1 : decode cX11_isDot 1 = .ok (.iconst 0, 1) := by decide +kernel
theorem dX11_isDot_2 : decode cX11_isDot 2 = .ok (.aload_n 0, 1) := by decide +kernel
theorem dX11_isDot_3 : decode cX11_isDot 3 = .ok (.getfield 75, 3) := by decide +kernel
theorem dX11_isDot_6 : decode cX11_isDot 6 = .ok (.iconst 1, 1) := by decide +kernel
theorem dX11_isDot_7 : decode cX11_isDot 7 = .ok (.isub, 1) := by decide +kernel
theorem dX11_isDot_8 : decode cX11_isDot 8 = .ok (.invokestatic 78, 3) := by decide +kernel
theorem dX11_isDot_11 : decode cX11_isDot 11 = .ok (.ireturn, 1) := by decide +kernel
theorem dX11_isPath_0 : decode cX11_isPath 0 = .ok (.iload_n 1, 1) := by decide +kernel
theorem dX11_isPath_1 : decode cX11_isPath 1 = .ok (.iconst 0, 1) := by decide +kernel
theorem dX11_isPath_2 : decode cX11_isPath 2 = .ok (.aload_n 0, 1) := by decide +kernel
theorem dX11_isPath_3 : decode cX11_isPath 3 = .ok (.getfield 82, 3) := by decide +kernel
theorem dX11_isPath_6 : decode cX11_isPath 6 = .ok (.iconst 1, 1) := by decide +kernel
theorem dX11_isPath_7 : decode cX11_isPath 7 = .ok (.isub, 1) := by decide +kernel
theorem dX11_isPath_8 : decode cX11_isPath 8 = .ok (.invokestatic 78, 3) := by decide +kernel
theorem dX11_isPath_11 : decode cX11_isPath 11 = .ok (.ifCond .eq 16, 3) := by decide +kernel
theorem dX11_isPath_14 : decode cX11_isPath 14 = .ok (.aload_n 0, 1) := by decide +kernel
theorem dX11_isPath_15 : decode cX11_isPath 15 = .ok (.getfield 44, 3) := by decide +kernel
theorem dX11_isPath_18 : decode cX11_isPath 18 = .ok (.iload_n 1, 1) := by decide +kernel
theorem dX11_isPath_19 : decode cX11_isPath 19 = .ok (.baload, 1) := by decide +kernel
theorem dX11_isPath_20 : decode cX11_isPath 20 = .ok (.ifCond .ne 7, 3) := by decide +kernel
theorem dX11_isPath_23 : decode cX11_isPath 23 = .ok (.iconst 1, 1) := by decide +kernel
theorem dX11_isPath_24 : decode cX11_isPath 24 = .ok (.goto 4, 3) := by decide +kernel
theorem dX11_isPath_27 : decode cX11_isPath 27 = .ok (.iconst 0, 1) := by decide +kernel
theorem dX11_isPath_28 : decode cX11_isPath 28 = .ok (.ireturn, 1) := by decide +kernel
theorem dX11_dot_0 : decode cX11_dot 0 = .ok (.iload_n 1, 1) := by decide +kernel
theorem dX11_dot_1 : decode cX11_dot 1 = .ok (.iconst 0, 1) := by decide +kernel
theorem dX11_dot_2 : decode cX11_dot 2 = .ok (.sipush 400, 3) := by decide +kernel
theorem dX11_dot_5 : decode cX11_dot 5 = .ok (.invokestatic 78, 3) := by decide +kernel
theorem dX11_dot_8 : decode cX11_dot 8 = .ok (.ifCond .eq 40, 3) := by decide +kernel
theorem dX11_dot_11 : decode cX11_dot 11 = .ok (.iload_n 2, 1) := by decide +kernel
theorem dX11_dot_12 : decode cX11_dot 12 = .ok (.sipush (-9000), 3) := by decide +kernel
theorem dX11_dot_15 : decode cX11_dot 15 = .ok (.sipush 9000, 3) := by decide +kernel
theorem dX11_dot_18 : decode cX11_dot 18 = .ok (.invokestatic 78, 3) := by decide +kernel
theorem dX11_dot_21 : decode cX11_dot 21 = .ok (.ifCond .eq 27, 3) := by decide +kernel
theorem dX11_dot_24 : decode cX11_dot 24 = .ok (.iload_n 3, 1) := by decide +kernel
theorem dX11_dot_25 : decode cX11_dot 25 = .ok (.sipush (-9000), 3) := by decide +kernel
theorem dX11_dot_28 : decode cX11_dot 28 = .ok (.sipush 9000, 3) := by decide +kernel
theorem dX11_dot_31 : decode cX11_dot 31 = .ok (.invokestatic 78, 3) := by decide +kernel
theorem dX11_dot_34 : decode cX11_dot 34 = .ok (.ifCond .eq 14, 3) := by decide +kernel
theorem dX11_dot_37 : decode cX11_dot 37 = .ok (.iload 4, 2) := by decide +kernel
theorem dX11_dot_39 : decode cX11_dot 39 = .ok (.iconst 0, 1) := by decide +kernel
theorem dX11_dot_40 : decode cX11_dot 40 = .ok (.bipush 9, 2) := by decide +kernel
theorem dX11_dot_42 : decode cX11_dot 42 = .ok (.invokestatic 78, 3) := by decide +kernel
theorem dX11_dot_45 : decode cX11_dot 45 = .ok (.ifCond .ne 6, 3) := by decide +kernel
theorem dX11_dot_48 : decode cX11_dot 48 = .ok (.bipush (-2), 2) := by decide +kernel
theorem dX11_dot_50 : decode cX11_dot 50 = .ok (.ireturn, 1) := by decide +kernel
theorem dX11_dot_51 : decode cX11_dot 51 = .ok (.iconst 0, 1) := by decide +kernel
theorem dX11_dot_52 : decode cX11_dot 52 = .ok (.istore 5, 2) := by decide +kernel
theorem dX11_dot_54 : decode cX11_dot 54 = .ok (.iload 5, 2) := by decide +kernel
theorem dX11_dot_56 : decode cX11_dot 56 = .ok (.aload_n 0, 1) := by decide +kernel
theorem dX11_dot_57 : decode cX11_dot 57 = .ok (.getfield 75, 3) := by decide +kernel
theorem dX11_dot_60 : decode cX11_dot 60 = .ok (.if_icmp .ge 45, 3) := by decide +kernel
theorem dX11_dot_63 : decode cX11_dot 63 = .ok (.aload_n 0, 1) := by decide +kernel
theorem dX11_dot_64 : decode cX11_dot 64 = .ok (.getfield 19, 3) := by decide +kernel
theorem dX11_dot_67 : decode cX11_dot 67 = .ok (.iload 5, 2) := by decide +kernel
theorem dX11_dot_69 : decode cX11_dot 69 = .ok (.iaload, 1) := by decide +kernel
theorem dX11_dot_70 : decode cX11_dot 70 = .ok (.iload_n 1, 1) := by decide +kernel
theorem dX11_dot_71 : decode cX11_dot 71 = .ok (.if_icmp .ne 28, 3) := by decide +kernel
theorem dX11_dot_74 : decode cX11_dot 74 = .ok (.aload_n 0, 1) := by decide +kernel
theorem dX11_dot_75 : decode cX11_dot 75 = .ok (.getfield 23, 3) := by decide +kernel
theorem dX11_dot_78 : decode cX11_dot 78 = .ok (.iload 5, 2) := by decide +kernel
theorem dX11_dot_80 : decode cX11_dot 80 = .ok (.iaload, 1) := by decide +kernel
theorem dX11_dot_81 : decode cX11_dot 81 = .ok (.iload_n 2, 1) := by decide +kernel
theorem dX11_dot_82 : decode cX11_dot 82 = .ok (.if_icmp .ne 17, 3) := by decide +kernel
theorem dX11_dot_85 : decode cX11_dot 85 = .ok (.aload_n 0, 1) := by decide +kernel
theorem dX11_dot_86 : decode cX11_dot 86 = .ok (.getfield 26, 3) := by decide +kernel
theorem dX11_dot_89 : decode cX11_dot 89 = .ok (.iload 5, 2) := by decide +kernel
theorem dX11_dot_91 : decode cX11_dot 91 = .ok (.iaload, 1) := by decide +kernel
theorem dX11_dot_92 : decode cX11_dot 92 = .ok (.iload_n 3, 1) := by decide +kernel
theorem dX11_dot_93 : decode cX11_dot 93 = .ok (.if_icmp .ne 6, 3) := by decide +kernel
theorem dX11_dot_96 : decode cX11_dot 96 = .ok (.iload 5, 2) := by decide +kernel
theorem dX11_dot_98 : decode cX11_dot 98 = .ok (.ireturn, 1) := by decide +kernel
theorem dX11_dot_99 : decode cX11_dot 99 = .ok (.iinc 5 1, 3) := by decide +kernel
theorem dX11_dot_102 : decode cX11_dot 102 = .ok (.goto (-48), 3) := by decide +kernel
theorem dX11_dot_105 : decode cX11_dot 105 = .ok (.aload_n 0, 1) := by decide +kernel
theorem dX11_dot_106 : decode cX11_dot 106 = .ok (.getfield 75, 3) := by decide +kernel
theorem dX11_dot_109 : decode cX11_dot 109 = .ok (.bipush 60, 2) := by decide +kernel
theorem dX11_dot_111 : decode cX11_dot 111 = .ok (.if_icmp .ne 6, 3) := by decide +kernel
theorem dX11_dot_114 : decode cX11_dot 114 = .ok (.bipush (-4), 2) := by decide +kernel
theorem dX11_dot_116 : decode cX11_dot 116 = .ok (.ireturn, 1) := by decide +kernel
theorem dX11_dot_117 : decode cX11_dot 117 = .ok (.aload_n 0, 1) := by decide +kernel
theorem dX11_dot_118 : decode cX11_dot 118 = .ok (.getfield 19, 3) := by decide +kernel
theorem dX11_dot_121 : decode cX11_dot 121 = .ok (.aload_n 0, 1) := by decide +kernel
theorem dX11_dot_122 : decode cX11_dot 122 = .ok (.getfield 75, 3) := by decide +kernel
theorem dX11_dot_125 : decode cX11_dot 125 = .ok (.iload_n 1, 1) := by decide +kernel
theorem dX11_dot_126 : decode cX11_dot 126 = .ok (.iastore, 1) := by decide +kernel
theorem dX11_dot_127 : decode cX11_dot 127 = .ok (.aload_n 0, 1) := by decide +kernel
theorem dX11_dot_128 : decode cX11_dot 128 = .ok (.getfield 23, 3) := by decide +kernel
theorem dX11_dot_131 : decode cX11_dot 131 = .ok (.aload_n 0, 1) := by decide +kernel
theorem dX11_dot_132 : decode cX11_dot 132 = .ok (.getfield 75, 3) := by decide +kernel
theorem dX11_dot_135 : decode cX11_dot 135 = .ok (.iload_n 2, 1) := by decide +kernel
theorem dX11_dot_136 : decode cX11_dot 136 = .ok (.iastore, 1) := by decide +kernel
theorem dX11_dot_137 : decode cX11_dot 137 = .ok (.aload_n 0, 1) := by decide +kernel
theorem dX11_dot_138 : decode cX11_dot 138 = .ok (.getfield 26, 3) := by decide +kernel
theorem dX11_dot_141 : decode cX11_dot 141 = .ok (.aload_n 0, 1) := by decide +kernel
theorem dX11_dot_142 : decode cX11_dot 142 = .ok (.getfield 75, 3) := by decide +kernel
theorem dX11_dot_145 : decode cX11_dot 145 = .ok (.iload_n 3, 1) := by decide +kernel
theorem dX11_dot_146 : decode cX11_dot 146 = .ok (.iastore, 1) := by decide +kernel
theorem dX11_dot_147 : decode cX11_dot 147 = .ok (.aload_n 0, 1) := by decide +kernel
theorem dX11_dot_148 : decode cX11_dot 148 = .ok (.getfield 29, 3) := by decide +kernel
theorem dX11_dot_151 : decode cX11_dot 151 = .ok (.aload_n 0, 1) := by decide +kernel
theorem dX11_dot_152 : decode cX11_dot 152 = .ok (.getfield 75, 3) := by decide +kernel
theorem dX11_dot_155 : decode cX11_dot 155 = .ok (.iload 4, 2) := by decide +kernel
theorem dX11_dot_157 : decode cX11_dot 157 = .ok (.iastore, 1) := by decide +kernel
theorem dX11_dot_158 : decode cX11_dot 158 = .ok (.aload_n 0, 1) := by decide +kernel
theorem dX11_dot_159 : decode cX11_dot 159 = .ok (.getfield 32, 3) := by decide +kernel
theorem dX11_dot_162 : decode cX11_dot 162 = .ok (.aload_n 0, 1) := by decide +kernel
theorem dX11_dot_163 : decode cX11_dot 163 = .ok (.getfield 75, 3) := by decide +kernel
theorem dX11_dot_166 : decode cX11_dot 166 = .ok (.iconst (-1), 1) := by decide +kernel
theorem dX11_dot_167 : decode cX11_dot 167 = .ok (.iastore, 1) := by decide +kernel
theorem dX11_dot_168 : decode cX11_dot 168 = .ok (.aload_n 0, 1) := by decide +kernel
theorem dX11_dot_169 : decode cX11_dot 169 = .ok (.dup, 1) := by decide +kernel
theorem dX11_dot_170 : decode cX11_dot 170 = .ok (.getfield 75, 3) := by decide +kernel
theorem dX11_dot_173 : decode cX11_dot 173 = .ok (.iconst 1, 1) := by decide +kernel
theorem dX11_dot_174 : decode cX11_dot 174 = .ok (.iadd, 1) := by decide +kernel
theorem dX11_dot_175 : decode cX11_dot 175 = .ok (.putfield 75, 3) := by decide +kernel
theorem dX11_dot_178 : decode cX11_dot 178 = .ok (.aload_n 0, 1) := by decide +kernel
theorem dX11_dot_179 : decode cX11_dot 179 = .ok (.iconst 0, 1) := by decide +kernel
theorem dX11_dot_180 : decode cX11_dot 180 = .ok (.putfield 85, 3) := by decide +kernel
theorem dX11_dot_183 : decode cX11_dot 183 = .ok (.aload_n 0, 1) := by decide +kernel
theorem dX11_dot_184 : decode cX11_dot 184 = .ok (.getfield 75, 3) := by decide +kernel
theorem dX11_dot_187 : decode cX11_dot 187 = .ok (.iconst 1, 1) := by decide +kernel
theorem dX11_dot_188 : decode cX11_dot 188 = .ok (.isub, 1) := by decide +kernel
theorem dX11_dot_189 : decode cX11_dot 189 = .ok (.ireturn, 1) := by decide +kernel
theorem dX11_pace_0 : decode cX11_pace 0 = .ok (.iload_n 1, 1) := by decide +kernel
theorem dX11_pace_1 : decode cX11_pace 1 = .ok (.iconst 1, 1) := by decide +kernel
theorem dX11_pace_2 : decode cX11_pace 2 = .ok (.bipush 20, 2) := by decide +kernel
theorem dX11_pace_4 : decode cX11_pace 4 = .ok (.invokestatic 78, 3) := by decide +kernel
theorem dX11_pace_7 : decode cX11_pace 7 = .ok (.ifCond .ne 6, 3) := by decide +kernel
theorem dX11_pace_10 : decode cX11_pace 10 = .ok (.bipush (-2), 2) := by decide +kernel
theorem dX11_pace_12 : decode cX11_pace 12 = .ok (.ireturn, 1) := by decide +kernel
theorem dX11_pace_13 : decode cX11_pace 13 = .ok (.aload_n 0, 1) := by decide +kernel
theorem dX11_pace_14 : decode cX11_pace 14 = .ok (.getfield 7, 3) := by decide +kernel
theorem dX11_pace_17 : decode cX11_pace 17 = .ok (.istore_n 2, 1) := by decide +kernel
theorem dX11_pace_18 : decode cX11_pace 18 = .ok (.aload_n 0, 1) := by decide +kernel
theorem dX11_pace_19 : decode cX11_pace 19 = .ok (.iload_n 1, 1) := by decide +kernel
theorem dX11_pace_20 : decode cX11_pace 20 = .ok (.putfield 7, 3) := by decide +kernel
theorem dX11_pace_23 : decode cX11_pace 23 = .ok (.iload_n 2, 1) := by decide +kernel
theorem dX11_pace_24 : decode cX11_pace 24 = .ok (.ireturn, 1) := by decide +kernel
theorem dX11_net_0 : decode cX11_net 0 = .ok (.iload_n 1, 1) := by decide +kernel
theorem dX11_net_1 : decode cX11_net 1 = .ok (.iconst 1, 1) := by decide +kernel
theorem dX11_net_2 : decode cX11_net 2 = .ok (.bipush 50, 2) := by decide +kernel
theorem dX11_net_4 : decode cX11_net 4 = .ok (.invokestatic 78, 3) := by decide +kernel
theorem dX11_net_7 : decode cX11_net 7 = .ok (.ifCond .eq 14, 3) := by decide +kernel
theorem dX11_net_10 : decode cX11_net 10 = .ok (.iload_n 2, 1) := by decide +kernel
theorem dX11_net_11 : decode cX11_net 11 = .ok (.iconst 0, 1) := by decide +kernel
theorem dX11_net_12 : decode cX11_net 12 = .ok (.sipush 200, 3) := by decide +kernel
theorem dX11_net_15 : decode cX11_net 15 = .ok (.invokestatic 78, 3) := by decide +kernel
theorem dX11_net_18 : decode cX11_net 18 = .ok (.ifCond .ne 6, 3) := by decide +kernel
theorem dX11_net_21 : decode cX11_net 21 = .ok (.bipush (-2), 2) := by decide +kernel
theorem dX11_net_23 : decode cX11_net 23 = .ok (.ireturn, 1) := by decide +kernel
theorem dX11_net_24 : decode cX11_net 24 = .ok (.aload_n 0, 1) := by decide +kernel
theorem dX11_net_25 : decode cX11_net 25 = .ok (.iload_n 1, 1) := by decide +kernel
theorem dX11_net_26 : decode cX11_net 26 = .ok (.putfield 13, 3) := by decide +kernel
theorem dX11_net_29 : decode cX11_net 29 = .ok (.aload_n 0, 1) := by decide +kernel
theorem dX11_net_30 : decode cX11_net 30 = .ok (.iload_n 2, 1) := by decide +kernel
theorem dX11_net_31 : decode cX11_net 31 = .ok (.putfield 16, 3) := by decide +kernel
theorem dX11_net_34 : decode cX11_net 34 = .ok (.iconst 0, 1) := by decide +kernel
theorem dX11_net_35 : decode cX11_net 35 = .ok (.ireturn, 1) := by decide +kernel
theorem dX11_night_0 : decode cX11_night 0 = .ok (.aload_n 0, 1) := by decide +kernel
theorem dX11_night_1 : decode cX11_night 1 = .ok (.getfield 19, 3) := by decide +kernel
theorem dX11_night_4 : decode cX11_night 4 = .ok (.iload_n 1, 1) := by decide +kernel
theorem dX11_night_5 : decode cX11_night 5 = .ok (.iaload, 1) := by decide +kernel
theorem dX11_night_6 : decode cX11_night 6 = .ok (.bipush 24, 2) := by decide +kernel
theorem dX11_night_8 : decode cX11_night 8 = .ok (.idiv, 1) := by decide +kernel
theorem dX11_night_9 : decode cX11_night 9 = .ok (.ireturn, 1) := by decide +kernel
theorem dX11_about_0 : decode cX11_about 0 = .ok (.aload_n 0, 1) := by decide +kernel
theorem dX11_about_1 : decode cX11_about 1 = .ok (.iload_n 1, 1) := by decide +kernel
theorem dX11_about_2 : decode cX11_about 2 = .ok (.invokevirtual 88, 3) := by decide +kernel
theorem dX11_about_5 : decode cX11_about 5 = .ok (.ifCond .ne 5, 3) := by decide +kernel
theorem dX11_about_8 : decode cX11_about 8 = .ok (.iconst (-1), 1) := by decide +kernel
theorem dX11_about_9 : decode cX11_about 9 = .ok (.ireturn, 1) := by decide +kernel
theorem dX11_about_10 : decode cX11_about 10 = .ok (.iload_n 2, 1) := by decide +kernel
theorem dX11_about_11 : decode cX11_about 11 = .ok (.tableswitch 78 0 5 #[37, 44, 51, 58, 65, 71], 37) := by decide +kernel
theorem dX11_about_48 : decode cX11_about 48 = .ok (.aload_n 0, 1) := by decide +kernel
theorem dX11_about_49 : decode cX11_about 49 = .ok (.getfield 19, 3) := by decide +kernel
theorem dX11_about_52 : decode cX11_about 52 = .ok (.iload_n 1, 1) := by decide +kernel
theorem dX11_about_53 : decode cX11_about 53 = .ok (.iaload, 1) := by decide +kernel
theorem dX11_about_54 : decode cX11_about 54 = .ok (.ireturn, 1) := by decide +kernel
theorem dX11_about_55 : decode cX11_about 55 = .ok (.aload_n 0, 1) := by decide +kernel
theorem dX11_about_56 : decode cX11_about 56 = .ok (.getfield 23, 3) := by decide +kernel
theorem dX11_about_59 : decode cX11_about 59 = .ok (.iload_n 1, 1) := by decide +kernel
theorem dX11_about_60 : decode cX11_about 60 = .ok (.iaload, 1) := by decide +kernel
theorem dX11_about_61 : decode cX11_about 61 = .ok (.ireturn, 1) := by decide +kernel
theorem dX11_about_62 : decode cX11_about 62 = .ok (.aload_n 0, 1) := by decide +kernel
theorem dX11_about_63 : decode cX11_about 63 = .ok (.getfield 26, 3) := by decide +kernel
theorem dX11_about_66 : decode cX11_about 66 = .ok (.iload_n 1, 1) := by decide +kernel
theorem dX11_about_67 : decode cX11_about 67 = .ok (.iaload, 1) := by decide +kernel
theorem dX11_about_68 : decode cX11_about 68 = .ok (.ireturn, 1) := by decide +kernel
theorem dX11_about_69 : decode cX11_about 69 = .ok (.aload_n 0, 1) := by decide +kernel
theorem dX11_about_70 : decode cX11_about 70 = .ok (.getfield 29, 3) := by decide +kernel
theorem dX11_about_73 : decode cX11_about 73 = .ok (.iload_n 1, 1) := by decide +kernel
theorem dX11_about_74 : decode cX11_about 74 = .ok (.iaload, 1) := by decide +kernel
theorem dX11_about_75 : decode cX11_about 75 = .ok (.ireturn, 1) := by decide +kernel
theorem dX11_about_76 : decode cX11_about 76 = .ok (.aload_n 0, 1) := by decide +kernel
theorem dX11_about_77 : decode cX11_about 77 = .ok (.iload_n 1, 1) := by decide +kernel
theorem dX11_about_78 : decode cX11_about 78 = .ok (.invokevirtual 92, 3) := by decide +kernel
theorem dX11_about_81 : decode cX11_about 81 = .ok (.ireturn, 1) := by decide +kernel
theorem dX11_about_82 : decode cX11_about 82 = .ok (.aload_n 0, 1) := by decide +kernel
theorem dX11_about_83 : decode cX11_about 83 = .ok (.getfield 32, 3) := by decide +kernel
theorem dX11_about_86 : decode cX11_about 86 = .ok (.iload_n 1, 1) := by decide +kernel
theorem dX11_about_87 : decode cX11_about 87 = .ok (.iaload, 1) := by decide +kernel
theorem dX11_about_88 : decode cX11_about 88 = .ok (.ireturn, 1) := by decide +kernel
theorem dX11_about_89 : decode cX11_about 89 = .ok (.iconst (-1), 1) := by decide +kernel
theorem dX11_about_90 : decode cX11_about 90 = .ok (.ireturn, 1) := by decide +kernel
theorem dX11_take_0 : decode cX11_take 0 = .ok (.aload_n 0, 1) := by decide +kernel
theorem dX11_take_1 : decode cX11_take 1 = .ok (.aload_n 0, 1) := by decide +kernel
theorem dX11_take_2 : decode cX11_take 2 = .ok (.getfield 38, 3) := by decide +kernel
theorem dX11_take_5 : decode cX11_take 5 = .ok (.iload_n 1, 1) := by decide +kernel
theorem dX11_take_6 : decode cX11_take 6 = .ok (.iaload, 1) := by decide +kernel
theorem dX11_take_7 : decode cX11_take 7 = .ok (.putfield 96, 3) := by decide +kernel
theorem dX11_take_10 : decode cX11_take 10 = .ok (.iconst 0, 1) := by decide +kernel
theorem dX11_take_11 : decode cX11_take 11 = .ok (.istore_n 2, 1) := by decide +kernel
theorem dX11_take_12 : decode cX11_take 12 = .ok (.iload_n 2, 1) := by decide +kernel
theorem dX11_take_13 : decode cX11_take 13 = .ok (.aload_n 0, 1) := by decide +kernel
theorem dX11_take_14 : decode cX11_take 14 = .ok (.getfield 96, 3) := by decide +kernel
theorem dX11_take_17 : decode cX11_take 17 = .ok (.if_icmp .ge 26, 3) := by decide +kernel
theorem dX11_take_20 : decode cX11_take 20 = .ok (.aload_n 0, 1) := by decide +kernel
theorem dX11_take_21 : decode cX11_take 21 = .ok (.getfield 48, 3) := by decide +kernel
theorem dX11_take_24 : decode cX11_take 24 = .ok (.iload_n 2, 1) := by decide +kernel
theorem dX11_take_25 : decode cX11_take 25 = .ok (.aload_n 0, 1) := by decide +kernel
theorem dX11_take_26 : decode cX11_take 26 = .ok (.getfield 41, 3) := by decide +kernel
theorem dX11_take_29 : decode cX11_take 29 = .ok (.bipush 8, 2) := by decide +kernel
theorem dX11_take_31 : decode cX11_take 31 = .ok (.iload_n 1, 1) := by decide +kernel
theorem dX11_take_32 : decode cX11_take 32 = .ok (.imul, 1) := by decide +kernel
theorem dX11_take_33 : decode cX11_take 33 = .ok (.iload_n 2, 1) := by decide +kernel
theorem dX11_take_34 : decode cX11_take 34 = .ok (.iadd, 1) := by decide +kernel
theorem dX11_take_35 : decode cX11_take 35 = .ok (.iaload, 1) := by decide +kernel
theorem dX11_take_36 : decode cX11_take 36 = .ok (.iastore, 1) := by decide +kernel
theorem dX11_take_37 : decode cX11_take 37 = .ok (.iinc 2 1, 3) := by decide +kernel
theorem dX11_take_40 : decode cX11_take 40 = .ok (.goto (-28), 3) := by decide +kernel
theorem dX11_take_43 : decode cX11_take 43 = .ok (.return_, 1) := by decide +kernel
theorem dX11_adds_0 : decode cX11_adds 0 = .ok (.aload_n 0, 1) := by decide +kernel
theorem dX11_adds_1 : decode cX11_adds 1 = .ok (.getfield 48, 3) := by decide +kernel
theorem dX11_adds_4 : decode cX11_adds 4 = .ok (.aload_n 0, 1) := by decide +kernel
theorem dX11_adds_5 : decode cX11_adds 5 = .ok (.getfield 96, 3) := by decide +kernel
theorem dX11_adds_8 : decode cX11_adds 8 = .ok (.iload_n 1, 1) := by decide +kernel
theorem dX11_adds_9 : decode cX11_adds 9 = .ok (.iastore, 1) := by decide +kernel
theorem dX11_adds_10 : decode cX11_adds 10 = .ok (.aload_n 0, 1) := by decide +kernel
theorem dX11_adds_11 : decode cX11_adds 11 = .ok (.dup, 1) := by decide +kernel
theorem dX11_adds_12 : decode cX11_adds 12 = .ok (.getfield 96, 3) := by decide +kernel
theorem dX11_adds_15 : decode cX11_adds 15 = .ok (.iconst 1, 1) := by decide +kernel
theorem dX11_adds_16 : decode cX11_adds 16 = .ok (.iadd, 1) := by decide +kernel
theorem dX11_adds_17 : decode cX11_adds 17 = .ok (.putfield 96, 3) := by decide +kernel
theorem dX11_adds_20 : decode cX11_adds 20 = .ok (.return_, 1) := by decide +kernel
theorem dX11_placeOf_0 : decode cX11_placeOf 0 = .ok (.iload_n 2, 1) := by decide +kernel
theorem dX11_placeOf_1 : decode cX11_placeOf 1 = .ok (.ifCond .ne 12, 3) := by decide +kernel
theorem dX11_placeOf_4 : decode cX11_placeOf 4 = .ok (.aload_n 0, 1) := by decide +kernel
theorem dX11_placeOf_5 : decode cX11_placeOf 5 = .ok (.getfield 23, 3) := by decide +kernel
theorem dX11_placeOf_8 : decode cX11_placeOf 8 = .ok (.iload_n 1, 1) := by decide +kernel
theorem dX11_placeOf_9 : decode cX11_placeOf 9 = .ok (.iaload, 1) := by decide +kernel
theorem dX11_placeOf_10 : decode cX11_placeOf 10 = .ok (.goto 9, 3) := by decide +kernel
theorem dX11_placeOf_13 : decode cX11_placeOf 13 = .ok (.aload_n 0, 1) := by decide +kernel
theorem dX11_placeOf_14 : decode cX11_placeOf 14 = .ok (.getfield 26, 3) := by decide +kernel
theorem dX11_placeOf_17 : decode cX11_placeOf 17 = .ok (.iload_n 1, 1) := by decide +kernel
theorem dX11_placeOf_18 : decode cX11_placeOf 18 = .ok (.iaload, 1) := by decide +kernel
theorem dX11_placeOf_19 : decode cX11_placeOf 19 = .ok (.ireturn, 1) := by decide +kernel
theorem dX11_lines_0 : decode cX11_lines 0 = .ok (.sipush (-2000), 3) := by decide +kernel
theorem dX11_lines_3 : decode cX11_lines 3 = .ok (.istore_n 3, 1) := by decide +kernel
theorem dX11_lines_4 : decode cX11_lines 4 = .ok (.sipush 2000, 3) := by decide +kernel
theorem dX11_lines_7 : decode cX11_lines 7 = .ok (.istore 4, 2) := by decide +kernel
theorem dX11_lines_9 : decode cX11_lines 9 = .ok (.iconst 0, 1) := by decide +kernel
theorem dX11_lines_10 : decode cX11_lines 10 = .ok (.istore 5, 2) := by decide +kernel
theorem dX11_lines_12 : decode cX11_lines 12 = .ok (.iload 5, 2) := by decide +kernel
theorem dX11_lines_14 : decode cX11_lines 14 = .ok (.aload_n 0, 1) := by decide +kernel
theorem dX11_lines_15 : decode cX11_lines 15 = .ok (.getfield 96, 3) := by decide +kernel
theorem dX11_lines_18 : decode cX11_lines 18 = .ok (.if_icmp .ge 64, 3) := by decide +kernel
theorem dX11_lines_21 : decode cX11_lines 21 = .ok (.aload_n 0, 1) := by decide +kernel
theorem dX11_lines_22 : decode cX11_lines 22 = .ok (.aload_n 0, 1) := by decide +kernel
theorem dX11_lines_23 : decode cX11_lines 23 = .ok (.getfield 48, 3) := by decide +kernel
theorem dX11_lines_26 : decode cX11_lines 26 = .ok (.iload 5, 2) := by decide +kernel
theorem dX11_lines_28 : decode cX11_lines 28 = .ok (.iaload, 1) := by decide +kernel
theorem dX11_lines_29 : decode cX11_lines 29 = .ok (.iload_n 1, 1) := by decide +kernel
theorem dX11_lines_30 : decode cX11_lines 30 = .ok (.invokevirtual 99, 3) := by decide +kernel
theorem dX11_lines_33 : decode cX11_lines 33 = .ok (.iload_n 2, 1) := by decide +kernel
theorem dX11_lines_34 : decode cX11_lines 34 = .ok (.aload_n 0, 1) := by decide +kernel
theorem dX11_lines_35 : decode cX11_lines 35 = .ok (.getfield 19, 3) := by decide +kernel
theorem dX11_lines_38 : decode cX11_lines 38 = .ok (.aload_n 0, 1) := by decide +kernel
theorem dX11_lines_39 : decode cX11_lines 39 = .ok (.getfield 48, 3) := by decide +kernel
theorem dX11_lines_42 : decode cX11_lines 42 = .ok (.iload 5, 2) := by decide +kernel
theorem dX11_lines_44 : decode cX11_lines 44 = .ok (.iaload, 1) := by decide +kernel
theorem dX11_lines_45 : decode cX11_lines 45 = .ok (.iaload, 1) := by decide +kernel
theorem dX11_lines_46 : decode cX11_lines 46 = .ok (.imul, 1) := by decide +kernel
theorem dX11_lines_47 : decode cX11_lines 47 = .ok (.isub, 1) := by decide +kernel
theorem dX11_lines_48 : decode cX11_lines 48 = .ok (.istore 6, 2) := by decide +kernel
theorem dX11_lines_50 : decode cX11_lines 50 = .ok (.iload_n 3, 1) := by decide +kernel
theorem dX11_lines_51 : decode cX11_lines 51 = .ok (.iload 6, 2) := by decide +kernel
theorem dX11_lines_53 : decode cX11_lines 53 = .ok (.aload_n 0, 1) := by decide +kernel
theorem dX11_lines_54 : decode cX11_lines 54 = .ok (.getfield 16, 3) := by decide +kernel
theorem dX11_lines_57 : decode cX11_lines 57 = .ok (.isub, 1) := by decide +kernel
theorem dX11_lines_58 : decode cX11_lines 58 = .ok (.invokestatic 103, 3) := by decide +kernel
theorem dX11_lines_61 : decode cX11_lines 61 = .ok (.istore_n 3, 1) := by decide +kernel
theorem dX11_lines_62 : decode cX11_lines 62 = .ok (.iload 4, 2) := by decide +kernel
theorem dX11_lines_64 : decode cX11_lines 64 = .ok (.iload 6, 2) := by decide +kernel
theorem dX11_lines_66 : decode cX11_lines 66 = .ok (.aload_n 0, 1) := by decide +kernel
theorem dX11_lines_67 : decode cX11_lines 67 = .ok (.getfield 16, 3) := by decide +kernel
theorem dX11_lines_70 : decode cX11_lines 70 = .ok (.iadd, 1) := by decide +kernel
theorem dX11_lines_71 : decode cX11_lines 71 = .ok (.invokestatic 108, 3) := by decide +kernel
theorem dX11_lines_74 : decode cX11_lines 74 = .ok (.istore 4, 2) := by decide +kernel
theorem dX11_lines_76 : decode cX11_lines 76 = .ok (.iinc 5 1, 3) := by decide +kernel
theorem dX11_lines_79 : decode cX11_lines 79 = .ok (.goto (-67), 3) := by decide +kernel
theorem dX11_lines_82 : decode cX11_lines 82 = .ok (.aload_n 0, 1) := by decide +kernel
theorem dX11_lines_83 : decode cX11_lines 83 = .ok (.iload_n 3, 1) := by decide +kernel
theorem dX11_lines_84 : decode cX11_lines 84 = .ok (.ineg, 1) := by decide +kernel
theorem dX11_lines_85 : decode cX11_lines 85 = .ok (.aload_n 0, 1) := by decide +kernel
theorem dX11_lines_86 : decode cX11_lines 86 = .ok (.getfield 13, 3) := by decide +kernel
theorem dX11_lines_89 : decode cX11_lines 89 = .ok (.invokestatic 111, 3) := by decide +kernel
theorem dX11_lines_92 : decode cX11_lines 92 = .ok (.ineg, 1) := by decide +kernel
theorem dX11_lines_93 : decode cX11_lines 93 = .ok (.putfield 114, 3) := by decide +kernel
theorem dX11_lines_96 : decode cX11_lines 96 = .ok (.aload_n 0, 1) := by decide +kernel
theorem dX11_lines_97 : decode cX11_lines 97 = .ok (.iload 4, 2) := by decide +kernel
theorem dX11_lines_99 : decode cX11_lines 99 = .ok (.aload_n 0, 1) := by decide +kernel
theorem dX11_lines_100 : decode cX11_lines 100 = .ok (.getfield 13, 3) := by decide +kernel
theorem dX11_lines_103 : decode cX11_lines 103 = .ok (.invokestatic 111, 3) := by decide +kernel
theorem dX11_lines_106 : decode cX11_lines 106 = .ok (.putfield 117, 3) := by decide +kernel
theorem dX11_lines_109 : decode cX11_lines 109 = .ok (.aload_n 0, 1) := by decide +kernel
theorem dX11_lines_110 : decode cX11_lines 110 = .ok (.getfield 117, 3) := by decide +kernel
theorem dX11_lines_113 : decode cX11_lines 113 = .ok (.aload_n 0, 1) := by decide +kernel
theorem dX11_lines_114 : decode cX11_lines 114 = .ok (.getfield 114, 3) := by decide +kernel
theorem dX11_lines_117 : decode cX11_lines 117 = .ok (.if_icmp .ge 7, 3) := by decide +kernel
theorem dX11_lines_120 : decode cX11_lines 120 = .ok (.iconst 0, 1) := by decide +kernel
theorem dX11_lines_121 : decode cX11_lines 121 = .ok (.goto 14, 3) := by decide +kernel
theorem dX11_lines_124 : decode cX11_lines 124 = .ok (.aload_n 0, 1) := by decide +kernel
theorem dX11_lines_125 : decode cX11_lines 125 = .ok (.getfield 117, 3) := by decide +kernel
theorem dX11_lines_128 : decode cX11_lines 128 = .ok (.aload_n 0, 1) := by decide +kernel
theorem dX11_lines_129 : decode cX11_lines 129 = .ok (.getfield 114, 3) := by decide +kernel
theorem dX11_lines_132 : decode cX11_lines 132 = .ok (.isub, 1) := by decide +kernel
theorem dX11_lines_133 : decode cX11_lines 133 = .ok (.iconst 1, 1) := by decide +kernel
theorem dX11_lines_134 : decode cX11_lines 134 = .ok (.iadd, 1) := by decide +kernel
theorem dX11_lines_135 : decode cX11_lines 135 = .ok (.ireturn, 1) := by decide +kernel
theorem dX11_allLines_0 : decode cX11_allLines 0 = .ok (.lconst 0, 1) := by decide +kernel
theorem dX11_allLines_1 : decode cX11_allLines 1 = .ok (.lstore_n 2, 1) := by decide +kernel
theorem dX11_allLines_2 : decode cX11_allLines 2 = .ok (.bipush (-20), 2) := by decide +kernel
theorem dX11_allLines_4 : decode cX11_allLines 4 = .ok (.istore 4, 2) := by decide +kernel
theorem dX11_allLines_6 : decode cX11_allLines 6 = .ok (.iload 4, 2) := by decide +kernel
theorem dX11_allLines_8 : decode cX11_allLines 8 = .ok (.bipush 20, 2) := by decide +kernel
theorem dX11_allLines_10 : decode cX11_allLines 10 = .ok (.if_icmp .gt 20, 3) := by decide +kernel
theorem dX11_allLines_13 : decode cX11_allLines 13 = .ok (.lload_n 2, 1) := by decide +kernel
theorem dX11_allLines_14 : decode cX11_allLines 14 = .ok (.aload_n 0, 1) := by decide +kernel
theorem dX11_allLines_15 : decode cX11_allLines 15 = .ok (.iload_n 1, 1) := by decide +kernel
theorem dX11_allLines_16 : decode cX11_allLines 16 = .ok (.iload 4, 2) := by decide +kernel
theorem dX11_allLines_18 : decode cX11_allLines 18 = .ok (.invokevirtual 120, 3) := by decide +kernel
theorem dX11_allLines_21 : decode cX11_allLines 21 = .ok (.i2l, 1) := by decide +kernel
theorem dX11_allLines_22 : decode cX11_allLines 22 = .ok (.ladd, 1) := by decide +kernel
theorem dX11_allLines_23 : decode cX11_allLines 23 = .ok (.lstore_n 2, 1) := by decide +kernel
theorem dX11_allLines_24 : decode cX11_allLines 24 = .ok (.iinc 4 1, 3) := by decide +kernel
theorem dX11_allLines_27 : decode cX11_allLines 27 = .ok (.goto (-21), 3) := by decide +kernel
theorem dX11_allLines_30 : decode cX11_allLines 30 = .ok (.lload_n 2, 1) := by decide +kernel
theorem dX11_allLines_31 : decode cX11_allLines 31 = .ok (.lreturn, 1) := by decide +kernel
theorem dX11_isHeap_0 : decode cX11_isHeap 0 = .ok (.aload_n 0, 1) := by decide +kernel
theorem dX11_isHeap_1 : decode cX11_isHeap 1 = .ok (.iconst 0, 1) := by decide +kernel
theorem dX11_isHeap_2 : decode cX11_isHeap 2 = .ok (.invokevirtual 123, 3) := by decide +kernel
theorem dX11_isHeap_5 : decode cX11_isHeap 5 = .ok (.lconst 0, 1) := by decide +kernel
theorem dX11_isHeap_6 : decode cX11_isHeap 6 = .ok (.lcmp, 1) := by decide +kernel
theorem dX11_isHeap_7 : decode cX11_isHeap 7 = .ok (.ifCond .le 17, 3) := by decide +kernel
theorem dX11_isHeap_10 : decode cX11_isHeap 10 = .ok (.aload_n 0, 1) := by decide +kernel
theorem dX11_isHeap_11 : decode cX11_isHeap 11 = .ok (.iconst 1, 1) := by decide +kernel
theorem dX11_isHeap_12 : decode cX11_isHeap 12 = .ok (.invokevirtual 123, 3) := by decide +kernel
theorem dX11_isHeap_15 : decode cX11_isHeap 15 = .ok (.lconst 0, 1) := by decide +kernel
theorem dX11_isHeap_16 : decode cX11_isHeap 16 = .ok (.lcmp, 1) := by decide +kernel
theorem dX11_isHeap_17 : decode cX11_isHeap 17 = .ok (.ifCond .le 7, 3) := by decide +kernel
theorem dX11_isHeap_20 : decode cX11_isHeap 20 = .ok (.iconst 1, 1) := by decide +kernel
theorem dX11_isHeap_21 : decode cX11_isHeap 21 = .ok (.goto 4, 3) := by decide +kernel
theorem dX11_isHeap_24 : decode cX11_isHeap 24 = .ok (.iconst 0, 1) := by decide +kernel
theorem dX11_isHeap_25 : decode cX11_isHeap 25 = .ok (.ireturn, 1) := by decide +kernel
theorem dX11_isSound_0 : decode cX11_isSound 0 = .ok (.aload_n 0, 1) := by decide +kernel
theorem dX11_isSound_1 : decode cX11_isSound 1 = .ok (.iload_n 1, 1) := by decide +kernel
theorem dX11_isSound_2 : decode cX11_isSound 2 = .ok (.invokevirtual 127, 3) := by decide +kernel
theorem dX11_isSound_5 : decode cX11_isSound 5 = .ok (.aload_n 0, 1) := by decide +kernel
theorem dX11_isSound_6 : decode cX11_isSound 6 = .ok (.invokevirtual 131, 3) := by decide +kernel
theorem dX11_isSound_9 : decode cX11_isSound 9 = .ok (.ireturn, 1) := by decide +kernel
theorem dX11_ahead0_0 : decode cX11_ahead0 0 = .ok (.iconst 0, 1) := by decide +kernel
theorem dX11_ahead0_1 : decode cX11_ahead0 1 = .ok (.istore_n 3, 1) := by decide +kernel
theorem dX11_ahead0_2 : decode cX11_ahead0 2 = .ok (.bipush (-20), 2) := by decide +kernel
theorem dX11_ahead0_4 : decode cX11_ahead0 4 = .ok (.istore 4, 2) := by decide +kernel
theorem dX11_ahead0_6 : decode cX11_ahead0 6 = .ok (.iload 4, 2) := by decide +kernel
theorem dX11_ahead0_8 : decode cX11_ahead0 8 = .ok (.bipush 20, 2) := by decide +kernel
theorem dX11_ahead0_10 : decode cX11_ahead0 10 = .ok (.if_icmp .gt 106, 3) := by decide +kernel
theorem dX11_ahead0_13 : decode cX11_ahead0 13 = .ok (.aload_n 0, 1) := by decide +kernel
theorem dX11_ahead0_14 : decode cX11_ahead0 14 = .ok (.iload_n 1, 1) := by decide +kernel
theorem dX11_ahead0_15 : decode cX11_ahead0 15 = .ok (.iload 4, 2) := by decide +kernel
theorem dX11_ahead0_17 : decode cX11_ahead0 17 = .ok (.invokevirtual 120, 3) := by decide +kernel
theorem dX11_ahead0_20 : decode cX11_ahead0 20 = .ok (.ifCond .ne 6, 3) := by decide +kernel
theorem dX11_ahead0_23 : decode cX11_ahead0 23 = .ok (.goto 87, 3) := by decide +kernel
theorem dX11_ahead0_26 : decode cX11_ahead0 26 = .ok (.aload_n 0, 1) := by decide +kernel
theorem dX11_ahead0_27 : decode cX11_ahead0 27 = .ok (.getfield 114, 3) := by decide +kernel
theorem dX11_ahead0_30 : decode cX11_ahead0 30 = .ok (.i2l, 1) := by decide +kernel
theorem dX11_ahead0_31 : decode cX11_ahead0 31 = .ok (.aload_n 0, 1) := by decide +kernel
theorem dX11_ahead0_32 : decode cX11_ahead0 32 = .ok (.getfield 13, 3) := by decide +kernel
theorem dX11_ahead0_35 : decode cX11_ahead0 35 = .ok (.i2l, 1) := by decide +kernel
theorem dX11_ahead0_36 : decode cX11_ahead0 36 = .ok (.lmul, 1) := by decide +kernel
theorem dX11_ahead0_37 : decode cX11_ahead0 37 = .ok (.iload 4, 2) := by decide +kernel
theorem dX11_ahead0_39 : decode cX11_ahead0 39 = .ok (.iload_n 2, 1) := by decide +kernel
theorem dX11_ahead0_40 : decode cX11_ahead0 40 = .ok (.imul, 1) := by decide +kernel
theorem dX11_ahead0_41 : decode cX11_ahead0 41 = .ok (.i2l, 1) := by decide +kernel
theorem dX11_ahead0_42 : decode cX11_ahead0 42 = .ok (.ladd, 1) := by decide +kernel
theorem dX11_ahead0_43 : decode cX11_ahead0 43 = .ok (.lstore 5, 2) := by decide +kernel
theorem dX11_ahead0_45 : decode cX11_ahead0 45 = .ok (.aload_n 0, 1) := by decide +kernel
theorem dX11_ahead0_46 : decode cX11_ahead0 46 = .ok (.getfield 117, 3) := by decide +kernel
theorem dX11_ahead0_49 : decode cX11_ahead0 49 = .ok (.i2l, 1) := by decide +kernel
theorem dX11_ahead0_50 : decode cX11_ahead0 50 = .ok (.aload_n 0, 1) := by decide +kernel
theorem dX11_ahead0_51 : decode cX11_ahead0 51 = .ok (.getfield 13, 3) := by decide +kernel
theorem dX11_ahead0_54 : decode cX11_ahead0 54 = .ok (.i2l, 1) := by decide +kernel
theorem dX11_ahead0_55 : decode cX11_ahead0 55 = .ok (.lmul, 1) := by decide +kernel
theorem dX11_ahead0_56 : decode cX11_ahead0 56 = .ok (.iload 4, 2) := by decide +kernel
theorem dX11_ahead0_58 : decode cX11_ahead0 58 = .ok (.iload_n 2, 1) := by decide +kernel
theorem dX11_ahead0_59 : decode cX11_ahead0 59 = .ok (.imul, 1) := by decide +kernel
theorem dX11_ahead0_60 : decode cX11_ahead0 60 = .ok (.i2l, 1) := by decide +kernel
theorem dX11_ahead0_61 : decode cX11_ahead0 61 = .ok (.ladd, 1) := by decide +kernel
theorem dX11_ahead0_62 : decode cX11_ahead0 62 = .ok (.lstore 7, 2) := by decide +kernel
theorem dX11_ahead0_64 : decode cX11_ahead0 64 = .ok (.aload_n 0, 1) := by decide +kernel
theorem dX11_ahead0_65 : decode cX11_ahead0 65 = .ok (.iload_n 3, 1) := by decide +kernel
theorem dX11_ahead0_66 : decode cX11_ahead0 66 = .ok (.ifCond .eq 15, 3) := by decide +kernel
theorem dX11_ahead0_69 : decode cX11_ahead0 69 = .ok (.aload_n 0, 1) := by decide +kernel
theorem dX11_ahead0_70 : decode cX11_ahead0 70 = .ok (.getfield 135, 3) := by decide +kernel
theorem dX11_ahead0_73 : decode cX11_ahead0 73 = .ok (.lload 5, 2) := by decide +kernel
theorem dX11_ahead0_75 : decode cX11_ahead0 75 = .ok (.invokestatic 139, 3) := by decide +kernel
theorem dX11_ahead0_78 : decode cX11_ahead0 78 = .ok (.goto 5, 3) := by decide +kernel
theorem dX11_ahead0_81 : decode cX11_ahead0 81 = .ok (.lload 5, 2) := by decide +kernel
theorem dX11_ahead0_83 : decode cX11_ahead0 83 = .ok (.putfield 135, 3) := by decide +kernel
theorem dX11_ahead0_86 : decode cX11_ahead0 86 = .ok (.aload_n 0, 1) := by decide +kernel
theorem dX11_ahead0_87 : decode cX11_ahead0 87 = .ok (.iload_n 3, 1) := by decide +kernel
theorem dX11_ahead0_88 : decode cX11_ahead0 88 = .ok (.ifCond .eq 15, 3) := by decide +kernel
theorem dX11_ahead0_91 : decode cX11_ahead0 91 = .ok (.aload_n 0, 1) := by decide +kernel
theorem dX11_ahead0_92 : decode cX11_ahead0 92 = .ok (.getfield 142, 3) := by decide +kernel
theorem dX11_ahead0_95 : decode cX11_ahead0 95 = .ok (.lload 7, 2) := by decide +kernel
theorem dX11_ahead0_97 : decode cX11_ahead0 97 = .ok (.invokestatic 145, 3) := by decide +kernel
theorem dX11_ahead0_100 : decode cX11_ahead0 100 = .ok (.goto 5, 3) := by decide +kernel
theorem dX11_ahead0_103 : decode cX11_ahead0 103 = .ok (.lload 7, 2) := by decide +kernel
theorem dX11_ahead0_105 : decode cX11_ahead0 105 = .ok (.putfield 142, 3) := by decide +kernel
theorem dX11_ahead0_108 : decode cX11_ahead0 108 = .ok (.iconst 1, 1) := by decide +kernel
theorem dX11_ahead0_109 : decode cX11_ahead0 109 = .ok (.istore_n 3, 1) := by decide +kernel
theorem dX11_ahead0_110 : decode cX11_ahead0 110 = .ok (.iinc 4 1, 3) := by decide +kernel
theorem dX11_ahead0_113 : decode cX11_ahead0 113 = .ok (.goto (-107), 3) := by decide +kernel
theorem dX11_ahead0_116 : decode cX11_ahead0 116 = .ok (.return_, 1) := by decide +kernel
theorem dX11_isNear_0 : decode cX11_isNear 0 = .ok (.aload_n 0, 1) := by decide +kernel
theorem dX11_isNear_1 : decode cX11_isNear 1 = .ok (.getfield 19, 3) := by decide +kernel
theorem dX11_isNear_4 : decode cX11_isNear 4 = .ok (.iload_n 2, 1) := by decide +kernel
theorem dX11_isNear_5 : decode cX11_isNear 5 = .ok (.iaload, 1) := by decide +kernel
theorem dX11_isNear_6 : decode cX11_isNear 6 = .ok (.aload_n 0, 1) := by decide +kernel
theorem dX11_isNear_7 : decode cX11_isNear 7 = .ok (.getfield 19, 3) := by decide +kernel
theorem dX11_isNear_10 : decode cX11_isNear 10 = .ok (.iload_n 1, 1) := by decide +kernel
theorem dX11_isNear_11 : decode cX11_isNear 11 = .ok (.iaload, 1) := by decide +kernel
theorem dX11_isNear_12 : decode cX11_isNear 12 = .ok (.isub, 1) := by decide +kernel
theorem dX11_isNear_13 : decode cX11_isNear 13 = .ok (.istore_n 3, 1) := by decide +kernel
theorem dX11_isNear_14 : decode cX11_isNear 14 = .ok (.aload_n 0, 1) := by decide +kernel
theorem dX11_isNear_15 : decode cX11_isNear 15 = .ok (.getfield 23, 3) := by decide +kernel
theorem dX11_isNear_18 : decode cX11_isNear 18 = .ok (.iload_n 2, 1) := by decide +kernel
theorem dX11_isNear_19 : decode cX11_isNear 19 = .ok (.iaload, 1) := by decide +kernel
theorem dX11_isNear_20 : decode cX11_isNear 20 = .ok (.aload_n 0, 1) := by decide +kernel
theorem dX11_isNear_21 : decode cX11_isNear 21 = .ok (.getfield 23, 3) := by decide +kernel
theorem dX11_isNear_24 : decode cX11_isNear 24 = .ok (.iload_n 1, 1) := by decide +kernel
theorem dX11_isNear_25 : decode cX11_isNear 25 = .ok (.iaload, 1) := by decide +kernel
theorem dX11_isNear_26 : decode cX11_isNear 26 = .ok (.isub, 1) := by decide +kernel
theorem dX11_isNear_27 : decode cX11_isNear 27 = .ok (.invokestatic 147, 3) := by decide +kernel
theorem dX11_isNear_30 : decode cX11_isNear 30 = .ok (.aload_n 0, 1) := by decide +kernel
theorem dX11_isNear_31 : decode cX11_isNear 31 = .ok (.getfield 7, 3) := by decide +kernel
theorem dX11_isNear_34 : decode cX11_isNear 34 = .ok (.iload_n 3, 1) := by decide +kernel
theorem dX11_isNear_35 : decode cX11_isNear 35 = .ok (.imul, 1) := by decide +kernel
theorem dX11_isNear_36 : decode cX11_isNear 36 = .ok (.if_icmp .gt 32, 3) := by decide +kernel
theorem dX11_isNear_39 : decode cX11_isNear 39 = .ok (.aload_n 0, 1) := by decide +kernel
theorem dX11_isNear_40 : decode cX11_isNear 40 = .ok (.getfield 26, 3) := by decide +kernel
theorem dX11_isNear_43 : decode cX11_isNear 43 = .ok (.iload_n 2, 1) := by decide +kernel
theorem dX11_isNear_44 : decode cX11_isNear 44 = .ok (.iaload, 1) := by decide +kernel
theorem dX11_isNear_45 : decode cX11_isNear 45 = .ok (.aload_n 0, 1) := by decide +kernel
theorem dX11_isNear_46 : decode cX11_isNear 46 = .ok (.getfield 26, 3) := by decide +kernel
theorem dX11_isNear_49 : decode cX11_isNear 49 = .ok (.iload_n 1, 1) := by decide +kernel
theorem dX11_isNear_50 : decode cX11_isNear 50 = .ok (.iaload, 1) := by decide +kernel
theorem dX11_isNear_51 : decode cX11_isNear 51 = .ok (.isub, 1) := by decide +kernel
theorem dX11_isNear_52 : decode cX11_isNear 52 = .ok (.invokestatic 147, 3) := by decide +kernel
theorem dX11_isNear_55 : decode cX11_isNear 55 = .ok (.aload_n 0, 1) := by decide +kernel
theorem dX11_isNear_56 : decode cX11_isNear 56 = .ok (.getfield 7, 3) := by decide +kernel
theorem dX11_isNear_59 : decode cX11_isNear 59 = .ok (.iload_n 3, 1) := by decide +kernel
theorem dX11_isNear_60 : decode cX11_isNear 60 = .ok (.imul, 1) := by decide +kernel
theorem dX11_isNear_61 : decode cX11_isNear 61 = .ok (.if_icmp .gt 7, 3) := by decide +kernel
theorem dX11_isNear_64 : decode cX11_isNear 64 = .ok (.iconst 1, 1) := by decide +kernel
theorem dX11_isNear_65 : decode cX11_isNear 65 = .ok (.goto 4, 3) := by decide +kernel
theorem dX11_isNear_68 : decode cX11_isNear 68 = .ok (.iconst 0, 1) := by decide +kernel
theorem dX11_isNear_69 : decode cX11_isNear 69 = .ok (.ireturn, 1) := by decide +kernel
theorem dX11_findBits_0 : decode cX11_findBits 0 = .ok (.aload_n 0, 1) := by decide +kernel
theorem dX11_findBits_1 : decode cX11_findBits 1 = .ok (.iconst 0, 1) := by decide +kernel
theorem dX11_findBits_2 : decode cX11_findBits 2 = .ok (.putfield 150, 3) := by decide +kernel
theorem dX11_findBits_5 : decode cX11_findBits 5 = .ok (.iconst 0, 1) := by decide +kernel
theorem dX11_findBits_6 : decode cX11_findBits 6 = .ok (.istore_n 1, 1) := by decide +kernel
theorem dX11_findBits_7 : decode cX11_findBits 7 = .ok (.iload_n 1, 1) := by decide +kernel
theorem dX11_findBits_8 : decode cX11_findBits 8 = .ok (.aload_n 0, 1) := by decide +kernel
theorem dX11_findBits_9 : decode cX11_findBits 9 = .ok (.getfield 75, 3) := by decide +kernel
theorem dX11_findBits_12 : decode cX11_findBits 12 = .ok (.if_icmp .ge 115, 3) := by decide +kernel
theorem dX11_findBits_15 : decode cX11_findBits 15 = .ok (.iconst 0, 1) := by decide +kernel
theorem dX11_findBits_16 : decode cX11_findBits 16 = .ok (.istore_n 2, 1) := by decide +kernel
theorem dX11_findBits_17 : decode cX11_findBits 17 = .ok (.iload_n 2, 1) := by decide +kernel
theorem dX11_findBits_18 : decode cX11_findBits 18 = .ok (.aload_n 0, 1) := by decide +kernel
theorem dX11_findBits_19 : decode cX11_findBits 19 = .ok (.getfield 75, 3) := by decide +kernel
theorem dX11_findBits_22 : decode cX11_findBits 22 = .ok (.if_icmp .ge 99, 3) := by decide +kernel
theorem dX11_findBits_25 : decode cX11_findBits 25 = .ok (.aload_n 0, 1) := by decide +kernel
theorem dX11_findBits_26 : decode cX11_findBits 26 = .ok (.getfield 32, 3) := by decide +kernel
theorem dX11_findBits_29 : decode cX11_findBits 29 = .ok (.iload_n 1, 1) := by decide +kernel
theorem dX11_findBits_30 : decode cX11_findBits 30 = .ok (.iaload, 1) := by decide +kernel
theorem dX11_findBits_31 : decode cX11_findBits 31 = .ok (.iconst (-1), 1) := by decide +kernel
theorem dX11_findBits_32 : decode cX11_findBits 32 = .ok (.if_icmp .ne 83, 3) := by decide +kernel
theorem dX11_findBits_35 : decode cX11_findBits 35 = .ok (.aload_n 0, 1) := by decide +kernel
theorem dX11_findBits_36 : decode cX11_findBits 36 = .ok (.getfield 32, 3) := by decide +kernel
theorem dX11_findBits_39 : decode cX11_findBits 39 = .ok (.iload_n 2, 1) := by decide +kernel
theorem dX11_findBits_40 : decode cX11_findBits 40 = .ok (.iaload, 1) := by decide +kernel
theorem dX11_findBits_41 : decode cX11_findBits 41 = .ok (.iconst (-1), 1) := by decide +kernel
theorem dX11_findBits_42 : decode cX11_findBits 42 = .ok (.if_icmp .ne 73, 3) := by decide +kernel
theorem dX11_findBits_45 : decode cX11_findBits 45 = .ok (.aload_n 0, 1) := by decide +kernel
theorem dX11_findBits_46 : decode cX11_findBits 46 = .ok (.iload_n 1, 1) := by decide +kernel
theorem dX11_findBits_47 : decode cX11_findBits 47 = .ok (.invokevirtual 92, 3) := by decide +kernel
theorem dX11_findBits_50 : decode cX11_findBits 50 = .ok (.aload_n 0, 1) := by decide +kernel
theorem dX11_findBits_51 : decode cX11_findBits 51 = .ok (.iload_n 2, 1) := by decide +kernel
theorem dX11_findBits_52 : decode cX11_findBits 52 = .ok (.invokevirtual 92, 3) := by decide +kernel
theorem dX11_findBits_55 : decode cX11_findBits 55 = .ok (.if_icmp .ne 60, 3) := by decide +kernel
theorem dX11_findBits_58 : decode cX11_findBits 58 = .ok (.aload_n 0, 1) := by decide +kernel
theorem dX11_findBits_59 : decode cX11_findBits 59 = .ok (.getfield 19, 3) := by decide +kernel
theorem dX11_findBits_62 : decode cX11_findBits 62 = .ok (.iload_n 1, 1) := by decide +kernel
theorem dX11_findBits_63 : decode cX11_findBits 63 = .ok (.iaload, 1) := by decide +kernel
theorem dX11_findBits_64 : decode cX11_findBits 64 = .ok (.aload_n 0, 1) := by decide +kernel
theorem dX11_findBits_65 : decode cX11_findBits 65 = .ok (.getfield 19, 3) := by decide +kernel
theorem dX11_findBits_68 : decode cX11_findBits 68 = .ok (.iload_n 2, 1) := by decide +kernel
theorem dX11_findBits_69 : decode cX11_findBits 69 = .ok (.iaload, 1) := by decide +kernel
theorem dX11_findBits_70 : decode cX11_findBits 70 = .ok (.if_icmp .ge 45, 3) := by decide +kernel
theorem dX11_findBits_73 : decode cX11_findBits 73 = .ok (.aload_n 0, 1) := by decide +kernel
theorem dX11_findBits_74 : decode cX11_findBits 74 = .ok (.iload_n 1, 1) := by decide +kernel
theorem dX11_findBits_75 : decode cX11_findBits 75 = .ok (.iload_n 2, 1) := by decide +kernel
theorem dX11_findBits_76 : decode cX11_findBits 76 = .ok (.invokevirtual 153, 3) := by decide +kernel
theorem dX11_findBits_79 : decode cX11_findBits 79 = .ok (.ifCond .ne 6, 3) := by decide +kernel
theorem dX11_findBits_82 : decode cX11_findBits 82 = .ok (.goto 33, 3) := by decide +kernel
theorem dX11_findBits_85 : decode cX11_findBits 85 = .ok (.aload_n 0, 1) := by decide +kernel
theorem dX11_findBits_86 : decode cX11_findBits 86 = .ok (.getfield 51, 3) := by decide +kernel
theorem dX11_findBits_89 : decode cX11_findBits 89 = .ok (.aload_n 0, 1) := by decide +kernel
theorem dX11_findBits_90 : decode cX11_findBits 90 = .ok (.getfield 150, 3) := by decide +kernel
theorem dX11_findBits_93 : decode cX11_findBits 93 = .ok (.iload_n 1, 1) := by decide +kernel
theorem dX11_findBits_94 : decode cX11_findBits 94 = .ok (.iastore, 1) := by decide +kernel
theorem dX11_findBits_95 : decode cX11_findBits 95 = .ok (.aload_n 0, 1) := by decide +kernel
theorem dX11_findBits_96 : decode cX11_findBits 96 = .ok (.getfield 54, 3) := by decide +kernel
theorem dX11_findBits_99 : decode cX11_findBits 99 = .ok (.aload_n 0, 1) := by decide +kernel
theorem dX11_findBits_100 : decode cX11_findBits 100 = .ok (.getfield 150, 3) := by decide +kernel
theorem dX11_findBits_103 : decode cX11_findBits 103 = .ok (.iload_n 2, 1) := by decide +kernel
theorem dX11_findBits_104 : decode cX11_findBits 104 = .ok (.iastore, 1) := by decide +kernel
theorem dX11_findBits_105 : decode cX11_findBits 105 = .ok (.aload_n 0, 1) := by decide +kernel
theorem dX11_findBits_106 : decode cX11_findBits 106 = .ok (.dup, 1) := by decide +kernel
theorem dX11_findBits_107 : decode cX11_findBits 107 = .ok (.getfield 150, 3) := by decide +kernel
theorem dX11_findBits_110 : decode cX11_findBits 110 = .ok (.iconst 1, 1) := by decide +kernel
theorem dX11_findBits_111 : decode cX11_findBits 111 = .ok (.iadd, 1) := by decide +kernel
theorem dX11_findBits_112 : decode cX11_findBits 112 = .ok (.putfield 150, 3) := by decide +kernel
theorem dX11_findBits_115 : decode cX11_findBits 115 = .ok (.iinc 2 1, 3) := by decide +kernel
theorem dX11_findBits_118 : decode cX11_findBits 118 = .ok (.goto (-101), 3) := by decide +kernel
theorem dX11_findBits_121 : decode cX11_findBits 121 = .ok (.iinc 1 1, 3) := by decide +kernel
theorem dX11_findBits_124 : decode cX11_findBits 124 = .ok (.goto (-117), 3) := by decide +kernel
theorem dX11_findBits_127 : decode cX11_findBits 127 = .ok (.return_, 1) := by decide +kernel
theorem dX11_bits_0 : decode cX11_bits 0 = .ok (.aload_n 0, 1) := by decide +kernel
theorem dX11_bits_1 : decode cX11_bits 1 = .ok (.invokevirtual 157, 3) := by decide +kernel
theorem dX11_bits_4 : decode cX11_bits 4 = .ok (.aload_n 0, 1) := by decide +kernel
theorem dX11_bits_5 : decode cX11_bits 5 = .ok (.getfield 150, 3) := by decide +kernel
theorem dX11_bits_8 : decode cX11_bits 8 = .ok (.ireturn, 1) := by decide +kernel
theorem dX11_bit_0 : decode cX11_bit 0 = .ok (.aload_n 0, 1) := by decide +kernel
theorem dX11_bit_1 : decode cX11_bit 1 = .ok (.invokevirtual 157, 3) := by decide +kernel
theorem dX11_bit_4 : decode cX11_bit 4 = .ok (.iload_n 1, 1) := by decide +kernel
theorem dX11_bit_5 : decode cX11_bit 5 = .ok (.iconst 0, 1) := by decide +kernel
theorem dX11_bit_6 : decode cX11_bit 6 = .ok (.aload_n 0, 1) := by decide +kernel
theorem dX11_bit_7 : decode cX11_bit 7 = .ok (.getfield 150, 3) := by decide +kernel
theorem dX11_bit_10 : decode cX11_bit 10 = .ok (.iconst 1, 1) := by decide +kernel
theorem dX11_bit_11 : decode cX11_bit 11 = .ok (.isub, 1) := by decide +kernel
theorem dX11_bit_12 : decode cX11_bit 12 = .ok (.invokestatic 78, 3) := by decide +kernel
theorem dX11_bit_15 : decode cX11_bit 15 = .ok (.ifCond .ne 5, 3) := by decide +kernel
theorem dX11_bit_18 : decode cX11_bit 18 = .ok (.iconst (-1), 1) := by decide +kernel
theorem dX11_bit_19 : decode cX11_bit 19 = .ok (.ireturn, 1) := by decide +kernel
theorem dX11_bit_20 : decode cX11_bit 20 = .ok (.iload_n 2, 1) := by decide +kernel
theorem dX11_bit_21 : decode cX11_bit 21 = .ok (.ifCond .ne 12, 3) := by decide +kernel
theorem dX11_bit_24 : decode cX11_bit 24 = .ok (.aload_n 0, 1) := by decide +kernel
theorem dX11_bit_25 : decode cX11_bit 25 = .ok (.getfield 51, 3) := by decide +kernel
theorem dX11_bit_28 : decode cX11_bit 28 = .ok (.iload_n 1, 1) := by decide +kernel
theorem dX11_bit_29 : decode cX11_bit 29 = .ok (.iaload, 1) := by decide +kernel
theorem dX11_bit_30 : decode cX11_bit 30 = .ok (.goto 18, 3) := by decide +kernel
theorem dX11_bit_33 : decode cX11_bit 33 = .ok (.iload_n 2, 1) := by decide +kernel
theorem dX11_bit_34 : decode cX11_bit 34 = .ok (.iconst 1, 1) := by decide +kernel
theorem dX11_bit_35 : decode cX11_bit 35 = .ok (.if_icmp .ne 12, 3) := by decide +kernel
theorem dX11_bit_38 : decode cX11_bit 38 = .ok (.aload_n 0, 1) := by decide +kernel
theorem dX11_bit_39 : decode cX11_bit 39 = .ok (.getfield 54, 3) := by decide +kernel
theorem dX11_bit_42 : decode cX11_bit 42 = .ok (.iload_n 1, 1) := by decide +kernel
theorem dX11_bit_43 : decode cX11_bit 43 = .ok (.iaload, 1) := by decide +kernel
theorem dX11_bit_44 : decode cX11_bit 44 = .ok (.goto 4, 3) := by decide +kernel
theorem dX11_bit_47 : decode cX11_bit 47 = .ok (.iconst (-1), 1) := by decide +kernel
theorem dX11_bit_48 : decode cX11_bit 48 = .ok (.ireturn, 1) := by decide +kernel
theorem dX11_findPairs_0 : decode cX11_findPairs 0 = .ok (.aload_n 0, 1) := by decide +kernel
theorem dX11_findPairs_1 : decode cX11_findPairs 1 = .ok (.invokevirtual 157, 3) := by decide +kernel
theorem dX11_findPairs_4 : decode cX11_findPairs 4 = .ok (.aload_n 0, 1) := by decide +kernel
theorem dX11_findPairs_5 : decode cX11_findPairs 5 = .ok (.iconst 0, 1) := by decide +kernel
theorem dX11_findPairs_6 : decode cX11_findPairs 6 = .ok (.putfield 160, 3) := by decide +kernel
theorem dX11_findPairs_9 : decode cX11_findPairs 9 = .ok (.aload_n 0, 1) := by decide +kernel
theorem dX11_findPairs_10 : decode cX11_findPairs 10 = .ok (.getfield 150, 3) := by decide +kernel
theorem dX11_findPairs_13 : decode cX11_findPairs 13 = .ok (.bipush 40, 2) := by decide +kernel
theorem dX11_findPairs_15 : decode cX11_findPairs 15 = .ok (.if_icmp .le 5, 3) := by decide +kernel
theorem dX11_findPairs_18 : decode cX11_findPairs 18 = .ok (.iconst 0, 1) := by decide +kernel
theorem dX11_findPairs_19 : decode cX11_findPairs 19 = .ok (.ireturn, 1) := by decide +kernel
theorem dX11_findPairs_20 : decode cX11_findPairs 20 = .ok (.iconst 0, 1) := by decide +kernel
theorem dX11_findPairs_21 : decode cX11_findPairs 21 = .ok (.istore_n 1, 1) := by decide +kernel
theorem dX11_findPairs_22 : decode cX11_findPairs 22 = .ok (.iload_n 1, 1) := by decide +kernel
theorem dX11_findPairs_23 : decode cX11_findPairs 23 = .ok (.aload_n 0, 1) := by decide +kernel
theorem dX11_findPairs_24 : decode cX11_findPairs 24 = .ok (.getfield 150, 3) := by decide +kernel
theorem dX11_findPairs_27 : decode cX11_findPairs 27 = .ok (.if_icmp .ge 138, 3) := by decide +kernel
theorem dX11_findPairs_30 : decode cX11_findPairs 30 = .ok (.iload_n 1, 1) := by decide +kernel
theorem dX11_findPairs_31 : decode cX11_findPairs 31 = .ok (.iconst 1, 1) := by decide +kernel
theorem dX11_findPairs_32 : decode cX11_findPairs 32 = .ok (.iadd, 1) := by decide +kernel
theorem dX11_findPairs_33 : decode cX11_findPairs 33 = .ok (.istore_n 2, 1) := by decide +kernel
theorem dX11_findPairs_34 : decode cX11_findPairs 34 = .ok (.iload_n 2, 1) := by decide +kernel
theorem dX11_findPairs_35 : decode cX11_findPairs 35 = .ok (.aload_n 0, 1) := by decide +kernel
theorem dX11_findPairs_36 : decode cX11_findPairs 36 = .ok (.getfield 150, 3) := by decide +kernel
theorem dX11_findPairs_39 : decode cX11_findPairs 39 = .ok (.if_icmp .ge 120, 3) := by decide +kernel
theorem dX11_findPairs_42 : decode cX11_findPairs 42 = .ok (.aload_n 0, 1) := by decide +kernel
theorem dX11_findPairs_43 : decode cX11_findPairs 43 = .ok (.aload_n 0, 1) := by decide +kernel
theorem dX11_findPairs_44 : decode cX11_findPairs 44 = .ok (.getfield 51, 3) := by decide +kernel
theorem dX11_findPairs_47 : decode cX11_findPairs 47 = .ok (.iload_n 1, 1) := by decide +kernel
theorem dX11_findPairs_48 : decode cX11_findPairs 48 = .ok (.iaload, 1) := by decide +kernel
theorem dX11_findPairs_49 : decode cX11_findPairs 49 = .ok (.invokevirtual 92, 3) := by decide +kernel
theorem dX11_findPairs_52 : decode cX11_findPairs 52 = .ok (.aload_n 0, 1) := by decide +kernel
theorem dX11_findPairs_53 : decode cX11_findPairs 53 = .ok (.aload_n 0, 1) := by decide +kernel
theorem dX11_findPairs_54 : decode cX11_findPairs 54 = .ok (.getfield 51, 3) := by decide +kernel
theorem dX11_findPairs_57 : decode cX11_findPairs 57 = .ok (.iload_n 2, 1) := by decide +kernel
theorem dX11_findPairs_58 : decode cX11_findPairs 58 = .ok (.iaload, 1) := by decide +kernel
theorem dX11_findPairs_59 : decode cX11_findPairs 59 = .ok (.invokevirtual 92, 3) := by decide +kernel
theorem dX11_findPairs_62 : decode cX11_findPairs 62 = .ok (.if_icmp .ne 6, 3) := by decide +kernel
theorem dX11_findPairs_65 : decode cX11_findPairs 65 = .ok (.goto 88, 3) := by decide +kernel
theorem dX11_findPairs_68 : decode cX11_findPairs 68 = .ok (.aload_n 0, 1) := by decide +kernel
theorem dX11_findPairs_69 : decode cX11_findPairs 69 = .ok (.iconst 0, 1) := by decide +kernel
theorem dX11_findPairs_70 : decode cX11_findPairs 70 = .ok (.putfield 96, 3) := by decide +kernel
theorem dX11_findPairs_73 : decode cX11_findPairs 73 = .ok (.aload_n 0, 1) := by decide +kernel
theorem dX11_findPairs_74 : decode cX11_findPairs 74 = .ok (.aload_n 0, 1) := by decide +kernel
theorem dX11_findPairs_75 : decode cX11_findPairs 75 = .ok (.getfield 51, 3) := by decide +kernel
theorem dX11_findPairs_78 : decode cX11_findPairs 78 = .ok (.iload_n 1, 1) := by decide +kernel
theorem dX11_findPairs_79 : decode cX11_findPairs 79 = .ok (.iaload, 1) := by decide +kernel
theorem dX11_findPairs_80 : decode cX11_findPairs 80 = .ok (.invokevirtual 163, 3) := by decide +kernel
theorem dX11_findPairs_83 : decode cX11_findPairs 83 = .ok (.aload_n 0, 1) := by decide +kernel
theorem dX11_findPairs_84 : decode cX11_findPairs 84 = .ok (.aload_n 0, 1) := by decide +kernel
theorem dX11_findPairs_85 : decode cX11_findPairs 85 = .ok (.getfield 54, 3) := by decide +kernel
theorem dX11_findPairs_88 : decode cX11_findPairs 88 = .ok (.iload_n 1, 1) := by decide +kernel
theorem dX11_findPairs_89 : decode cX11_findPairs 89 = .ok (.iaload, 1) := by decide +kernel
theorem dX11_findPairs_90 : decode cX11_findPairs 90 = .ok (.invokevirtual 163, 3) := by decide +kernel
theorem dX11_findPairs_93 : decode cX11_findPairs 93 = .ok (.aload_n 0, 1) := by decide +kernel
theorem dX11_findPairs_94 : decode cX11_findPairs 94 = .ok (.aload_n 0, 1) := by decide +kernel
theorem dX11_findPairs_95 : decode cX11_findPairs 95 = .ok (.getfield 51, 3) := by decide +kernel
theorem dX11_findPairs_98 : decode cX11_findPairs 98 = .ok (.iload_n 2, 1) := by decide +kernel
theorem dX11_findPairs_99 : decode cX11_findPairs 99 = .ok (.iaload, 1) := by decide +kernel
theorem dX11_findPairs_100 : decode cX11_findPairs 100 = .ok (.invokevirtual 163, 3) := by decide +kernel
theorem dX11_findPairs_103 : decode cX11_findPairs 103 = .ok (.aload_n 0, 1) := by decide +kernel
theorem dX11_findPairs_104 : decode cX11_findPairs 104 = .ok (.aload_n 0, 1) := by decide +kernel
theorem dX11_findPairs_105 : decode cX11_findPairs 105 = .ok (.getfield 54, 3) := by decide +kernel
theorem dX11_findPairs_108 : decode cX11_findPairs 108 = .ok (.iload_n 2, 1) := by decide +kernel
theorem dX11_findPairs_109 : decode cX11_findPairs 109 = .ok (.iaload, 1) := by decide +kernel
theorem dX11_findPairs_110 : decode cX11_findPairs 110 = .ok (.invokevirtual 163, 3) := by decide +kernel
theorem dX11_findPairs_113 : decode cX11_findPairs 113 = .ok (.aload_n 0, 1) := by decide +kernel
theorem dX11_findPairs_114 : decode cX11_findPairs 114 = .ok (.invokevirtual 131, 3) := by decide +kernel
theorem dX11_findPairs_117 : decode cX11_findPairs 117 = .ok (.ifCond .ne 6, 3) := by decide +kernel
theorem dX11_findPairs_120 : decode cX11_findPairs 120 = .ok (.goto 33, 3) := by decide +kernel
theorem dX11_findPairs_123 : decode cX11_findPairs 123 = .ok (.aload_n 0, 1) := by decide +kernel
theorem dX11_findPairs_124 : decode cX11_findPairs 124 = .ok (.getfield 57, 3) := by decide +kernel
theorem dX11_findPairs_127 : decode cX11_findPairs 127 = .ok (.aload_n 0, 1) := by decide +kernel
theorem dX11_findPairs_128 : decode cX11_findPairs 128 = .ok (.getfield 160, 3) := by decide +kernel
theorem dX11_findPairs_131 : decode cX11_findPairs 131 = .ok (.iload_n 1, 1) := by decide +kernel
theorem dX11_findPairs_132 : decode cX11_findPairs 132 = .ok (.iastore, 1) := by decide +kernel
theorem dX11_findPairs_133 : decode cX11_findPairs 133 = .ok (.aload_n 0, 1) := by decide +kernel
theorem dX11_findPairs_134 : decode cX11_findPairs 134 = .ok (.getfield 60, 3) := by decide +kernel
theorem dX11_findPairs_137 : decode cX11_findPairs 137 = .ok (.aload_n 0, 1) := by decide +kernel
theorem dX11_findPairs_138 : decode cX11_findPairs 138 = .ok (.getfield 160, 3) := by decide +kernel
theorem dX11_findPairs_141 : decode cX11_findPairs 141 = .ok (.iload_n 2, 1) := by decide +kernel
theorem dX11_findPairs_142 : decode cX11_findPairs 142 = .ok (.iastore, 1) := by decide +kernel
theorem dX11_findPairs_143 : decode cX11_findPairs 143 = .ok (.aload_n 0, 1) := by decide +kernel
theorem dX11_findPairs_144 : decode cX11_findPairs 144 = .ok (.dup, 1) := by decide +kernel
theorem dX11_findPairs_145 : decode cX11_findPairs 145 = .ok (.getfield 160, 3) := by decide +kernel
theorem dX11_findPairs_148 : decode cX11_findPairs 148 = .ok (.iconst 1, 1) := by decide +kernel
theorem dX11_findPairs_149 : decode cX11_findPairs 149 = .ok (.iadd, 1) := by decide +kernel
theorem dX11_findPairs_150 : decode cX11_findPairs 150 = .ok (.putfield 160, 3) := by decide +kernel
theorem dX11_findPairs_153 : decode cX11_findPairs 153 = .ok (.iinc 2 1, 3) := by decide +kernel
theorem dX11_findPairs_156 : decode cX11_findPairs 156 = .ok (.goto (-122), 3) := by decide +kernel
theorem dX11_findPairs_159 : decode cX11_findPairs 159 = .ok (.iinc 1 1, 3) := by decide +kernel
theorem dX11_findPairs_162 : decode cX11_findPairs 162 = .ok (.goto (-140), 3) := by decide +kernel
theorem dX11_findPairs_165 : decode cX11_findPairs 165 = .ok (.iconst 1, 1) := by decide +kernel
theorem dX11_findPairs_166 : decode cX11_findPairs 166 = .ok (.ireturn, 1) := by decide +kernel
theorem dX11_pairs_0 : decode cX11_pairs 0 = .ok (.aload_n 0, 1) := by decide +kernel
theorem dX11_pairs_1 : decode cX11_pairs 1 = .ok (.invokevirtual 166, 3) := by decide +kernel
theorem dX11_pairs_4 : decode cX11_pairs 4 = .ok (.ifCond .eq 10, 3) := by decide +kernel
theorem dX11_pairs_7 : decode cX11_pairs 7 = .ok (.aload_n 0, 1) := by decide +kernel
theorem dX11_pairs_8 : decode cX11_pairs 8 = .ok (.getfield 160, 3) := by decide +kernel
theorem dX11_pairs_11 : decode cX11_pairs 11 = .ok (.goto 4, 3) := by decide +kernel
theorem dX11_pairs_14 : decode cX11_pairs 14 = .ok (.iconst (-1), 1) := by decide +kernel
theorem dX11_pairs_15 : decode cX11_pairs 15 = .ok (.ireturn, 1) := by decide +kernel
theorem dX11_pair_0 : decode cX11_pair 0 = .ok (.aload_n 0, 1) := by decide +kernel
theorem dX11_pair_1 : decode cX11_pair 1 = .ok (.invokevirtual 166, 3) := by decide +kernel
theorem dX11_pair_4 : decode cX11_pair 4 = .ok (.ifCond .eq 17, 3) := by decide +kernel
theorem dX11_pair_7 : decode cX11_pair 7 = .ok (.iload_n 1, 1) := by decide +kernel
theorem dX11_pair_8 : decode cX11_pair 8 = .ok (.iconst 0, 1) := by decide +kernel
theorem dX11_pair_9 : decode cX11_pair 9 = .ok (.aload_n 0, 1) := by decide +kernel
theorem dX11_pair_10 : decode cX11_pair 10 = .ok (.getfield 160, 3) := by decide +kernel
theorem dX11_pair_13 : decode cX11_pair 13 = .ok (.iconst 1, 1) := by decide +kernel
theorem dX11_pair_14 : decode cX11_pair 14 = .ok (.isub, 1) := by decide +kernel
theorem dX11_pair_15 : decode cX11_pair 15 = .ok (.invokestatic 78, 3) := by decide +kernel
theorem dX11_pair_18 : decode cX11_pair 18 = .ok (.ifCond .ne 5, 3) := by decide +kernel
theorem dX11_pair_21 : decode cX11_pair 21 = .ok (.iconst (-1), 1) := by decide +kernel
theorem dX11_pair_22 : decode cX11_pair 22 = .ok (.ireturn, 1) := by decide +kernel
theorem dX11_pair_23 : decode cX11_pair 23 = .ok (.iload_n 2, 1) := by decide +kernel
theorem dX11_pair_24 : decode cX11_pair 24 = .ok (.ifCond .ne 12, 3) := by decide +kernel
theorem dX11_pair_27 : decode cX11_pair 27 = .ok (.aload_n 0, 1) := by decide +kernel
theorem dX11_pair_28 : decode cX11_pair 28 = .ok (.getfield 57, 3) := by decide +kernel
theorem dX11_pair_31 : decode cX11_pair 31 = .ok (.iload_n 1, 1) := by decide +kernel
theorem dX11_pair_32 : decode cX11_pair 32 = .ok (.iaload, 1) := by decide +kernel
theorem dX11_pair_33 : decode cX11_pair 33 = .ok (.goto 18, 3) := by decide +kernel
theorem dX11_pair_36 : decode cX11_pair 36 = .ok (.iload_n 2, 1) := by decide +kernel
theorem dX11_pair_37 : decode cX11_pair 37 = .ok (.iconst 1, 1) := by decide +kernel
theorem dX11_pair_38 : decode cX11_pair 38 = .ok (.if_icmp .ne 12, 3) := by decide +kernel
theorem dX11_pair_41 : decode cX11_pair 41 = .ok (.aload_n 0, 1) := by decide +kernel
theorem dX11_pair_42 : decode cX11_pair 42 = .ok (.getfield 60, 3) := by decide +kernel
theorem dX11_pair_45 : decode cX11_pair 45 = .ok (.iload_n 1, 1) := by decide +kernel
theorem dX11_pair_46 : decode cX11_pair 46 = .ok (.iaload, 1) := by decide +kernel
theorem dX11_pair_47 : decode cX11_pair 47 = .ok (.goto 4, 3) := by decide +kernel
theorem dX11_pair_50 : decode cX11_pair 50 = .ok (.iconst (-1), 1) := by decide +kernel
theorem dX11_pair_51 : decode cX11_pair 51 = .ok (.ireturn, 1) := by decide +kernel
theorem dX11_keep_0 : decode cX11_keep 0 = .ok (.aload_n 0, 1) := by decide +kernel
theorem dX11_keep_1 : decode cX11_keep 1 = .ok (.getfield 85, 3) := by decide +kernel
theorem dX11_keep_4 : decode cX11_keep 4 = .ok (.bipush 30, 2) := by decide +kernel
theorem dX11_keep_6 : decode cX11_keep 6 = .ok (.if_icmp .ne 26, 3) := by decide +kernel
theorem dX11_keep_9 : decode cX11_keep 9 = .ok (.aload_n 0, 1) := by decide +kernel
theorem dX11_keep_10 : decode cX11_keep 10 = .ok (.aload_n 0, 1) := by decide +kernel
theorem dX11_keep_11 : decode cX11_keep 11 = .ok (.getfield 169, 3) := by decide +kernel
theorem dX11_keep_14 : decode cX11_keep 14 = .ok (.iconst 1, 1) := by decide +kernel
theorem dX11_keep_15 : decode cX11_keep 15 = .ok (.iadd, 1) := by decide +kernel
theorem dX11_keep_16 : decode cX11_keep 16 = .ok (.bipush 30, 2) := by decide +kernel
theorem dX11_keep_18 : decode cX11_keep 18 = .ok (.irem, 1) := by decide +kernel
theorem dX11_keep_19 : decode cX11_keep 19 = .ok (.putfield 169, 3) := by decide +kernel
theorem dX11_keep_22 : decode cX11_keep 22 = .ok (.aload_n 0, 1) := by decide +kernel
theorem dX11_keep_23 : decode cX11_keep 23 = .ok (.dup, 1) := by decide +kernel
theorem dX11_keep_24 : decode cX11_keep 24 = .ok (.getfield 85, 3) := by decide +kernel
theorem dX11_keep_27 : decode cX11_keep 27 = .ok (.iconst 1, 1) := by decide +kernel
theorem dX11_keep_28 : decode cX11_keep 28 = .ok (.isub, 1) := by decide +kernel
theorem dX11_keep_29 : decode cX11_keep 29 = .ok (.putfield 85, 3) := by decide +kernel
theorem dX11_keep_32 : decode cX11_keep 32 = .ok (.aload_n 0, 1) := by decide +kernel
theorem dX11_keep_33 : decode cX11_keep 33 = .ok (.getfield 169, 3) := by decide +kernel
theorem dX11_keep_36 : decode cX11_keep 36 = .ok (.aload_n 0, 1) := by decide +kernel
theorem dX11_keep_37 : decode cX11_keep 37 = .ok (.getfield 85, 3) := by decide +kernel
theorem dX11_keep_40 : decode cX11_keep 40 = .ok (.iadd, 1) := by decide +kernel
theorem dX11_keep_41 : decode cX11_keep 41 = .ok (.bipush 30, 2) := by decide +kernel
theorem dX11_keep_43 : decode cX11_keep 43 = .ok (.irem, 1) := by decide +kernel
theorem dX11_keep_44 : decode cX11_keep 44 = .ok (.istore_n 1, 1) := by decide +kernel
theorem dX11_keep_45 : decode cX11_keep 45 = .ok (.aload_n 0, 1) := by decide +kernel
theorem dX11_keep_46 : decode cX11_keep 46 = .ok (.dup, 1) := by decide +kernel
theorem dX11_keep_47 : decode cX11_keep 47 = .ok (.getfield 85, 3) := by decide +kernel
theorem dX11_keep_50 : decode cX11_keep 50 = .ok (.iconst 1, 1) := by decide +kernel
theorem dX11_keep_51 : decode cX11_keep 51 = .ok (.iadd, 1) := by decide +kernel
theorem dX11_keep_52 : decode cX11_keep 52 = .ok (.putfield 85, 3) := by decide +kernel
theorem dX11_keep_55 : decode cX11_keep 55 = .ok (.aload_n 0, 1) := by decide +kernel
theorem dX11_keep_56 : decode cX11_keep 56 = .ok (.getfield 63, 3) := by decide +kernel
theorem dX11_keep_59 : decode cX11_keep 59 = .ok (.iload_n 1, 1) := by decide +kernel
theorem dX11_keep_60 : decode cX11_keep 60 = .ok (.aload_n 0, 1) := by decide +kernel
theorem dX11_keep_61 : decode cX11_keep 61 = .ok (.getfield 82, 3) := by decide +kernel
theorem dX11_keep_64 : decode cX11_keep 64 = .ok (.iastore, 1) := by decide +kernel
theorem dX11_keep_65 : decode cX11_keep 65 = .ok (.iconst 0, 1) := by decide +kernel
theorem dX11_keep_66 : decode cX11_keep 66 = .ok (.istore_n 2, 1) := by decide +kernel
theorem dX11_keep_67 : decode cX11_keep 67 = .ok (.iload_n 2, 1) := by decide +kernel
theorem dX11_keep_68 : decode cX11_keep 68 = .ok (.bipush 12, 2) := by decide +kernel
theorem dX11_keep_70 : decode cX11_keep 70 = .ok (.if_icmp .ge 84, 3) := by decide +kernel
theorem dX11_keep_73 : decode cX11_keep 73 = .ok (.aload_n 0, 1) := by decide +kernel
theorem dX11_keep_74 : decode cX11_keep 74 = .ok (.getfield 66, 3) := by decide +kernel
theorem dX11_keep_77 : decode cX11_keep 77 = .ok (.bipush 12, 2) := by decide +kernel
theorem dX11_keep_79 : decode cX11_keep 79 = .ok (.iload_n 1, 1) := by decide +kernel
theorem dX11_keep_80 : decode cX11_keep 80 = .ok (.imul, 1) := by decide +kernel
theorem dX11_keep_81 : decode cX11_keep 81 = .ok (.iload_n 2, 1) := by decide +kernel
theorem dX11_keep_82 : decode cX11_keep 82 = .ok (.iadd, 1) := by decide +kernel
theorem dX11_keep_83 : decode cX11_keep 83 = .ok (.aload_n 0, 1) := by decide +kernel
theorem dX11_keep_84 : decode cX11_keep 84 = .ok (.getfield 38, 3) := by decide +kernel
theorem dX11_keep_87 : decode cX11_keep 87 = .ok (.iload_n 2, 1) := by decide +kernel
theorem dX11_keep_88 : decode cX11_keep 88 = .ok (.iaload, 1) := by decide +kernel
theorem dX11_keep_89 : decode cX11_keep 89 = .ok (.iastore, 1) := by decide +kernel
theorem dX11_keep_90 : decode cX11_keep 90 = .ok (.aload_n 0, 1) := by decide +kernel
theorem dX11_keep_91 : decode cX11_keep 91 = .ok (.getfield 72, 3) := by decide +kernel
theorem dX11_keep_94 : decode cX11_keep 94 = .ok (.bipush 12, 2) := by decide +kernel
theorem dX11_keep_96 : decode cX11_keep 96 = .ok (.iload_n 1, 1) := by decide +kernel
theorem dX11_keep_97 : decode cX11_keep 97 = .ok (.imul, 1) := by decide +kernel
theorem dX11_keep_98 : decode cX11_keep 98 = .ok (.iload_n 2, 1) := by decide +kernel
theorem dX11_keep_99 : decode cX11_keep 99 = .ok (.iadd, 1) := by decide +kernel
theorem dX11_keep_100 : decode cX11_keep 100 = .ok (.aload_n 0, 1) := by decide +kernel
theorem dX11_keep_101 : decode cX11_keep 101 = .ok (.getfield 44, 3) := by decide +kernel
theorem dX11_keep_104 : decode cX11_keep 104 = .ok (.iload_n 2, 1) := by decide +kernel
theorem dX11_keep_105 : decode cX11_keep 105 = .ok (.baload, 1) := by decide +kernel
theorem dX11_keep_106 : decode cX11_keep 106 = .ok (.bastore, 1) := by decide +kernel
theorem dX11_keep_107 : decode cX11_keep 107 = .ok (.iconst 0, 1) := by decide +kernel
theorem dX11_keep_108 : decode cX11_keep 108 = .ok (.istore_n 3, 1) := by decide +kernel
theorem dX11_keep_109 : decode cX11_keep 109 = .ok (.iload_n 3, 1) := by decide +kernel
theorem dX11_keep_110 : decode cX11_keep 110 = .ok (.bipush 8, 2) := by decide +kernel
theorem dX11_keep_112 : decode cX11_keep 112 = .ok (.if_icmp .ge 36, 3) := by decide +kernel
theorem dX11_keep_115 : decode cX11_keep 115 = .ok (.aload_n 0, 1) := by decide +kernel
theorem dX11_keep_116 : decode cX11_keep 116 = .ok (.getfield 69, 3) := by decide +kernel
theorem dX11_keep_119 : decode cX11_keep 119 = .ok (.bipush 12, 2) := by decide +kernel
theorem dX11_keep_121 : decode cX11_keep 121 = .ok (.iload_n 1, 1) := by decide +kernel
theorem dX11_keep_122 : decode cX11_keep 122 = .ok (.imul, 1) := by decide +kernel
theorem dX11_keep_123 : decode cX11_keep 123 = .ok (.iload_n 2, 1) := by decide +kernel
theorem dX11_keep_124 : decode cX11_keep 124 = .ok (.iadd, 1) := by decide +kernel
theorem dX11_keep_125 : decode cX11_keep 125 = .ok (.bipush 8, 2) := by decide +kernel
theorem dX11_keep_127 : decode cX11_keep 127 = .ok (.imul, 1) := by decide +kernel
theorem dX11_keep_128 : decode cX11_keep 128 = .ok (.iload_n 3, 1) := by decide +kernel
theorem dX11_keep_129 : decode cX11_keep 129 = .ok (.iadd, 1) := by decide +kernel
theorem dX11_keep_130 : decode cX11_keep 130 = .ok (.aload_n 0, 1) := by decide +kernel
theorem dX11_keep_131 : decode cX11_keep 131 = .ok (.getfield 41, 3) := by decide +kernel
theorem dX11_keep_134 : decode cX11_keep 134 = .ok (.bipush 8, 2) := by decide +kernel
theorem dX11_keep_136 : decode cX11_keep 136 = .ok (.iload_n 2, 1) := by decide +kernel
theorem dX11_keep_137 : decode cX11_keep 137 = .ok (.imul, 1) := by decide +kernel
theorem dX11_keep_138 : decode cX11_keep 138 = .ok (.iload_n 3, 1) := by decide +kernel
theorem dX11_keep_139 : decode cX11_keep 139 = .ok (.iadd, 1) := by decide +kernel
theorem dX11_keep_140 : decode cX11_keep 140 = .ok (.iaload, 1) := by decide +kernel
theorem dX11_keep_141 : decode cX11_keep 141 = .ok (.iastore, 1) := by decide +kernel
theorem dX11_keep_142 : decode cX11_keep 142 = .ok (.iinc 3 1, 3) := by decide +kernel
theorem dX11_keep_145 : decode cX11_keep 145 = .ok (.goto (-36), 3) := by decide +kernel
theorem dX11_keep_148 : decode cX11_keep 148 = .ok (.iinc 2 1, 3) := by decide +kernel
theorem dX11_keep_151 : decode cX11_keep 151 = .ok (.goto (-84), 3) := by decide +kernel
theorem dX11_keep_154 : decode cX11_keep 154 = .ok (.return_, 1) := by decide +kernel
theorem dX11_own_0 : decode cX11_own 0 = .ok (.iconst 0, 1) := by decide +kernel
theorem dX11_own_1 : decode cX11_own 1 = .ok (.istore_n 1, 1) := by decide +kernel
theorem dX11_own_2 : decode cX11_own 2 = .ok (.iload_n 1, 1) := by decide +kernel
theorem dX11_own_3 : decode cX11_own 3 = .ok (.aload_n 0, 1) := by decide +kernel
theorem dX11_own_4 : decode cX11_own 4 = .ok (.getfield 75, 3) := by decide +kernel
theorem dX11_own_7 : decode cX11_own 7 = .ok (.if_icmp .ge 16, 3) := by decide +kernel
theorem dX11_own_10 : decode cX11_own 10 = .ok (.aload_n 0, 1) := by decide +kernel
theorem dX11_own_11 : decode cX11_own 11 = .ok (.getfield 32, 3) := by decide +kernel
theorem dX11_own_14 : decode cX11_own 14 = .ok (.iload_n 1, 1) := by decide +kernel
theorem dX11_own_15 : decode cX11_own 15 = .ok (.iconst (-1), 1) := by decide +kernel
theorem dX11_own_16 : decode cX11_own 16 = .ok (.iastore, 1) := by decide +kernel
theorem dX11_own_17 : decode cX11_own 17 = .ok (.iinc 1 1, 3) := by decide +kernel
theorem dX11_own_20 : decode cX11_own 20 = .ok (.goto (-18), 3) := by decide +kernel
theorem dX11_own_23 : decode cX11_own 23 = .ok (.iconst 0, 1) := by decide +kernel
theorem dX11_own_24 : decode cX11_own 24 = .ok (.istore_n 1, 1) := by decide +kernel
theorem dX11_own_25 : decode cX11_own 25 = .ok (.iload_n 1, 1) := by decide +kernel
theorem dX11_own_26 : decode cX11_own 26 = .ok (.aload_n 0, 1) := by decide +kernel
theorem dX11_own_27 : decode cX11_own 27 = .ok (.getfield 82, 3) := by decide +kernel
theorem dX11_own_30 : decode cX11_own 30 = .ok (.if_icmp .ge 44, 3) := by decide +kernel
theorem dX11_own_33 : decode cX11_own 33 = .ok (.iconst 0, 1) := by decide +kernel
theorem dX11_own_34 : decode cX11_own 34 = .ok (.istore_n 2, 1) := by decide +kernel
theorem dX11_own_35 : decode cX11_own 35 = .ok (.iload_n 2, 1) := by decide +kernel
theorem dX11_own_36 : decode cX11_own 36 = .ok (.aload_n 0, 1) := by decide +kernel
theorem dX11_own_37 : decode cX11_own 37 = .ok (.getfield 38, 3) := by decide +kernel
theorem dX11_own_40 : decode cX11_own 40 = .ok (.iload_n 1, 1) := by decide +kernel
theorem dX11_own_41 : decode cX11_own 41 = .ok (.iaload, 1) := by decide +kernel
theorem dX11_own_42 : decode cX11_own 42 = .ok (.if_icmp .ge 26, 3) := by decide +kernel
theorem dX11_own_45 : decode cX11_own 45 = .ok (.aload_n 0, 1) := by decide +kernel
theorem dX11_own_46 : decode cX11_own 46 = .ok (.getfield 32, 3) := by decide +kernel
theorem dX11_own_49 : decode cX11_own 49 = .ok (.aload_n 0, 1) := by decide +kernel
theorem dX11_own_50 : decode cX11_own 50 = .ok (.getfield 41, 3) := by decide +kernel
theorem dX11_own_53 : decode cX11_own 53 = .ok (.bipush 8, 2) := by decide +kernel
theorem dX11_own_55 : decode cX11_own 55 = .ok (.iload_n 1, 1) := by decide +kernel
theorem dX11_own_56 : decode cX11_own 56 = .ok (.imul, 1) := by decide +kernel
theorem dX11_own_57 : decode cX11_own 57 = .ok (.iload_n 2, 1) := by decide +kernel
theorem dX11_own_58 : decode cX11_own 58 = .ok (.iadd, 1) := by decide +kernel
theorem dX11_own_59 : decode cX11_own 59 = .ok (.iaload, 1) := by decide +kernel
theorem dX11_own_60 : decode cX11_own 60 = .ok (.iload_n 1, 1) := by decide +kernel
theorem dX11_own_61 : decode cX11_own 61 = .ok (.iastore, 1) := by decide +kernel
theorem dX11_own_62 : decode cX11_own 62 = .ok (.iinc 2 1, 3) := by decide +kernel
theorem dX11_own_65 : decode cX11_own 65 = .ok (.goto (-30), 3) := by decide +kernel
theorem dX11_own_68 : decode cX11_own 68 = .ok (.iinc 1 1, 3) := by decide +kernel
theorem dX11_own_71 : decode cX11_own 71 = .ok (.goto (-46), 3) := by decide +kernel
theorem dX11_own_74 : decode cX11_own 74 = .ok (.return_, 1) := by decide +kernel
theorem dX11_undo_0 : decode cX11_undo 0 = .ok (.aload_n 0, 1) := by decide +kernel
theorem dX11_undo_1 : decode cX11_undo 1 = .ok (.getfield 85, 3) := by decide +kernel
theorem dX11_undo_4 : decode cX11_undo 4 = .ok (.ifCond .ne 6, 3) := by decide +kernel
theorem dX11_undo_7 : decode cX11_undo 7 = .ok (.bipush (-3), 2) := by decide +kernel
theorem dX11_undo_9 : decode cX11_undo 9 = .ok (.ireturn, 1) := by decide +kernel
theorem dX11_undo_10 : decode cX11_undo 10 = .ok (.aload_n 0, 1) := by decide +kernel
theorem dX11_undo_11 : decode cX11_undo 11 = .ok (.dup, 1) := by decide +kernel
theorem dX11_undo_12 : decode cX11_undo 12 = .ok (.getfield 85, 3) := by decide +kernel
theorem dX11_undo_15 : decode cX11_undo 15 = .ok (.iconst 1, 1) := by decide +kernel
theorem dX11_undo_16 : decode cX11_undo 16 = .ok (.isub, 1) := by decide +kernel
theorem dX11_undo_17 : decode cX11_undo 17 = .ok (.putfield 85, 3) := by decide +kernel
theorem dX11_undo_20 : decode cX11_undo 20 = .ok (.aload_n 0, 1) := by decide +kernel
theorem dX11_undo_21 : decode cX11_undo 21 = .ok (.getfield 169, 3) := by decide +kernel
theorem dX11_undo_24 : decode cX11_undo 24 = .ok (.aload_n 0, 1) := by decide +kernel
theorem dX11_undo_25 : decode cX11_undo 25 = .ok (.getfield 85, 3) := by decide +kernel
theorem dX11_undo_28 : decode cX11_undo 28 = .ok (.iadd, 1) := by decide +kernel
theorem dX11_undo_29 : decode cX11_undo 29 = .ok (.bipush 30, 2) := by decide +kernel
theorem dX11_undo_31 : decode cX11_undo 31 = .ok (.irem, 1) := by decide +kernel
theorem dX11_undo_32 : decode cX11_undo 32 = .ok (.istore_n 1, 1) := by decide +kernel
theorem dX11_undo_33 : decode cX11_undo 33 = .ok (.iconst 0, 1) := by decide +kernel
theorem dX11_undo_34 : decode cX11_undo 34 = .ok (.istore_n 2, 1) := by decide +kernel
theorem dX11_undo_35 : decode cX11_undo 35 = .ok (.iload_n 2, 1) := by decide +kernel
theorem dX11_undo_36 : decode cX11_undo 36 = .ok (.aload_n 0, 1) := by decide +kernel
theorem dX11_undo_37 : decode cX11_undo 37 = .ok (.getfield 82, 3) := by decide +kernel
theorem dX11_undo_40 : decode cX11_undo 40 = .ok (.if_icmp .ge 124, 3) := by decide +kernel
theorem dX11_undo_43 : decode cX11_undo 43 = .ok (.iload_n 2, 1) := by decide +kernel
theorem dX11_undo_44 : decode cX11_undo 44 = .ok (.aload_n 0, 1) := by decide +kernel
theorem dX11_undo_45 : decode cX11_undo 45 = .ok (.getfield 63, 3) := by decide +kernel
theorem dX11_undo_48 : decode cX11_undo 48 = .ok (.iload_n 1, 1) := by decide +kernel
theorem dX11_undo_49 : decode cX11_undo 49 = .ok (.iaload, 1) := by decide +kernel
theorem dX11_undo_50 : decode cX11_undo 50 = .ok (.if_icmp .ge 7, 3) := by decide +kernel
theorem dX11_undo_53 : decode cX11_undo 53 = .ok (.iconst 1, 1) := by decide +kernel
theorem dX11_undo_54 : decode cX11_undo 54 = .ok (.goto 4, 3) := by decide +kernel
theorem dX11_undo_57 : decode cX11_undo 57 = .ok (.iconst 0, 1) := by decide +kernel
theorem dX11_undo_58 : decode cX11_undo 58 = .ok (.istore_n 3, 1) := by decide +kernel
theorem dX11_undo_59 : decode cX11_undo 59 = .ok (.aload_n 0, 1) := by decide +kernel
theorem dX11_undo_60 : decode cX11_undo 60 = .ok (.getfield 38, 3) := by decide +kernel
theorem dX11_undo_63 : decode cX11_undo 63 = .ok (.iload_n 2, 1) := by decide +kernel
theorem dX11_undo_64 : decode cX11_undo 64 = .ok (.iload_n 3, 1) := by decide +kernel
theorem dX11_undo_65 : decode cX11_undo 65 = .ok (.ifCond .eq 17, 3) := by decide +kernel
theorem dX11_undo_68 : decode cX11_undo 68 = .ok (.aload_n 0, 1) := by decide +kernel
theorem dX11_undo_69 : decode cX11_undo 69 = .ok (.getfield 66, 3) := by decide +kernel
theorem dX11_undo_72 : decode cX11_undo 72 = .ok (.bipush 12, 2) := by decide +kernel
theorem dX11_undo_74 : decode cX11_undo 74 = .ok (.iload_n 1, 1) := by decide +kernel
theorem dX11_undo_75 : decode cX11_undo 75 = .ok (.imul, 1) := by decide +kernel
theorem dX11_undo_76 : decode cX11_undo 76 = .ok (.iload_n 2, 1) := by decide +kernel
theorem dX11_undo_77 : decode cX11_undo 77 = .ok (.iadd, 1) := by decide +kernel
theorem dX11_undo_78 : decode cX11_undo 78 = .ok (.iaload, 1) := by decide +kernel
theorem dX11_undo_79 : decode cX11_undo 79 = .ok (.goto 4, 3) := by decide +kernel
theorem dX11_undo_82 : decode cX11_undo 82 = .ok (.iconst 0, 1) := by decide +kernel
theorem dX11_undo_83 : decode cX11_undo 83 = .ok (.iastore, 1) := by decide +kernel
theorem dX11_undo_84 : decode cX11_undo 84 = .ok (.aload_n 0, 1) := by decide +kernel
theorem dX11_undo_85 : decode cX11_undo 85 = .ok (.getfield 44, 3) := by decide +kernel
theorem dX11_undo_88 : decode cX11_undo 88 = .ok (.iload_n 2, 1) := by decide +kernel
theorem dX11_undo_89 : decode cX11_undo 89 = .ok (.iload_n 3, 1) := by decide +kernel
theorem dX11_undo_90 : decode cX11_undo 90 = .ok (.ifCond .eq 17, 3) := by decide +kernel
theorem dX11_undo_93 : decode cX11_undo 93 = .ok (.aload_n 0, 1) := by decide +kernel
theorem dX11_undo_94 : decode cX11_undo 94 = .ok (.getfield 72, 3) := by decide +kernel
theorem dX11_undo_97 : decode cX11_undo 97 = .ok (.bipush 12, 2) := by decide +kernel
theorem dX11_undo_99 : decode cX11_undo 99 = .ok (.iload_n 1, 1) := by decide +kernel
theorem dX11_undo_100 : decode cX11_undo 100 = .ok (.imul, 1) := by decide +kernel
theorem dX11_undo_101 : decode cX11_undo 101 = .ok (.iload_n 2, 1) := by decide +kernel
theorem dX11_undo_102 : decode cX11_undo 102 = .ok (.iadd, 1) := by decide +kernel
theorem dX11_undo_103 : decode cX11_undo 103 = .ok (.baload, 1) := by decide +kernel
theorem dX11_undo_104 : decode cX11_undo 104 = .ok (.ifCond .eq 7, 3) := by decide +kernel
theorem dX11_undo_107 : decode cX11_undo 107 = .ok (.iconst 1, 1) := by decide +kernel
theorem dX11_undo_108 : decode cX11_undo 108 = .ok (.goto 4, 3) := by decide +kernel
theorem dX11_undo_111 : decode cX11_undo 111 = .ok (.iconst 0, 1) := by decide +kernel
theorem dX11_undo_112 : decode cX11_undo 112 = .ok (.bastore, 1) := by decide +kernel
theorem dX11_undo_113 : decode cX11_undo 113 = .ok (.iconst 0, 1) := by decide +kernel
theorem dX11_undo_114 : decode cX11_undo 114 = .ok (.istore 4, 2) := by decide +kernel
theorem dX11_undo_116 : decode cX11_undo 116 = .ok (.iload 4, 2) := by decide +kernel
theorem dX11_undo_118 : decode cX11_undo 118 = .ok (.bipush 8, 2) := by decide +kernel
theorem dX11_undo_120 : decode cX11_undo 120 = .ok (.if_icmp .ge 38, 3) := by decide +kernel
theorem dX11_undo_123 : decode cX11_undo 123 = .ok (.aload_n 0, 1) := by decide +kernel
theorem dX11_undo_124 : decode cX11_undo 124 = .ok (.getfield 41, 3) := by decide +kernel
theorem dX11_undo_127 : decode cX11_undo 127 = .ok (.bipush 8, 2) := by decide +kernel
theorem dX11_undo_129 : decode cX11_undo 129 = .ok (.iload_n 2, 1) := by decide +kernel
theorem dX11_undo_130 : decode cX11_undo 130 = .ok (.imul, 1) := by decide +kernel
theorem dX11_undo_131 : decode cX11_undo 131 = .ok (.iload 4, 2) := by decide +kernel
theorem dX11_undo_133 : decode cX11_undo 133 = .ok (.iadd, 1) := by decide +kernel
theorem dX11_undo_134 : decode cX11_undo 134 = .ok (.aload_n 0, 1) := by decide +kernel
theorem dX11_undo_135 : decode cX11_undo 135 = .ok (.getfield 69, 3) := by decide +kernel
theorem dX11_undo_138 : decode cX11_undo 138 = .ok (.bipush 12, 2) := by decide +kernel
theorem dX11_undo_140 : decode cX11_undo 140 = .ok (.iload_n 1, 1) := by decide +kernel
theorem dX11_undo_141 : decode cX11_undo 141 = .ok (.imul, 1) := by decide +kernel
theorem dX11_undo_142 : decode cX11_undo 142 = .ok (.iload_n 2, 1) := by decide +kernel
theorem dX11_undo_143 : decode cX11_undo 143 = .ok (.iadd, 1) := by decide +kernel
theorem dX11_undo_144 : decode cX11_undo 144 = .ok (.bipush 8, 2) := by decide +kernel
theorem dX11_undo_146 : decode cX11_undo 146 = .ok (.imul, 1) := by decide +kernel
theorem dX11_undo_147 : decode cX11_undo 147 = .ok (.iload 4, 2) := by decide +kernel
theorem dX11_undo_149 : decode cX11_undo 149 = .ok (.iadd, 1) := by decide +kernel
theorem dX11_undo_150 : decode cX11_undo 150 = .ok (.iaload, 1) := by decide +kernel
theorem dX11_undo_151 : decode cX11_undo 151 = .ok (.iastore, 1) := by decide +kernel
theorem dX11_undo_152 : decode cX11_undo 152 = .ok (.iinc 4 1, 3) := by decide +kernel
theorem dX11_undo_155 : decode cX11_undo 155 = .ok (.goto (-39), 3) := by decide +kernel
theorem dX11_undo_158 : decode cX11_undo 158 = .ok (.iinc 2 1, 3) := by decide +kernel
theorem dX11_undo_161 : decode cX11_undo 161 = .ok (.goto (-126), 3) := by decide +kernel
theorem dX11_undo_164 : decode cX11_undo 164 = .ok (.aload_n 0, 1) := by decide +kernel
theorem dX11_undo_165 : decode cX11_undo 165 = .ok (.invokevirtual 172, 3) := by decide +kernel
theorem dX11_undo_168 : decode cX11_undo 168 = .ok (.aload_n 0, 1) := by decide +kernel
theorem dX11_undo_169 : decode cX11_undo 169 = .ok (.getfield 85, 3) := by decide +kernel
theorem dX11_undo_172 : decode cX11_undo 172 = .ok (.ireturn, 1) := by decide +kernel
theorem dX11_comes_0 : decode cX11_comes 0 = .ok (.aload_n 0, 1) := by decide +kernel
theorem dX11_comes_1 : decode cX11_comes 1 = .ok (.getfield 41, 3) := by decide +kernel
theorem dX11_comes_4 : decode cX11_comes 4 = .ok (.bipush 8, 2) := by decide +kernel
theorem dX11_comes_6 : decode cX11_comes 6 = .ok (.iload_n 1, 1) := by decide +kernel
theorem dX11_comes_7 : decode cX11_comes 7 = .ok (.imul, 1) := by decide +kernel
theorem dX11_comes_8 : decode cX11_comes 8 = .ok (.aload_n 0, 1) := by decide +kernel
theorem dX11_comes_9 : decode cX11_comes 9 = .ok (.getfield 38, 3) := by decide +kernel
theorem dX11_comes_12 : decode cX11_comes 12 = .ok (.iload_n 1, 1) := by decide +kernel
theorem dX11_comes_13 : decode cX11_comes 13 = .ok (.iaload, 1) := by decide +kernel
theorem dX11_comes_14 : decode cX11_comes 14 = .ok (.iadd, 1) := by decide +kernel
theorem dX11_comes_15 : decode cX11_comes 15 = .ok (.iload_n 2, 1) := by decide +kernel
theorem dX11_comes_16 : decode cX11_comes 16 = .ok (.iastore, 1) := by decide +kernel
theorem dX11_comes_17 : decode cX11_comes 17 = .ok (.aload_n 0, 1) := by decide +kernel
theorem dX11_comes_18 : decode cX11_comes 18 = .ok (.getfield 38, 3) := by decide +kernel
theorem dX11_comes_21 : decode cX11_comes 21 = .ok (.iload_n 1, 1) := by decide +kernel
theorem dX11_comes_22 : decode cX11_comes 22 = .ok (.dup2, 1) := by decide +kernel
theorem dX11_comes_23 : decode cX11_comes 23 = .ok (.iaload, 1) := by decide +kernel
theorem dX11_comes_24 : decode cX11_comes 24 = .ok (.iconst 1, 1) := by decide +kernel
theorem dX11_comes_25 : decode cX11_comes 25 = .ok (.iadd, 1) := by decide +kernel
theorem dX11_comes_26 : decode cX11_comes 26 = .ok (.iastore, 1) := by decide +kernel
theorem dX11_comes_27 : decode cX11_comes 27 = .ok (.aload_n 0, 1) := by decide +kernel
theorem dX11_comes_28 : decode cX11_comes 28 = .ok (.getfield 32, 3) := by decide +kernel
theorem dX11_comes_31 : decode cX11_comes 31 = .ok (.iload_n 2, 1) := by decide +kernel
theorem dX11_comes_32 : decode cX11_comes 32 = .ok (.iload_n 1, 1) := by decide +kernel
theorem dX11_comes_33 : decode cX11_comes 33 = .ok (.iastore, 1) := by decide +kernel
theorem dX11_comes_34 : decode cX11_comes 34 = .ok (.return_, 1) := by decide +kernel
theorem dX11_begins_0 : decode cX11_begins 0 = .ok (.aload_n 0, 1) := by decide +kernel
theorem dX11_begins_1 : decode cX11_begins 1 = .ok (.invokevirtual 175, 3) := by decide +kernel
theorem dX11_begins_4 : decode cX11_begins 4 = .ok (.aload_n 0, 1) := by decide +kernel
theorem dX11_begins_5 : decode cX11_begins 5 = .ok (.getfield 82, 3) := by decide +kernel
theorem dX11_begins_8 : decode cX11_begins 8 = .ok (.istore_n 2, 1) := by decide +kernel
theorem dX11_begins_9 : decode cX11_begins 9 = .ok (.aload_n 0, 1) := by decide +kernel
theorem dX11_begins_10 : decode cX11_begins 10 = .ok (.dup, 1) := by decide +kernel
theorem dX11_begins_11 : decode cX11_begins 11 = .ok (.getfield 82, 3) := by decide +kernel
theorem dX11_begins_14 : decode cX11_begins 14 = .ok (.iconst 1, 1) := by decide +kernel
theorem dX11_begins_15 : decode cX11_begins 15 = .ok (.iadd, 1) := by decide +kernel
theorem dX11_begins_16 : decode cX11_begins 16 = .ok (.putfield 82, 3) := by decide +kernel
theorem dX11_begins_19 : decode cX11_begins 19 = .ok (.aload_n 0, 1) := by decide +kernel
theorem dX11_begins_20 : decode cX11_begins 20 = .ok (.getfield 35, 3) := by decide +kernel
theorem dX11_begins_23 : decode cX11_begins 23 = .ok (.iload_n 2, 1) := by decide +kernel
theorem dX11_begins_24 : decode cX11_begins 24 = .ok (.iload_n 1, 1) := by decide +kernel
theorem dX11_begins_25 : decode cX11_begins 25 = .ok (.iastore, 1) := by decide +kernel
theorem dX11_begins_26 : decode cX11_begins 26 = .ok (.aload_n 0, 1) := by decide +kernel
theorem dX11_begins_27 : decode cX11_begins 27 = .ok (.getfield 38, 3) := by decide +kernel
theorem dX11_begins_30 : decode cX11_begins 30 = .ok (.iload_n 2, 1) := by decide +kernel
theorem dX11_begins_31 : decode cX11_begins 31 = .ok (.iconst 0, 1) := by decide +kernel
theorem dX11_begins_32 : decode cX11_begins 32 = .ok (.iastore, 1) := by decide +kernel
theorem dX11_begins_33 : decode cX11_begins 33 = .ok (.aload_n 0, 1) := by decide +kernel
theorem dX11_begins_34 : decode cX11_begins 34 = .ok (.getfield 44, 3) := by decide +kernel
theorem dX11_begins_37 : decode cX11_begins 37 = .ok (.iload_n 2, 1) := by decide +kernel
theorem dX11_begins_38 : decode cX11_begins 38 = .ok (.iconst 0, 1) := by decide +kernel
theorem dX11_begins_39 : decode cX11_begins 39 = .ok (.bastore, 1) := by decide +kernel
theorem dX11_begins_40 : decode cX11_begins 40 = .ok (.iload_n 2, 1) := by decide +kernel
theorem dX11_begins_41 : decode cX11_begins 41 = .ok (.ireturn, 1) := by decide +kernel
theorem dX11_start_0 : decode cX11_start 0 = .ok (.aload_n 0, 1) := by decide +kernel
theorem dX11_start_1 : decode cX11_start 1 = .ok (.invokevirtual 166, 3) := by decide +kernel
theorem dX11_start_4 : decode cX11_start 4 = .ok (.ifCond .eq 17, 3) := by decide +kernel
theorem dX11_start_7 : decode cX11_start 7 = .ok (.iload_n 1, 1) := by decide +kernel
theorem dX11_start_8 : decode cX11_start 8 = .ok (.iconst 0, 1) := by decide +kernel
theorem dX11_start_9 : decode cX11_start 9 = .ok (.aload_n 0, 1) := by decide +kernel
theorem dX11_start_10 : decode cX11_start 10 = .ok (.getfield 160, 3) := by decide +kernel
theorem dX11_start_13 : decode cX11_start 13 = .ok (.iconst 1, 1) := by decide +kernel
theorem dX11_start_14 : decode cX11_start 14 = .ok (.isub, 1) := by decide +kernel
theorem dX11_start_15 : decode cX11_start 15 = .ok (.invokestatic 78, 3) := by decide +kernel
theorem dX11_start_18 : decode cX11_start 18 = .ok (.ifCond .ne 5, 3) := by decide +kernel
theorem dX11_start_21 : decode cX11_start 21 = .ok (.iconst (-1), 1) := by decide +kernel
theorem dX11_start_22 : decode cX11_start 22 = .ok (.ireturn, 1) := by decide +kernel
theorem dX11_start_23 : decode cX11_start 23 = .ok (.iload_n 2, 1) := by decide +kernel
theorem dX11_start_24 : decode cX11_start 24 = .ok (.iconst 0, 1) := by decide +kernel
theorem dX11_start_25 : decode cX11_start 25 = .ok (.sipush 999, 3) := by decide +kernel
theorem dX11_start_28 : decode cX11_start 28 = .ok (.invokestatic 78, 3) := by decide +kernel
theorem dX11_start_31 : decode cX11_start 31 = .ok (.ifCond .ne 6, 3) := by decide +kernel
theorem dX11_start_34 : decode cX11_start 34 = .ok (.bipush (-2), 2) := by decide +kernel
theorem dX11_start_36 : decode cX11_start 36 = .ok (.ireturn, 1) := by decide +kernel
theorem dX11_start_37 : decode cX11_start 37 = .ok (.aload_n 0, 1) := by decide +kernel
theorem dX11_start_38 : decode cX11_start 38 = .ok (.getfield 82, 3) := by decide +kernel
theorem dX11_start_41 : decode cX11_start 41 = .ok (.bipush 12, 2) := by decide +kernel
theorem dX11_start_43 : decode cX11_start 43 = .ok (.if_icmp .ne 6, 3) := by decide +kernel
theorem dX11_start_46 : decode cX11_start 46 = .ok (.bipush (-4), 2) := by decide +kernel
theorem dX11_start_48 : decode cX11_start 48 = .ok (.ireturn, 1) := by decide +kernel
theorem dX11_start_49 : decode cX11_start 49 = .ok (.aload_n 0, 1) := by decide +kernel
theorem dX11_start_50 : decode cX11_start 50 = .ok (.iload_n 2, 1) := by decide +kernel
theorem dX11_start_51 : decode cX11_start 51 = .ok (.invokevirtual 178, 3) := by decide +kernel
theorem dX11_start_54 : decode cX11_start 54 = .ok (.istore_n 3, 1) := by decide +kernel
theorem dX11_start_55 : decode cX11_start 55 = .ok (.aload_n 0, 1) := by decide +kernel
theorem dX11_start_56 : decode cX11_start 56 = .ok (.iload_n 3, 1) := by decide +kernel
theorem dX11_start_57 : decode cX11_start 57 = .ok (.aload_n 0, 1) := by decide +kernel
theorem dX11_start_58 : decode cX11_start 58 = .ok (.getfield 51, 3) := by decide +kernel
theorem dX11_start_61 : decode cX11_start 61 = .ok (.aload_n 0, 1) := by decide +kernel
theorem dX11_start_62 : decode cX11_start 62 = .ok (.getfield 57, 3) := by decide +kernel
theorem dX11_start_65 : decode cX11_start 65 = .ok (.iload_n 1, 1) := by decide +kernel
theorem dX11_start_66 : decode cX11_start 66 = .ok (.iaload, 1) := by decide +kernel
theorem dX11_start_67 : decode cX11_start 67 = .ok (.iaload, 1) := by decide +kernel
theorem dX11_start_68 : decode cX11_start 68 = .ok (.invokevirtual 181, 3) := by decide +kernel
theorem dX11_start_71 : decode cX11_start 71 = .ok (.aload_n 0, 1) := by decide +kernel
theorem dX11_start_72 : decode cX11_start 72 = .ok (.iload_n 3, 1) := by decide +kernel
theorem dX11_start_73 : decode cX11_start 73 = .ok (.aload_n 0, 1) := by decide +kernel
theorem dX11_start_74 : decode cX11_start 74 = .ok (.getfield 54, 3) := by decide +kernel
theorem dX11_start_77 : decode cX11_start 77 = .ok (.aload_n 0, 1) := by decide +kernel
theorem dX11_start_78 : decode cX11_start 78 = .ok (.getfield 57, 3) := by decide +kernel
theorem dX11_start_81 : decode cX11_start 81 = .ok (.iload_n 1, 1) := by decide +kernel
theorem dX11_start_82 : decode cX11_start 82 = .ok (.iaload, 1) := by decide +kernel
theorem dX11_start_83 : decode cX11_start 83 = .ok (.iaload, 1) := by decide +kernel
theorem dX11_start_84 : decode cX11_start 84 = .ok (.invokevirtual 181, 3) := by decide +kernel
theorem dX11_start_87 : decode cX11_start 87 = .ok (.aload_n 0, 1) := by decide +kernel
theorem dX11_start_88 : decode cX11_start 88 = .ok (.iload_n 3, 1) := by decide +kernel
theorem dX11_start_89 : decode cX11_start 89 = .ok (.aload_n 0, 1) := by decide +kernel
theorem dX11_start_90 : decode cX11_start 90 = .ok (.getfield 51, 3) := by decide +kernel
theorem dX11_start_93 : decode cX11_start 93 = .ok (.aload_n 0, 1) := by decide +kernel
theorem dX11_start_94 : decode cX11_start 94 = .ok (.getfield 60, 3) := by decide +kernel
theorem dX11_start_97 : decode cX11_start 97 = .ok (.iload_n 1, 1) := by decide +kernel
theorem dX11_start_98 : decode cX11_start 98 = .ok (.iaload, 1) := by decide +kernel
theorem dX11_start_99 : decode cX11_start 99 = .ok (.iaload, 1) := by decide +kernel
theorem dX11_start_100 : decode cX11_start 100 = .ok (.invokevirtual 181, 3) := by decide +kernel
theorem dX11_start_103 : decode cX11_start 103 = .ok (.aload_n 0, 1) := by decide +kernel
theorem dX11_start_104 : decode cX11_start 104 = .ok (.iload_n 3, 1) := by decide +kernel
theorem dX11_start_105 : decode cX11_start 105 = .ok (.aload_n 0, 1) := by decide +kernel
theorem dX11_start_106 : decode cX11_start 106 = .ok (.getfield 54, 3) := by decide +kernel
theorem dX11_start_109 : decode cX11_start 109 = .ok (.aload_n 0, 1) := by decide +kernel
theorem dX11_start_110 : decode cX11_start 110 = .ok (.getfield 60, 3) := by decide +kernel
theorem dX11_start_113 : decode cX11_start 113 = .ok (.iload_n 1, 1) := by decide +kernel
theorem dX11_start_114 : decode cX11_start 114 = .ok (.iaload, 1) := by decide +kernel
theorem dX11_start_115 : decode cX11_start 115 = .ok (.iaload, 1) := by decide +kernel
theorem dX11_start_116 : decode cX11_start 116 = .ok (.invokevirtual 181, 3) := by decide +kernel
theorem dX11_start_119 : decode cX11_start 119 = .ok (.iload_n 3, 1) := by decide +kernel
theorem dX11_start_120 : decode cX11_start 120 = .ok (.ireturn, 1) := by decide +kernel
theorem dX11_single_0 : decode cX11_single 0 = .ok (.aload_n 0, 1) := by decide +kernel
theorem dX11_single_1 : decode cX11_single 1 = .ok (.iload_n 1, 1) := by decide +kernel
theorem dX11_single_2 : decode cX11_single 2 = .ok (.invokevirtual 88, 3) := by decide +kernel
theorem dX11_single_5 : decode cX11_single 5 = .ok (.ifCond .ne 5, 3) := by decide +kernel
theorem dX11_single_8 : decode cX11_single 8 = .ok (.iconst (-1), 1) := by decide +kernel
theorem dX11_single_9 : decode cX11_single 9 = .ok (.ireturn, 1) := by decide +kernel
theorem dX11_single_10 : decode cX11_single 10 = .ok (.iload_n 2, 1) := by decide +kernel
theorem dX11_single_11 : decode cX11_single 11 = .ok (.iconst 0, 1) := by decide +kernel
theorem dX11_single_12 : decode cX11_single 12 = .ok (.sipush 999, 3) := by decide +kernel
theorem dX11_single_15 : decode cX11_single 15 = .ok (.invokestatic 78, 3) := by decide +kernel
theorem dX11_single_18 : decode cX11_single 18 = .ok (.ifCond .ne 6, 3) := by decide +kernel
theorem dX11_single_21 : decode cX11_single 21 = .ok (.bipush (-2), 2) := by decide +kernel
theorem dX11_single_23 : decode cX11_single 23 = .ok (.ireturn, 1) := by decide +kernel
theorem dX11_single_24 : decode cX11_single 24 = .ok (.aload_n 0, 1) := by decide +kernel
theorem dX11_single_25 : decode cX11_single 25 = .ok (.iconst 0, 1) := by decide +kernel
theorem dX11_single_26 : decode cX11_single 26 = .ok (.putfield 96, 3) := by decide +kernel
theorem dX11_single_29 : decode cX11_single 29 = .ok (.aload_n 0, 1) := by decide +kernel
theorem dX11_single_30 : decode cX11_single 30 = .ok (.iload_n 1, 1) := by decide +kernel
theorem dX11_single_31 : decode cX11_single 31 = .ok (.invokevirtual 163, 3) := by decide +kernel
theorem dX11_single_34 : decode cX11_single 34 = .ok (.aload_n 0, 1) := by decide +kernel
theorem dX11_single_35 : decode cX11_single 35 = .ok (.getfield 32, 3) := by decide +kernel
theorem dX11_single_38 : decode cX11_single 38 = .ok (.iload_n 1, 1) := by decide +kernel
theorem dX11_single_39 : decode cX11_single 39 = .ok (.iaload, 1) := by decide +kernel
theorem dX11_single_40 : decode cX11_single 40 = .ok (.iconst (-1), 1) := by decide +kernel
theorem dX11_single_41 : decode cX11_single 41 = .ok (.if_icmp .ne 10, 3) := by decide +kernel
theorem dX11_single_44 : decode cX11_single 44 = .ok (.aload_n 0, 1) := by decide +kernel
theorem dX11_single_45 : decode cX11_single 45 = .ok (.invokevirtual 131, 3) := by decide +kernel
theorem dX11_single_48 : decode cX11_single 48 = .ok (.ifCond .ne 6, 3) := by decide +kernel
theorem dX11_single_51 : decode cX11_single 51 = .ok (.bipush (-3), 2) := by decide +kernel
theorem dX11_single_53 : decode cX11_single 53 = .ok (.ireturn, 1) := by decide +kernel
theorem dX11_single_54 : decode cX11_single 54 = .ok (.aload_n 0, 1) := by decide +kernel
theorem dX11_single_55 : decode cX11_single 55 = .ok (.getfield 82, 3) := by decide +kernel
theorem dX11_single_58 : decode cX11_single 58 = .ok (.bipush 12, 2) := by decide +kernel
theorem dX11_single_60 : decode cX11_single 60 = .ok (.if_icmp .ne 6, 3) := by decide +kernel
theorem dX11_single_63 : decode cX11_single 63 = .ok (.bipush (-4), 2) := by decide +kernel
theorem dX11_single_65 : decode cX11_single 65 = .ok (.ireturn, 1) := by decide +kernel
theorem dX11_single_66 : decode cX11_single 66 = .ok (.aload_n 0, 1) := by decide +kernel
theorem dX11_single_67 : decode cX11_single 67 = .ok (.iload_n 2, 1) := by decide +kernel
theorem dX11_single_68 : decode cX11_single 68 = .ok (.invokevirtual 178, 3) := by decide +kernel
theorem dX11_single_71 : decode cX11_single 71 = .ok (.istore_n 3, 1) := by decide +kernel
theorem dX11_single_72 : decode cX11_single 72 = .ok (.aload_n 0, 1) := by decide +kernel
theorem dX11_single_73 : decode cX11_single 73 = .ok (.iload_n 3, 1) := by decide +kernel
theorem dX11_single_74 : decode cX11_single 74 = .ok (.iload_n 1, 1) := by decide +kernel
theorem dX11_single_75 : decode cX11_single 75 = .ok (.invokevirtual 181, 3) := by decide +kernel
theorem dX11_single_78 : decode cX11_single 78 = .ok (.iload_n 3, 1) := by decide +kernel
theorem dX11_single_79 : decode cX11_single 79 = .ok (.ireturn, 1) := by decide +kernel
theorem dX11_join_0 : decode cX11_join 0 = .ok (.aload_n 0, 1) := by decide +kernel
theorem dX11_join_1 : decode cX11_join 1 = .ok (.iload_n 1, 1) := by decide +kernel
theorem dX11_join_2 : decode cX11_join 2 = .ok (.invokevirtual 185, 3) := by decide +kernel
theorem dX11_join_5 : decode cX11_join 5 = .ok (.ifCond .eq 11, 3) := by decide +kernel
theorem dX11_join_8 : decode cX11_join 8 = .ok (.aload_n 0, 1) := by decide +kernel
theorem dX11_join_9 : decode cX11_join 9 = .ok (.iload_n 2, 1) := by decide +kernel
theorem dX11_join_10 : decode cX11_join 10 = .ok (.invokevirtual 88, 3) := by decide +kernel
theorem dX11_join_13 : decode cX11_join 13 = .ok (.ifCond .ne 5, 3) := by decide +kernel
theorem dX11_join_16 : decode cX11_join 16 = .ok (.iconst (-1), 1) := by decide +kernel
theorem dX11_join_17 : decode cX11_join 17 = .ok (.ireturn, 1) := by decide +kernel
theorem dX11_join_18 : decode cX11_join 18 = .ok (.aload_n 0, 1) := by decide +kernel
theorem dX11_join_19 : decode cX11_join 19 = .ok (.getfield 32, 3) := by decide +kernel
theorem dX11_join_22 : decode cX11_join 22 = .ok (.iload_n 2, 1) := by decide +kernel
theorem dX11_join_23 : decode cX11_join 23 = .ok (.iaload, 1) := by decide +kernel
theorem dX11_join_24 : decode cX11_join 24 = .ok (.iconst (-1), 1) := by decide +kernel
theorem dX11_join_25 : decode cX11_join 25 = .ok (.if_icmp .eq 6, 3) := by decide +kernel
theorem dX11_join_28 : decode cX11_join 28 = .ok (.bipush (-3), 2) := by decide +kernel
theorem dX11_join_30 : decode cX11_join 30 = .ok (.ireturn, 1) := by decide +kernel
theorem dX11_join_31 : decode cX11_join 31 = .ok (.aload_n 0, 1) := by decide +kernel
theorem dX11_join_32 : decode cX11_join 32 = .ok (.iload_n 1, 1) := by decide +kernel
theorem dX11_join_33 : decode cX11_join 33 = .ok (.invokevirtual 127, 3) := by decide +kernel
theorem dX11_join_36 : decode cX11_join 36 = .ok (.aload_n 0, 1) := by decide +kernel
theorem dX11_join_37 : decode cX11_join 37 = .ok (.iload_n 2, 1) := by decide +kernel
theorem dX11_join_38 : decode cX11_join 38 = .ok (.invokevirtual 163, 3) := by decide +kernel
theorem dX11_join_41 : decode cX11_join 41 = .ok (.aload_n 0, 1) := by decide +kernel
theorem dX11_join_42 : decode cX11_join 42 = .ok (.invokevirtual 131, 3) := by decide +kernel
theorem dX11_join_45 : decode cX11_join 45 = .ok (.ifCond .ne 6, 3) := by decide +kernel
theorem dX11_join_48 : decode cX11_join 48 = .ok (.bipush (-3), 2) := by decide +kernel
theorem dX11_join_50 : decode cX11_join 50 = .ok (.ireturn, 1) := by decide +kernel
theorem dX11_join_51 : decode cX11_join 51 = .ok (.aload_n 0, 1) := by decide +kernel
theorem dX11_join_52 : decode cX11_join 52 = .ok (.getfield 38, 3) := by decide +kernel
theorem dX11_join_55 : decode cX11_join 55 = .ok (.iload_n 1, 1) := by decide +kernel
theorem dX11_join_56 : decode cX11_join 56 = .ok (.iaload, 1) := by decide +kernel
theorem dX11_join_57 : decode cX11_join 57 = .ok (.bipush 8, 2) := by decide +kernel
theorem dX11_join_59 : decode cX11_join 59 = .ok (.if_icmp .ne 6, 3) := by decide +kernel
theorem dX11_join_62 : decode cX11_join 62 = .ok (.bipush (-4), 2) := by decide +kernel
theorem dX11_join_64 : decode cX11_join 64 = .ok (.ireturn, 1) := by decide +kernel
theorem dX11_join_65 : decode cX11_join 65 = .ok (.aload_n 0, 1) := by decide +kernel
theorem dX11_join_66 : decode cX11_join 66 = .ok (.invokevirtual 175, 3) := by decide +kernel
theorem dX11_join_69 : decode cX11_join 69 = .ok (.aload_n 0, 1) := by decide +kernel
theorem dX11_join_70 : decode cX11_join 70 = .ok (.iload_n 1, 1) := by decide +kernel
theorem dX11_join_71 : decode cX11_join 71 = .ok (.iload_n 2, 1) := by decide +kernel
theorem dX11_join_72 : decode cX11_join 72 = .ok (.invokevirtual 181, 3) := by decide +kernel
theorem dX11_join_75 : decode cX11_join 75 = .ok (.aload_n 0, 1) := by decide +kernel
theorem dX11_join_76 : decode cX11_join 76 = .ok (.getfield 38, 3) := by decide +kernel
theorem dX11_join_79 : decode cX11_join 79 = .ok (.iload_n 1, 1) := by decide +kernel
theorem dX11_join_80 : decode cX11_join 80 = .ok (.iaload, 1) := by decide +kernel
theorem dX11_join_81 : decode cX11_join 81 = .ok (.ireturn, 1) := by decide +kernel
theorem dX11_joinBit_0 : decode cX11_joinBit 0 = .ok (.aload_n 0, 1) := by decide +kernel
theorem dX11_joinBit_1 : decode cX11_joinBit 1 = .ok (.invokevirtual 157, 3) := by decide +kernel
theorem dX11_joinBit_4 : decode cX11_joinBit 4 = .ok (.aload_n 0, 1) := by decide +kernel
theorem dX11_joinBit_5 : decode cX11_joinBit 5 = .ok (.iload_n 1, 1) := by decide +kernel
theorem dX11_joinBit_6 : decode cX11_joinBit 6 = .ok (.invokevirtual 185, 3) := by decide +kernel
theorem dX11_joinBit_9 : decode cX11_joinBit 9 = .ok (.ifCond .eq 17, 3) := by decide +kernel
theorem dX11_joinBit_12 : decode cX11_joinBit 12 = .ok (.iload_n 2, 1) := by decide +kernel
theorem dX11_joinBit_13 : decode cX11_joinBit 13 = .ok (.iconst 0, 1) := by decide +kernel
theorem dX11_joinBit_14 : decode cX11_joinBit 14 = .ok (.aload_n 0, 1) := by decide +kernel
theorem dX11_joinBit_15 : decode cX11_joinBit 15 = .ok (.getfield 150, 3) := by decide +kernel
theorem dX11_joinBit_18 : decode cX11_joinBit 18 = .ok (.iconst 1, 1) := by decide +kernel
theorem dX11_joinBit_19 : decode cX11_joinBit 19 = .ok (.isub, 1) := by decide +kernel
theorem dX11_joinBit_20 : decode cX11_joinBit 20 = .ok (.invokestatic 78, 3) := by decide +kernel
theorem dX11_joinBit_23 : decode cX11_joinBit 23 = .ok (.ifCond .ne 5, 3) := by decide +kernel
theorem dX11_joinBit_26 : decode cX11_joinBit 26 = .ok (.iconst (-1), 1) := by decide +kernel
theorem dX11_joinBit_27 : decode cX11_joinBit 27 = .ok (.ireturn, 1) := by decide +kernel
theorem dX11_joinBit_28 : decode cX11_joinBit 28 = .ok (.aload_n 0, 1) := by decide +kernel
theorem dX11_joinBit_29 : decode cX11_joinBit 29 = .ok (.iload_n 1, 1) := by decide +kernel
theorem dX11_joinBit_30 : decode cX11_joinBit 30 = .ok (.invokevirtual 127, 3) := by decide +kernel
theorem dX11_joinBit_33 : decode cX11_joinBit 33 = .ok (.aload_n 0, 1) := by decide +kernel
theorem dX11_joinBit_34 : decode cX11_joinBit 34 = .ok (.aload_n 0, 1) := by decide +kernel
theorem dX11_joinBit_35 : decode cX11_joinBit 35 = .ok (.getfield 51, 3) := by decide +kernel
theorem dX11_joinBit_38 : decode cX11_joinBit 38 = .ok (.iload_n 2, 1) := by decide +kernel
theorem dX11_joinBit_39 : decode cX11_joinBit 39 = .ok (.iaload, 1) := by decide +kernel
theorem dX11_joinBit_40 : decode cX11_joinBit 40 = .ok (.invokevirtual 163, 3) := by decide +kernel
theorem dX11_joinBit_43 : decode cX11_joinBit 43 = .ok (.aload_n 0, 1) := by decide +kernel
theorem dX11_joinBit_44 : decode cX11_joinBit 44 = .ok (.aload_n 0, 1) := by decide +kernel
theorem dX11_joinBit_45 : decode cX11_joinBit 45 = .ok (.getfield 54, 3) := by decide +kernel
theorem dX11_joinBit_48 : decode cX11_joinBit 48 = .ok (.iload_n 2, 1) := by decide +kernel
theorem dX11_joinBit_49 : decode cX11_joinBit 49 = .ok (.iaload, 1) := by decide +kernel
theorem dX11_joinBit_50 : decode cX11_joinBit 50 = .ok (.invokevirtual 163, 3) := by decide +kernel
theorem dX11_joinBit_53 : decode cX11_joinBit 53 = .ok (.aload_n 0, 1) := by decide +kernel
theorem dX11_joinBit_54 : decode cX11_joinBit 54 = .ok (.invokevirtual 131, 3) := by decide +kernel
theorem dX11_joinBit_57 : decode cX11_joinBit 57 = .ok (.ifCond .ne 6, 3) := by decide +kernel
theorem dX11_joinBit_60 : decode cX11_joinBit 60 = .ok (.bipush (-3), 2) := by decide +kernel
theorem dX11_joinBit_62 : decode cX11_joinBit 62 = .ok (.ireturn, 1) := by decide +kernel
theorem dX11_joinBit_63 : decode cX11_joinBit 63 = .ok (.aload_n 0, 1) := by decide +kernel
theorem dX11_joinBit_64 : decode cX11_joinBit 64 = .ok (.getfield 38, 3) := by decide +kernel
theorem dX11_joinBit_67 : decode cX11_joinBit 67 = .ok (.iload_n 1, 1) := by decide +kernel
theorem dX11_joinBit_68 : decode cX11_joinBit 68 = .ok (.iaload, 1) := by decide +kernel
theorem dX11_joinBit_69 : decode cX11_joinBit 69 = .ok (.iconst 2, 1) := by decide +kernel
theorem dX11_joinBit_70 : decode cX11_joinBit 70 = .ok (.iadd, 1) := by decide +kernel
theorem dX11_joinBit_71 : decode cX11_joinBit 71 = .ok (.bipush 8, 2) := by decide +kernel
theorem dX11_joinBit_73 : decode cX11_joinBit 73 = .ok (.if_icmp .le 6, 3) := by decide +kernel
theorem dX11_joinBit_76 : decode cX11_joinBit 76 = .ok (.bipush (-4), 2) := by decide +kernel
theorem dX11_joinBit_78 : decode cX11_joinBit 78 = .ok (.ireturn, 1) := by decide +kernel
theorem dX11_joinBit_79 : decode cX11_joinBit 79 = .ok (.aload_n 0, 1) := by decide +kernel
theorem dX11_joinBit_80 : decode cX11_joinBit 80 = .ok (.invokevirtual 175, 3) := by decide +kernel
theorem dX11_joinBit_83 : decode cX11_joinBit 83 = .ok (.aload_n 0, 1) := by decide +kernel
theorem dX11_joinBit_84 : decode cX11_joinBit 84 = .ok (.getfield 54, 3) := by decide +kernel
theorem dX11_joinBit_87 : decode cX11_joinBit 87 = .ok (.iload_n 2, 1) := by decide +kernel
theorem dX11_joinBit_88 : decode cX11_joinBit 88 = .ok (.iaload, 1) := by decide +kernel
theorem dX11_joinBit_89 : decode cX11_joinBit 89 = .ok (.istore_n 3, 1) := by decide +kernel
theorem dX11_joinBit_90 : decode cX11_joinBit 90 = .ok (.aload_n 0, 1) := by decide +kernel
theorem dX11_joinBit_91 : decode cX11_joinBit 91 = .ok (.iload_n 1, 1) := by decide +kernel
theorem dX11_joinBit_92 : decode cX11_joinBit 92 = .ok (.aload_n 0, 1) := by decide +kernel
theorem dX11_joinBit_93 : decode cX11_joinBit 93 = .ok (.getfield 51, 3) := by decide +kernel
theorem dX11_joinBit_96 : decode cX11_joinBit 96 = .ok (.iload_n 2, 1) := by decide +kernel
theorem dX11_joinBit_97 : decode cX11_joinBit 97 = .ok (.iaload, 1) := by decide +kernel
theorem dX11_joinBit_98 : decode cX11_joinBit 98 = .ok (.invokevirtual 181, 3) := by decide +kernel
theorem dX11_joinBit_101 : decode cX11_joinBit 101 = .ok (.aload_n 0, 1) := by decide +kernel
theorem dX11_joinBit_102 : decode cX11_joinBit 102 = .ok (.iload_n 1, 1) := by decide +kernel
theorem dX11_joinBit_103 : decode cX11_joinBit 103 = .ok (.iload_n 3, 1) := by decide +kernel
theorem dX11_joinBit_104 : decode cX11_joinBit 104 = .ok (.invokevirtual 181, 3) := by decide +kernel
theorem dX11_joinBit_107 : decode cX11_joinBit 107 = .ok (.aload_n 0, 1) := by decide +kernel
theorem dX11_joinBit_108 : decode cX11_joinBit 108 = .ok (.getfield 38, 3) := by decide +kernel
theorem dX11_joinBit_111 : decode cX11_joinBit 111 = .ok (.iload_n 1, 1) := by decide +kernel
theorem dX11_joinBit_112 : decode cX11_joinBit 112 = .ok (.iaload, 1) := by decide +kernel
theorem dX11_joinBit_113 : decode cX11_joinBit 113 = .ok (.ireturn, 1) := by decide +kernel
theorem dX11_force_0 : decode cX11_force 0 = .ok (.aload_n 0, 1) := by decide +kernel
theorem dX11_force_1 : decode cX11_force 1 = .ok (.iload_n 1, 1) := by decide +kernel
theorem dX11_force_2 : decode cX11_force 2 = .ok (.invokevirtual 185, 3) := by decide +kernel
theorem dX11_force_5 : decode cX11_force 5 = .ok (.ifCond .eq 11, 3) := by decide +kernel
theorem dX11_force_8 : decode cX11_force 8 = .ok (.aload_n 0, 1) := by decide +kernel
theorem dX11_force_9 : decode cX11_force 9 = .ok (.iload_n 2, 1) := by decide +kernel
theorem dX11_force_10 : decode cX11_force 10 = .ok (.invokevirtual 88, 3) := by decide +kernel
theorem dX11_force_13 : decode cX11_force 13 = .ok (.ifCond .ne 5, 3) := by decide +kernel
theorem dX11_force_16 : decode cX11_force 16 = .ok (.iconst (-1), 1) := by decide +kernel
theorem dX11_force_17 : decode cX11_force 17 = .ok (.ireturn, 1) := by decide +kernel
theorem dX11_force_18 : decode cX11_force 18 = .ok (.aload_n 0, 1) := by decide +kernel
theorem dX11_force_19 : decode cX11_force 19 = .ok (.getfield 32, 3) := by decide +kernel
theorem dX11_force_22 : decode cX11_force 22 = .ok (.iload_n 2, 1) := by decide +kernel
theorem dX11_force_23 : decode cX11_force 23 = .ok (.iaload, 1) := by decide +kernel
theorem dX11_force_24 : decode cX11_force 24 = .ok (.iconst (-1), 1) := by decide +kernel
theorem dX11_force_25 : decode cX11_force 25 = .ok (.if_icmp .eq 6, 3) := by decide +kernel
theorem dX11_force_28 : decode cX11_force 28 = .ok (.bipush (-3), 2) := by decide +kernel
theorem dX11_force_30 : decode cX11_force 30 = .ok (.ireturn, 1) := by decide +kernel
theorem dX11_force_31 : decode cX11_force 31 = .ok (.aload_n 0, 1) := by decide +kernel
theorem dX11_force_32 : decode cX11_force 32 = .ok (.getfield 38, 3) := by decide +kernel
theorem dX11_force_35 : decode cX11_force 35 = .ok (.iload_n 1, 1) := by decide +kernel
theorem dX11_force_36 : decode cX11_force 36 = .ok (.iaload, 1) := by decide +kernel
theorem dX11_force_37 : decode cX11_force 37 = .ok (.bipush 8, 2) := by decide +kernel
theorem dX11_force_39 : decode cX11_force 39 = .ok (.if_icmp .ne 6, 3) := by decide +kernel
theorem dX11_force_42 : decode cX11_force 42 = .ok (.bipush (-4), 2) := by decide +kernel
theorem dX11_force_44 : decode cX11_force 44 = .ok (.ireturn, 1) := by decide +kernel
theorem dX11_force_45 : decode cX11_force 45 = .ok (.aload_n 0, 1) := by decide +kernel
theorem dX11_force_46 : decode cX11_force 46 = .ok (.invokevirtual 175, 3) := by decide +kernel
theorem dX11_force_49 : decode cX11_force 49 = .ok (.aload_n 0, 1) := by decide +kernel
theorem dX11_force_50 : decode cX11_force 50 = .ok (.iload_n 1, 1) := by decide +kernel
theorem dX11_force_51 : decode cX11_force 51 = .ok (.iload_n 2, 1) := by decide +kernel
theorem dX11_force_52 : decode cX11_force 52 = .ok (.invokevirtual 181, 3) := by decide +kernel
theorem dX11_force_55 : decode cX11_force 55 = .ok (.aload_n 0, 1) := by decide +kernel
theorem dX11_force_56 : decode cX11_force 56 = .ok (.getfield 38, 3) := by decide +kernel
theorem dX11_force_59 : decode cX11_force 59 = .ok (.iload_n 1, 1) := by decide +kernel
theorem dX11_force_60 : decode cX11_force 60 = .ok (.iaload, 1) := by decide +kernel
theorem dX11_force_61 : decode cX11_force 61 = .ok (.ireturn, 1) := by decide +kernel
theorem dX11_path_0 : decode cX11_path 0 = .ok (.iload_n 1, 1) := by decide +kernel
theorem dX11_path_1 : decode cX11_path 1 = .ok (.iconst 0, 1) := by decide +kernel
theorem dX11_path_2 : decode cX11_path 2 = .ok (.aload_n 0, 1) := by decide +kernel
theorem dX11_path_3 : decode cX11_path 3 = .ok (.getfield 82, 3) := by decide +kernel
theorem dX11_path_6 : decode cX11_path 6 = .ok (.iconst 1, 1) := by decide +kernel
theorem dX11_path_7 : decode cX11_path 7 = .ok (.isub, 1) := by decide +kernel
theorem dX11_path_8 : decode cX11_path 8 = .ok (.invokestatic 78, 3) := by decide +kernel
theorem dX11_path_11 : decode cX11_path 11 = .ok (.ifCond .ne 5, 3) := by decide +kernel
theorem dX11_path_14 : decode cX11_path 14 = .ok (.iconst (-1), 1) := by decide +kernel
theorem dX11_path_15 : decode cX11_path 15 = .ok (.ireturn, 1) := by decide +kernel
theorem dX11_path_16 : decode cX11_path 16 = .ok (.iload_n 2, 1) := by decide +kernel
theorem dX11_path_17 : decode cX11_path 17 = .ok (.tableswitch 83 0 3 #[31, 38, 45, 68], 31) := by decide +kernel
theorem dX11_path_48 : decode cX11_path 48 = .ok (.aload_n 0, 1) := by decide +kernel
theorem dX11_path_49 : decode cX11_path 49 = .ok (.getfield 35, 3) := by decide +kernel
theorem dX11_path_52 : decode cX11_path 52 = .ok (.iload_n 1, 1) := by decide +kernel
theorem dX11_path_53 : decode cX11_path 53 = .ok (.iaload, 1) := by decide +kernel
theorem dX11_path_54 : decode cX11_path 54 = .ok (.ireturn, 1) := by decide +kernel
theorem dX11_path_55 : decode cX11_path 55 = .ok (.aload_n 0, 1) := by decide +kernel
theorem dX11_path_56 : decode cX11_path 56 = .ok (.getfield 38, 3) := by decide +kernel
theorem dX11_path_59 : decode cX11_path 59 = .ok (.iload_n 1, 1) := by decide +kernel
theorem dX11_path_60 : decode cX11_path 60 = .ok (.iaload, 1) := by decide +kernel
theorem dX11_path_61 : decode cX11_path 61 = .ok (.ireturn, 1) := by decide +kernel
theorem dX11_path_62 : decode cX11_path 62 = .ok (.aload_n 0, 1) := by decide +kernel
theorem dX11_path_63 : decode cX11_path 63 = .ok (.getfield 44, 3) := by decide +kernel
theorem dX11_path_66 : decode cX11_path 66 = .ok (.iload_n 1, 1) := by decide +kernel
theorem dX11_path_67 : decode cX11_path 67 = .ok (.baload, 1) := by decide +kernel
theorem dX11_path_68 : decode cX11_path 68 = .ok (.ifCond .ne 15, 3) := by decide +kernel
theorem dX11_path_71 : decode cX11_path 71 = .ok (.aload_n 0, 1) := by decide +kernel
theorem dX11_path_72 : decode cX11_path 72 = .ok (.iload_n 1, 1) := by decide +kernel
theorem dX11_path_73 : decode cX11_path 73 = .ok (.invokevirtual 188, 3) := by decide +kernel
theorem dX11_path_76 : decode cX11_path 76 = .ok (.ifCond .eq 7, 3) := by decide +kernel
theorem dX11_path_79 : decode cX11_path 79 = .ok (.iconst 1, 1) := by decide +kernel
theorem dX11_path_80 : decode cX11_path 80 = .ok (.goto 4, 3) := by decide +kernel
theorem dX11_path_83 : decode cX11_path 83 = .ok (.iconst 0, 1) := by decide +kernel
theorem dX11_path_84 : decode cX11_path 84 = .ok (.ireturn, 1) := by decide +kernel
theorem dX11_path_85 : decode cX11_path 85 = .ok (.aload_n 0, 1) := by decide +kernel
theorem dX11_path_86 : decode cX11_path 86 = .ok (.getfield 44, 3) := by decide +kernel
theorem dX11_path_89 : decode cX11_path 89 = .ok (.iload_n 1, 1) := by decide +kernel
theorem dX11_path_90 : decode cX11_path 90 = .ok (.baload, 1) := by decide +kernel
theorem dX11_path_91 : decode cX11_path 91 = .ok (.ifCond .eq 7, 3) := by decide +kernel
theorem dX11_path_94 : decode cX11_path 94 = .ok (.iconst 1, 1) := by decide +kernel
theorem dX11_path_95 : decode cX11_path 95 = .ok (.goto 4, 3) := by decide +kernel
theorem dX11_path_98 : decode cX11_path 98 = .ok (.iconst 0, 1) := by decide +kernel
theorem dX11_path_99 : decode cX11_path 99 = .ok (.ireturn, 1) := by decide +kernel
theorem dX11_path_100 : decode cX11_path 100 = .ok (.iload_n 2, 1) := by decide +kernel
theorem dX11_path_101 : decode cX11_path 101 = .ok (.bipush 9, 2) := by decide +kernel
theorem dX11_path_103 : decode cX11_path 103 = .ok (.if_icmp .le 33, 3) := by decide +kernel
theorem dX11_path_106 : decode cX11_path 106 = .ok (.iload_n 2, 1) := by decide +kernel
theorem dX11_path_107 : decode cX11_path 107 = .ok (.bipush 10, 2) := by decide +kernel
theorem dX11_path_109 : decode cX11_path 109 = .ok (.isub, 1) := by decide +kernel
theorem dX11_path_110 : decode cX11_path 110 = .ok (.aload_n 0, 1) := by decide +kernel
theorem dX11_path_111 : decode cX11_path 111 = .ok (.getfield 38, 3) := by decide +kernel
theorem dX11_path_114 : decode cX11_path 114 = .ok (.iload_n 1, 1) := by decide +kernel
theorem dX11_path_115 : decode cX11_path 115 = .ok (.iaload, 1) := by decide +kernel
theorem dX11_path_116 : decode cX11_path 116 = .ok (.if_icmp .ge 20, 3) := by decide +kernel
theorem dX11_path_119 : decode cX11_path 119 = .ok (.aload_n 0, 1) := by decide +kernel
theorem dX11_path_120 : decode cX11_path 120 = .ok (.getfield 41, 3) := by decide +kernel
theorem dX11_path_123 : decode cX11_path 123 = .ok (.bipush 8, 2) := by decide +kernel
theorem dX11_path_125 : decode cX11_path 125 = .ok (.iload_n 1, 1) := by decide +kernel
theorem dX11_path_126 : decode cX11_path 126 = .ok (.imul, 1) := by decide +kernel
theorem dX11_path_127 : decode cX11_path 127 = .ok (.iload_n 2, 1) := by decide +kernel
theorem dX11_path_128 : decode cX11_path 128 = .ok (.iadd, 1) := by decide +kernel
theorem dX11_path_129 : decode cX11_path 129 = .ok (.bipush 10, 2) := by decide +kernel
theorem dX11_path_131 : decode cX11_path 131 = .ok (.isub, 1) := by decide +kernel
theorem dX11_path_132 : decode cX11_path 132 = .ok (.iaload, 1) := by decide +kernel
theorem dX11_path_133 : decode cX11_path 133 = .ok (.goto 4, 3) := by decide +kernel
theorem dX11_path_136 : decode cX11_path 136 = .ok (.iconst (-1), 1) := by decide +kernel
theorem dX11_path_137 : decode cX11_path 137 = .ok (.ireturn, 1) := by decide +kernel
theorem dX11_heap_0 : decode cX11_heap 0 = .ok (.aload_n 0, 1) := by decide +kernel
theorem dX11_heap_1 : decode cX11_heap 1 = .ok (.iload_n 1, 1) := by decide +kernel
theorem dX11_heap_2 : decode cX11_heap 2 = .ok (.invokevirtual 185, 3) := by decide +kernel
theorem dX11_heap_5 : decode cX11_heap 5 = .ok (.ifCond .ne 7, 3) := by decide +kernel
theorem dX11_heap_8 : decode cX11_heap 8 = .ok (.ldc2_w 191, 3) := by decide +kernel
theorem dX11_heap_11 : decode cX11_heap 11 = .ok (.lreturn, 1) := by decide +kernel
theorem dX11_heap_12 : decode cX11_heap 12 = .ok (.aload_n 0, 1) := by decide +kernel
theorem dX11_heap_13 : decode cX11_heap 13 = .ok (.iload_n 1, 1) := by decide +kernel
theorem dX11_heap_14 : decode cX11_heap 14 = .ok (.invokevirtual 127, 3) := by decide +kernel
theorem dX11_heap_17 : decode cX11_heap 17 = .ok (.aload_n 0, 1) := by decide +kernel
theorem dX11_heap_18 : decode cX11_heap 18 = .ok (.iconst 0, 1) := by decide +kernel
theorem dX11_heap_19 : decode cX11_heap 19 = .ok (.invokevirtual 123, 3) := by decide +kernel
theorem dX11_heap_22 : decode cX11_heap 22 = .ok (.aload_n 0, 1) := by decide +kernel
theorem dX11_heap_23 : decode cX11_heap 23 = .ok (.iconst 1, 1) := by decide +kernel
theorem dX11_heap_24 : decode cX11_heap 24 = .ok (.invokevirtual 123, 3) := by decide +kernel
theorem dX11_heap_27 : decode cX11_heap 27 = .ok (.lmul, 1) := by decide +kernel
theorem dX11_heap_28 : decode cX11_heap 28 = .ok (.lreturn, 1) := by decide +kernel
theorem dX11_ahead_0 : decode cX11_ahead 0 = .ok (.aload_n 0, 1) := by decide +kernel
theorem dX11_ahead_1 : decode cX11_ahead 1 = .ok (.iload_n 1, 1) := by decide +kernel
theorem dX11_ahead_2 : decode cX11_ahead 2 = .ok (.invokevirtual 185, 3) := by decide +kernel
theorem dX11_ahead_5 : decode cX11_ahead 5 = .ok (.ifCond .eq 31, 3) := by decide +kernel
theorem dX11_ahead_8 : decode cX11_ahead 8 = .ok (.iload_n 2, 1) := by decide +kernel
theorem dX11_ahead_9 : decode cX11_ahead 9 = .ok (.iconst 0, 1) := by decide +kernel
theorem dX11_ahead_10 : decode cX11_ahead 10 = .ok (.sipush 400, 3) := by decide +kernel
theorem dX11_ahead_13 : decode cX11_ahead 13 = .ok (.invokestatic 78, 3) := by decide +kernel
theorem dX11_ahead_16 : decode cX11_ahead 16 = .ok (.ifCond .eq 20, 3) := by decide +kernel
theorem dX11_ahead_19 : decode cX11_ahead 19 = .ok (.iload_n 3, 1) := by decide +kernel
theorem dX11_ahead_20 : decode cX11_ahead 20 = .ok (.iconst 0, 1) := by decide +kernel
theorem dX11_ahead_21 : decode cX11_ahead 21 = .ok (.iconst 3, 1) := by decide +kernel
theorem dX11_ahead_22 : decode cX11_ahead 22 = .ok (.invokestatic 78, 3) := by decide +kernel
theorem dX11_ahead_25 : decode cX11_ahead 25 = .ok (.ifCond .eq 11, 3) := by decide +kernel
theorem dX11_ahead_28 : decode cX11_ahead 28 = .ok (.aload_n 0, 1) := by decide +kernel
theorem dX11_ahead_29 : decode cX11_ahead 29 = .ok (.iload_n 1, 1) := by decide +kernel
theorem dX11_ahead_30 : decode cX11_ahead 30 = .ok (.invokevirtual 188, 3) := by decide +kernel
theorem dX11_ahead_33 : decode cX11_ahead 33 = .ok (.ifCond .ne 7, 3) := by decide +kernel
theorem dX11_ahead_36 : decode cX11_ahead 36 = .ok (.ldc2_w 193, 3) := by decide +kernel
theorem dX11_ahead_39 : decode cX11_ahead 39 = .ok (.lreturn, 1) := by decide +kernel
theorem dX11_ahead_40 : decode cX11_ahead 40 = .ok (.aload_n 0, 1) := by decide +kernel
theorem dX11_ahead_41 : decode cX11_ahead 41 = .ok (.iload_n 3, 1) := by decide +kernel
theorem dX11_ahead_42 : decode cX11_ahead 42 = .ok (.iconst 2, 1) := by decide +kernel
theorem dX11_ahead_43 : decode cX11_ahead 43 = .ok (.idiv, 1) := by decide +kernel
theorem dX11_ahead_44 : decode cX11_ahead 44 = .ok (.iload_n 2, 1) := by decide +kernel
theorem dX11_ahead_45 : decode cX11_ahead 45 = .ok (.invokevirtual 195, 3) := by decide +kernel
theorem dX11_ahead_48 : decode cX11_ahead 48 = .ok (.iload_n 3, 1) := by decide +kernel
theorem dX11_ahead_49 : decode cX11_ahead 49 = .ok (.iconst 2, 1) := by decide +kernel
theorem dX11_ahead_50 : decode cX11_ahead 50 = .ok (.irem, 1) := by decide +kernel
theorem dX11_ahead_51 : decode cX11_ahead 51 = .ok (.ifCond .ne 10, 3) := by decide +kernel
theorem dX11_ahead_54 : decode cX11_ahead 54 = .ok (.aload_n 0, 1) := by decide +kernel
theorem dX11_ahead_55 : decode cX11_ahead 55 = .ok (.getfield 135, 3) := by decide +kernel
theorem dX11_ahead_58 : decode cX11_ahead 58 = .ok (.goto 7, 3) := by decide +kernel
theorem dX11_ahead_61 : decode cX11_ahead 61 = .ok (.aload_n 0, 1) := by decide +kernel
theorem dX11_ahead_62 : decode cX11_ahead 62 = .ok (.getfield 142, 3) := by decide +kernel
theorem dX11_ahead_65 : decode cX11_ahead 65 = .ok (.lreturn, 1) := by decide +kernel
theorem dX11_isWithin_0 : decode cX11_isWithin 0 = .ok (.aload_n 0, 1) := by decide +kernel
theorem dX11_isWithin_1 : decode cX11_isWithin 1 = .ok (.iload_n 2, 1) := by decide +kernel
theorem dX11_isWithin_2 : decode cX11_isWithin 2 = .ok (.aload_n 0, 1) := by decide +kernel
theorem dX11_isWithin_3 : decode cX11_isWithin 3 = .ok (.getfield 19, 3) := by decide +kernel
theorem dX11_isWithin_6 : decode cX11_isWithin 6 = .ok (.iload_n 1, 1) := by decide +kernel
theorem dX11_isWithin_7 : decode cX11_isWithin 7 = .ok (.iaload, 1) := by decide +kernel
theorem dX11_isWithin_8 : decode cX11_isWithin 8 = .ok (.invokevirtual 195, 3) := by decide +kernel
theorem dX11_isWithin_11 : decode cX11_isWithin 11 = .ok (.aload_n 0, 1) := by decide +kernel
theorem dX11_isWithin_12 : decode cX11_isWithin 12 = .ok (.iload_n 1, 1) := by decide +kernel
theorem dX11_isWithin_13 : decode cX11_isWithin 13 = .ok (.iload_n 2, 1) := by decide +kernel
theorem dX11_isWithin_14 : decode cX11_isWithin 14 = .ok (.invokevirtual 99, 3) := by decide +kernel
theorem dX11_isWithin_17 : decode cX11_isWithin 17 = .ok (.istore_n 3, 1) := by decide +kernel
theorem dX11_isWithin_18 : decode cX11_isWithin 18 = .ok (.iload_n 3, 1) := by decide +kernel
theorem dX11_isWithin_19 : decode cX11_isWithin 19 = .ok (.i2l, 1) := by decide +kernel
theorem dX11_isWithin_20 : decode cX11_isWithin 20 = .ok (.aload_n 0, 1) := by decide +kernel
theorem dX11_isWithin_21 : decode cX11_isWithin 21 = .ok (.getfield 135, 3) := by decide +kernel
theorem dX11_isWithin_24 : decode cX11_isWithin 24 = .ok (.aload_n 0, 1) := by decide +kernel
theorem dX11_isWithin_25 : decode cX11_isWithin 25 = .ok (.getfield 16, 3) := by decide +kernel
theorem dX11_isWithin_28 : decode cX11_isWithin 28 = .ok (.i2l, 1) := by decide +kernel
theorem dX11_isWithin_29 : decode cX11_isWithin 29 = .ok (.lsub, 1) := by decide +kernel
theorem dX11_isWithin_30 : decode cX11_isWithin 30 = .ok (.lcmp, 1) := by decide +kernel
theorem dX11_isWithin_31 : decode cX11_isWithin 31 = .ok (.ifCond .lt 23, 3) := by decide +kernel
theorem dX11_isWithin_34 : decode cX11_isWithin 34 = .ok (.iload_n 3, 1) := by decide +kernel
theorem dX11_isWithin_35 : decode cX11_isWithin 35 = .ok (.i2l, 1) := by decide +kernel
theorem dX11_isWithin_36 : decode cX11_isWithin 36 = .ok (.aload_n 0, 1) := by decide +kernel
theorem dX11_isWithin_37 : decode cX11_isWithin 37 = .ok (.getfield 142, 3) := by decide +kernel
theorem dX11_isWithin_40 : decode cX11_isWithin 40 = .ok (.aload_n 0, 1) := by decide +kernel
theorem dX11_isWithin_41 : decode cX11_isWithin 41 = .ok (.getfield 16, 3) := by decide +kernel
theorem dX11_isWithin_44 : decode cX11_isWithin 44 = .ok (.i2l, 1) := by decide +kernel
theorem dX11_isWithin_45 : decode cX11_isWithin 45 = .ok (.ladd, 1) := by decide +kernel
theorem dX11_isWithin_46 : decode cX11_isWithin 46 = .ok (.lcmp, 1) := by decide +kernel
theorem dX11_isWithin_47 : decode cX11_isWithin 47 = .ok (.ifCond .gt 7, 3) := by decide +kernel
theorem dX11_isWithin_50 : decode cX11_isWithin 50 = .ok (.iconst 1, 1) := by decide +kernel
theorem dX11_isWithin_51 : decode cX11_isWithin 51 = .ok (.goto 4, 3) := by decide +kernel
theorem dX11_isWithin_54 : decode cX11_isWithin 54 = .ok (.iconst 0, 1) := by decide +kernel
theorem dX11_isWithin_55 : decode cX11_isWithin 55 = .ok (.ireturn, 1) := by decide +kernel
theorem dX11_tellOff_0 : decode cX11_tellOff 0 = .ok (.aload_n 0, 1) := by decide +kernel
theorem dX11_tellOff_1 : decode cX11_tellOff 1 = .ok (.iload_n 1, 1) := by decide +kernel
theorem dX11_tellOff_2 : decode cX11_tellOff 2 = .ok (.invokevirtual 88, 3) := by decide +kernel
theorem dX11_tellOff_5 : decode cX11_tellOff 5 = .ok (.ifCond .eq 13, 3) := by decide +kernel
theorem dX11_tellOff_8 : decode cX11_tellOff 8 = .ok (.aload_n 0, 1) := by decide +kernel
theorem dX11_tellOff_9 : decode cX11_tellOff 9 = .ok (.getfield 32, 3) := by decide +kernel
theorem dX11_tellOff_12 : decode cX11_tellOff 12 = .ok (.iload_n 1, 1) := by decide +kernel
theorem dX11_tellOff_13 : decode cX11_tellOff 13 = .ok (.iaload, 1) := by decide +kernel
theorem dX11_tellOff_14 : decode cX11_tellOff 14 = .ok (.iconst (-1), 1) := by decide +kernel
theorem dX11_tellOff_15 : decode cX11_tellOff 15 = .ok (.if_icmp .eq 5, 3) := by decide +kernel
theorem dX11_tellOff_18 : decode cX11_tellOff 18 = .ok (.iconst (-1), 1) := by decide +kernel
theorem dX11_tellOff_19 : decode cX11_tellOff 19 = .ok (.ireturn, 1) := by decide +kernel
theorem dX11_tellOff_20 : decode cX11_tellOff 20 = .ok (.iconst (-1), 1) := by decide +kernel
theorem dX11_tellOff_21 : decode cX11_tellOff 21 = .ok (.istore_n 2, 1) := by decide +kernel
theorem dX11_tellOff_22 : decode cX11_tellOff 22 = .ok (.iconst 0, 1) := by decide +kernel
theorem dX11_tellOff_23 : decode cX11_tellOff 23 = .ok (.istore_n 3, 1) := by decide +kernel
theorem dX11_tellOff_24 : decode cX11_tellOff 24 = .ok (.iload_n 3, 1) := by decide +kernel
theorem dX11_tellOff_25 : decode cX11_tellOff 25 = .ok (.aload_n 0, 1) := by decide +kernel
theorem dX11_tellOff_26 : decode cX11_tellOff 26 = .ok (.getfield 82, 3) := by decide +kernel
theorem dX11_tellOff_29 : decode cX11_tellOff 29 = .ok (.if_icmp .ge 55, 3) := by decide +kernel
theorem dX11_tellOff_32 : decode cX11_tellOff 32 = .ok (.aload_n 0, 1) := by decide +kernel
theorem dX11_tellOff_33 : decode cX11_tellOff 33 = .ok (.iload_n 3, 1) := by decide +kernel
theorem dX11_tellOff_34 : decode cX11_tellOff 34 = .ok (.invokevirtual 185, 3) := by decide +kernel
theorem dX11_tellOff_37 : decode cX11_tellOff 37 = .ok (.ifCond .eq 41, 3) := by decide +kernel
theorem dX11_tellOff_40 : decode cX11_tellOff 40 = .ok (.aload_n 0, 1) := by decide +kernel
theorem dX11_tellOff_41 : decode cX11_tellOff 41 = .ok (.iload_n 3, 1) := by decide +kernel
theorem dX11_tellOff_42 : decode cX11_tellOff 42 = .ok (.invokevirtual 188, 3) := by decide +kernel
theorem dX11_tellOff_45 : decode cX11_tellOff 45 = .ok (.ifCond .eq 33, 3) := by decide +kernel
theorem dX11_tellOff_48 : decode cX11_tellOff 48 = .ok (.aload_n 0, 1) := by decide +kernel
theorem dX11_tellOff_49 : decode cX11_tellOff 49 = .ok (.iload_n 1, 1) := by decide +kernel
theorem dX11_tellOff_50 : decode cX11_tellOff 50 = .ok (.iconst 0, 1) := by decide +kernel
theorem dX11_tellOff_51 : decode cX11_tellOff 51 = .ok (.invokevirtual 198, 3) := by decide +kernel
theorem dX11_tellOff_54 : decode cX11_tellOff 54 = .ok (.ifCond .eq 24, 3) := by decide +kernel
theorem dX11_tellOff_57 : decode cX11_tellOff 57 = .ok (.aload_n 0, 1) := by decide +kernel
theorem dX11_tellOff_58 : decode cX11_tellOff 58 = .ok (.iload_n 1, 1) := by decide +kernel
theorem dX11_tellOff_59 : decode cX11_tellOff 59 = .ok (.iconst 1, 1) := by decide +kernel
theorem dX11_tellOff_60 : decode cX11_tellOff 60 = .ok (.invokevirtual 198, 3) := by decide +kernel
theorem dX11_tellOff_63 : decode cX11_tellOff 63 = .ok (.ifCond .ne 6, 3) := by decide +kernel
theorem dX11_tellOff_66 : decode cX11_tellOff 66 = .ok (.goto 12, 3) := by decide +kernel
theorem dX11_tellOff_69 : decode cX11_tellOff 69 = .ok (.iload_n 2, 1) := by decide +kernel
theorem dX11_tellOff_70 : decode cX11_tellOff 70 = .ok (.iconst (-1), 1) := by decide +kernel
theorem dX11_tellOff_71 : decode cX11_tellOff 71 = .ok (.if_icmp .eq 5, 3) := by decide +kernel
theorem dX11_tellOff_74 : decode cX11_tellOff 74 = .ok (.iconst (-1), 1) := by decide +kernel
theorem dX11_tellOff_75 : decode cX11_tellOff 75 = .ok (.ireturn, 1) := by decide +kernel
theorem dX11_tellOff_76 : decode cX11_tellOff 76 = .ok (.iload_n 3, 1) := by decide +kernel
theorem dX11_tellOff_77 : decode cX11_tellOff 77 = .ok (.istore_n 2, 1) := by decide +kernel
theorem dX11_tellOff_78 : decode cX11_tellOff 78 = .ok (.iinc 3 1, 3) := by decide +kernel
theorem dX11_tellOff_81 : decode cX11_tellOff 81 = .ok (.goto (-57), 3) := by decide +kernel
theorem dX11_tellOff_84 : decode cX11_tellOff 84 = .ok (.iload_n 2, 1) := by decide +kernel
theorem dX11_tellOff_85 : decode cX11_tellOff 85 = .ok (.ireturn, 1) := by decide +kernel
theorem dX11_fits_0 : decode cX11_fits 0 = .ok (.aload_n 0, 1) := by decide +kernel
theorem dX11_fits_1 : decode cX11_fits 1 = .ok (.getfield 38, 3) := by decide +kernel
theorem dX11_fits_4 : decode cX11_fits 4 = .ok (.iload_n 1, 1) := by decide +kernel
theorem dX11_fits_5 : decode cX11_fits 5 = .ok (.iaload, 1) := by decide +kernel
theorem dX11_fits_6 : decode cX11_fits 6 = .ok (.i2l, 1) := by decide +kernel
theorem dX11_fits_7 : decode cX11_fits 7 = .ok (.lstore_n 3, 1) := by decide +kernel
theorem dX11_fits_8 : decode cX11_fits 8 = .ok (.lconst 0, 1) := by decide +kernel
theorem dX11_fits_9 : decode cX11_fits 9 = .ok (.lstore 5, 2) := by decide +kernel
theorem dX11_fits_11 : decode cX11_fits 11 = .ok (.lconst 0, 1) := by decide +kernel
theorem dX11_fits_12 : decode cX11_fits 12 = .ok (.lstore 7, 2) := by decide +kernel
theorem dX11_fits_14 : decode cX11_fits 14 = .ok (.lconst 0, 1) := by decide +kernel
theorem dX11_fits_15 : decode cX11_fits 15 = .ok (.lstore 9, 2) := by decide +kernel
theorem dX11_fits_17 : decode cX11_fits 17 = .ok (.lconst 0, 1) := by decide +kernel
theorem dX11_fits_18 : decode cX11_fits 18 = .ok (.lstore 11, 2) := by decide +kernel
theorem dX11_fits_20 : decode cX11_fits 20 = .ok (.iconst 0, 1) := by decide +kernel
theorem dX11_fits_21 : decode cX11_fits 21 = .ok (.istore 13, 2) := by decide +kernel
theorem dX11_fits_23 : decode cX11_fits 23 = .ok (.iload 13, 2) := by decide +kernel
theorem dX11_fits_25 : decode cX11_fits 25 = .ok (.aload_n 0, 1) := by decide +kernel
theorem dX11_fits_26 : decode cX11_fits 26 = .ok (.getfield 38, 3) := by decide +kernel
theorem dX11_fits_29 : decode cX11_fits 29 = .ok (.iload_n 1, 1) := by decide +kernel
theorem dX11_fits_30 : decode cX11_fits 30 = .ok (.iaload, 1) := by decide +kernel
theorem dX11_fits_31 : decode cX11_fits 31 = .ok (.if_icmp .ge 83, 3) := by decide +kernel
theorem dX11_fits_34 : decode cX11_fits 34 = .ok (.aload_n 0, 1) := by decide +kernel
theorem dX11_fits_35 : decode cX11_fits 35 = .ok (.getfield 19, 3) := by decide +kernel
theorem dX11_fits_38 : decode cX11_fits 38 = .ok (.aload_n 0, 1) := by decide +kernel
theorem dX11_fits_39 : decode cX11_fits 39 = .ok (.getfield 41, 3) := by decide +kernel
theorem dX11_fits_42 : decode cX11_fits 42 = .ok (.bipush 8, 2) := by decide +kernel
theorem dX11_fits_44 : decode cX11_fits 44 = .ok (.iload_n 1, 1) := by decide +kernel
theorem dX11_fits_45 : decode cX11_fits 45 = .ok (.imul, 1) := by decide +kernel
theorem dX11_fits_46 : decode cX11_fits 46 = .ok (.iload 13, 2) := by decide +kernel
theorem dX11_fits_48 : decode cX11_fits 48 = .ok (.iadd, 1) := by decide +kernel
theorem dX11_fits_49 : decode cX11_fits 49 = .ok (.iaload, 1) := by decide +kernel
theorem dX11_fits_50 : decode cX11_fits 50 = .ok (.iaload, 1) := by decide +kernel
theorem dX11_fits_51 : decode cX11_fits 51 = .ok (.i2l, 1) := by decide +kernel
theorem dX11_fits_52 : decode cX11_fits 52 = .ok (.lstore 14, 2) := by decide +kernel
theorem dX11_fits_54 : decode cX11_fits 54 = .ok (.aload_n 0, 1) := by decide +kernel
theorem dX11_fits_55 : decode cX11_fits 55 = .ok (.aload_n 0, 1) := by decide +kernel
theorem dX11_fits_56 : decode cX11_fits 56 = .ok (.getfield 41, 3) := by decide +kernel
theorem dX11_fits_59 : decode cX11_fits 59 = .ok (.bipush 8, 2) := by decide +kernel
theorem dX11_fits_61 : decode cX11_fits 61 = .ok (.iload_n 1, 1) := by decide +kernel
theorem dX11_fits_62 : decode cX11_fits 62 = .ok (.imul, 1) := by decide +kernel
theorem dX11_fits_63 : decode cX11_fits 63 = .ok (.iload 13, 2) := by decide +kernel
theorem dX11_fits_65 : decode cX11_fits 65 = .ok (.iadd, 1) := by decide +kernel
theorem dX11_fits_66 : decode cX11_fits 66 = .ok (.iaload, 1) := by decide +kernel
theorem dX11_fits_67 : decode cX11_fits 67 = .ok (.iload_n 2, 1) := by decide +kernel
theorem dX11_fits_68 : decode cX11_fits 68 = .ok (.invokevirtual 99, 3) := by decide +kernel
theorem dX11_fits_71 : decode cX11_fits 71 = .ok (.i2l, 1) := by decide +kernel
theorem dX11_fits_72 : decode cX11_fits 72 = .ok (.lstore 16, 2) := by decide +kernel
theorem dX11_fits_74 : decode cX11_fits 74 = .ok (.lload 5, 2) := by decide +kernel
theorem dX11_fits_76 : decode cX11_fits 76 = .ok (.lload 14, 2) := by decide +kernel
theorem dX11_fits_78 : decode cX11_fits 78 = .ok (.ladd, 1) := by decide +kernel
theorem dX11_fits_79 : decode cX11_fits 79 = .ok (.lstore 5, 2) := by decide +kernel
theorem dX11_fits_81 : decode cX11_fits 81 = .ok (.lload 7, 2) := by decide +kernel
theorem dX11_fits_83 : decode cX11_fits 83 = .ok (.lload 16, 2) := by decide +kernel
theorem dX11_fits_85 : decode cX11_fits 85 = .ok (.ladd, 1) := by decide +kernel
theorem dX11_fits_86 : decode cX11_fits 86 = .ok (.lstore 7, 2) := by decide +kernel
theorem dX11_fits_88 : decode cX11_fits 88 = .ok (.lload 9, 2) := by decide +kernel
theorem dX11_fits_90 : decode cX11_fits 90 = .ok (.lload 14, 2) := by decide +kernel
theorem dX11_fits_92 : decode cX11_fits 92 = .ok (.lload 14, 2) := by decide +kernel
theorem dX11_fits_94 : decode cX11_fits 94 = .ok (.lmul, 1) := by decide +kernel
theorem dX11_fits_95 : decode cX11_fits 95 = .ok (.ladd, 1) := by decide +kernel
theorem dX11_fits_96 : decode cX11_fits 96 = .ok (.lstore 9, 2) := by decide +kernel
theorem dX11_fits_98 : decode cX11_fits 98 = .ok (.lload 11, 2) := by decide +kernel
theorem dX11_fits_100 : decode cX11_fits 100 = .ok (.lload 14, 2) := by decide +kernel
theorem dX11_fits_102 : decode cX11_fits 102 = .ok (.lload 16, 2) := by decide +kernel
theorem dX11_fits_104 : decode cX11_fits 104 = .ok (.lmul, 1) := by decide +kernel
theorem dX11_fits_105 : decode cX11_fits 105 = .ok (.ladd, 1) := by decide +kernel
theorem dX11_fits_106 : decode cX11_fits 106 = .ok (.lstore 11, 2) := by decide +kernel
theorem dX11_fits_108 : decode cX11_fits 108 = .ok (.iinc 13 1, 3) := by decide +kernel
theorem dX11_fits_111 : decode cX11_fits 111 = .ok (.goto (-88), 3) := by decide +kernel
theorem dX11_fits_114 : decode cX11_fits 114 = .ok (.aload_n 0, 1) := by decide +kernel
theorem dX11_fits_115 : decode cX11_fits 115 = .ok (.lload_n 3, 1) := by decide +kernel
theorem dX11_fits_116 : decode cX11_fits 116 = .ok (.lload 9, 2) := by decide +kernel
theorem dX11_fits_118 : decode cX11_fits 118 = .ok (.lmul, 1) := by decide +kernel
theorem dX11_fits_119 : decode cX11_fits 119 = .ok (.lload 5, 2) := by decide +kernel
theorem dX11_fits_121 : decode cX11_fits 121 = .ok (.lload 5, 2) := by decide +kernel
theorem dX11_fits_123 : decode cX11_fits 123 = .ok (.lmul, 1) := by decide +kernel
theorem dX11_fits_124 : decode cX11_fits 124 = .ok (.lsub, 1) := by decide +kernel
theorem dX11_fits_125 : decode cX11_fits 125 = .ok (.putfield 201, 3) := by decide +kernel
theorem dX11_fits_128 : decode cX11_fits 128 = .ok (.aload_n 0, 1) := by decide +kernel
theorem dX11_fits_129 : decode cX11_fits 129 = .ok (.lload_n 3, 1) := by decide +kernel
theorem dX11_fits_130 : decode cX11_fits 130 = .ok (.lload 11, 2) := by decide +kernel
theorem dX11_fits_132 : decode cX11_fits 132 = .ok (.lmul, 1) := by decide +kernel
theorem dX11_fits_133 : decode cX11_fits 133 = .ok (.lload 5, 2) := by decide +kernel
theorem dX11_fits_135 : decode cX11_fits 135 = .ok (.lload 7, 2) := by decide +kernel
theorem dX11_fits_137 : decode cX11_fits 137 = .ok (.lmul, 1) := by decide +kernel
theorem dX11_fits_138 : decode cX11_fits 138 = .ok (.lsub, 1) := by decide +kernel
theorem dX11_fits_139 : decode cX11_fits 139 = .ok (.putfield 204, 3) := by decide +kernel
theorem dX11_fits_142 : decode cX11_fits 142 = .ok (.aload_n 0, 1) := by decide +kernel
theorem dX11_fits_143 : decode cX11_fits 143 = .ok (.lload_n 3, 1) := by decide +kernel
theorem dX11_fits_144 : decode cX11_fits 144 = .ok (.aload_n 0, 1) := by decide +kernel
theorem dX11_fits_145 : decode cX11_fits 145 = .ok (.getfield 201, 3) := by decide +kernel
theorem dX11_fits_148 : decode cX11_fits 148 = .ok (.lmul, 1) := by decide +kernel
theorem dX11_fits_149 : decode cX11_fits 149 = .ok (.putfield 207, 3) := by decide +kernel
theorem dX11_fits_152 : decode cX11_fits 152 = .ok (.aload_n 0, 1) := by decide +kernel
theorem dX11_fits_153 : decode cX11_fits 153 = .ok (.lload 7, 2) := by decide +kernel
theorem dX11_fits_155 : decode cX11_fits 155 = .ok (.aload_n 0, 1) := by decide +kernel
theorem dX11_fits_156 : decode cX11_fits 156 = .ok (.getfield 201, 3) := by decide +kernel
theorem dX11_fits_159 : decode cX11_fits 159 = .ok (.lmul, 1) := by decide +kernel
theorem dX11_fits_160 : decode cX11_fits 160 = .ok (.aload_n 0, 1) := by decide +kernel
theorem dX11_fits_161 : decode cX11_fits 161 = .ok (.getfield 204, 3) := by decide +kernel
theorem dX11_fits_164 : decode cX11_fits 164 = .ok (.lload 5, 2) := by decide +kernel
theorem dX11_fits_166 : decode cX11_fits 166 = .ok (.lmul, 1) := by decide +kernel
theorem dX11_fits_167 : decode cX11_fits 167 = .ok (.lsub, 1) := by decide +kernel
theorem dX11_fits_168 : decode cX11_fits 168 = .ok (.putfield 210, 3) := by decide +kernel
theorem dX11_fits_171 : decode cX11_fits 171 = .ok (.aload_n 0, 1) := by decide +kernel
theorem dX11_fits_172 : decode cX11_fits 172 = .ok (.getfield 201, 3) := by decide +kernel
theorem dX11_fits_175 : decode cX11_fits 175 = .ok (.lconst 0, 1) := by decide +kernel
theorem dX11_fits_176 : decode cX11_fits 176 = .ok (.lcmp, 1) := by decide +kernel
theorem dX11_fits_177 : decode cX11_fits 177 = .ok (.ifCond .le 7, 3) := by decide +kernel
theorem dX11_fits_180 : decode cX11_fits 180 = .ok (.iconst 1, 1) := by decide +kernel
theorem dX11_fits_181 : decode cX11_fits 181 = .ok (.goto 4, 3) := by decide +kernel
theorem dX11_fits_184 : decode cX11_fits 184 = .ok (.iconst 0, 1) := by decide +kernel
theorem dX11_fits_185 : decode cX11_fits 185 = .ok (.ireturn, 1) := by decide +kernel
theorem dX11_divisor_0 : decode cX11_divisor 0 = .ok (.lload_n 0, 1) := by decide +kernel
theorem dX11_divisor_1 : decode cX11_divisor 1 = .ok (.lconst 0, 1) := by decide +kernel
theorem dX11_divisor_2 : decode cX11_divisor 2 = .ok (.lcmp, 1) := by decide +kernel
theorem dX11_divisor_3 : decode cX11_divisor 3 = .ok (.ifCond .ge 8, 3) := by decide +kernel
theorem dX11_divisor_6 : decode cX11_divisor 6 = .ok (.lload_n 0, 1) := by decide +kernel
theorem dX11_divisor_7 : decode cX11_divisor 7 = .ok (.lneg, 1) := by decide +kernel
theorem dX11_divisor_8 : decode cX11_divisor 8 = .ok (.goto 4, 3) := by decide +kernel
theorem dX11_divisor_11 : decode cX11_divisor 11 = .ok (.lload_n 0, 1) := by decide +kernel
theorem dX11_divisor_12 : decode cX11_divisor 12 = .ok (.lstore 4, 2) := by decide +kernel
theorem dX11_divisor_14 : decode cX11_divisor 14 = .ok (.lload_n 2, 1) := by decide +kernel
theorem dX11_divisor_15 : decode cX11_divisor 15 = .ok (.lstore 6, 2) := by decide +kernel
theorem dX11_divisor_17 : decode cX11_divisor 17 = .ok (.lload 6, 2) := by decide +kernel
theorem dX11_divisor_19 : decode cX11_divisor 19 = .ok (.lconst 0, 1) := by decide +kernel
theorem dX11_divisor_20 : decode cX11_divisor 20 = .ok (.lcmp, 1) := by decide +kernel
theorem dX11_divisor_21 : decode cX11_divisor 21 = .ok (.ifCond .eq 21, 3) := by decide +kernel
theorem dX11_divisor_24 : decode cX11_divisor 24 = .ok (.lload 4, 2) := by decide +kernel
theorem dX11_divisor_26 : decode cX11_divisor 26 = .ok (.lload 6, 2) := by decide +kernel
theorem dX11_divisor_28 : decode cX11_divisor 28 = .ok (.lrem, 1) := by decide +kernel
theorem dX11_divisor_29 : decode cX11_divisor 29 = .ok (.lstore 8, 2) := by decide +kernel
theorem dX11_divisor_31 : decode cX11_divisor 31 = .ok (.lload 6, 2) := by decide +kernel
theorem dX11_divisor_33 : decode cX11_divisor 33 = .ok (.lstore 4, 2) := by decide +kernel
theorem dX11_divisor_35 : decode cX11_divisor 35 = .ok (.lload 8, 2) := by decide +kernel
theorem dX11_divisor_37 : decode cX11_divisor 37 = .ok (.lstore 6, 2) := by decide +kernel
theorem dX11_divisor_39 : decode cX11_divisor 39 = .ok (.goto (-22), 3) := by decide +kernel
theorem dX11_divisor_42 : decode cX11_divisor 42 = .ok (.lload 4, 2) := by decide +kernel
theorem dX11_divisor_44 : decode cX11_divisor 44 = .ok (.lreturn, 1) := by decide +kernel
theorem dX11_told_0 : decode cX11_told 0 = .ok (.lload_n 0, 1) := by decide +kernel
theorem dX11_told_1 : decode cX11_told 1 = .ok (.lload_n 2, 1) := by decide +kernel
theorem dX11_told_2 : decode cX11_told 2 = .ok (.invokestatic 213, 3) := by decide +kernel
theorem dX11_told_5 : decode cX11_told 5 = .ok (.lstore 5, 2) := by decide +kernel
theorem dX11_told_7 : decode cX11_told 7 = .ok (.iload 4, 2) := by decide +kernel
theorem dX11_told_9 : decode cX11_told 9 = .ok (.ifCond .ne 10, 3) := by decide +kernel
theorem dX11_told_12 : decode cX11_told 12 = .ok (.lload_n 0, 1) := by decide +kernel
theorem dX11_told_13 : decode cX11_told 13 = .ok (.lload 5, 2) := by decide +kernel
theorem dX11_told_15 : decode cX11_told 15 = .ok (.ldiv, 1) := by decide +kernel
theorem dX11_told_16 : decode cX11_told 16 = .ok (.goto 7, 3) := by decide +kernel
theorem dX11_told_19 : decode cX11_told 19 = .ok (.lload_n 2, 1) := by decide +kernel
theorem dX11_told_20 : decode cX11_told 20 = .ok (.lload 5, 2) := by decide +kernel
theorem dX11_told_22 : decode cX11_told 22 = .ok (.ldiv, 1) := by decide +kernel
theorem dX11_told_23 : decode cX11_told 23 = .ok (.lreturn, 1) := by decide +kernel
theorem dX11_fit_0 : decode cX11_fit 0 = .ok (.aload_n 0, 1) := by decide +kernel
theorem dX11_fit_1 : decode cX11_fit 1 = .ok (.iload_n 1, 1) := by decide +kernel
theorem dX11_fit_2 : decode cX11_fit 2 = .ok (.invokevirtual 185, 3) := by decide +kernel
theorem dX11_fit_5 : decode cX11_fit 5 = .ok (.ifCond .eq 40, 3) := by decide +kernel
theorem dX11_fit_8 : decode cX11_fit 8 = .ok (.iload_n 2, 1) := by decide +kernel
theorem dX11_fit_9 : decode cX11_fit 9 = .ok (.iconst 0, 1) := by decide +kernel
theorem dX11_fit_10 : decode cX11_fit 10 = .ok (.iconst 1, 1) := by decide +kernel
theorem dX11_fit_11 : decode cX11_fit 11 = .ok (.invokestatic 78, 3) := by decide +kernel
theorem dX11_fit_14 : decode cX11_fit 14 = .ok (.ifCond .eq 31, 3) := by decide +kernel
theorem dX11_fit_17 : decode cX11_fit 17 = .ok (.iload_n 3, 1) := by decide +kernel
theorem dX11_fit_18 : decode cX11_fit 18 = .ok (.iconst 0, 1) := by decide +kernel
theorem dX11_fit_19 : decode cX11_fit 19 = .ok (.iconst 1, 1) := by decide +kernel
theorem dX11_fit_20 : decode cX11_fit 20 = .ok (.invokestatic 78, 3) := by decide +kernel
theorem dX11_fit_23 : decode cX11_fit 23 = .ok (.ifCond .eq 22, 3) := by decide +kernel
theorem dX11_fit_26 : decode cX11_fit 26 = .ok (.iload 4, 2) := by decide +kernel
theorem dX11_fit_28 : decode cX11_fit 28 = .ok (.iconst 0, 1) := by decide +kernel
theorem dX11_fit_29 : decode cX11_fit 29 = .ok (.iconst 1, 1) := by decide +kernel
theorem dX11_fit_30 : decode cX11_fit 30 = .ok (.invokestatic 78, 3) := by decide +kernel
theorem dX11_fit_33 : decode cX11_fit 33 = .ok (.ifCond .eq 12, 3) := by decide +kernel
theorem dX11_fit_36 : decode cX11_fit 36 = .ok (.aload_n 0, 1) := by decide +kernel
theorem dX11_fit_37 : decode cX11_fit 37 = .ok (.iload_n 1, 1) := by decide +kernel
theorem dX11_fit_38 : decode cX11_fit 38 = .ok (.iload_n 2, 1) := by decide +kernel
theorem dX11_fit_39 : decode cX11_fit 39 = .ok (.invokevirtual 216, 3) := by decide +kernel
theorem dX11_fit_42 : decode cX11_fit 42 = .ok (.ifCond .ne 7, 3) := by decide +kernel
theorem dX11_fit_45 : decode cX11_fit 45 = .ok (.ldc2_w 193, 3) := by decide +kernel
theorem dX11_fit_48 : decode cX11_fit 48 = .ok (.lreturn, 1) := by decide +kernel
theorem dX11_fit_49 : decode cX11_fit 49 = .ok (.iload_n 3, 1) := by decide +kernel
theorem dX11_fit_50 : decode cX11_fit 50 = .ok (.ifCond .ne 19, 3) := by decide +kernel
theorem dX11_fit_53 : decode cX11_fit 53 = .ok (.aload_n 0, 1) := by decide +kernel
theorem dX11_fit_54 : decode cX11_fit 54 = .ok (.getfield 210, 3) := by decide +kernel
theorem dX11_fit_57 : decode cX11_fit 57 = .ok (.aload_n 0, 1) := by decide +kernel
theorem dX11_fit_58 : decode cX11_fit 58 = .ok (.getfield 207, 3) := by decide +kernel
theorem dX11_fit_61 : decode cX11_fit 61 = .ok (.iload 4, 2) := by decide +kernel
theorem dX11_fit_63 : decode cX11_fit 63 = .ok (.invokestatic 219, 3) := by decide +kernel
theorem dX11_fit_66 : decode cX11_fit 66 = .ok (.goto 16, 3) := by decide +kernel
theorem dX11_fit_69 : decode cX11_fit 69 = .ok (.aload_n 0, 1) := by decide +kernel
theorem dX11_fit_70 : decode cX11_fit 70 = .ok (.getfield 204, 3) := by decide +kernel
theorem dX11_fit_73 : decode cX11_fit 73 = .ok (.aload_n 0, 1) := by decide +kernel
theorem dX11_fit_74 : decode cX11_fit 74 = .ok (.getfield 201, 3) := by decide +kernel
theorem dX11_fit_77 : decode cX11_fit 77 = .ok (.iload 4, 2) := by decide +kernel
theorem dX11_fit_79 : decode cX11_fit 79 = .ok (.invokestatic 219, 3) := by decide +kernel
theorem dX11_fit_82 : decode cX11_fit 82 = .ok (.lreturn, 1) := by decide +kernel
theorem dX11_miss_0 : decode cX11_miss 0 = .ok (.aload_n 0, 1) := by decide +kernel
theorem dX11_miss_1 : decode cX11_miss 1 = .ok (.iload_n 1, 1) := by decide +kernel
theorem dX11_miss_2 : decode cX11_miss 2 = .ok (.invokevirtual 185, 3) := by decide +kernel
theorem dX11_miss_5 : decode cX11_miss 5 = .ok (.ifCond .eq 47, 3) := by decide +kernel
theorem dX11_miss_8 : decode cX11_miss 8 = .ok (.iload_n 2, 1) := by decide +kernel
theorem dX11_miss_9 : decode cX11_miss 9 = .ok (.iconst 0, 1) := by decide +kernel
theorem dX11_miss_10 : decode cX11_miss 10 = .ok (.aload_n 0, 1) := by decide +kernel
theorem dX11_miss_11 : decode cX11_miss 11 = .ok (.getfield 38, 3) := by decide +kernel
theorem dX11_miss_14 : decode cX11_miss 14 = .ok (.iload_n 1, 1) := by decide +kernel
theorem dX11_miss_15 : decode cX11_miss 15 = .ok (.iaload, 1) := by decide +kernel
theorem dX11_miss_16 : decode cX11_miss 16 = .ok (.iconst 1, 1) := by decide +kernel
theorem dX11_miss_17 : decode cX11_miss 17 = .ok (.isub, 1) := by decide +kernel
theorem dX11_miss_18 : decode cX11_miss 18 = .ok (.invokestatic 78, 3) := by decide +kernel
theorem dX11_miss_21 : decode cX11_miss 21 = .ok (.ifCond .eq 31, 3) := by decide +kernel
theorem dX11_miss_24 : decode cX11_miss 24 = .ok (.iload_n 3, 1) := by decide +kernel
theorem dX11_miss_25 : decode cX11_miss 25 = .ok (.iconst 0, 1) := by decide +kernel
theorem dX11_miss_26 : decode cX11_miss 26 = .ok (.iconst 1, 1) := by decide +kernel
theorem dX11_miss_27 : decode cX11_miss 27 = .ok (.invokestatic 78, 3) := by decide +kernel
theorem dX11_miss_30 : decode cX11_miss 30 = .ok (.ifCond .eq 22, 3) := by decide +kernel
theorem dX11_miss_33 : decode cX11_miss 33 = .ok (.iload 4, 2) := by decide +kernel
theorem dX11_miss_35 : decode cX11_miss 35 = .ok (.iconst 0, 1) := by decide +kernel
theorem dX11_miss_36 : decode cX11_miss 36 = .ok (.iconst 1, 1) := by decide +kernel
theorem dX11_miss_37 : decode cX11_miss 37 = .ok (.invokestatic 78, 3) := by decide +kernel
theorem dX11_miss_40 : decode cX11_miss 40 = .ok (.ifCond .eq 12, 3) := by decide +kernel
theorem dX11_miss_43 : decode cX11_miss 43 = .ok (.aload_n 0, 1) := by decide +kernel
theorem dX11_miss_44 : decode cX11_miss 44 = .ok (.iload_n 1, 1) := by decide +kernel
theorem dX11_miss_45 : decode cX11_miss 45 = .ok (.iload_n 3, 1) := by decide +kernel
theorem dX11_miss_46 : decode cX11_miss 46 = .ok (.invokevirtual 216, 3) := by decide +kernel
theorem dX11_miss_49 : decode cX11_miss 49 = .ok (.ifCond .ne 7, 3) := by decide +kernel
theorem dX11_miss_52 : decode cX11_miss 52 = .ok (.ldc2_w 193, 3) := by decide +kernel
theorem dX11_miss_55 : decode cX11_miss 55 = .ok (.lreturn, 1) := by decide +kernel
theorem dX11_miss_56 : decode cX11_miss 56 = .ok (.aload_n 0, 1) := by decide +kernel
theorem dX11_miss_57 : decode cX11_miss 57 = .ok (.getfield 41, 3) := by decide +kernel
theorem dX11_miss_60 : decode cX11_miss 60 = .ok (.bipush 8, 2) := by decide +kernel
theorem dX11_miss_62 : decode cX11_miss 62 = .ok (.iload_n 1, 1) := by decide +kernel
theorem dX11_miss_63 : decode cX11_miss 63 = .ok (.imul, 1) := by decide +kernel
theorem dX11_miss_64 : decode cX11_miss 64 = .ok (.iload_n 2, 1) := by decide +kernel
theorem dX11_miss_65 : decode cX11_miss 65 = .ok (.iadd, 1) := by decide +kernel
theorem dX11_miss_66 : decode cX11_miss 66 = .ok (.iaload, 1) := by decide +kernel
theorem dX11_miss_67 : decode cX11_miss 67 = .ok (.istore 5, 2) := by decide +kernel
theorem dX11_miss_69 : decode cX11_miss 69 = .ok (.aload_n 0, 1) := by decide +kernel
theorem dX11_miss_70 : decode cX11_miss 70 = .ok (.iload 5, 2) := by decide +kernel
theorem dX11_miss_72 : decode cX11_miss 72 = .ok (.iload_n 3, 1) := by decide +kernel
theorem dX11_miss_73 : decode cX11_miss 73 = .ok (.invokevirtual 99, 3) := by decide +kernel
theorem dX11_miss_76 : decode cX11_miss 76 = .ok (.i2l, 1) := by decide +kernel
theorem dX11_miss_77 : decode cX11_miss 77 = .ok (.aload_n 0, 1) := by decide +kernel
theorem dX11_miss_78 : decode cX11_miss 78 = .ok (.getfield 207, 3) := by decide +kernel
theorem dX11_miss_81 : decode cX11_miss 81 = .ok (.lmul, 1) := by decide +kernel
theorem dX11_miss_82 : decode cX11_miss 82 = .ok (.aload_n 0, 1) := by decide +kernel
theorem dX11_miss_83 : decode cX11_miss 83 = .ok (.getfield 210, 3) := by decide +kernel
theorem dX11_miss_86 : decode cX11_miss 86 = .ok (.lsub, 1) := by decide +kernel
theorem dX11_miss_87 : decode cX11_miss 87 = .ok (.aload_n 0, 1) := by decide +kernel
theorem dX11_miss_88 : decode cX11_miss 88 = .ok (.getfield 204, 3) := by decide +kernel
theorem dX11_miss_91 : decode cX11_miss 91 = .ok (.aload_n 0, 1) := by decide +kernel
theorem dX11_miss_92 : decode cX11_miss 92 = .ok (.getfield 38, 3) := by decide +kernel
theorem dX11_miss_95 : decode cX11_miss 95 = .ok (.iload_n 1, 1) := by decide +kernel
theorem dX11_miss_96 : decode cX11_miss 96 = .ok (.iaload, 1) := by decide +kernel
theorem dX11_miss_97 : decode cX11_miss 97 = .ok (.i2l, 1) := by decide +kernel
theorem dX11_miss_98 : decode cX11_miss 98 = .ok (.lmul, 1) := by decide +kernel
theorem dX11_miss_99 : decode cX11_miss 99 = .ok (.aload_n 0, 1) := by decide +kernel
theorem dX11_miss_100 : decode cX11_miss 100 = .ok (.getfield 19, 3) := by decide +kernel
theorem dX11_miss_103 : decode cX11_miss 103 = .ok (.iload 5, 2) := by decide +kernel
theorem dX11_miss_105 : decode cX11_miss 105 = .ok (.iaload, 1) := by decide +kernel
theorem dX11_miss_106 : decode cX11_miss 106 = .ok (.i2l, 1) := by decide +kernel
theorem dX11_miss_107 : decode cX11_miss 107 = .ok (.lmul, 1) := by decide +kernel
theorem dX11_miss_108 : decode cX11_miss 108 = .ok (.lsub, 1) := by decide +kernel
theorem dX11_miss_109 : decode cX11_miss 109 = .ok (.lstore 6, 2) := by decide +kernel
theorem dX11_miss_111 : decode cX11_miss 111 = .ok (.lload 6, 2) := by decide +kernel
theorem dX11_miss_113 : decode cX11_miss 113 = .ok (.lconst 0, 1) := by decide +kernel
theorem dX11_miss_114 : decode cX11_miss 114 = .ok (.lcmp, 1) := by decide +kernel
theorem dX11_miss_115 : decode cX11_miss 115 = .ok (.ifCond .ge 9, 3) := by decide +kernel
theorem dX11_miss_118 : decode cX11_miss 118 = .ok (.lload 6, 2) := by decide +kernel
theorem dX11_miss_120 : decode cX11_miss 120 = .ok (.lneg, 1) := by decide +kernel
theorem dX11_miss_121 : decode cX11_miss 121 = .ok (.goto 5, 3) := by decide +kernel
theorem dX11_miss_124 : decode cX11_miss 124 = .ok (.lload 6, 2) := by decide +kernel
theorem dX11_miss_126 : decode cX11_miss 126 = .ok (.aload_n 0, 1) := by decide +kernel
theorem dX11_miss_127 : decode cX11_miss 127 = .ok (.getfield 207, 3) := by decide +kernel
theorem dX11_miss_130 : decode cX11_miss 130 = .ok (.iload 4, 2) := by decide +kernel
theorem dX11_miss_132 : decode cX11_miss 132 = .ok (.invokestatic 219, 3) := by decide +kernel
theorem dX11_miss_135 : decode cX11_miss 135 = .ok (.lreturn, 1) := by decide +kernel
theorem dX11_bitsOf_0 : decode cX11_bitsOf 0 = .ok (.iconst 0, 1) := by decide +kernel
theorem dX11_bitsOf_1 : decode cX11_bitsOf 1 = .ok (.istore_n 1, 1) := by decide +kernel
theorem dX11_bitsOf_2 : decode cX11_bitsOf 2 = .ok (.iload_n 0, 1) := by decide +kernel
theorem dX11_bitsOf_3 : decode cX11_bitsOf 3 = .ok (.istore_n 2, 1) := by decide +kernel
theorem dX11_bitsOf_4 : decode cX11_bitsOf 4 = .ok (.iload_n 2, 1) := by decide +kernel
theorem dX11_bitsOf_5 : decode cX11_bitsOf 5 = .ok (.ifCond .eq 15, 3) := by decide +kernel
theorem dX11_bitsOf_8 : decode cX11_bitsOf 8 = .ok (.iinc 1 1, 3) := by decide +kernel
theorem dX11_bitsOf_11 : decode cX11_bitsOf 11 = .ok (.iload_n 2, 1) := by decide +kernel
theorem dX11_bitsOf_12 : decode cX11_bitsOf 12 = .ok (.iload_n 2, 1) := by decide +kernel
theorem dX11_bitsOf_13 : decode cX11_bitsOf 13 = .ok (.iconst 1, 1) := by decide +kernel
theorem dX11_bitsOf_14 : decode cX11_bitsOf 14 = .ok (.isub, 1) := by decide +kernel
theorem dX11_bitsOf_15 : decode cX11_bitsOf 15 = .ok (.iand, 1) := by decide +kernel
theorem dX11_bitsOf_16 : decode cX11_bitsOf 16 = .ok (.istore_n 2, 1) := by decide +kernel
theorem dX11_bitsOf_17 : decode cX11_bitsOf 17 = .ok (.goto (-13), 3) := by decide +kernel
theorem dX11_bitsOf_20 : decode cX11_bitsOf 20 = .ok (.iload_n 1, 1) := by decide +kernel
theorem dX11_bitsOf_21 : decode cX11_bitsOf 21 = .ok (.ireturn, 1) := by decide +kernel
theorem dX11_isSoundWithout_0 : decode cX11_isSoundWithout 0 = .ok (.aload_n 0, 1) := by decide +kernel
theorem dX11_isSoundWithout_1 : decode cX11_isSoundWithout 1 = .ok (.iconst 0, 1) := by decide +kernel
theorem dX11_isSoundWithout_2 : decode cX11_isSoundWithout 2 = .ok (.putfield 96, 3) := by decide +kernel
theorem dX11_isSoundWithout_5 : decode cX11_isSoundWithout 5 = .ok (.iconst 0, 1) := by decide +kernel
theorem dX11_isSoundWithout_6 : decode cX11_isSoundWithout 6 = .ok (.istore_n 3, 1) := by decide +kernel
theorem dX11_isSoundWithout_7 : decode cX11_isSoundWithout 7 = .ok (.iload_n 3, 1) := by decide +kernel
theorem dX11_isSoundWithout_8 : decode cX11_isSoundWithout 8 = .ok (.aload_n 0, 1) := by decide +kernel
theorem dX11_isSoundWithout_9 : decode cX11_isSoundWithout 9 = .ok (.getfield 38, 3) := by decide +kernel
theorem dX11_isSoundWithout_12 : decode cX11_isSoundWithout 12 = .ok (.iload_n 1, 1) := by decide +kernel
theorem dX11_isSoundWithout_13 : decode cX11_isSoundWithout 13 = .ok (.iaload, 1) := by decide +kernel
theorem dX11_isSoundWithout_14 : decode cX11_isSoundWithout 14 = .ok (.if_icmp .ge 32, 3) := by decide +kernel
theorem dX11_isSoundWithout_17 : decode cX11_isSoundWithout 17 = .ok (.iload_n 2, 1) := by decide +kernel
theorem dX11_isSoundWithout_18 : decode cX11_isSoundWithout 18 = .ok (.iload_n 3, 1) := by decide +kernel
theorem dX11_isSoundWithout_19 : decode cX11_isSoundWithout 19 = .ok (.ishr, 1) := by decide +kernel
theorem dX11_isSoundWithout_20 : decode cX11_isSoundWithout 20 = .ok (.iconst 1, 1) := by decide +kernel
theorem dX11_isSoundWithout_21 : decode cX11_isSoundWithout 21 = .ok (.iand, 1) := by decide +kernel
theorem dX11_isSoundWithout_22 : decode cX11_isSoundWithout 22 = .ok (.ifCond .ne 18, 3) := by decide +kernel
theorem dX11_isSoundWithout_25 : decode cX11_isSoundWithout 25 = .ok (.aload_n 0, 1) := by decide +kernel
theorem dX11_isSoundWithout_26 : decode cX11_isSoundWithout 26 = .ok (.aload_n 0, 1) := by decide +kernel
theorem dX11_isSoundWithout_27 : decode cX11_isSoundWithout 27 = .ok (.getfield 41, 3) := by decide +kernel
theorem dX11_isSoundWithout_30 : decode cX11_isSoundWithout 30 = .ok (.bipush 8, 2) := by decide +kernel
theorem dX11_isSoundWithout_32 : decode cX11_isSoundWithout 32 = .ok (.iload_n 1, 1) := by decide +kernel
theorem dX11_isSoundWithout_33 : decode cX11_isSoundWithout 33 = .ok (.imul, 1) := by decide +kernel
theorem dX11_isSoundWithout_34 : decode cX11_isSoundWithout 34 = .ok (.iload_n 3, 1) := by decide +kernel
theorem dX11_isSoundWithout_35 : decode cX11_isSoundWithout 35 = .ok (.iadd, 1) := by decide +kernel
theorem dX11_isSoundWithout_36 : decode cX11_isSoundWithout 36 = .ok (.iaload, 1) := by decide +kernel
theorem dX11_isSoundWithout_37 : decode cX11_isSoundWithout 37 = .ok (.invokevirtual 163, 3) := by decide +kernel
theorem dX11_isSoundWithout_40 : decode cX11_isSoundWithout 40 = .ok (.iinc 3 1, 3) := by decide +kernel
theorem dX11_isSoundWithout_43 : decode cX11_isSoundWithout 43 = .ok (.goto (-36), 3) := by decide +kernel
theorem dX11_isSoundWithout_46 : decode cX11_isSoundWithout 46 = .ok (.aload_n 0, 1) := by decide +kernel
theorem dX11_isSoundWithout_47 : decode cX11_isSoundWithout 47 = .ok (.invokevirtual 131, 3) := by decide +kernel
theorem dX11_isSoundWithout_50 : decode cX11_isSoundWithout 50 = .ok (.ireturn, 1) := by decide +kernel
theorem dX11_part_0 : decode cX11_part 0 = .ok (.aload_n 0, 1) := by decide +kernel
theorem dX11_part_1 : decode cX11_part 1 = .ok (.iload_n 1, 1) := by decide +kernel
theorem dX11_part_2 : decode cX11_part 2 = .ok (.invokevirtual 185, 3) := by decide +kernel
theorem dX11_part_5 : decode cX11_part 5 = .ok (.ifCond .ne 5, 3) := by decide +kernel
theorem dX11_part_8 : decode cX11_part 8 = .ok (.iconst (-1), 1) := by decide +kernel
theorem dX11_part_9 : decode cX11_part 9 = .ok (.ireturn, 1) := by decide +kernel
theorem dX11_part_10 : decode cX11_part 10 = .ok (.iconst 1, 1) := by decide +kernel
theorem dX11_part_11 : decode cX11_part 11 = .ok (.aload_n 0, 1) := by decide +kernel
theorem dX11_part_12 : decode cX11_part 12 = .ok (.getfield 38, 3) := by decide +kernel
theorem dX11_part_15 : decode cX11_part 15 = .ok (.iload_n 1, 1) := by decide +kernel
theorem dX11_part_16 : decode cX11_part 16 = .ok (.iaload, 1) := by decide +kernel
theorem dX11_part_17 : decode cX11_part 17 = .ok (.ishl, 1) := by decide +kernel
theorem dX11_part_18 : decode cX11_part 18 = .ok (.iconst 1, 1) := by decide +kernel
theorem dX11_part_19 : decode cX11_part 19 = .ok (.isub, 1) := by decide +kernel
theorem dX11_part_20 : decode cX11_part 20 = .ok (.istore_n 2, 1) := by decide +kernel
theorem dX11_part_21 : decode cX11_part 21 = .ok (.iconst 0, 1) := by decide +kernel
theorem dX11_part_22 : decode cX11_part 22 = .ok (.istore_n 3, 1) := by decide +kernel
theorem dX11_part_23 : decode cX11_part 23 = .ok (.iload_n 3, 1) := by decide +kernel
theorem dX11_part_24 : decode cX11_part 24 = .ok (.iconst 1, 1) := by decide +kernel
theorem dX11_part_25 : decode cX11_part 25 = .ok (.aload_n 0, 1) := by decide +kernel
theorem dX11_part_26 : decode cX11_part 26 = .ok (.getfield 38, 3) := by decide +kernel
theorem dX11_part_29 : decode cX11_part 29 = .ok (.iload_n 1, 1) := by decide +kernel
theorem dX11_part_30 : decode cX11_part 30 = .ok (.iaload, 1) := by decide +kernel
theorem dX11_part_31 : decode cX11_part 31 = .ok (.ishl, 1) := by decide +kernel
theorem dX11_part_32 : decode cX11_part 32 = .ok (.if_icmp .ge 65, 3) := by decide +kernel
theorem dX11_part_35 : decode cX11_part 35 = .ok (.iload_n 3, 1) := by decide +kernel
theorem dX11_part_36 : decode cX11_part 36 = .ok (.invokestatic 223, 3) := by decide +kernel
theorem dX11_part_39 : decode cX11_part 39 = .ok (.istore 4, 2) := by decide +kernel
theorem dX11_part_41 : decode cX11_part 41 = .ok (.iload_n 2, 1) := by decide +kernel
theorem dX11_part_42 : decode cX11_part 42 = .ok (.invokestatic 223, 3) := by decide +kernel
theorem dX11_part_45 : decode cX11_part 45 = .ok (.istore 5, 2) := by decide +kernel
theorem dX11_part_47 : decode cX11_part 47 = .ok (.iload_n 3, 1) := by decide +kernel
theorem dX11_part_48 : decode cX11_part 48 = .ok (.iload_n 2, 1) := by decide +kernel
theorem dX11_part_49 : decode cX11_part 49 = .ok (.ixor, 1) := by decide +kernel
theorem dX11_part_50 : decode cX11_part 50 = .ok (.istore 6, 2) := by decide +kernel
theorem dX11_part_52 : decode cX11_part 52 = .ok (.iload 4, 2) := by decide +kernel
theorem dX11_part_54 : decode cX11_part 54 = .ok (.iload 5, 2) := by decide +kernel
theorem dX11_part_56 : decode cX11_part 56 = .ok (.if_icmp .gt 35, 3) := by decide +kernel
theorem dX11_part_59 : decode cX11_part 59 = .ok (.iload 4, 2) := by decide +kernel
theorem dX11_part_61 : decode cX11_part 61 = .ok (.iload 5, 2) := by decide +kernel
theorem dX11_part_63 : decode cX11_part 63 = .ok (.if_icmp .ne 14, 3) := by decide +kernel
theorem dX11_part_66 : decode cX11_part 66 = .ok (.iload_n 3, 1) := by decide +kernel
theorem dX11_part_67 : decode cX11_part 67 = .ok (.iload 6, 2) := by decide +kernel
theorem dX11_part_69 : decode cX11_part 69 = .ok (.iand, 1) := by decide +kernel
theorem dX11_part_70 : decode cX11_part 70 = .ok (.iload 6, 2) := by decide +kernel
theorem dX11_part_72 : decode cX11_part 72 = .ok (.ineg, 1) := by decide +kernel
theorem dX11_part_73 : decode cX11_part 73 = .ok (.iand, 1) := by decide +kernel
theorem dX11_part_74 : decode cX11_part 74 = .ok (.ifCond .eq 17, 3) := by decide +kernel
theorem dX11_part_77 : decode cX11_part 77 = .ok (.aload_n 0, 1) := by decide +kernel
theorem dX11_part_78 : decode cX11_part 78 = .ok (.iload_n 1, 1) := by decide +kernel
theorem dX11_part_79 : decode cX11_part 79 = .ok (.iload_n 3, 1) := by decide +kernel
theorem dX11_part_80 : decode cX11_part 80 = .ok (.invokevirtual 226, 3) := by decide +kernel
theorem dX11_part_83 : decode cX11_part 83 = .ok (.ifCond .ne 6, 3) := by decide +kernel
theorem dX11_part_86 : decode cX11_part 86 = .ok (.goto 5, 3) := by decide +kernel
theorem dX11_part_89 : decode cX11_part 89 = .ok (.iload_n 3, 1) := by decide +kernel
theorem dX11_part_90 : decode cX11_part 90 = .ok (.istore_n 2, 1) := by decide +kernel
theorem dX11_part_91 : decode cX11_part 91 = .ok (.iinc 3 1, 3) := by decide +kernel
theorem dX11_part_94 : decode cX11_part 94 = .ok (.goto (-71), 3) := by decide +kernel
theorem dX11_part_97 : decode cX11_part 97 = .ok (.iload_n 2, 1) := by decide +kernel
theorem dX11_part_98 : decode cX11_part 98 = .ok (.ifCond .ne 5, 3) := by decide +kernel
theorem dX11_part_101 : decode cX11_part 101 = .ok (.iconst 0, 1) := by decide +kernel
theorem dX11_part_102 : decode cX11_part 102 = .ok (.ireturn, 1) := by decide +kernel
theorem dX11_part_103 : decode cX11_part 103 = .ok (.aload_n 0, 1) := by decide +kernel
theorem dX11_part_104 : decode cX11_part 104 = .ok (.invokevirtual 175, 3) := by decide +kernel
theorem dX11_part_107 : decode cX11_part 107 = .ok (.iconst 0, 1) := by decide +kernel
theorem dX11_part_108 : decode cX11_part 108 = .ok (.istore_n 3, 1) := by decide +kernel
theorem dX11_part_109 : decode cX11_part 109 = .ok (.iconst 0, 1) := by decide +kernel
theorem dX11_part_110 : decode cX11_part 110 = .ok (.istore 4, 2) := by decide +kernel
theorem dX11_part_112 : decode cX11_part 112 = .ok (.iload 4, 2) := by decide +kernel
theorem dX11_part_114 : decode cX11_part 114 = .ok (.aload_n 0, 1) := by decide +kernel
theorem dX11_part_115 : decode cX11_part 115 = .ok (.getfield 38, 3) := by decide +kernel
theorem dX11_part_118 : decode cX11_part 118 = .ok (.iload_n 1, 1) := by decide +kernel
theorem dX11_part_119 : decode cX11_part 119 = .ok (.iaload, 1) := by decide +kernel
theorem dX11_part_120 : decode cX11_part 120 = .ok (.if_icmp .ge 48, 3) := by decide +kernel
theorem dX11_part_123 : decode cX11_part 123 = .ok (.iload_n 2, 1) := by decide +kernel
theorem dX11_part_124 : decode cX11_part 124 = .ok (.iload 4, 2) := by decide +kernel
theorem dX11_part_126 : decode cX11_part 126 = .ok (.ishr, 1) := by decide +kernel
theorem dX11_part_127 : decode cX11_part 127 = .ok (.iconst 1, 1) := by decide +kernel
theorem dX11_part_128 : decode cX11_part 128 = .ok (.iand, 1) := by decide +kernel
theorem dX11_part_129 : decode cX11_part 129 = .ok (.iconst 1, 1) := by decide +kernel
theorem dX11_part_130 : decode cX11_part 130 = .ok (.if_icmp .ne 6, 3) := by decide +kernel
theorem dX11_part_133 : decode cX11_part 133 = .ok (.goto 29, 3) := by decide +kernel
theorem dX11_part_136 : decode cX11_part 136 = .ok (.aload_n 0, 1) := by decide +kernel
theorem dX11_part_137 : decode cX11_part 137 = .ok (.getfield 41, 3) := by decide +kernel
theorem dX11_part_140 : decode cX11_part 140 = .ok (.bipush 8, 2) := by decide +kernel
theorem dX11_part_142 : decode cX11_part 142 = .ok (.iload_n 1, 1) := by decide +kernel
theorem dX11_part_143 : decode cX11_part 143 = .ok (.imul, 1) := by decide +kernel
theorem dX11_part_144 : decode cX11_part 144 = .ok (.iload_n 3, 1) := by decide +kernel
theorem dX11_part_145 : decode cX11_part 145 = .ok (.iadd, 1) := by decide +kernel
theorem dX11_part_146 : decode cX11_part 146 = .ok (.aload_n 0, 1) := by decide +kernel
theorem dX11_part_147 : decode cX11_part 147 = .ok (.getfield 41, 3) := by decide +kernel
theorem dX11_part_150 : decode cX11_part 150 = .ok (.bipush 8, 2) := by decide +kernel
theorem dX11_part_152 : decode cX11_part 152 = .ok (.iload_n 1, 1) := by decide +kernel
theorem dX11_part_153 : decode cX11_part 153 = .ok (.imul, 1) := by decide +kernel
theorem dX11_part_154 : decode cX11_part 154 = .ok (.iload 4, 2) := by decide +kernel
theorem dX11_part_156 : decode cX11_part 156 = .ok (.iadd, 1) := by decide +kernel
theorem dX11_part_157 : decode cX11_part 157 = .ok (.iaload, 1) := by decide +kernel
theorem dX11_part_158 : decode cX11_part 158 = .ok (.iastore, 1) := by decide +kernel
theorem dX11_part_159 : decode cX11_part 159 = .ok (.iinc 3 1, 3) := by decide +kernel
theorem dX11_part_162 : decode cX11_part 162 = .ok (.iinc 4 1, 3) := by decide +kernel
theorem dX11_part_165 : decode cX11_part 165 = .ok (.goto (-53), 3) := by decide +kernel
theorem dX11_part_168 : decode cX11_part 168 = .ok (.aload_n 0, 1) := by decide +kernel
theorem dX11_part_169 : decode cX11_part 169 = .ok (.getfield 38, 3) := by decide +kernel
theorem dX11_part_172 : decode cX11_part 172 = .ok (.iload_n 1, 1) := by decide +kernel
theorem dX11_part_173 : decode cX11_part 173 = .ok (.iload_n 3, 1) := by decide +kernel
theorem dX11_part_174 : decode cX11_part 174 = .ok (.iastore, 1) := by decide +kernel
theorem dX11_part_175 : decode cX11_part 175 = .ok (.aload_n 0, 1) := by decide +kernel
theorem dX11_part_176 : decode cX11_part 176 = .ok (.invokevirtual 172, 3) := by decide +kernel
theorem dX11_part_179 : decode cX11_part 179 = .ok (.iload_n 2, 1) := by decide +kernel
theorem dX11_part_180 : decode cX11_part 180 = .ok (.invokestatic 223, 3) := by decide +kernel
theorem dX11_part_183 : decode cX11_part 183 = .ok (.ireturn, 1) := by decide +kernel
theorem dX11_areSame_0 : decode cX11_areSame 0 = .ok (.aload_n 0, 1) := by decide +kernel
theorem dX11_areSame_1 : decode cX11_areSame 1 = .ok (.iload_n 1, 1) := by decide +kernel
theorem dX11_areSame_2 : decode cX11_areSame 2 = .ok (.invokevirtual 127, 3) := by decide +kernel
theorem dX11_areSame_5 : decode cX11_areSame 5 = .ok (.iconst 0, 1) := by decide +kernel
theorem dX11_areSame_6 : decode cX11_areSame 6 = .ok (.istore_n 3, 1) := by decide +kernel
theorem dX11_areSame_7 : decode cX11_areSame 7 = .ok (.iload_n 3, 1) := by decide +kernel
theorem dX11_areSame_8 : decode cX11_areSame 8 = .ok (.aload_n 0, 1) := by decide +kernel
theorem dX11_areSame_9 : decode cX11_areSame 9 = .ok (.getfield 38, 3) := by decide +kernel
theorem dX11_areSame_12 : decode cX11_areSame 12 = .ok (.iload_n 2, 1) := by decide +kernel
theorem dX11_areSame_13 : decode cX11_areSame 13 = .ok (.iaload, 1) := by decide +kernel
theorem dX11_areSame_14 : decode cX11_areSame 14 = .ok (.if_icmp .ge 24, 3) := by decide +kernel
theorem dX11_areSame_17 : decode cX11_areSame 17 = .ok (.aload_n 0, 1) := by decide +kernel
theorem dX11_areSame_18 : decode cX11_areSame 18 = .ok (.aload_n 0, 1) := by decide +kernel
theorem dX11_areSame_19 : decode cX11_areSame 19 = .ok (.getfield 41, 3) := by decide +kernel
theorem dX11_areSame_22 : decode cX11_areSame 22 = .ok (.bipush 8, 2) := by decide +kernel
theorem dX11_areSame_24 : decode cX11_areSame 24 = .ok (.iload_n 2, 1) := by decide +kernel
theorem dX11_areSame_25 : decode cX11_areSame 25 = .ok (.imul, 1) := by decide +kernel
theorem dX11_areSame_26 : decode cX11_areSame 26 = .ok (.iload_n 3, 1) := by decide +kernel
theorem dX11_areSame_27 : decode cX11_areSame 27 = .ok (.iadd, 1) := by decide +kernel
theorem dX11_areSame_28 : decode cX11_areSame 28 = .ok (.iaload, 1) := by decide +kernel
theorem dX11_areSame_29 : decode cX11_areSame 29 = .ok (.invokevirtual 163, 3) := by decide +kernel
theorem dX11_areSame_32 : decode cX11_areSame 32 = .ok (.iinc 3 1, 3) := by decide +kernel
theorem dX11_areSame_35 : decode cX11_areSame 35 = .ok (.goto (-28), 3) := by decide +kernel
theorem dX11_areSame_38 : decode cX11_areSame 38 = .ok (.aload_n 0, 1) := by decide +kernel
theorem dX11_areSame_39 : decode cX11_areSame 39 = .ok (.invokevirtual 131, 3) := by decide +kernel
theorem dX11_areSame_42 : decode cX11_areSame 42 = .ok (.ireturn, 1) := by decide +kernel
theorem dX11_same_0 : decode cX11_same 0 = .ok (.aload_n 0, 1) := by decide +kernel
theorem dX11_same_1 : decode cX11_same 1 = .ok (.iload_n 1, 1) := by decide +kernel
theorem dX11_same_2 : decode cX11_same 2 = .ok (.invokevirtual 185, 3) := by decide +kernel
theorem dX11_same_5 : decode cX11_same 5 = .ok (.ifCond .eq 11, 3) := by decide +kernel
theorem dX11_same_8 : decode cX11_same 8 = .ok (.aload_n 0, 1) := by decide +kernel
theorem dX11_same_9 : decode cX11_same 9 = .ok (.iload_n 2, 1) := by decide +kernel
theorem dX11_same_10 : decode cX11_same 10 = .ok (.invokevirtual 185, 3) := by decide +kernel
theorem dX11_same_13 : decode cX11_same 13 = .ok (.ifCond .ne 5, 3) := by decide +kernel
theorem dX11_same_16 : decode cX11_same 16 = .ok (.iconst (-1), 1) := by decide +kernel
theorem dX11_same_17 : decode cX11_same 17 = .ok (.ireturn, 1) := by decide +kernel
theorem dX11_same_18 : decode cX11_same 18 = .ok (.iload_n 1, 1) := by decide +kernel
theorem dX11_same_19 : decode cX11_same 19 = .ok (.iload_n 2, 1) := by decide +kernel
theorem dX11_same_20 : decode cX11_same 20 = .ok (.if_icmp .ne 6, 3) := by decide +kernel
theorem dX11_same_23 : decode cX11_same 23 = .ok (.bipush (-2), 2) := by decide +kernel
theorem dX11_same_25 : decode cX11_same 25 = .ok (.ireturn, 1) := by decide +kernel
theorem dX11_same_26 : decode cX11_same 26 = .ok (.aload_n 0, 1) := by decide +kernel
theorem dX11_same_27 : decode cX11_same 27 = .ok (.iload_n 1, 1) := by decide +kernel
theorem dX11_same_28 : decode cX11_same 28 = .ok (.iload_n 2, 1) := by decide +kernel
theorem dX11_same_29 : decode cX11_same 29 = .ok (.invokevirtual 229, 3) := by decide +kernel
theorem dX11_same_32 : decode cX11_same 32 = .ok (.ifCond .eq 7, 3) := by decide +kernel
theorem dX11_same_35 : decode cX11_same 35 = .ok (.iconst 1, 1) := by decide +kernel
theorem dX11_same_36 : decode cX11_same 36 = .ok (.goto 4, 3) := by decide +kernel
theorem dX11_same_39 : decode cX11_same 39 = .ok (.iconst 0, 1) := by decide +kernel
theorem dX11_same_40 : decode cX11_same 40 = .ok (.ireturn, 1) := by decide +kernel
theorem dX11_merge_0 : decode cX11_merge 0 = .ok (.aload_n 0, 1) := by decide +kernel
theorem dX11_merge_1 : decode cX11_merge 1 = .ok (.iload_n 1, 1) := by decide +kernel
theorem dX11_merge_2 : decode cX11_merge 2 = .ok (.invokevirtual 185, 3) := by decide +kernel
theorem dX11_merge_5 : decode cX11_merge 5 = .ok (.ifCond .eq 11, 3) := by decide +kernel
theorem dX11_merge_8 : decode cX11_merge 8 = .ok (.aload_n 0, 1) := by decide +kernel
theorem dX11_merge_9 : decode cX11_merge 9 = .ok (.iload_n 2, 1) := by decide +kernel
theorem dX11_merge_10 : decode cX11_merge 10 = .ok (.invokevirtual 185, 3) := by decide +kernel
theorem dX11_merge_13 : decode cX11_merge 13 = .ok (.ifCond .ne 5, 3) := by decide +kernel
theorem dX11_merge_16 : decode cX11_merge 16 = .ok (.iconst (-1), 1) := by decide +kernel
theorem dX11_merge_17 : decode cX11_merge 17 = .ok (.ireturn, 1) := by decide +kernel
theorem dX11_merge_18 : decode cX11_merge 18 = .ok (.iload_n 1, 1) := by decide +kernel
theorem dX11_merge_19 : decode cX11_merge 19 = .ok (.iload_n 2, 1) := by decide +kernel
theorem dX11_merge_20 : decode cX11_merge 20 = .ok (.if_icmp .ne 6, 3) := by decide +kernel
theorem dX11_merge_23 : decode cX11_merge 23 = .ok (.bipush (-2), 2) := by decide +kernel
theorem dX11_merge_25 : decode cX11_merge 25 = .ok (.ireturn, 1) := by decide +kernel
theorem dX11_merge_26 : decode cX11_merge 26 = .ok (.aload_n 0, 1) := by decide +kernel
theorem dX11_merge_27 : decode cX11_merge 27 = .ok (.iload_n 1, 1) := by decide +kernel
theorem dX11_merge_28 : decode cX11_merge 28 = .ok (.iload_n 2, 1) := by decide +kernel
theorem dX11_merge_29 : decode cX11_merge 29 = .ok (.invokevirtual 229, 3) := by decide +kernel
theorem dX11_merge_32 : decode cX11_merge 32 = .ok (.ifCond .ne 6, 3) := by decide +kernel
theorem dX11_merge_35 : decode cX11_merge 35 = .ok (.bipush (-3), 2) := by decide +kernel
theorem dX11_merge_37 : decode cX11_merge 37 = .ok (.ireturn, 1) := by decide +kernel
theorem dX11_merge_38 : decode cX11_merge 38 = .ok (.aload_n 0, 1) := by decide +kernel
theorem dX11_merge_39 : decode cX11_merge 39 = .ok (.getfield 38, 3) := by decide +kernel
theorem dX11_merge_42 : decode cX11_merge 42 = .ok (.iload_n 1, 1) := by decide +kernel
theorem dX11_merge_43 : decode cX11_merge 43 = .ok (.iaload, 1) := by decide +kernel
theorem dX11_merge_44 : decode cX11_merge 44 = .ok (.aload_n 0, 1) := by decide +kernel
theorem dX11_merge_45 : decode cX11_merge 45 = .ok (.getfield 38, 3) := by decide +kernel
theorem dX11_merge_48 : decode cX11_merge 48 = .ok (.iload_n 2, 1) := by decide +kernel
theorem dX11_merge_49 : decode cX11_merge 49 = .ok (.iaload, 1) := by decide +kernel
theorem dX11_merge_50 : decode cX11_merge 50 = .ok (.iadd, 1) := by decide +kernel
theorem dX11_merge_51 : decode cX11_merge 51 = .ok (.bipush 8, 2) := by decide +kernel
theorem dX11_merge_53 : decode cX11_merge 53 = .ok (.if_icmp .le 6, 3) := by decide +kernel
theorem dX11_merge_56 : decode cX11_merge 56 = .ok (.bipush (-4), 2) := by decide +kernel
theorem dX11_merge_58 : decode cX11_merge 58 = .ok (.ireturn, 1) := by decide +kernel
theorem dX11_merge_59 : decode cX11_merge 59 = .ok (.aload_n 0, 1) := by decide +kernel
theorem dX11_merge_60 : decode cX11_merge 60 = .ok (.invokevirtual 175, 3) := by decide +kernel
theorem dX11_merge_63 : decode cX11_merge 63 = .ok (.iload_n 1, 1) := by decide +kernel
theorem dX11_merge_64 : decode cX11_merge 64 = .ok (.iload_n 2, 1) := by decide +kernel
theorem dX11_merge_65 : decode cX11_merge 65 = .ok (.invokestatic 108, 3) := by decide +kernel
theorem dX11_merge_68 : decode cX11_merge 68 = .ok (.istore_n 3, 1) := by decide +kernel
theorem dX11_merge_69 : decode cX11_merge 69 = .ok (.iload_n 1, 1) := by decide +kernel
theorem dX11_merge_70 : decode cX11_merge 70 = .ok (.iload_n 2, 1) := by decide +kernel
theorem dX11_merge_71 : decode cX11_merge 71 = .ok (.invokestatic 103, 3) := by decide +kernel
theorem dX11_merge_74 : decode cX11_merge 74 = .ok (.istore 4, 2) := by decide +kernel
theorem dX11_merge_76 : decode cX11_merge 76 = .ok (.iconst 0, 1) := by decide +kernel
theorem dX11_merge_77 : decode cX11_merge 77 = .ok (.istore 5, 2) := by decide +kernel
theorem dX11_merge_79 : decode cX11_merge 79 = .ok (.iload 5, 2) := by decide +kernel
theorem dX11_merge_81 : decode cX11_merge 81 = .ok (.aload_n 0, 1) := by decide +kernel
theorem dX11_merge_82 : decode cX11_merge 82 = .ok (.getfield 38, 3) := by decide +kernel
theorem dX11_merge_85 : decode cX11_merge 85 = .ok (.iload 4, 2) := by decide +kernel
theorem dX11_merge_87 : decode cX11_merge 87 = .ok (.iaload, 1) := by decide +kernel
theorem dX11_merge_88 : decode cX11_merge 88 = .ok (.if_icmp .ge 27, 3) := by decide +kernel
theorem dX11_merge_91 : decode cX11_merge 91 = .ok (.aload_n 0, 1) := by decide +kernel
theorem dX11_merge_92 : decode cX11_merge 92 = .ok (.iload_n 3, 1) := by decide +kernel
theorem dX11_merge_93 : decode cX11_merge 93 = .ok (.aload_n 0, 1) := by decide +kernel
theorem dX11_merge_94 : decode cX11_merge 94 = .ok (.getfield 41, 3) := by decide +kernel
theorem dX11_merge_97 : decode cX11_merge 97 = .ok (.bipush 8, 2) := by decide +kernel
theorem dX11_merge_99 : decode cX11_merge 99 = .ok (.iload 4, 2) := by decide +kernel
theorem dX11_merge_101 : decode cX11_merge 101 = .ok (.imul, 1) := by decide +kernel
theorem dX11_merge_102 : decode cX11_merge 102 = .ok (.iload 5, 2) := by decide +kernel
theorem dX11_merge_104 : decode cX11_merge 104 = .ok (.iadd, 1) := by decide +kernel
theorem dX11_merge_105 : decode cX11_merge 105 = .ok (.iaload, 1) := by decide +kernel
theorem dX11_merge_106 : decode cX11_merge 106 = .ok (.invokevirtual 181, 3) := by decide +kernel
theorem dX11_merge_109 : decode cX11_merge 109 = .ok (.iinc 5 1, 3) := by decide +kernel
theorem dX11_merge_112 : decode cX11_merge 112 = .ok (.goto (-33), 3) := by decide +kernel
theorem dX11_merge_115 : decode cX11_merge 115 = .ok (.aload_n 0, 1) := by decide +kernel
theorem dX11_merge_116 : decode cX11_merge 116 = .ok (.getfield 38, 3) := by decide +kernel
theorem dX11_merge_119 : decode cX11_merge 119 = .ok (.iload 4, 2) := by decide +kernel
theorem dX11_merge_121 : decode cX11_merge 121 = .ok (.iconst 0, 1) := by decide +kernel
theorem dX11_merge_122 : decode cX11_merge 122 = .ok (.iastore, 1) := by decide +kernel
theorem dX11_merge_123 : decode cX11_merge 123 = .ok (.aload_n 0, 1) := by decide +kernel
theorem dX11_merge_124 : decode cX11_merge 124 = .ok (.getfield 44, 3) := by decide +kernel
theorem dX11_merge_127 : decode cX11_merge 127 = .ok (.iload 4, 2) := by decide +kernel
theorem dX11_merge_129 : decode cX11_merge 129 = .ok (.iconst 1, 1) := by decide +kernel
theorem dX11_merge_130 : decode cX11_merge 130 = .ok (.bastore, 1) := by decide +kernel
theorem dX11_merge_131 : decode cX11_merge 131 = .ok (.iload_n 3, 1) := by decide +kernel
theorem dX11_merge_132 : decode cX11_merge 132 = .ok (.ireturn, 1) := by decide +kernel
theorem dX11_count_0 : decode cX11_count 0 = .ok (.iconst 0, 1) := by decide +kernel
theorem dX11_count_1 : decode cX11_count 1 = .ok (.istore_n 2, 1) := by decide +kernel
theorem dX11_count_2 : decode cX11_count 2 = .ok (.iload_n 1, 1) := by decide +kernel
theorem dX11_count_3 : decode cX11_count 3 = .ok (.tableswitch 146 0 7 #[45, 50, 86, 121, 126, 131, 136, 141], 45) := by decide +kernel
theorem dX11_count_48 : decode cX11_count 48 = .ok (.aload_n 0, 1) := by decide +kernel
theorem dX11_count_49 : decode cX11_count 49 = .ok (.getfield 75, 3) := by decide +kernel
theorem dX11_count_52 : decode cX11_count 52 = .ok (.ireturn, 1) := by decide +kernel
theorem dX11_count_53 : decode cX11_count 53 = .ok (.iconst 0, 1) := by decide +kernel
theorem dX11_count_54 : decode cX11_count 54 = .ok (.istore_n 3, 1) := by decide +kernel
theorem dX11_count_55 : decode cX11_count 55 = .ok (.iload_n 3, 1) := by decide +kernel
theorem dX11_count_56 : decode cX11_count 56 = .ok (.aload_n 0, 1) := by decide +kernel
theorem dX11_count_57 : decode cX11_count 57 = .ok (.getfield 75, 3) := by decide +kernel
theorem dX11_count_60 : decode cX11_count 60 = .ok (.if_icmp .ge 27, 3) := by decide +kernel
theorem dX11_count_63 : decode cX11_count 63 = .ok (.iload_n 2, 1) := by decide +kernel
theorem dX11_count_64 : decode cX11_count 64 = .ok (.aload_n 0, 1) := by decide +kernel
theorem dX11_count_65 : decode cX11_count 65 = .ok (.getfield 32, 3) := by decide +kernel
theorem dX11_count_68 : decode cX11_count 68 = .ok (.iload_n 3, 1) := by decide +kernel
theorem dX11_count_69 : decode cX11_count 69 = .ok (.iaload, 1) := by decide +kernel
theorem dX11_count_70 : decode cX11_count 70 = .ok (.iconst (-1), 1) := by decide +kernel
theorem dX11_count_71 : decode cX11_count 71 = .ok (.if_icmp .ne 7, 3) := by decide +kernel
theorem dX11_count_74 : decode cX11_count 74 = .ok (.iconst 1, 1) := by decide +kernel
theorem dX11_count_75 : decode cX11_count 75 = .ok (.goto 4, 3) := by decide +kernel
theorem dX11_count_78 : decode cX11_count 78 = .ok (.iconst 0, 1) := by decide +kernel
theorem dX11_count_79 : decode cX11_count 79 = .ok (.iadd, 1) := by decide +kernel
theorem dX11_count_80 : decode cX11_count 80 = .ok (.istore_n 2, 1) := by decide +kernel
theorem dX11_count_81 : decode cX11_count 81 = .ok (.iinc 3 1, 3) := by decide +kernel
theorem dX11_count_84 : decode cX11_count 84 = .ok (.goto (-29), 3) := by decide +kernel
theorem dX11_count_87 : decode cX11_count 87 = .ok (.iload_n 2, 1) := by decide +kernel
theorem dX11_count_88 : decode cX11_count 88 = .ok (.ireturn, 1) := by decide +kernel
theorem dX11_count_89 : decode cX11_count 89 = .ok (.iconst 0, 1) := by decide +kernel
theorem dX11_count_90 : decode cX11_count 90 = .ok (.istore_n 3, 1) := by decide +kernel
theorem dX11_count_91 : decode cX11_count 91 = .ok (.iload_n 3, 1) := by decide +kernel
theorem dX11_count_92 : decode cX11_count 92 = .ok (.aload_n 0, 1) := by decide +kernel
theorem dX11_count_93 : decode cX11_count 93 = .ok (.getfield 82, 3) := by decide +kernel
theorem dX11_count_96 : decode cX11_count 96 = .ok (.if_icmp .ge 26, 3) := by decide +kernel
theorem dX11_count_99 : decode cX11_count 99 = .ok (.iload_n 2, 1) := by decide +kernel
theorem dX11_count_100 : decode cX11_count 100 = .ok (.aload_n 0, 1) := by decide +kernel
theorem dX11_count_101 : decode cX11_count 101 = .ok (.getfield 44, 3) := by decide +kernel
theorem dX11_count_104 : decode cX11_count 104 = .ok (.iload_n 3, 1) := by decide +kernel
theorem dX11_count_105 : decode cX11_count 105 = .ok (.baload, 1) := by decide +kernel
theorem dX11_count_106 : decode cX11_count 106 = .ok (.ifCond .eq 7, 3) := by decide +kernel
theorem dX11_count_109 : decode cX11_count 109 = .ok (.iconst 0, 1) := by decide +kernel
theorem dX11_count_110 : decode cX11_count 110 = .ok (.goto 4, 3) := by decide +kernel
theorem dX11_count_113 : decode cX11_count 113 = .ok (.iconst 1, 1) := by decide +kernel
theorem dX11_count_114 : decode cX11_count 114 = .ok (.iadd, 1) := by decide +kernel
theorem dX11_count_115 : decode cX11_count 115 = .ok (.istore_n 2, 1) := by decide +kernel
theorem dX11_count_116 : decode cX11_count 116 = .ok (.iinc 3 1, 3) := by decide +kernel
theorem dX11_count_119 : decode cX11_count 119 = .ok (.goto (-28), 3) := by decide +kernel
theorem dX11_count_122 : decode cX11_count 122 = .ok (.iload_n 2, 1) := by decide +kernel
theorem dX11_count_123 : decode cX11_count 123 = .ok (.ireturn, 1) := by decide +kernel
theorem dX11_count_124 : decode cX11_count 124 = .ok (.aload_n 0, 1) := by decide +kernel
theorem dX11_count_125 : decode cX11_count 125 = .ok (.getfield 82, 3) := by decide +kernel
theorem dX11_count_128 : decode cX11_count 128 = .ok (.ireturn, 1) := by decide +kernel
theorem dX11_count_129 : decode cX11_count 129 = .ok (.aload_n 0, 1) := by decide +kernel
theorem dX11_count_130 : decode cX11_count 130 = .ok (.getfield 7, 3) := by decide +kernel
theorem dX11_count_133 : decode cX11_count 133 = .ok (.ireturn, 1) := by decide +kernel
theorem dX11_count_134 : decode cX11_count 134 = .ok (.aload_n 0, 1) := by decide +kernel
theorem dX11_count_135 : decode cX11_count 135 = .ok (.getfield 13, 3) := by decide +kernel
theorem dX11_count_138 : decode cX11_count 138 = .ok (.ireturn, 1) := by decide +kernel
theorem dX11_count_139 : decode cX11_count 139 = .ok (.aload_n 0, 1) := by decide +kernel
theorem dX11_count_140 : decode cX11_count 140 = .ok (.getfield 16, 3) := by decide +kernel
theorem dX11_count_143 : decode cX11_count 143 = .ok (.ireturn, 1) := by decide +kernel
theorem dX11_count_144 : decode cX11_count 144 = .ok (.aload_n 0, 1) := by decide +kernel
theorem dX11_count_145 : decode cX11_count 145 = .ok (.getfield 85, 3) := by decide +kernel
theorem dX11_count_148 : decode cX11_count 148 = .ok (.ireturn, 1) := by decide +kernel
theorem dX11_count_149 : decode cX11_count 149 = .ok (.iconst (-1), 1) := by decide +kernel
theorem dX11_count_150 : decode cX11_count 150 = .ok (.ireturn, 1) := by decide +kernel
