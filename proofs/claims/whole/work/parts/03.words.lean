theorem w1_0 : Cond.initialized RL ∈ g_tb := tb1 0 rfl rfl
theorem w1_1 : Cond.initialized RX10 ∈ g_tb := tb1 1 rfl rfl
theorem w1_2 : Cond.initialized RX7 ∈ g_tb := tb1 2 rfl rfl
theorem w1_3 : Cond.initialized RX4 ∈ g_tb := tb1 3 rfl rfl
theorem w1_4 : Cond.initialized RX2 ∈ g_tb := tb1 4 rfl rfl
theorem w1_5 : Cond.initialized RX5 ∈ g_tb := tb1 5 rfl rfl
theorem w1_6 : Cond.initialized RX6 ∈ g_tb := tb1 6 rfl rfl
theorem w1_7 : Cond.initialized RX9 ∈ g_tb := tb1 7 rfl rfl
theorem w1_8 : Cond.initialized RX8 ∈ g_tb := tb1 8 rfl rfl
theorem w1_9 : Cond.initialized RX1 ∈ g_tb := tb1 9 rfl rfl
theorem w1_10 : Cond.initialized RX0 ∈ g_tb := tb1 10 rfl rfl
theorem w1_11 : Cond.initialized RX3 ∈ g_tb := tb1 11 rfl rfl
theorem w1_12 : Cond.initialized RX11 ∈ g_tb := tb1 12 rfl rfl
theorem w1_13 : Cond.initialized RJ9 ∈ g_tb := tb1 13 rfl rfl
theorem w1_14 : Cond.initialized RJ6 ∈ g_tb := tb1 14 rfl rfl
theorem w1_15 : Cond.classLink RL 7 RX10 ∈ g_tb := tb1 15 rfl rfl
theorem w1_16 : Cond.instantiable RX10 8 ∈ g_tb := tb1 16 rfl rfl
theorem w1_17 : Cond.methodLink RL 9 yX10_init ∈ g_tb := tb1 17 rfl rfl
theorem w1_18 : Cond.instanceMethod yX10_init ∈ g_tb := tb1 18 rfl rfl
theorem w1_19 : Cond.code yX10_init cX10_init 1 none ∈ g_tb := tb1 19 rfl rfl
theorem w1_20 : Cond.methodLink RX10 5 objectInit ∈ g_tb := tb1 20 rfl rfl
theorem w1_21 : Cond.instanceMethod objectInit ∈ g_tb := tb1 21 rfl rfl
theorem w1_22 : Cond.code objectInit ⟨#[0xb1]⟩ 1 none ∈ g_tb := tb1 22 rfl rfl
theorem w1_23 : Cond.classLink RX10 11 RX7 ∈ g_tb := tb1 23 rfl rfl
theorem w1_24 : Cond.instantiable RX7 6 ∈ g_tb := tb1 24 rfl rfl
theorem w1_25 : Cond.methodLinkNest RX10 13 yX7_init RX10 ∈ lw_tbl := tbl1 25 rfl
theorem w1_26 : Cond.instanceMethod yX7_init ∈ g_tb := tb1 26 rfl rfl
theorem w1_27 : Cond.code yX7_init cX7_init 1 none ∈ g_tb := tb1 27 rfl rfl
theorem w1_28 : Cond.methodLink RX7 3 objectInit ∈ g_tb := tb1 28 rfl rfl
theorem w1_29 : Cond.fieldLink RX7 9 "NightDots$Sky" "hour" "[I" ∈ g_tb := tb1 29 rfl rfl
theorem w1_30 : Cond.fieldLink RX2 17 "NightDots$Sky" "hour" "[I" ∈ g_tb := tb1 30 rfl rfl
theorem w1_31 : Cond.fieldLink RX3 27 "NightDots$Sky" "hour" "[I" ∈ g_tb := tb1 31 rfl rfl
theorem w1_32 : Cond.fieldLink RX4 37 "NightDots$Sky" "hour" "[I" ∈ g_tb := tb1 32 rfl rfl
theorem w1_33 : Cond.fieldLink RX10 103 "NightDots$Sky" "hour" "[I" ∈ g_tb := tb1 33 rfl rfl
theorem w1_34 : Cond.fieldLink RX7 15 "NightDots$Sky" "x" "[I" ∈ g_tb := tb1 34 rfl rfl
theorem w1_35 : Cond.fieldLink RX2 31 "NightDots$Sky" "x" "[I" ∈ g_tb := tb1 35 rfl rfl
theorem w1_36 : Cond.fieldLink RX10 107 "NightDots$Sky" "x" "[I" ∈ g_tb := tb1 36 rfl rfl
theorem w1_37 : Cond.fieldLink RX7 18 "NightDots$Sky" "y" "[I" ∈ g_tb := tb1 37 rfl rfl
theorem w1_38 : Cond.fieldLink RX2 39 "NightDots$Sky" "y" "[I" ∈ g_tb := tb1 38 rfl rfl
theorem w1_39 : Cond.fieldLink RX10 110 "NightDots$Sky" "y" "[I" ∈ g_tb := tb1 39 rfl rfl
theorem w1_40 : Cond.fieldLink RX7 21 "NightDots$Sky" "watcher" "[I" ∈ g_tb := tb1 40 rfl rfl
theorem w1_41 : Cond.fieldLink RX10 113 "NightDots$Sky" "watcher" "[I" ∈ g_tb := tb1 41 rfl rfl
theorem w1_42 : Cond.fieldLink RX7 24 "NightDots$Sky" "path" "[I" ∈ g_tb := tb1 42 rfl rfl
theorem w1_43 : Cond.fieldLink RX10 120 "NightDots$Sky" "path" "[I" ∈ g_tb := tb1 43 rfl rfl
theorem w1_44 : Cond.fieldLink RX7 27 "NightDots$Sky" "size" "I" ∈ g_tb := tb1 44 rfl rfl
theorem w1_45 : Cond.fieldLink RX2 42 "NightDots$Sky" "size" "I" ∈ g_tb := tb1 45 rfl rfl
theorem w1_46 : Cond.fieldLink RX5 67 "NightDots$Sky" "size" "I" ∈ g_tb := tb1 46 rfl rfl
theorem w1_47 : Cond.fieldLink RX10 303 "NightDots$Sky" "size" "I" ∈ g_tb := tb1 47 rfl rfl
theorem w1_61 : Cond.arrayClass .int ∈ g_tb := tb1 61 rfl rfl
theorem w1_62 : Cond.classLink RX10 18 RX4 ∈ g_tb := tb1 62 rfl rfl
theorem w1_63 : Cond.instantiable RX4 5 ∈ g_tb := tb1 63 rfl rfl
theorem w1_64 : Cond.methodLink RX10 20 yX4_init ∈ g_tb := tb1 64 rfl rfl
theorem w1_65 : Cond.instanceMethod yX4_init ∈ g_tb := tb1 65 rfl rfl
theorem w1_66 : Cond.code yX4_init cX4_init 2 none ∈ g_tb := tb1 66 rfl rfl
theorem w1_67 : Cond.methodLink RX4 3 objectInit ∈ g_tb := tb1 67 rfl rfl
theorem w1_68 : Cond.fieldLink RX4 18 "NightDots$Net" "sky" "LNightDots$Sky;" ∈ g_tb := tb1 68 rfl rfl
theorem w1_69 : Cond.fieldLink RX4 9 "NightDots$Net" "grid" "I" ∈ g_tb := tb1 69 rfl rfl
theorem w1_70 : Cond.fieldLink RX10 93 "NightDots$Net" "grid" "I" ∈ g_tb := tb1 70 rfl rfl
theorem w1_71 : Cond.fieldLink RX4 15 "NightDots$Net" "end" "I" ∈ g_tb := tb1 71 rfl rfl
theorem w1_72 : Cond.fieldLink RX10 96 "NightDots$Net" "end" "I" ∈ g_tb := tb1 72 rfl rfl
theorem w1_73 : Cond.fieldLink RX4 51 "NightDots$Net" "least" "I" ∈ g_tb := tb1 73 rfl rfl
theorem w1_74 : Cond.fieldLink RX4 54 "NightDots$Net" "greatest" "I" ∈ g_tb := tb1 74 rfl rfl
theorem w1_86 : Cond.classLink RX10 27 RX2 ∈ g_tb := tb1 86 rfl rfl
theorem w1_87 : Cond.instantiable RX2 4 ∈ g_tb := tb1 87 rfl rfl
theorem w1_88 : Cond.methodLink RX10 29 yX2_init ∈ g_tb := tb1 88 rfl rfl
theorem w1_89 : Cond.instanceMethod yX2_init ∈ g_tb := tb1 89 rfl rfl
theorem w1_90 : Cond.code yX2_init cX2_init 2 none ∈ g_tb := tb1 90 rfl rfl
theorem w1_91 : Cond.methodLink RX2 1 objectInit ∈ g_tb := tb1 91 rfl rfl
theorem w1_92 : Cond.fieldLink RX2 13 "NightDots$BitList" "sky" "LNightDots$Sky;" ∈ g_tb := tb1 92 rfl rfl
theorem w1_93 : Cond.fieldLink RX2 7 "NightDots$BitList" "pace" "I" ∈ g_tb := tb1 93 rfl rfl
theorem w1_94 : Cond.fieldLink RX10 89 "NightDots$BitList" "pace" "I" ∈ g_tb := tb1 94 rfl rfl
theorem w1_95 : Cond.fieldLink RX2 49 "NightDots$BitList" "first" "I" ∈ g_tb := tb1 95 rfl rfl
theorem w1_96 : Cond.fieldLink RX10 130 "NightDots$BitList" "first" "I" ∈ g_tb := tb1 96 rfl rfl
theorem w1_97 : Cond.fieldLink RX2 52 "NightDots$BitList" "second" "I" ∈ g_tb := tb1 97 rfl rfl
theorem w1_98 : Cond.fieldLink RX10 133 "NightDots$BitList" "second" "I" ∈ g_tb := tb1 98 rfl rfl
theorem w1_108 : Cond.classLink RX10 34 RX5 ∈ g_tb := tb1 108 rfl rfl
theorem w1_109 : Cond.instantiable RX5 11 ∈ g_tb := tb1 109 rfl rfl
theorem w1_110 : Cond.methodLink RX10 36 yX5_init ∈ g_tb := tb1 110 rfl rfl
theorem w1_111 : Cond.instanceMethod yX5_init ∈ g_tb := tb1 111 rfl rfl
theorem w1_112 : Cond.code yX5_init cX5_init 4 none ∈ g_tb := tb1 112 rfl rfl
theorem w1_113 : Cond.methodLink RX5 3 objectInit ∈ g_tb := tb1 113 rfl rfl
theorem w1_114 : Cond.classLink RX5 24 RX6 ∈ g_tb := tb1 114 rfl rfl
theorem w1_115 : Cond.instantiable RX6 2 ∈ g_tb := tb1 115 rfl rfl
theorem w1_116 : Cond.methodLinkNest RX5 26 yX6_init RX10 ∈ lw_tbl := tbl1 116 rfl
theorem w1_117 : Cond.instanceMethod yX6_init ∈ g_tb := tb1 117 rfl rfl
theorem w1_118 : Cond.code yX6_init cX6_init 1 none ∈ g_tb := tb1 118 rfl rfl
theorem w1_119 : Cond.methodLink RX6 3 objectInit ∈ g_tb := tb1 119 rfl rfl
theorem w1_120 : Cond.fieldLink RX6 11 "NightDots$Row" "dots" "[I" ∈ g_tb := tb1 120 rfl rfl
theorem w1_121 : Cond.fieldLink RX4 27 "NightDots$Row" "dots" "[I" ∈ g_tb := tb1 121 rfl rfl
theorem w1_122 : Cond.fieldLink RX3 33 "NightDots$Row" "dots" "[I" ∈ g_tb := tb1 122 rfl rfl
theorem w1_123 : Cond.fieldLink RX7 40 "NightDots$Row" "dots" "[I" ∈ g_tb := tb1 123 rfl rfl
theorem w1_124 : Cond.fieldLink RX10 241 "NightDots$Row" "dots" "[I" ∈ g_tb := tb1 124 rfl rfl
theorem w1_125 : Cond.fieldLink RX6 15 "NightDots$Row" "length" "I" ∈ g_tb := tb1 125 rfl rfl
theorem w1_126 : Cond.fieldLink RX3 9 "NightDots$Row" "length" "I" ∈ g_tb := tb1 126 rfl rfl
theorem w1_127 : Cond.fieldLink RX4 22 "NightDots$Row" "length" "I" ∈ g_tb := tb1 127 rfl rfl
theorem w1_128 : Cond.fieldLink RX7 35 "NightDots$Row" "length" "I" ∈ g_tb := tb1 128 rfl rfl
theorem w1_129 : Cond.fieldLink RX10 183 "NightDots$Row" "length" "I" ∈ g_tb := tb1 129 rfl rfl
theorem w1_135 : Cond.fieldLink RX5 31 "NightDots$PairList" "sky" "LNightDots$Sky;" ∈ g_tb := tb1 135 rfl rfl
theorem w1_136 : Cond.fieldLink RX5 35 "NightDots$PairList" "lines" "LNightDots$Net;" ∈ g_tb := tb1 136 rfl rfl
theorem w1_137 : Cond.fieldLink RX5 39 "NightDots$PairList" "twos" "LNightDots$BitList;" ∈ g_tb := tb1 137 rfl rfl
theorem w1_138 : Cond.fieldLink RX5 9 "NightDots$PairList" "one" "[I" ∈ g_tb := tb1 138 rfl rfl
theorem w1_139 : Cond.fieldLink RX10 137 "NightDots$PairList" "one" "[I" ∈ g_tb := tb1 139 rfl rfl
theorem w1_140 : Cond.fieldLink RX5 15 "NightDots$PairList" "other" "[I" ∈ g_tb := tb1 140 rfl rfl
theorem w1_141 : Cond.fieldLink RX10 140 "NightDots$PairList" "other" "[I" ∈ g_tb := tb1 141 rfl rfl
theorem w1_142 : Cond.fieldLink RX5 18 "NightDots$PairList" "first" "[I" ∈ g_tb := tb1 142 rfl rfl
theorem w1_143 : Cond.fieldLink RX5 21 "NightDots$PairList" "second" "[I" ∈ g_tb := tb1 143 rfl rfl
theorem w1_144 : Cond.fieldLink RX5 27 "NightDots$PairList" "four" "LNightDots$Row;" ∈ g_tb := tb1 144 rfl rfl
theorem w1_145 : Cond.fieldLink RX5 53 "NightDots$PairList" "bitsFound" "I" ∈ g_tb := tb1 145 rfl rfl
theorem w1_146 : Cond.fieldLink RX5 57 "NightDots$PairList" "found" "I" ∈ g_tb := tb1 146 rfl rfl
theorem w1_147 : Cond.fieldLink RX5 43 "NightDots$PairList" "isKnown" "Z" ∈ g_tb := tb1 147 rfl rfl
theorem w1_171 : Cond.classLink RX10 43 RX9 ∈ g_tb := tb1 171 rfl rfl
theorem w1_172 : Cond.instantiable RX9 3 ∈ g_tb := tb1 172 rfl rfl
theorem w1_173 : Cond.methodLink RX10 45 yX9_init ∈ g_tb := tb1 173 rfl rfl
theorem w1_174 : Cond.instanceMethod yX9_init ∈ g_tb := tb1 174 rfl rfl
theorem w1_175 : Cond.code yX9_init cX9_init 3 none ∈ g_tb := tb1 175 rfl rfl
theorem w1_176 : Cond.methodLink RX9 3 objectInit ∈ g_tb := tb1 176 rfl rfl
theorem w1_177 : Cond.classLink RX9 9 RX8 ∈ g_tb := tb1 177 rfl rfl
theorem w1_178 : Cond.arrayOver (.object "NightDots$Wanderer") ∈ lw_tbl := tbl1 178 rfl
theorem w1_179 : Cond.instantiable RX8 3 ∈ g_tb := tb1 179 rfl rfl
theorem w1_180 : Cond.methodLinkNest RX9 21 yX8_init RX10 ∈ lw_tbl := tbl1 180 rfl
theorem w1_181 : Cond.instanceMethod yX8_init ∈ g_tb := tb1 181 rfl rfl
theorem w1_182 : Cond.code yX8_init cX8_init 1 none ∈ g_tb := tb1 182 rfl rfl
theorem w1_183 : Cond.methodLink RX8 1 objectInit ∈ g_tb := tb1 183 rfl rfl
theorem w1_184 : Cond.classLink RX8 7 RX6 ∈ g_tb := tb1 184 rfl rfl
theorem w1_185 : Cond.methodLinkNest RX8 9 yX6_init RX10 ∈ lw_tbl := tbl1 185 rfl
theorem w1_186 : Cond.fieldLink RX9 30 "NightDots$Wanderer" "name" "I" ∈ g_tb := tb1 186 rfl rfl
theorem w1_187 : Cond.fieldLink RX10 192 "NightDots$Wanderer" "name" "I" ∈ g_tb := tb1 187 rfl rfl
theorem w1_188 : Cond.fieldLink RX9 26 "NightDots$Wanderer" "gone" "Z" ∈ g_tb := tb1 188 rfl rfl
theorem w1_189 : Cond.fieldLink RX10 195 "NightDots$Wanderer" "gone" "Z" ∈ g_tb := tb1 189 rfl rfl
theorem w1_190 : Cond.fieldLink RX8 10 "NightDots$Wanderer" "row" "LNightDots$Row;" ∈ g_tb := tb1 190 rfl rfl
theorem w1_191 : Cond.fieldLink RX9 37 "NightDots$Wanderer" "row" "LNightDots$Row;" ∈ g_tb := tb1 191 rfl rfl
theorem w1_192 : Cond.fieldLink RX10 171 "NightDots$Wanderer" "row" "LNightDots$Row;" ∈ g_tb := tb1 192 rfl rfl
theorem w1_200 : Cond.fieldLink RX9 17 "NightDots$Wanderers" "sky" "LNightDots$Sky;" ∈ g_tb := tb1 200 rfl rfl
theorem w1_201 : Cond.fieldLink RX9 11 "NightDots$Wanderers" "list" "[LNightDots$Wanderer;" ∈ g_tb := tb1 201 rfl rfl
theorem w1_202 : Cond.fieldLink RX10 167 "NightDots$Wanderers" "list" "[LNightDots$Wanderer;" ∈ g_tb := tb1 202 rfl rfl
theorem w1_203 : Cond.fieldLink RX9 22 "NightDots$Wanderers" "ever" "I" ∈ g_tb := tb1 203 rfl rfl
theorem w1_204 : Cond.fieldLink RX10 189 "NightDots$Wanderers" "ever" "I" ∈ g_tb := tb1 204 rfl rfl
theorem w1_212 : Cond.classLink RX10 50 RX1 ∈ g_tb := tb1 212 rfl rfl
theorem w1_213 : Cond.instantiable RX1 3 ∈ g_tb := tb1 213 rfl rfl
theorem w1_214 : Cond.methodLink RX10 52 yX1_init ∈ g_tb := tb1 214 rfl rfl
theorem w1_215 : Cond.instanceMethod yX1_init ∈ g_tb := tb1 215 rfl rfl
theorem w1_216 : Cond.code yX1_init cX1_init 2 none ∈ g_tb := tb1 216 rfl rfl
theorem w1_217 : Cond.methodLink RX1 3 objectInit ∈ g_tb := tb1 217 rfl rfl
theorem w1_218 : Cond.classLink RX1 9 RX0 ∈ g_tb := tb1 218 rfl rfl
theorem w1_219 : Cond.arrayOver (.object "NightDots$Act") ∈ lw_tbl := tbl1 219 rfl
theorem w1_220 : Cond.instantiable RX0 4 ∈ g_tb := tb1 220 rfl rfl
theorem w1_221 : Cond.methodLinkNest RX1 17 yX0_init RX10 ∈ lw_tbl := tbl1 221 rfl
theorem w1_222 : Cond.instanceMethod yX0_init ∈ g_tb := tb1 222 rfl rfl
theorem w1_223 : Cond.code yX0_init cX0_init 1 none ∈ g_tb := tb1 223 rfl rfl
theorem w1_224 : Cond.methodLink RX0 1 objectInit ∈ g_tb := tb1 224 rfl rfl
theorem w1_225 : Cond.classLink RX0 7 RX6 ∈ g_tb := tb1 225 rfl rfl
theorem w1_226 : Cond.methodLinkNest RX0 9 yX6_init RX10 ∈ lw_tbl := tbl1 226 rfl
theorem w1_227 : Cond.fieldLink RX1 22 "NightDots$Act" "path" "I" ∈ g_tb := tb1 227 rfl rfl
theorem w1_228 : Cond.fieldLink RX10 285 "NightDots$Act" "path" "I" ∈ g_tb := tb1 228 rfl rfl
theorem w1_229 : Cond.fieldLink RX1 25 "NightDots$Act" "born" "Z" ∈ g_tb := tb1 229 rfl rfl
theorem w1_230 : Cond.fieldLink RX10 294 "NightDots$Act" "born" "Z" ∈ g_tb := tb1 230 rfl rfl
theorem w1_231 : Cond.fieldLink RX1 29 "NightDots$Act" "swallowed" "I" ∈ g_tb := tb1 231 rfl rfl
theorem w1_232 : Cond.fieldLink RX10 276 "NightDots$Act" "swallowed" "I" ∈ g_tb := tb1 232 rfl rfl
theorem w1_233 : Cond.fieldLink RX0 10 "NightDots$Act" "before" "LNightDots$Row;" ∈ g_tb := tb1 233 rfl rfl
theorem w1_234 : Cond.fieldLink RX1 32 "NightDots$Act" "before" "LNightDots$Row;" ∈ g_tb := tb1 234 rfl rfl
theorem w1_235 : Cond.fieldLink RX10 287 "NightDots$Act" "before" "LNightDots$Row;" ∈ g_tb := tb1 235 rfl rfl
theorem w2_5 : Cond.fieldLink RX1 11 "NightDots$Acts" "ring" "[LNightDots$Act;" ∈ g_tb := tb2 5 rfl rfl
theorem w2_6 : Cond.fieldLink RX1 18 "NightDots$Acts" "next" "I" ∈ g_tb := tb2 6 rfl rfl
theorem w2_7 : Cond.fieldLink RX1 42 "NightDots$Acts" "kept" "I" ∈ g_tb := tb2 7 rfl rfl
theorem w2_8 : Cond.fieldLink RX10 300 "NightDots$Acts" "kept" "I" ∈ g_tb := tb2 8 rfl rfl
theorem w2_16 : Cond.classLink RX10 57 RX3 ∈ g_tb := tb2 16 rfl rfl
theorem w2_17 : Cond.instantiable RX3 5 ∈ g_tb := tb2 17 rfl rfl
theorem w2_18 : Cond.methodLinkNest RX10 59 yX3_init RX10 ∈ lw_tbl := tbl2 18 rfl
theorem w2_19 : Cond.instanceMethod yX3_init ∈ g_tb := tb2 19 rfl rfl
theorem w2_20 : Cond.code yX3_init cX3_init 1 none ∈ g_tb := tb2 20 rfl rfl
theorem w2_21 : Cond.methodLink RX3 3 objectInit ∈ g_tb := tb2 21 rfl rfl
theorem w2_22 : Cond.fieldLink RX3 15 "NightDots$Line" "dots" "J" ∈ g_tb := tb2 22 rfl rfl
theorem w2_23 : Cond.fieldLink RX3 21 "NightDots$Line" "hours" "J" ∈ g_tb := tb2 23 rfl rfl
theorem w2_24 : Cond.fieldLink RX3 24 "NightDots$Line" "places" "J" ∈ g_tb := tb2 24 rfl rfl
theorem w2_25 : Cond.fieldLink RX3 39 "NightDots$Line" "speedTop" "J" ∈ g_tb := tb2 25 rfl rfl
theorem w2_26 : Cond.fieldLink RX10 234 "NightDots$Line" "speedTop" "J" ∈ g_tb := tb2 26 rfl rfl
theorem w2_27 : Cond.fieldLink RX3 42 "NightDots$Line" "speedBelow" "J" ∈ g_tb := tb2 27 rfl rfl
theorem w2_28 : Cond.fieldLink RX10 238 "NightDots$Line" "speedBelow" "J" ∈ g_tb := tb2 28 rfl rfl
theorem w2_40 : Cond.classLink RX10 64 RX6 ∈ g_tb := tb2 40 rfl rfl
theorem w2_41 : Cond.methodLinkNest RX10 66 yX6_init RX10 ∈ lw_tbl := tbl2 41 rfl
theorem w2_42 : Cond.fieldLink RX10 14 "NightDots" "sky" "LNightDots$Sky;" ∈ g_tb := tb2 42 rfl rfl
theorem w2_43 : Cond.fieldLink RX10 23 "NightDots" "lines" "LNightDots$Net;" ∈ g_tb := tb2 43 rfl rfl
theorem w2_44 : Cond.fieldLink RX10 30 "NightDots" "twos" "LNightDots$BitList;" ∈ g_tb := tb2 44 rfl rfl
theorem w2_45 : Cond.fieldLink RX10 39 "NightDots" "fours" "LNightDots$PairList;" ∈ g_tb := tb2 45 rfl rfl
theorem w2_46 : Cond.fieldLink RX10 46 "NightDots" "wanderers" "LNightDots$Wanderers;" ∈ g_tb := tb2 46 rfl rfl
theorem w2_47 : Cond.fieldLink RX10 53 "NightDots" "acts" "LNightDots$Acts;" ∈ g_tb := tb2 47 rfl rfl
theorem w2_48 : Cond.fieldLink RX10 60 "NightDots" "line" "LNightDots$Line;" ∈ g_tb := tb2 48 rfl rfl
theorem w2_49 : Cond.fieldLink RX10 67 "NightDots" "group" "LNightDots$Row;" ∈ g_tb := tb2 49 rfl rfl
theorem w2_67 : Cond.methodLink RL 13 yX10_dot ∈ g_tb := tb2 67 rfl rfl
theorem w2_68 : Cond.instanceMethod yX10_dot ∈ g_tb := tb2 68 rfl rfl
theorem w2_69 : Cond.selects RX10 yX10_dot yX10_dot ∈ g_tb := tb2 69 rfl rfl
theorem w2_70 : Cond.code yX10_dot cX10_dot 7 (some .int) ∈ g_tb := tb2 70 rfl rfl
theorem w2_71 : Cond.methodLink RX10 71 yX10_isWithin ∈ g_tb := tb2 71 rfl rfl
theorem w2_72 : Cond.static yX10_isWithin ∈ g_tb := tb2 72 rfl rfl
theorem w2_73 : Cond.code yX10_isWithin cX10_isWithin 3 (some .boolean) ∈ g_tb := tb2 73 rfl rfl
theorem w2_74 : Cond.methodLink RX10 75 yX7_find ∈ g_tb := tb2 74 rfl rfl
theorem w2_75 : Cond.instanceMethod yX7_find ∈ g_tb := tb2 75 rfl rfl
theorem w2_76 : Cond.selects RX7 yX7_find yX7_find ∈ g_tb := tb2 76 rfl rfl
theorem w2_77 : Cond.code yX7_find cX7_find 5 (some .int) ∈ g_tb := tb2 77 rfl rfl
theorem w2_78 : Cond.methodLink RX10 79 yX7_add ∈ g_tb := tb2 78 rfl rfl
theorem w2_79 : Cond.instanceMethod yX7_add ∈ g_tb := tb2 79 rfl rfl
theorem w2_80 : Cond.selects RX7 yX7_add yX7_add ∈ g_tb := tb2 80 rfl rfl
theorem w2_81 : Cond.code yX7_add cX7_add 6 (some .int) ∈ g_tb := tb2 81 rfl rfl
theorem w2_82 : Cond.methodLink RX10 83 yX1_forgetAll ∈ g_tb := tb2 82 rfl rfl
theorem w2_83 : Cond.instanceMethod yX1_forgetAll ∈ g_tb := tb2 83 rfl rfl
theorem w2_84 : Cond.selects RX1 yX1_forgetAll yX1_forgetAll ∈ g_tb := tb2 84 rfl rfl
theorem w2_85 : Cond.code yX1_forgetAll cX1_forgetAll 1 none ∈ g_tb := tb2 85 rfl rfl
theorem w2_86 : Cond.methodLink RX10 86 yX5_forget ∈ g_tb := tb2 86 rfl rfl
theorem w2_87 : Cond.instanceMethod yX5_forget ∈ g_tb := tb2 87 rfl rfl
theorem w2_88 : Cond.selects RX5 yX5_forget yX5_forget ∈ g_tb := tb2 88 rfl rfl
theorem w2_89 : Cond.code yX5_forget cX5_forget 1 none ∈ g_tb := tb2 89 rfl rfl
theorem w2_90 : Cond.methodLink RL 18 yX10_pace ∈ g_tb := tb2 90 rfl rfl
theorem w2_91 : Cond.instanceMethod yX10_pace ∈ g_tb := tb2 91 rfl rfl
theorem w2_92 : Cond.selects RX10 yX10_pace yX10_pace ∈ g_tb := tb2 92 rfl rfl
theorem w2_93 : Cond.code yX10_pace cX10_pace 3 (some .int) ∈ g_tb := tb2 93 rfl rfl
theorem w2_94 : Cond.methodLink RL 23 yX10_net ∈ g_tb := tb2 94 rfl rfl
theorem w2_95 : Cond.instanceMethod yX10_net ∈ g_tb := tb2 95 rfl rfl
theorem w2_96 : Cond.selects RX10 yX10_net yX10_net ∈ g_tb := tb2 96 rfl rfl
theorem w2_97 : Cond.code yX10_net cX10_net 3 (some .int) ∈ g_tb := tb2 97 rfl rfl
theorem w2_98 : Cond.methodLink RL 28 yX10_about ∈ g_tb := tb2 98 rfl rfl
theorem w2_99 : Cond.instanceMethod yX10_about ∈ g_tb := tb2 99 rfl rfl
theorem w2_100 : Cond.selects RX10 yX10_about yX10_about ∈ g_tb := tb2 100 rfl rfl
theorem w2_101 : Cond.code yX10_about cX10_about 3 (some .int) ∈ g_tb := tb2 101 rfl rfl
theorem w2_102 : Cond.methodLink RX10 99 yX7_has ∈ g_tb := tb2 102 rfl rfl
theorem w2_103 : Cond.instanceMethod yX7_has ∈ g_tb := tb2 103 rfl rfl
theorem w2_104 : Cond.selects RX7 yX7_has yX7_has ∈ g_tb := tb2 104 rfl rfl
theorem w2_105 : Cond.code yX7_has cX7_has 2 (some .boolean) ∈ g_tb := tb2 105 rfl rfl
theorem w2_106 : Cond.methodLink RX10 116 yX7_nightOf ∈ g_tb := tb2 106 rfl rfl
theorem w2_107 : Cond.instanceMethod yX7_nightOf ∈ g_tb := tb2 107 rfl rfl
theorem w2_108 : Cond.selects RX7 yX7_nightOf yX7_nightOf ∈ g_tb := tb2 108 rfl rfl
theorem w2_109 : Cond.code yX7_nightOf cX7_nightOf 2 (some .int) ∈ g_tb := tb2 109 rfl rfl
theorem w2_110 : Cond.methodLink RL 32 yX10_bits ∈ g_tb := tb2 110 rfl rfl
theorem w2_111 : Cond.instanceMethod yX10_bits ∈ g_tb := tb2 111 rfl rfl
theorem w2_112 : Cond.selects RX10 yX10_bits yX10_bits ∈ g_tb := tb2 112 rfl rfl
theorem w2_113 : Cond.code yX10_bits cX10_bits 1 (some .int) ∈ g_tb := tb2 113 rfl rfl
theorem w2_114 : Cond.methodLink RX10 123 yX2_total ∈ g_tb := tb2 114 rfl rfl
theorem w2_115 : Cond.instanceMethod yX2_total ∈ g_tb := tb2 115 rfl rfl
theorem w2_116 : Cond.selects RX2 yX2_total yX2_total ∈ g_tb := tb2 116 rfl rfl
theorem w2_117 : Cond.code yX2_total cX2_total 4 (some .int) ∈ g_tb := tb2 117 rfl rfl
theorem w2_118 : Cond.methodLink RX2 45 yX2_isBit ∈ g_tb := tb2 118 rfl rfl
theorem w2_119 : Cond.instanceMethod yX2_isBit ∈ g_tb := tb2 119 rfl rfl
theorem w2_120 : Cond.selects RX2 yX2_isBit yX2_isBit ∈ g_tb := tb2 120 rfl rfl
theorem w2_121 : Cond.code yX2_isBit cX2_isBit 4 (some .boolean) ∈ g_tb := tb2 121 rfl rfl
theorem w2_122 : Cond.methodLink RX2 23 yX7_isFree ∈ g_tb := tb2 122 rfl rfl
theorem w2_123 : Cond.instanceMethod yX7_isFree ∈ g_tb := tb2 123 rfl rfl
theorem w2_124 : Cond.selects RX7 yX7_isFree yX7_isFree ∈ g_tb := tb2 124 rfl rfl
theorem w2_125 : Cond.code yX7_isFree cX7_isFree 2 (some .boolean) ∈ g_tb := tb2 125 rfl rfl
theorem w2_126 : Cond.methodLink RX2 27 yX7_nightOf ∈ g_tb := tb2 126 rfl rfl
theorem w2_127 : Cond.methodLink RX2 34 Lib.Math.abs.name ∈ g_tb := tb2 127 rfl rfl
theorem w2_128 : Cond.static Lib.Math.abs.name ∈ g_tb := tb2 128 rfl rfl
theorem w2_129 : Cond.code Lib.Math.abs.name Lib.Math.abs.code 1 (some .int) ∈ g_tb := tb2 129 rfl rfl
theorem w2_130 : Cond.methodLink RL 37 yX10_bit ∈ g_tb := tb2 130 rfl rfl
theorem w2_131 : Cond.instanceMethod yX10_bit ∈ g_tb := tb2 131 rfl rfl
theorem w2_132 : Cond.selects RX10 yX10_bit yX10_bit ∈ g_tb := tb2 132 rfl rfl
theorem w2_133 : Cond.code yX10_bit cX10_bit 3 (some .int) ∈ g_tb := tb2 133 rfl rfl
theorem w2_134 : Cond.methodLink RX10 127 yX2_seek ∈ g_tb := tb2 134 rfl rfl
theorem w2_135 : Cond.instanceMethod yX2_seek ∈ g_tb := tb2 135 rfl rfl
theorem w2_136 : Cond.selects RX2 yX2_seek yX2_seek ∈ g_tb := tb2 136 rfl rfl
theorem w2_137 : Cond.code yX2_seek cX2_seek 5 (some .boolean) ∈ g_tb := tb2 137 rfl rfl
theorem w2_138 : Cond.methodLink RL 41 yX10_pairs ∈ g_tb := tb2 138 rfl rfl
theorem w2_139 : Cond.instanceMethod yX10_pairs ∈ g_tb := tb2 139 rfl rfl
theorem w2_140 : Cond.selects RX10 yX10_pairs yX10_pairs ∈ g_tb := tb2 140 rfl rfl
theorem w2_141 : Cond.code yX10_pairs cX10_pairs 1 (some .int) ∈ g_tb := tb2 141 rfl rfl
theorem w2_142 : Cond.methodLink RX10 136 yX5_total ∈ g_tb := tb2 142 rfl rfl
theorem w2_143 : Cond.instanceMethod yX5_total ∈ g_tb := tb2 143 rfl rfl
theorem w2_144 : Cond.selects RX5 yX5_total yX5_total ∈ g_tb := tb2 144 rfl rfl
theorem w2_145 : Cond.code yX5_total cX5_total 1 (some .int) ∈ g_tb := tb2 145 rfl rfl
theorem w2_146 : Cond.methodLink RX5 47 yX5_findBits ∈ g_tb := tb2 146 rfl rfl
theorem w2_148 : Cond.instanceMethod yX5_findBits ∈ g_tb := tb2 148 rfl rfl
theorem w2_149 : Cond.code yX5_findBits cX5_findBits 3 none ∈ g_tb := tb2 149 rfl rfl
theorem w2_150 : Cond.methodLink RX5 72 yX2_isBit ∈ g_tb := tb2 150 rfl rfl
theorem w2_151 : Cond.methodLink RX5 78 yX5_keepBit ∈ g_tb := tb2 151 rfl rfl
theorem w2_153 : Cond.instanceMethod yX5_keepBit ∈ g_tb := tb2 153 rfl rfl
theorem w2_154 : Cond.code yX5_keepBit cX5_keepBit 3 none ∈ g_tb := tb2 154 rfl rfl
theorem w2_155 : Cond.methodLink RX5 50 yX5_findPairs ∈ g_tb := tb2 155 rfl rfl
theorem w2_157 : Cond.instanceMethod yX5_findPairs ∈ g_tb := tb2 157 rfl rfl
theorem w2_158 : Cond.code yX5_findPairs cX5_findPairs 3 none ∈ g_tb := tb2 158 rfl rfl
theorem w2_159 : Cond.methodLink RX5 82 yX5_gather ∈ g_tb := tb2 159 rfl rfl
theorem w2_160 : Cond.instanceMethod yX5_gather ∈ g_tb := tb2 160 rfl rfl
theorem w2_161 : Cond.selects RX5 yX5_gather yX5_gather ∈ g_tb := tb2 161 rfl rfl
theorem w2_162 : Cond.code yX5_gather cX5_gather 4 none ∈ g_tb := tb2 162 rfl rfl
theorem w2_163 : Cond.methodLink RX5 60 yX6_clear ∈ g_tb := tb2 163 rfl rfl
theorem w2_164 : Cond.instanceMethod yX6_clear ∈ g_tb := tb2 164 rfl rfl
theorem w2_165 : Cond.selects RX6 yX6_clear yX6_clear ∈ g_tb := tb2 165 rfl rfl
theorem w2_166 : Cond.code yX6_clear cX6_clear 1 none ∈ g_tb := tb2 166 rfl rfl
theorem w2_167 : Cond.methodLink RX5 63 yX6_add ∈ g_tb := tb2 167 rfl rfl
theorem w2_168 : Cond.instanceMethod yX6_add ∈ g_tb := tb2 168 rfl rfl
theorem w2_169 : Cond.selects RX6 yX6_add yX6_add ∈ g_tb := tb2 169 rfl rfl
theorem w2_170 : Cond.code yX6_add cX6_add 2 none ∈ g_tb := tb2 170 rfl rfl
theorem w2_171 : Cond.methodLink RX5 86 yX5_areOfUnlikeNights ∈ g_tb := tb2 171 rfl rfl
theorem w2_173 : Cond.instanceMethod yX5_areOfUnlikeNights ∈ g_tb := tb2 173 rfl rfl
theorem w2_174 : Cond.code yX5_areOfUnlikeNights cX5_areOfUnlikeNights 3 (some .boolean) ∈ g_tb := tb2 174 rfl rfl
theorem w2_175 : Cond.methodLink RX5 98 yX7_nightOf ∈ g_tb := tb2 175 rfl rfl
theorem w2_176 : Cond.methodLink RX5 89 yX4_isSound ∈ g_tb := tb2 176 rfl rfl
theorem w2_177 : Cond.instanceMethod yX4_isSound ∈ g_tb := tb2 177 rfl rfl
theorem w2_178 : Cond.selects RX4 yX4_isSound yX4_isSound ∈ g_tb := tb2 178 rfl rfl
theorem w2_179 : Cond.code yX4_isSound cX4_isSound 2 (some .boolean) ∈ g_tb := tb2 179 rfl rfl
theorem w2_180 : Cond.methodLink RX4 65 yX4_isSoundBy ∈ g_tb := tb2 180 rfl rfl
theorem w2_182 : Cond.instanceMethod yX4_isSoundBy ∈ g_tb := tb2 182 rfl rfl
theorem w2_183 : Cond.code yX4_isSoundBy cX4_isSoundBy 4 (some .boolean) ∈ g_tb := tb2 183 rfl rfl
theorem w2_184 : Cond.methodLink RX4 57 yX4_span ∈ g_tb := tb2 184 rfl rfl
theorem w2_186 : Cond.instanceMethod yX4_span ∈ g_tb := tb2 186 rfl rfl
theorem w2_187 : Cond.code yX4_span cX4_span 9 (some .boolean) ∈ g_tb := tb2 187 rfl rfl
theorem w2_188 : Cond.methodLink RX4 31 yX7_placeOf ∈ g_tb := tb2 188 rfl rfl
theorem w2_189 : Cond.instanceMethod yX7_placeOf ∈ g_tb := tb2 189 rfl rfl
theorem w2_190 : Cond.selects RX7 yX7_placeOf yX7_placeOf ∈ g_tb := tb2 190 rfl rfl
theorem w2_191 : Cond.code yX7_placeOf cX7_placeOf 3 (some .int) ∈ g_tb := tb2 191 rfl rfl
theorem w2_192 : Cond.methodLink RX4 40 Lib.Math.max.name ∈ g_tb := tb2 192 rfl rfl
theorem w2_193 : Cond.static Lib.Math.max.name ∈ g_tb := tb2 193 rfl rfl
theorem w2_194 : Cond.code Lib.Math.max.name Lib.Math.max.code 2 (some .int) ∈ g_tb := tb2 194 rfl rfl
theorem w2_195 : Cond.methodLink RX4 45 Lib.Math.min.name ∈ g_tb := tb2 195 rfl rfl
theorem w2_196 : Cond.static Lib.Math.min.name ∈ g_tb := tb2 196 rfl rfl
theorem w2_197 : Cond.code Lib.Math.min.name Lib.Math.min.code 2 (some .int) ∈ g_tb := tb2 197 rfl rfl
theorem w2_198 : Cond.methodLink RX4 48 yJ9_floorDiv_7cf53 ∈ g_tb := tb2 198 rfl rfl
theorem w2_199 : Cond.static yJ9_floorDiv_7cf53 ∈ g_tb := tb2 199 rfl rfl
theorem w2_200 : Cond.code yJ9_floorDiv_7cf53 cJ9_floorDiv_7cf53 3 (some .int) ∈ g_tb := tb2 200 rfl rfl
theorem w2_201 : Cond.methodLink RX5 95 yX5_keepPair ∈ g_tb := tb2 201 rfl rfl
theorem w2_203 : Cond.instanceMethod yX5_keepPair ∈ g_tb := tb2 203 rfl rfl
theorem w2_204 : Cond.code yX5_keepPair cX5_keepPair 3 none ∈ g_tb := tb2 204 rfl rfl
theorem w2_205 : Cond.methodLink RL 45 yX10_pair ∈ g_tb := tb2 205 rfl rfl
theorem w2_206 : Cond.instanceMethod yX10_pair ∈ g_tb := tb2 206 rfl rfl
theorem w2_207 : Cond.selects RX10 yX10_pair yX10_pair ∈ g_tb := tb2 207 rfl rfl
theorem w2_208 : Cond.code yX10_pair cX10_pair 3 (some .int) ∈ g_tb := tb2 208 rfl rfl
theorem w2_209 : Cond.methodLink RL 49 yX10_start ∈ g_tb := tb2 209 rfl rfl
theorem w2_210 : Cond.instanceMethod yX10_start ∈ g_tb := tb2 210 rfl rfl
theorem w2_211 : Cond.selects RX10 yX10_start yX10_start ∈ g_tb := tb2 211 rfl rfl
theorem w2_212 : Cond.code yX10_start cX10_start 3 (some .int) ∈ g_tb := tb2 212 rfl rfl
theorem w2_213 : Cond.methodLink RX10 143 yX10_isName ∈ g_tb := tb2 213 rfl rfl
theorem w2_214 : Cond.static yX10_isName ∈ g_tb := tb2 214 rfl rfl
theorem w2_215 : Cond.code yX10_isName cX10_isName 1 (some .boolean) ∈ g_tb := tb2 215 rfl rfl
theorem w2_216 : Cond.methodLink RX10 146 yX5_gather ∈ g_tb := tb2 216 rfl rfl
theorem w2_217 : Cond.methodLink RX10 150 yX10_begin ∈ g_tb := tb2 217 rfl rfl
theorem w2_219 : Cond.instanceMethod yX10_begin ∈ g_tb := tb2 219 rfl rfl
theorem w2_220 : Cond.code yX10_begin cX10_begin 4 (some .int) ∈ g_tb := tb2 220 rfl rfl
theorem w2_221 : Cond.methodLink RX10 312 yX9_add ∈ g_tb := tb2 221 rfl rfl
theorem w2_222 : Cond.instanceMethod yX9_add ∈ g_tb := tb2 222 rfl rfl
theorem w2_223 : Cond.selects RX9 yX9_add yX9_add ∈ g_tb := tb2 223 rfl rfl
theorem w2_224 : Cond.code yX9_add cX9_add 3 (some .int) ∈ g_tb := tb2 224 rfl rfl
theorem w2_225 : Cond.methodLink RX10 260 yX10_changeRow ∈ g_tb := tb2 225 rfl rfl
theorem w2_227 : Cond.instanceMethod yX10_changeRow ∈ g_tb := tb2 227 rfl rfl
theorem w2_228 : Cond.code yX10_changeRow cX10_changeRow 3 (some (.object "NightDots$Act")) ∈ g_tb := tb2 228 rfl rfl
theorem w2_229 : Cond.methodLink RX10 314 yX1_keep ∈ g_tb := tb2 229 rfl rfl
theorem w2_230 : Cond.instanceMethod yX1_keep ∈ g_tb := tb2 230 rfl rfl
theorem w2_231 : Cond.selects RX1 yX1_keep yX1_keep ∈ g_tb := tb2 231 rfl rfl
theorem w2_232 : Cond.code yX1_keep cX1_keep 4 (some (.object "NightDots$Act")) ∈ g_tb := tb2 232 rfl rfl
theorem w2_233 : Cond.methodLink RX1 36 yX6_become ∈ g_tb := tb2 233 rfl rfl
theorem w2_234 : Cond.instanceMethod yX6_become ∈ g_tb := tb2 234 rfl rfl
theorem w2_235 : Cond.selects RX6 yX6_become yX6_become ∈ g_tb := tb2 235 rfl rfl
theorem w2_236 : Cond.code yX6_become cX6_become 2 none ∈ g_tb := tb2 236 rfl rfl
theorem w2_237 : Cond.methodLink RX6 23 yX6_clear ∈ g_tb := tb2 237 rfl rfl
theorem w2_238 : Cond.methodLink RX6 26 yX6_addAll ∈ g_tb := tb2 238 rfl rfl
theorem w2_239 : Cond.instanceMethod yX6_addAll ∈ g_tb := tb2 239 rfl rfl
theorem w3_0 : Cond.selects RX6 yX6_addAll yX6_addAll ∈ g_tb := tb3 0 rfl rfl
theorem w3_1 : Cond.code yX6_addAll cX6_addAll 3 none ∈ g_tb := tb3 1 rfl rfl
theorem w3_2 : Cond.methodLink RX6 19 yX6_add ∈ g_tb := tb3 2 rfl rfl
theorem w3_3 : Cond.methodLink RX1 45 Lib.Math.min.name ∈ g_tb := tb3 3 rfl rfl
theorem w3_4 : Cond.methodLink RX10 290 yX9_replaceRow ∈ g_tb := tb3 4 rfl rfl
theorem w3_5 : Cond.instanceMethod yX9_replaceRow ∈ g_tb := tb3 5 rfl rfl
theorem w3_6 : Cond.selects RX9 yX9_replaceRow yX9_replaceRow ∈ g_tb := tb3 6 rfl rfl
theorem w3_7 : Cond.code yX9_replaceRow cX9_replaceRow 4 none ∈ g_tb := tb3 7 rfl rfl
theorem w3_8 : Cond.methodLink RX9 41 yX7_putAll ∈ g_tb := tb3 8 rfl rfl
theorem w3_9 : Cond.instanceMethod yX7_putAll ∈ g_tb := tb3 9 rfl rfl
theorem w3_10 : Cond.selects RX7 yX7_putAll yX7_putAll ∈ g_tb := tb3 10 rfl rfl
theorem w3_11 : Cond.code yX7_putAll cX7_putAll 4 none ∈ g_tb := tb3 11 rfl rfl
theorem w3_12 : Cond.methodLink RX9 47 yX6_become ∈ g_tb := tb3 12 rfl rfl
theorem w3_13 : Cond.methodLink RL 53 yX10_single ∈ g_tb := tb3 13 rfl rfl
theorem w3_14 : Cond.instanceMethod yX10_single ∈ g_tb := tb3 14 rfl rfl
theorem w3_15 : Cond.selects RX10 yX10_single yX10_single ∈ g_tb := tb3 15 rfl rfl
theorem w3_16 : Cond.code yX10_single cX10_single 3 (some .int) ∈ g_tb := tb3 16 rfl rfl
theorem w3_17 : Cond.methodLink RX10 153 yX6_clear ∈ g_tb := tb3 17 rfl rfl
theorem w3_18 : Cond.methodLink RX10 156 yX6_add ∈ g_tb := tb3 18 rfl rfl
theorem w3_19 : Cond.methodLink RX10 159 yX7_isFree ∈ g_tb := tb3 19 rfl rfl
theorem w3_20 : Cond.methodLink RX10 162 yX4_isSound ∈ g_tb := tb3 20 rfl rfl
theorem w3_21 : Cond.methodLink RL 57 yX10_join ∈ g_tb := tb3 21 rfl rfl
theorem w3_22 : Cond.instanceMethod yX10_join ∈ g_tb := tb3 22 rfl rfl
theorem w3_23 : Cond.selects RX10 yX10_join yX10_join ∈ g_tb := tb3 23 rfl rfl
theorem w3_24 : Cond.code yX10_join cX10_join 3 (some .int) ∈ g_tb := tb3 24 rfl rfl
theorem w3_25 : Cond.methodLink RX10 166 yX9_has ∈ g_tb := tb3 25 rfl rfl
theorem w3_26 : Cond.instanceMethod yX9_has ∈ g_tb := tb3 26 rfl rfl
theorem w3_27 : Cond.selects RX9 yX9_has yX9_has ∈ g_tb := tb3 27 rfl rfl
theorem w3_28 : Cond.code yX9_has cX9_has 2 (some .boolean) ∈ g_tb := tb3 28 rfl rfl
theorem w3_29 : Cond.methodLink RX10 176 yX6_become ∈ g_tb := tb3 29 rfl rfl
theorem w3_30 : Cond.methodLink RX10 180 yX10_joinGroup ∈ g_tb := tb3 30 rfl rfl
theorem w3_32 : Cond.instanceMethod yX10_joinGroup ∈ g_tb := tb3 32 rfl rfl
theorem w3_33 : Cond.code yX10_joinGroup cX10_joinGroup 2 (some .int) ∈ g_tb := tb3 33 rfl rfl
theorem w3_34 : Cond.methodLink RX10 186 yX10_lengthen ∈ g_tb := tb3 34 rfl rfl
theorem w3_36 : Cond.instanceMethod yX10_lengthen ∈ g_tb := tb3 36 rfl rfl
theorem w3_37 : Cond.code yX10_lengthen cX10_lengthen 2 (some .int) ∈ g_tb := tb3 37 rfl rfl
theorem w3_38 : Cond.methodLink RL 61 yX10_joinBit ∈ g_tb := tb3 38 rfl rfl
theorem w3_39 : Cond.instanceMethod yX10_joinBit ∈ g_tb := tb3 39 rfl rfl
theorem w3_40 : Cond.selects RX10 yX10_joinBit yX10_joinBit ∈ g_tb := tb3 40 rfl rfl
theorem w3_41 : Cond.code yX10_joinBit cX10_joinBit 3 (some .int) ∈ g_tb := tb3 41 rfl rfl
theorem w3_42 : Cond.methodLink RL 65 yX10_force ∈ g_tb := tb3 42 rfl rfl
theorem w3_43 : Cond.instanceMethod yX10_force ∈ g_tb := tb3 43 rfl rfl
theorem w3_44 : Cond.selects RX10 yX10_force yX10_force ∈ g_tb := tb3 44 rfl rfl
theorem w3_45 : Cond.code yX10_force cX10_force 3 (some .int) ∈ g_tb := tb3 45 rfl rfl
theorem w3_46 : Cond.methodLink RL 69 yX10_path ∈ g_tb := tb3 46 rfl rfl
theorem w3_47 : Cond.instanceMethod yX10_path ∈ g_tb := tb3 47 rfl rfl
theorem w3_48 : Cond.selects RX10 yX10_path yX10_path ∈ g_tb := tb3 48 rfl rfl
theorem w3_49 : Cond.code yX10_path cX10_path 4 (some .int) ∈ g_tb := tb3 49 rfl rfl
theorem w3_50 : Cond.methodLink RX10 199 yX10_dotOfRow ∈ g_tb := tb3 50 rfl rfl
theorem w3_51 : Cond.static yX10_dotOfRow ∈ g_tb := tb3 51 rfl rfl
theorem w3_52 : Cond.code yX10_dotOfRow cX10_dotOfRow 2 (some .int) ∈ g_tb := tb3 52 rfl rfl
theorem w3_53 : Cond.methodLink RL 73 yX10_heap ∈ g_tb := tb3 53 rfl rfl
theorem w3_54 : Cond.instanceMethod yX10_heap ∈ g_tb := tb3 54 rfl rfl
theorem w3_55 : Cond.selects RX10 yX10_heap yX10_heap ∈ g_tb := tb3 55 rfl rfl
theorem w3_56 : Cond.code yX10_heap cX10_heap 2 (some .long) ∈ g_tb := tb3 56 rfl rfl
theorem w3_57 : Cond.methodLink RX10 203 yX4_linesOf ∈ g_tb := tb3 57 rfl rfl
theorem w3_58 : Cond.instanceMethod yX4_linesOf ∈ g_tb := tb3 58 rfl rfl
theorem w3_59 : Cond.selects RX4 yX4_linesOf yX4_linesOf ∈ g_tb := tb3 59 rfl rfl
theorem w3_60 : Cond.code yX4_linesOf cX4_linesOf 2 (some .long) ∈ g_tb := tb3 60 rfl rfl
theorem w3_61 : Cond.methodLink RX4 61 yX4_linesBy ∈ g_tb := tb3 61 rfl rfl
theorem w3_63 : Cond.instanceMethod yX4_linesBy ∈ g_tb := tb3 63 rfl rfl
theorem w3_64 : Cond.code yX4_linesBy cX4_linesBy 6 (some .long) ∈ g_tb := tb3 64 rfl rfl
theorem w3_65 : Cond.constantLong RX10 207 (-1) ∈ g_tb := tb3 65 rfl rfl
theorem w3_66 : Cond.methodLink RL 78 yX10_ahead ∈ g_tb := tb3 66 rfl rfl
theorem w3_67 : Cond.instanceMethod yX10_ahead ∈ g_tb := tb3 67 rfl rfl
theorem w3_68 : Cond.selects RX10 yX10_ahead yX10_ahead ∈ g_tb := tb3 68 rfl rfl
theorem w3_69 : Cond.code yX10_ahead cX10_ahead 5 (some .long) ∈ g_tb := tb3 69 rfl rfl
theorem w3_70 : Cond.constantLong RX10 209 (-9223372036854775808) ∈ g_tb := tb3 70 rfl rfl
theorem w3_71 : Cond.methodLink RX10 211 yX4_edge ∈ g_tb := tb3 71 rfl rfl
theorem w3_72 : Cond.instanceMethod yX4_edge ∈ g_tb := tb3 72 rfl rfl
theorem w3_73 : Cond.selects RX4 yX4_edge yX4_edge ∈ g_tb := tb3 73 rfl rfl
theorem w3_74 : Cond.code yX4_edge cX4_edge 10 (some .long) ∈ g_tb := tb3 74 rfl rfl
theorem w3_75 : Cond.constantLong RX4 69 (-9223372036854775808) ∈ g_tb := tb3 75 rfl rfl
theorem w3_76 : Cond.methodLink RL 83 yX10_tellOff ∈ g_tb := tb3 76 rfl rfl
theorem w3_77 : Cond.instanceMethod yX10_tellOff ∈ g_tb := tb3 77 rfl rfl
theorem w3_78 : Cond.selects RX10 yX10_tellOff yX10_tellOff ∈ g_tb := tb3 78 rfl rfl
theorem w3_79 : Cond.code yX10_tellOff cX10_tellOff 4 (some .int) ∈ g_tb := tb3 79 rfl rfl
theorem w3_80 : Cond.methodLink RX10 215 yX4_reaches ∈ g_tb := tb3 80 rfl rfl
theorem w3_81 : Cond.instanceMethod yX4_reaches ∈ g_tb := tb3 81 rfl rfl
theorem w3_82 : Cond.selects RX4 yX4_reaches yX4_reaches ∈ g_tb := tb3 82 rfl rfl
theorem w3_83 : Cond.code yX4_reaches cX4_reaches 3 (some .boolean) ∈ g_tb := tb3 83 rfl rfl
theorem w3_84 : Cond.methodLink RX4 75 yX4_isSound ∈ g_tb := tb3 84 rfl rfl
theorem w3_85 : Cond.methodLink RX4 79 yX4_reachesBy ∈ g_tb := tb3 85 rfl rfl
theorem w3_87 : Cond.instanceMethod yX4_reachesBy ∈ g_tb := tb3 87 rfl rfl
theorem w3_88 : Cond.code yX4_reachesBy cX4_reachesBy 6 (some .boolean) ∈ g_tb := tb3 88 rfl rfl
theorem w3_89 : Cond.methodLink RX4 71 yX4_edge ∈ g_tb := tb3 89 rfl rfl
theorem w3_90 : Cond.methodLink RL 87 yX10_fit ∈ g_tb := tb3 90 rfl rfl
theorem w3_91 : Cond.instanceMethod yX10_fit ∈ g_tb := tb3 91 rfl rfl
theorem w3_92 : Cond.selects RX10 yX10_fit yX10_fit ∈ g_tb := tb3 92 rfl rfl
theorem w3_93 : Cond.code yX10_fit cX10_fit 5 (some .long) ∈ g_tb := tb3 93 rfl rfl
theorem w3_94 : Cond.methodLink RX10 219 yX10_lay ∈ g_tb := tb3 94 rfl rfl
theorem w3_96 : Cond.instanceMethod yX10_lay ∈ g_tb := tb3 96 rfl rfl
theorem w3_97 : Cond.code yX10_lay cX10_lay 3 (some .boolean) ∈ g_tb := tb3 97 rfl rfl
theorem w3_98 : Cond.methodLink RX10 321 yX3_through ∈ g_tb := tb3 98 rfl rfl
theorem w3_99 : Cond.instanceMethod yX3_through ∈ g_tb := tb3 99 rfl rfl
theorem w3_100 : Cond.selects RX3 yX3_through yX3_through ∈ g_tb := tb3 100 rfl rfl
theorem w3_101 : Cond.code yX3_through cX3_through 13 (some .boolean) ∈ g_tb := tb3 101 rfl rfl
theorem w3_102 : Cond.methodLink RX3 35 yX7_placeOf ∈ g_tb := tb3 102 rfl rfl
theorem w3_103 : Cond.methodLink RX10 223 yX3_placeTop ∈ g_tb := tb3 103 rfl rfl
theorem w3_104 : Cond.instanceMethod yX3_placeTop ∈ g_tb := tb3 104 rfl rfl
theorem w3_105 : Cond.selects RX3 yX3_placeTop yX3_placeTop ∈ g_tb := tb3 105 rfl rfl
theorem w3_106 : Cond.code yX3_placeTop cX3_placeTop 1 (some .long) ∈ g_tb := tb3 106 rfl rfl
theorem w3_107 : Cond.methodLink RX10 227 yX3_placeBelow ∈ g_tb := tb3 107 rfl rfl
theorem w3_108 : Cond.instanceMethod yX3_placeBelow ∈ g_tb := tb3 108 rfl rfl
theorem w3_109 : Cond.selects RX3 yX3_placeBelow yX3_placeBelow ∈ g_tb := tb3 109 rfl rfl
theorem w3_110 : Cond.code yX3_placeBelow cX3_placeBelow 1 (some .long) ∈ g_tb := tb3 110 rfl rfl
theorem w3_111 : Cond.methodLink RX10 230 yX3_reduced ∈ g_tb := tb3 111 rfl rfl
theorem w3_112 : Cond.static yX3_reduced ∈ g_tb := tb3 112 rfl rfl
theorem w3_113 : Cond.code yX3_reduced cX3_reduced 7 (some .long) ∈ g_tb := tb3 113 rfl rfl
theorem w3_114 : Cond.methodLink RX3 52 Lib.MathLoose.abs_long.x ∈ g_tb := tb3 114 rfl rfl
theorem w3_115 : Cond.static Lib.MathLoose.abs_long.x ∈ g_tb := tb3 115 rfl rfl
theorem w3_116 : Cond.code Lib.MathLoose.abs_long.x Lib.MathLoose.abs_long.code 2 (some .long) ∈ g_tb := tb3 116 rfl rfl
theorem w3_117 : Cond.methodLink RX3 58 yX3_commonDivisor ∈ g_tb := tb3 117 rfl rfl
theorem w3_118 : Cond.static yX3_commonDivisor ∈ g_tb := tb3 118 rfl rfl
theorem w3_119 : Cond.code yX3_commonDivisor cX3_commonDivisor 11 (some .long) ∈ g_tb := tb3 119 rfl rfl
theorem w3_120 : Cond.constantLong RX3 62 (-9223372036854775808) ∈ g_tb := tb3 120 rfl rfl
theorem w3_121 : Cond.methodLink RL 92 yX10_miss ∈ g_tb := tb3 121 rfl rfl
theorem w3_122 : Cond.instanceMethod yX10_miss ∈ g_tb := tb3 122 rfl rfl
theorem w3_123 : Cond.selects RX10 yX10_miss yX10_miss ∈ g_tb := tb3 123 rfl rfl
theorem w3_124 : Cond.code yX10_miss cX10_miss 9 (some .long) ∈ g_tb := tb3 124 rfl rfl
theorem w3_125 : Cond.methodLink RX10 244 yX7_placeOf ∈ g_tb := tb3 125 rfl rfl
theorem w3_126 : Cond.methodLink RX10 248 yX3_missTop ∈ g_tb := tb3 126 rfl rfl
theorem w3_127 : Cond.instanceMethod yX3_missTop ∈ g_tb := tb3 127 rfl rfl
theorem w3_128 : Cond.selects RX3 yX3_missTop yX3_missTop ∈ g_tb := tb3 128 rfl rfl
theorem w3_129 : Cond.code yX3_missTop cX3_missTop 5 (some .long) ∈ g_tb := tb3 129 rfl rfl
theorem w3_130 : Cond.methodLink RX3 45 yX3_placeBelow ∈ g_tb := tb3 130 rfl rfl
theorem w3_131 : Cond.methodLink RX3 49 yX3_placeTop ∈ g_tb := tb3 131 rfl rfl
theorem w3_132 : Cond.methodLink RL 96 yX10_part ∈ g_tb := tb3 132 rfl rfl
theorem w3_133 : Cond.instanceMethod yX10_part ∈ g_tb := tb3 133 rfl rfl
theorem w3_134 : Cond.selects RX10 yX10_part yX10_part ∈ g_tb := tb3 134 rfl rfl
theorem w3_135 : Cond.code yX10_part cX10_part 5 (some .int) ∈ g_tb := tb3 135 rfl rfl
theorem w3_136 : Cond.methodLink RX10 252 yX10_parting ∈ g_tb := tb3 136 rfl rfl
theorem w3_138 : Cond.instanceMethod yX10_parting ∈ g_tb := tb3 138 rfl rfl
theorem w3_139 : Cond.code yX10_parting cX10_parting 4 (some .int) ∈ g_tb := tb3 139 rfl rfl
theorem w3_140 : Cond.methodLink RX10 325 yJ6_bitCount_0f7a4 ∈ g_tb := tb3 140 rfl rfl
theorem w3_141 : Cond.static yJ6_bitCount_0f7a4 ∈ g_tb := tb3 141 rfl rfl
theorem w3_142 : Cond.code yJ6_bitCount_0f7a4 cJ6_bitCount_0f7a4 1 (some .int) ∈ g_tb := tb3 142 rfl rfl
theorem w3_143 : Cond.constant RJ6 265 (1431655765) ∈ g_tb := tb3 143 rfl rfl
theorem w3_144 : Cond.constant RJ6 266 (858993459) ∈ g_tb := tb3 144 rfl rfl
theorem w3_145 : Cond.constant RJ6 267 (252645135) ∈ g_tb := tb3 145 rfl rfl
theorem w3_146 : Cond.methodLink RX10 256 yX10_keepStaying ∈ g_tb := tb3 146 rfl rfl
theorem w3_148 : Cond.instanceMethod yX10_keepStaying ∈ g_tb := tb3 148 rfl rfl
theorem w3_149 : Cond.code yX10_keepStaying cX10_keepStaying 4 none ∈ g_tb := tb3 149 rfl rfl
theorem w3_150 : Cond.methodLink RL 100 yX10_same ∈ g_tb := tb3 150 rfl rfl
theorem w3_151 : Cond.instanceMethod yX10_same ∈ g_tb := tb3 151 rfl rfl
theorem w3_152 : Cond.selects RX10 yX10_same yX10_same ∈ g_tb := tb3 152 rfl rfl
theorem w3_153 : Cond.code yX10_same cX10_same 3 (some .int) ∈ g_tb := tb3 153 rfl rfl
theorem w3_154 : Cond.methodLink RX10 264 yX10_gatherBoth ∈ g_tb := tb3 154 rfl rfl
theorem w3_156 : Cond.instanceMethod yX10_gatherBoth ∈ g_tb := tb3 156 rfl rfl
theorem w3_157 : Cond.code yX10_gatherBoth cX10_gatherBoth 3 none ∈ g_tb := tb3 157 rfl rfl
theorem w3_158 : Cond.methodLink RX10 318 yX6_addAll ∈ g_tb := tb3 158 rfl rfl
theorem w3_159 : Cond.methodLink RL 104 yX10_merge ∈ g_tb := tb3 159 rfl rfl
theorem w3_160 : Cond.instanceMethod yX10_merge ∈ g_tb := tb3 160 rfl rfl
theorem w3_161 : Cond.selects RX10 yX10_merge yX10_merge ∈ g_tb := tb3 161 rfl rfl
theorem w3_162 : Cond.code yX10_merge cX10_merge 6 (some .int) ∈ g_tb := tb3 162 rfl rfl
theorem w3_163 : Cond.methodLink RX10 268 Lib.Math.min.name ∈ g_tb := tb3 163 rfl rfl
theorem w3_164 : Cond.methodLink RX10 273 Lib.Math.max.name ∈ g_tb := tb3 164 rfl rfl
theorem w3_165 : Cond.methodLink RL 108 yX10_undo ∈ g_tb := tb3 165 rfl rfl
theorem w3_166 : Cond.instanceMethod yX10_undo ∈ g_tb := tb3 166 rfl rfl
theorem w3_167 : Cond.selects RX10 yX10_undo yX10_undo ∈ g_tb := tb3 167 rfl rfl
theorem w3_168 : Cond.code yX10_undo cX10_undo 2 (some .int) ∈ g_tb := tb3 168 rfl rfl
theorem w3_169 : Cond.methodLink RX10 281 yX1_takeLatest ∈ g_tb := tb3 169 rfl rfl
theorem w3_170 : Cond.instanceMethod yX1_takeLatest ∈ g_tb := tb3 170 rfl rfl
theorem w3_171 : Cond.selects RX1 yX1_takeLatest yX1_takeLatest ∈ g_tb := tb3 171 rfl rfl
theorem w3_172 : Cond.code yX1_takeLatest cX1_takeLatest 1 (some (.object "NightDots$Act")) ∈ g_tb := tb3 172 rfl rfl
theorem w3_173 : Cond.methodLink RX10 297 yX9_bringBack ∈ g_tb := tb3 173 rfl rfl
theorem w3_174 : Cond.instanceMethod yX9_bringBack ∈ g_tb := tb3 174 rfl rfl
theorem w3_175 : Cond.selects RX9 yX9_bringBack yX9_bringBack ∈ g_tb := tb3 175 rfl rfl
theorem w3_176 : Cond.code yX9_bringBack cX9_bringBack 2 none ∈ g_tb := tb3 176 rfl rfl
theorem w3_177 : Cond.methodLink RL 112 yX10_count ∈ g_tb := tb3 177 rfl rfl
theorem w3_178 : Cond.instanceMethod yX10_count ∈ g_tb := tb3 178 rfl rfl
theorem w3_179 : Cond.selects RX10 yX10_count yX10_count ∈ g_tb := tb3 179 rfl rfl
theorem w3_180 : Cond.code yX10_count cX10_count 2 (some .int) ∈ g_tb := tb3 180 rfl rfl
theorem w3_181 : Cond.methodLink RX10 306 yX7_freeOnes ∈ g_tb := tb3 181 rfl rfl
theorem w3_182 : Cond.instanceMethod yX7_freeOnes ∈ g_tb := tb3 182 rfl rfl
theorem w3_183 : Cond.selects RX7 yX7_freeOnes yX7_freeOnes ∈ g_tb := tb3 183 rfl rfl
theorem w3_184 : Cond.code yX7_freeOnes cX7_freeOnes 3 (some .int) ∈ g_tb := tb3 184 rfl rfl
theorem w3_185 : Cond.methodLink RX7 31 yX7_isFree ∈ g_tb := tb3 185 rfl rfl
theorem w3_186 : Cond.methodLink RX10 309 yX9_notGone ∈ g_tb := tb3 186 rfl rfl
theorem w3_187 : Cond.instanceMethod yX9_notGone ∈ g_tb := tb3 187 rfl rfl
theorem w3_188 : Cond.selects RX9 yX9_notGone yX9_notGone ∈ g_tb := tb3 188 rfl rfl
theorem w3_189 : Cond.code yX9_notGone cX9_notGone 3 (some .int) ∈ g_tb := tb3 189 rfl rfl
theorem w3_190 : Cond.methodLink RX9 33 yX9_has ∈ g_tb := tb3 190 rfl rfl
theorem w3_191 : Cond.classLink RL 10 RX11 ∈ g_tb := tb3 191 rfl rfl
theorem w3_192 : Cond.instantiable RX11 36 ∈ g_tb := tb3 192 rfl rfl
theorem w3_193 : Cond.methodLink RL 12 yX11_init ∈ g_tb := tb3 193 rfl rfl
theorem w3_194 : Cond.instanceMethod yX11_init ∈ g_tb := tb3 194 rfl rfl
theorem w3_195 : Cond.code yX11_init cX11_init 1 none ∈ g_tb := tb3 195 rfl rfl
theorem w3_196 : Cond.methodLink RX11 1 objectInit ∈ g_tb := tb3 196 rfl rfl
theorem w3_197 : Cond.fieldLink RX11 75 "NightDotsModel" "dots" "I" ∈ g_tb := tb3 197 rfl rfl
theorem w3_198 : Cond.fieldLink RX11 82 "NightDotsModel" "paths" "I" ∈ g_tb := tb3 198 rfl rfl
theorem w3_199 : Cond.fieldLink RX11 7 "NightDotsModel" "pace" "I" ∈ g_tb := tb3 199 rfl rfl
theorem w3_200 : Cond.fieldLink RX11 13 "NightDotsModel" "grid" "I" ∈ g_tb := tb3 200 rfl rfl
theorem w3_201 : Cond.fieldLink RX11 16 "NightDotsModel" "end" "I" ∈ g_tb := tb3 201 rfl rfl
theorem w3_202 : Cond.fieldLink RX11 19 "NightDotsModel" "hour" "[I" ∈ g_tb := tb3 202 rfl rfl
theorem w3_203 : Cond.fieldLink RX11 23 "NightDotsModel" "x" "[I" ∈ g_tb := tb3 203 rfl rfl
theorem w3_204 : Cond.fieldLink RX11 26 "NightDotsModel" "y" "[I" ∈ g_tb := tb3 204 rfl rfl
theorem w3_205 : Cond.fieldLink RX11 29 "NightDotsModel" "watcher" "[I" ∈ g_tb := tb3 205 rfl rfl
theorem w3_206 : Cond.fieldLink RX11 32 "NightDotsModel" "of" "[I" ∈ g_tb := tb3 206 rfl rfl
theorem w3_207 : Cond.fieldLink RX11 35 "NightDotsModel" "name" "[I" ∈ g_tb := tb3 207 rfl rfl
theorem w3_208 : Cond.fieldLink RX11 38 "NightDotsModel" "size" "[I" ∈ g_tb := tb3 208 rfl rfl
theorem w3_209 : Cond.fieldLink RX11 41 "NightDotsModel" "row" "[I" ∈ g_tb := tb3 209 rfl rfl
theorem w3_210 : Cond.fieldLink RX11 44 "NightDotsModel" "gone" "[Z" ∈ g_tb := tb3 210 rfl rfl
theorem w3_211 : Cond.fieldLink RX11 48 "NightDotsModel" "some" "[I" ∈ g_tb := tb3 211 rfl rfl
theorem w3_212 : Cond.fieldLink RX11 96 "NightDotsModel" "count" "I" ∈ g_tb := tb3 212 rfl rfl
theorem w3_213 : Cond.fieldLink RX11 114 "NightDotsModel" "low" "I" ∈ g_tb := tb3 213 rfl rfl
theorem w3_214 : Cond.fieldLink RX11 117 "NightDotsModel" "high" "I" ∈ g_tb := tb3 214 rfl rfl
theorem w3_215 : Cond.fieldLink RX11 135 "NightDotsModel" "least" "J" ∈ g_tb := tb3 215 rfl rfl
theorem w3_216 : Cond.fieldLink RX11 142 "NightDotsModel" "most" "J" ∈ g_tb := tb3 216 rfl rfl
theorem w3_217 : Cond.fieldLink RX11 51 "NightDotsModel" "bitA" "[I" ∈ g_tb := tb3 217 rfl rfl
theorem w3_218 : Cond.fieldLink RX11 54 "NightDotsModel" "bitB" "[I" ∈ g_tb := tb3 218 rfl rfl
theorem w3_219 : Cond.fieldLink RX11 150 "NightDotsModel" "bits" "I" ∈ g_tb := tb3 219 rfl rfl
theorem w3_220 : Cond.fieldLink RX11 57 "NightDotsModel" "pairA" "[I" ∈ g_tb := tb3 220 rfl rfl
theorem w3_221 : Cond.fieldLink RX11 60 "NightDotsModel" "pairB" "[I" ∈ g_tb := tb3 221 rfl rfl
theorem w3_222 : Cond.fieldLink RX11 160 "NightDotsModel" "pairs" "I" ∈ g_tb := tb3 222 rfl rfl
theorem w3_223 : Cond.fieldLink RX11 85 "NightDotsModel" "acts" "I" ∈ g_tb := tb3 223 rfl rfl
theorem w3_224 : Cond.fieldLink RX11 169 "NightDotsModel" "firstAct" "I" ∈ g_tb := tb3 224 rfl rfl
theorem w3_225 : Cond.fieldLink RX11 63 "NightDotsModel" "keptPaths" "[I" ∈ g_tb := tb3 225 rfl rfl
theorem w3_226 : Cond.fieldLink RX11 66 "NightDotsModel" "keptSize" "[I" ∈ g_tb := tb3 226 rfl rfl
theorem w3_227 : Cond.fieldLink RX11 69 "NightDotsModel" "keptRow" "[I" ∈ g_tb := tb3 227 rfl rfl
theorem w3_228 : Cond.fieldLink RX11 72 "NightDotsModel" "keptGone" "[Z" ∈ g_tb := tb3 228 rfl rfl
theorem w3_229 : Cond.fieldLink RX11 204 "NightDotsModel" "vUp" "J" ∈ g_tb := tb3 229 rfl rfl
theorem w3_230 : Cond.fieldLink RX11 210 "NightDotsModel" "pUp" "J" ∈ g_tb := tb3 230 rfl rfl
theorem w3_231 : Cond.fieldLink RX11 201 "NightDotsModel" "under" "J" ∈ g_tb := tb3 231 rfl rfl
theorem w3_232 : Cond.fieldLink RX11 207 "NightDotsModel" "pUnder" "J" ∈ g_tb := tb3 232 rfl rfl
theorem w4_66 : Cond.arrayClass .boolean ∈ g_tb := tb4 66 rfl rfl
theorem w4_67 : Cond.methodLink RL 17 yX11_dot ∈ g_tb := tb4 67 rfl rfl
theorem w4_68 : Cond.instanceMethod yX11_dot ∈ g_tb := tb4 68 rfl rfl
theorem w4_69 : Cond.selects RX11 yX11_dot yX11_dot ∈ g_tb := tb4 69 rfl rfl
theorem w4_70 : Cond.code yX11_dot cX11_dot 6 (some .int) ∈ g_tb := tb4 70 rfl rfl
theorem w4_71 : Cond.methodLink RX11 78 yX11_isIn ∈ g_tb := tb4 71 rfl rfl
theorem w4_72 : Cond.static yX11_isIn ∈ g_tb := tb4 72 rfl rfl
theorem w4_73 : Cond.code yX11_isIn cX11_isIn 3 (some .boolean) ∈ g_tb := tb4 73 rfl rfl
theorem w4_74 : Cond.methodLink RL 22 yX11_pace ∈ g_tb := tb4 74 rfl rfl
theorem w4_75 : Cond.instanceMethod yX11_pace ∈ g_tb := tb4 75 rfl rfl
theorem w4_76 : Cond.selects RX11 yX11_pace yX11_pace ∈ g_tb := tb4 76 rfl rfl
theorem w4_77 : Cond.code yX11_pace cX11_pace 3 (some .int) ∈ g_tb := tb4 77 rfl rfl
theorem w4_78 : Cond.methodLink RL 27 yX11_net ∈ g_tb := tb4 78 rfl rfl
theorem w4_79 : Cond.instanceMethod yX11_net ∈ g_tb := tb4 79 rfl rfl
theorem w4_80 : Cond.selects RX11 yX11_net yX11_net ∈ g_tb := tb4 80 rfl rfl
theorem w4_81 : Cond.code yX11_net cX11_net 3 (some .int) ∈ g_tb := tb4 81 rfl rfl
theorem w4_82 : Cond.methodLink RL 31 yX11_about ∈ g_tb := tb4 82 rfl rfl
theorem w4_83 : Cond.instanceMethod yX11_about ∈ g_tb := tb4 83 rfl rfl
theorem w4_84 : Cond.selects RX11 yX11_about yX11_about ∈ g_tb := tb4 84 rfl rfl
theorem w4_85 : Cond.code yX11_about cX11_about 3 (some .int) ∈ g_tb := tb4 85 rfl rfl
theorem w4_86 : Cond.methodLink RX11 88 yX11_isDot ∈ g_tb := tb4 86 rfl rfl
theorem w4_88 : Cond.instanceMethod yX11_isDot ∈ g_tb := tb4 88 rfl rfl
theorem w4_89 : Cond.code yX11_isDot cX11_isDot 2 (some .boolean) ∈ g_tb := tb4 89 rfl rfl
theorem w4_90 : Cond.methodLink RX11 92 yX11_night ∈ g_tb := tb4 90 rfl rfl
theorem w4_92 : Cond.instanceMethod yX11_night ∈ g_tb := tb4 92 rfl rfl
theorem w4_93 : Cond.code yX11_night cX11_night 2 (some .int) ∈ g_tb := tb4 93 rfl rfl
theorem w4_94 : Cond.methodLink RL 36 yX11_bits ∈ g_tb := tb4 94 rfl rfl
theorem w4_95 : Cond.instanceMethod yX11_bits ∈ g_tb := tb4 95 rfl rfl
theorem w4_96 : Cond.selects RX11 yX11_bits yX11_bits ∈ g_tb := tb4 96 rfl rfl
theorem w4_97 : Cond.code yX11_bits cX11_bits 1 (some .int) ∈ g_tb := tb4 97 rfl rfl
theorem w4_98 : Cond.methodLink RX11 157 yX11_findBits ∈ g_tb := tb4 98 rfl rfl
theorem w4_100 : Cond.instanceMethod yX11_findBits ∈ g_tb := tb4 100 rfl rfl
theorem w4_101 : Cond.code yX11_findBits cX11_findBits 3 none ∈ g_tb := tb4 101 rfl rfl
theorem w4_102 : Cond.methodLink RX11 153 yX11_isNear ∈ g_tb := tb4 102 rfl rfl
theorem w4_104 : Cond.instanceMethod yX11_isNear ∈ g_tb := tb4 104 rfl rfl
theorem w4_105 : Cond.code yX11_isNear cX11_isNear 4 (some .boolean) ∈ g_tb := tb4 105 rfl rfl
theorem w4_106 : Cond.methodLink RX11 147 Lib.Math.abs.name ∈ g_tb := tb4 106 rfl rfl
theorem w4_107 : Cond.methodLink RL 40 yX11_bit ∈ g_tb := tb4 107 rfl rfl
theorem w4_108 : Cond.instanceMethod yX11_bit ∈ g_tb := tb4 108 rfl rfl
theorem w4_109 : Cond.selects RX11 yX11_bit yX11_bit ∈ g_tb := tb4 109 rfl rfl
theorem w4_110 : Cond.code yX11_bit cX11_bit 3 (some .int) ∈ g_tb := tb4 110 rfl rfl
theorem w4_111 : Cond.methodLink RL 44 yX11_pairs ∈ g_tb := tb4 111 rfl rfl
theorem w4_112 : Cond.instanceMethod yX11_pairs ∈ g_tb := tb4 112 rfl rfl
theorem w4_113 : Cond.selects RX11 yX11_pairs yX11_pairs ∈ g_tb := tb4 113 rfl rfl
theorem w4_114 : Cond.code yX11_pairs cX11_pairs 1 (some .int) ∈ g_tb := tb4 114 rfl rfl
theorem w4_115 : Cond.methodLink RX11 166 yX11_findPairs ∈ g_tb := tb4 115 rfl rfl
theorem w4_117 : Cond.instanceMethod yX11_findPairs ∈ g_tb := tb4 117 rfl rfl
theorem w4_118 : Cond.code yX11_findPairs cX11_findPairs 3 (some .boolean) ∈ g_tb := tb4 118 rfl rfl
theorem w4_119 : Cond.methodLink RX11 163 yX11_adds ∈ g_tb := tb4 119 rfl rfl
theorem w4_121 : Cond.instanceMethod yX11_adds ∈ g_tb := tb4 121 rfl rfl
theorem w4_122 : Cond.code yX11_adds cX11_adds 2 none ∈ g_tb := tb4 122 rfl rfl
theorem w4_123 : Cond.methodLink RX11 131 yX11_isHeap ∈ g_tb := tb4 123 rfl rfl
theorem w4_125 : Cond.instanceMethod yX11_isHeap ∈ g_tb := tb4 125 rfl rfl
theorem w4_126 : Cond.code yX11_isHeap cX11_isHeap 1 (some .boolean) ∈ g_tb := tb4 126 rfl rfl
theorem w4_127 : Cond.methodLink RX11 123 yX11_allLines ∈ g_tb := tb4 127 rfl rfl
theorem w4_129 : Cond.instanceMethod yX11_allLines ∈ g_tb := tb4 129 rfl rfl
theorem w4_130 : Cond.code yX11_allLines cX11_allLines 5 (some .long) ∈ g_tb := tb4 130 rfl rfl
theorem w4_131 : Cond.methodLink RX11 120 yX11_lines ∈ g_tb := tb4 131 rfl rfl
theorem w4_133 : Cond.instanceMethod yX11_lines ∈ g_tb := tb4 133 rfl rfl
theorem w4_134 : Cond.code yX11_lines cX11_lines 7 (some .int) ∈ g_tb := tb4 134 rfl rfl
theorem w4_135 : Cond.methodLink RX11 99 yX11_placeOf ∈ g_tb := tb4 135 rfl rfl
theorem w4_137 : Cond.instanceMethod yX11_placeOf ∈ g_tb := tb4 137 rfl rfl
theorem w4_138 : Cond.code yX11_placeOf cX11_placeOf 3 (some .int) ∈ g_tb := tb4 138 rfl rfl
theorem w4_139 : Cond.methodLink RX11 103 Lib.Math.max.name ∈ g_tb := tb4 139 rfl rfl
theorem w4_140 : Cond.methodLink RX11 108 Lib.Math.min.name ∈ g_tb := tb4 140 rfl rfl
theorem w4_141 : Cond.methodLink RX11 111 yJ9_floorDiv_7cf53 ∈ g_tb := tb4 141 rfl rfl
theorem w4_142 : Cond.methodLink RL 48 yX11_pair ∈ g_tb := tb4 142 rfl rfl
theorem w4_143 : Cond.instanceMethod yX11_pair ∈ g_tb := tb4 143 rfl rfl
theorem w4_144 : Cond.selects RX11 yX11_pair yX11_pair ∈ g_tb := tb4 144 rfl rfl
theorem w4_145 : Cond.code yX11_pair cX11_pair 3 (some .int) ∈ g_tb := tb4 145 rfl rfl
theorem w4_146 : Cond.methodLink RL 111 yX11_undo ∈ g_tb := tb4 146 rfl rfl
theorem w4_147 : Cond.instanceMethod yX11_undo ∈ g_tb := tb4 147 rfl rfl
theorem w4_148 : Cond.selects RX11 yX11_undo yX11_undo ∈ g_tb := tb4 148 rfl rfl
theorem w4_149 : Cond.code yX11_undo cX11_undo 5 (some .int) ∈ g_tb := tb4 149 rfl rfl
theorem w4_150 : Cond.methodLink RX11 172 yX11_own ∈ g_tb := tb4 150 rfl rfl
theorem w4_152 : Cond.instanceMethod yX11_own ∈ g_tb := tb4 152 rfl rfl
theorem w4_153 : Cond.code yX11_own cX11_own 3 none ∈ g_tb := tb4 153 rfl rfl
theorem w4_154 : Cond.methodLink RL 52 yX11_start ∈ g_tb := tb4 154 rfl rfl
theorem w4_155 : Cond.instanceMethod yX11_start ∈ g_tb := tb4 155 rfl rfl
theorem w4_156 : Cond.selects RX11 yX11_start yX11_start ∈ g_tb := tb4 156 rfl rfl
theorem w4_157 : Cond.code yX11_start cX11_start 4 (some .int) ∈ g_tb := tb4 157 rfl rfl
theorem w4_158 : Cond.methodLink RX11 178 yX11_begins ∈ g_tb := tb4 158 rfl rfl
theorem w4_160 : Cond.instanceMethod yX11_begins ∈ g_tb := tb4 160 rfl rfl
theorem w4_161 : Cond.code yX11_begins cX11_begins 3 (some .int) ∈ g_tb := tb4 161 rfl rfl
theorem w4_162 : Cond.methodLink RX11 175 yX11_keep ∈ g_tb := tb4 162 rfl rfl
theorem w4_164 : Cond.instanceMethod yX11_keep ∈ g_tb := tb4 164 rfl rfl
theorem w4_165 : Cond.code yX11_keep cX11_keep 4 none ∈ g_tb := tb4 165 rfl rfl
theorem w4_166 : Cond.methodLink RX11 181 yX11_comes ∈ g_tb := tb4 166 rfl rfl
theorem w4_168 : Cond.instanceMethod yX11_comes ∈ g_tb := tb4 168 rfl rfl
theorem w4_169 : Cond.code yX11_comes cX11_comes 3 none ∈ g_tb := tb4 169 rfl rfl
theorem w4_170 : Cond.methodLink RL 56 yX11_single ∈ g_tb := tb4 170 rfl rfl
theorem w4_171 : Cond.instanceMethod yX11_single ∈ g_tb := tb4 171 rfl rfl
theorem w4_172 : Cond.selects RX11 yX11_single yX11_single ∈ g_tb := tb4 172 rfl rfl
theorem w4_173 : Cond.code yX11_single cX11_single 4 (some .int) ∈ g_tb := tb4 173 rfl rfl
theorem w4_174 : Cond.methodLink RL 60 yX11_join ∈ g_tb := tb4 174 rfl rfl
theorem w4_175 : Cond.instanceMethod yX11_join ∈ g_tb := tb4 175 rfl rfl
theorem w4_176 : Cond.selects RX11 yX11_join yX11_join ∈ g_tb := tb4 176 rfl rfl
theorem w4_177 : Cond.code yX11_join cX11_join 3 (some .int) ∈ g_tb := tb4 177 rfl rfl
theorem w4_178 : Cond.methodLink RX11 185 yX11_isPath ∈ g_tb := tb4 178 rfl rfl
theorem w4_180 : Cond.instanceMethod yX11_isPath ∈ g_tb := tb4 180 rfl rfl
theorem w4_181 : Cond.code yX11_isPath cX11_isPath 2 (some .boolean) ∈ g_tb := tb4 181 rfl rfl
theorem w4_182 : Cond.methodLink RX11 127 yX11_take ∈ g_tb := tb4 182 rfl rfl
theorem w4_184 : Cond.instanceMethod yX11_take ∈ g_tb := tb4 184 rfl rfl
theorem w4_185 : Cond.code yX11_take cX11_take 3 none ∈ g_tb := tb4 185 rfl rfl
theorem w4_186 : Cond.methodLink RL 64 yX11_joinBit ∈ g_tb := tb4 186 rfl rfl
theorem w4_187 : Cond.instanceMethod yX11_joinBit ∈ g_tb := tb4 187 rfl rfl
theorem w4_188 : Cond.selects RX11 yX11_joinBit yX11_joinBit ∈ g_tb := tb4 188 rfl rfl
theorem w4_189 : Cond.code yX11_joinBit cX11_joinBit 4 (some .int) ∈ g_tb := tb4 189 rfl rfl
theorem w4_190 : Cond.methodLink RL 68 yX11_force ∈ g_tb := tb4 190 rfl rfl
theorem w4_191 : Cond.instanceMethod yX11_force ∈ g_tb := tb4 191 rfl rfl
theorem w4_192 : Cond.selects RX11 yX11_force yX11_force ∈ g_tb := tb4 192 rfl rfl
theorem w4_193 : Cond.code yX11_force cX11_force 3 (some .int) ∈ g_tb := tb4 193 rfl rfl
theorem w4_194 : Cond.methodLink RL 72 yX11_path ∈ g_tb := tb4 194 rfl rfl
theorem w4_195 : Cond.instanceMethod yX11_path ∈ g_tb := tb4 195 rfl rfl
theorem w4_196 : Cond.selects RX11 yX11_path yX11_path ∈ g_tb := tb4 196 rfl rfl
theorem w4_197 : Cond.code yX11_path cX11_path 3 (some .int) ∈ g_tb := tb4 197 rfl rfl
theorem w4_198 : Cond.methodLink RX11 188 yX11_isSound ∈ g_tb := tb4 198 rfl rfl
theorem w4_200 : Cond.instanceMethod yX11_isSound ∈ g_tb := tb4 200 rfl rfl
theorem w4_201 : Cond.code yX11_isSound cX11_isSound 2 (some .boolean) ∈ g_tb := tb4 201 rfl rfl
theorem w4_202 : Cond.methodLink RL 77 yX11_heap ∈ g_tb := tb4 202 rfl rfl
theorem w4_203 : Cond.instanceMethod yX11_heap ∈ g_tb := tb4 203 rfl rfl
theorem w4_204 : Cond.selects RX11 yX11_heap yX11_heap ∈ g_tb := tb4 204 rfl rfl
theorem w4_205 : Cond.code yX11_heap cX11_heap 2 (some .long) ∈ g_tb := tb4 205 rfl rfl
theorem w4_206 : Cond.constantLong RX11 191 (-1) ∈ g_tb := tb4 206 rfl rfl
theorem w4_207 : Cond.methodLink RL 82 yX11_ahead ∈ g_tb := tb4 207 rfl rfl
theorem w4_208 : Cond.instanceMethod yX11_ahead ∈ g_tb := tb4 208 rfl rfl
theorem w4_209 : Cond.selects RX11 yX11_ahead yX11_ahead ∈ g_tb := tb4 209 rfl rfl
theorem w4_210 : Cond.code yX11_ahead cX11_ahead 4 (some .long) ∈ g_tb := tb4 210 rfl rfl
theorem w4_211 : Cond.constantLong RX11 193 (-9223372036854775808) ∈ g_tb := tb4 211 rfl rfl
theorem w4_212 : Cond.methodLink RX11 195 yX11_ahead0 ∈ g_tb := tb4 212 rfl rfl
theorem w4_214 : Cond.instanceMethod yX11_ahead0 ∈ g_tb := tb4 214 rfl rfl
theorem w4_215 : Cond.code yX11_ahead0 cX11_ahead0 9 none ∈ g_tb := tb4 215 rfl rfl
theorem w4_216 : Cond.methodLink RX11 139 Lib.MathLoose.min_long.x ∈ g_tb := tb4 216 rfl rfl
theorem w4_217 : Cond.static Lib.MathLoose.min_long.x ∈ g_tb := tb4 217 rfl rfl
theorem w4_218 : Cond.code Lib.MathLoose.min_long.x Lib.MathLoose.min_long.code 4 (some .long) ∈ g_tb := tb4 218 rfl rfl
theorem w4_219 : Cond.methodLink RX11 145 Lib.MathLoose.max_long.x ∈ g_tb := tb4 219 rfl rfl
theorem w4_220 : Cond.static Lib.MathLoose.max_long.x ∈ g_tb := tb4 220 rfl rfl
theorem w4_221 : Cond.code Lib.MathLoose.max_long.x Lib.MathLoose.max_long.code 4 (some .long) ∈ g_tb := tb4 221 rfl rfl
theorem w4_222 : Cond.methodLink RL 86 yX11_tellOff ∈ g_tb := tb4 222 rfl rfl
theorem w4_223 : Cond.instanceMethod yX11_tellOff ∈ g_tb := tb4 223 rfl rfl
theorem w4_224 : Cond.selects RX11 yX11_tellOff yX11_tellOff ∈ g_tb := tb4 224 rfl rfl
theorem w4_225 : Cond.code yX11_tellOff cX11_tellOff 4 (some .int) ∈ g_tb := tb4 225 rfl rfl
theorem w4_226 : Cond.methodLink RX11 198 yX11_isWithin ∈ g_tb := tb4 226 rfl rfl
theorem w4_228 : Cond.instanceMethod yX11_isWithin ∈ g_tb := tb4 228 rfl rfl
theorem w4_229 : Cond.code yX11_isWithin cX11_isWithin 4 (some .boolean) ∈ g_tb := tb4 229 rfl rfl
theorem w4_230 : Cond.methodLink RL 91 yX11_fit ∈ g_tb := tb4 230 rfl rfl
theorem w4_231 : Cond.instanceMethod yX11_fit ∈ g_tb := tb4 231 rfl rfl
theorem w4_232 : Cond.selects RX11 yX11_fit yX11_fit ∈ g_tb := tb4 232 rfl rfl
theorem w4_233 : Cond.code yX11_fit cX11_fit 5 (some .long) ∈ g_tb := tb4 233 rfl rfl
theorem w4_234 : Cond.methodLink RX11 216 yX11_fits ∈ g_tb := tb4 234 rfl rfl
theorem w4_236 : Cond.instanceMethod yX11_fits ∈ g_tb := tb4 236 rfl rfl
theorem w4_237 : Cond.code yX11_fits cX11_fits 18 (some .boolean) ∈ g_tb := tb4 237 rfl rfl
theorem w4_238 : Cond.methodLink RX11 219 yX11_told ∈ g_tb := tb4 238 rfl rfl
theorem w4_239 : Cond.static yX11_told ∈ g_tb := tb4 239 rfl rfl
theorem w5_0 : Cond.code yX11_told cX11_told 7 (some .long) ∈ g_tb := tb5 0 rfl rfl
theorem w5_1 : Cond.methodLink RX11 213 yX11_divisor ∈ g_tb := tb5 1 rfl rfl
theorem w5_2 : Cond.static yX11_divisor ∈ g_tb := tb5 2 rfl rfl
theorem w5_3 : Cond.code yX11_divisor cX11_divisor 10 (some .long) ∈ g_tb := tb5 3 rfl rfl
theorem w5_4 : Cond.methodLink RL 95 yX11_miss ∈ g_tb := tb5 4 rfl rfl
theorem w5_5 : Cond.instanceMethod yX11_miss ∈ g_tb := tb5 5 rfl rfl
theorem w5_6 : Cond.selects RX11 yX11_miss yX11_miss ∈ g_tb := tb5 6 rfl rfl
theorem w5_7 : Cond.code yX11_miss cX11_miss 8 (some .long) ∈ g_tb := tb5 7 rfl rfl
theorem w5_8 : Cond.methodLink RL 99 yX11_part ∈ g_tb := tb5 8 rfl rfl
theorem w5_9 : Cond.instanceMethod yX11_part ∈ g_tb := tb5 9 rfl rfl
theorem w5_10 : Cond.selects RX11 yX11_part yX11_part ∈ g_tb := tb5 10 rfl rfl
theorem w5_11 : Cond.code yX11_part cX11_part 7 (some .int) ∈ g_tb := tb5 11 rfl rfl
theorem w5_12 : Cond.methodLink RX11 223 yX11_bitsOf ∈ g_tb := tb5 12 rfl rfl
theorem w5_13 : Cond.static yX11_bitsOf ∈ g_tb := tb5 13 rfl rfl
theorem w5_14 : Cond.code yX11_bitsOf cX11_bitsOf 3 (some .int) ∈ g_tb := tb5 14 rfl rfl
theorem w5_15 : Cond.methodLink RX11 226 yX11_isSoundWithout ∈ g_tb := tb5 15 rfl rfl
theorem w5_17 : Cond.instanceMethod yX11_isSoundWithout ∈ g_tb := tb5 17 rfl rfl
theorem w5_18 : Cond.code yX11_isSoundWithout cX11_isSoundWithout 4 (some .boolean) ∈ g_tb := tb5 18 rfl rfl
theorem w5_19 : Cond.methodLink RL 103 yX11_same ∈ g_tb := tb5 19 rfl rfl
theorem w5_20 : Cond.instanceMethod yX11_same ∈ g_tb := tb5 20 rfl rfl
theorem w5_21 : Cond.selects RX11 yX11_same yX11_same ∈ g_tb := tb5 21 rfl rfl
theorem w5_22 : Cond.code yX11_same cX11_same 3 (some .int) ∈ g_tb := tb5 22 rfl rfl
theorem w5_23 : Cond.methodLink RX11 229 yX11_areSame ∈ g_tb := tb5 23 rfl rfl
theorem w5_25 : Cond.instanceMethod yX11_areSame ∈ g_tb := tb5 25 rfl rfl
theorem w5_26 : Cond.code yX11_areSame cX11_areSame 4 (some .boolean) ∈ g_tb := tb5 26 rfl rfl
theorem w5_27 : Cond.methodLink RL 107 yX11_merge ∈ g_tb := tb5 27 rfl rfl
theorem w5_28 : Cond.instanceMethod yX11_merge ∈ g_tb := tb5 28 rfl rfl
theorem w5_29 : Cond.selects RX11 yX11_merge yX11_merge ∈ g_tb := tb5 29 rfl rfl
theorem w5_30 : Cond.code yX11_merge cX11_merge 6 (some .int) ∈ g_tb := tb5 30 rfl rfl
theorem w5_31 : Cond.methodLink RL 115 yX11_count ∈ g_tb := tb5 31 rfl rfl
theorem w5_32 : Cond.instanceMethod yX11_count ∈ g_tb := tb5 32 rfl rfl
theorem w5_33 : Cond.selects RX11 yX11_count yX11_count ∈ g_tb := tb5 33 rfl rfl
theorem w5_34 : Cond.code yX11_count cX11_count 4 (some .int) ∈ g_tb := tb5 34 rfl rfl
theorem w0_0 : Cond.selects RX5 yX5_findBits yX5_findBits ∈ g_tb := tb0 0 rfl rfl
theorem w0_1 : Cond.selects RX5 yX5_keepBit yX5_keepBit ∈ g_tb := tb0 1 rfl rfl
theorem w0_2 : Cond.selects RX5 yX5_findPairs yX5_findPairs ∈ g_tb := tb0 2 rfl rfl
theorem w0_3 : Cond.selects RX5 yX5_areOfUnlikeNights yX5_areOfUnlikeNights ∈ g_tb := tb0 3 rfl rfl
theorem w0_4 : Cond.selects RX4 yX4_isSoundBy yX4_isSoundBy ∈ g_tb := tb0 4 rfl rfl
theorem w0_5 : Cond.selects RX4 yX4_span yX4_span ∈ g_tb := tb0 5 rfl rfl
theorem w0_6 : Cond.selects RX5 yX5_keepPair yX5_keepPair ∈ g_tb := tb0 6 rfl rfl
theorem w0_7 : Cond.selects RX10 yX10_begin yX10_begin ∈ g_tb := tb0 7 rfl rfl
theorem w0_8 : Cond.selects RX10 yX10_changeRow yX10_changeRow ∈ g_tb := tb0 8 rfl rfl
theorem w0_9 : Cond.selects RX10 yX10_joinGroup yX10_joinGroup ∈ g_tb := tb0 9 rfl rfl
theorem w0_10 : Cond.selects RX10 yX10_lengthen yX10_lengthen ∈ g_tb := tb0 10 rfl rfl
theorem w0_11 : Cond.selects RX4 yX4_linesBy yX4_linesBy ∈ g_tb := tb0 11 rfl rfl
theorem w0_12 : Cond.selects RX4 yX4_reachesBy yX4_reachesBy ∈ g_tb := tb0 12 rfl rfl
theorem w0_13 : Cond.selects RX10 yX10_lay yX10_lay ∈ g_tb := tb0 13 rfl rfl
theorem w0_14 : Cond.selects RX10 yX10_parting yX10_parting ∈ g_tb := tb0 14 rfl rfl
theorem w0_15 : Cond.selects RX10 yX10_keepStaying yX10_keepStaying ∈ g_tb := tb0 15 rfl rfl
theorem w0_16 : Cond.selects RX10 yX10_gatherBoth yX10_gatherBoth ∈ g_tb := tb0 16 rfl rfl
theorem w0_17 : Cond.selects RX11 yX11_isDot yX11_isDot ∈ g_tb := tb0 17 rfl rfl
theorem w0_18 : Cond.selects RX11 yX11_night yX11_night ∈ g_tb := tb0 18 rfl rfl
theorem w0_19 : Cond.selects RX11 yX11_findBits yX11_findBits ∈ g_tb := tb0 19 rfl rfl
theorem w0_20 : Cond.selects RX11 yX11_isNear yX11_isNear ∈ g_tb := tb0 20 rfl rfl
theorem w0_21 : Cond.selects RX11 yX11_findPairs yX11_findPairs ∈ g_tb := tb0 21 rfl rfl
theorem w0_22 : Cond.selects RX11 yX11_adds yX11_adds ∈ g_tb := tb0 22 rfl rfl
theorem w0_23 : Cond.selects RX11 yX11_isHeap yX11_isHeap ∈ g_tb := tb0 23 rfl rfl
theorem w0_24 : Cond.selects RX11 yX11_allLines yX11_allLines ∈ g_tb := tb0 24 rfl rfl
theorem w0_25 : Cond.selects RX11 yX11_lines yX11_lines ∈ g_tb := tb0 25 rfl rfl
theorem w0_26 : Cond.selects RX11 yX11_placeOf yX11_placeOf ∈ g_tb := tb0 26 rfl rfl
theorem w0_27 : Cond.selects RX11 yX11_own yX11_own ∈ g_tb := tb0 27 rfl rfl
theorem w0_28 : Cond.selects RX11 yX11_begins yX11_begins ∈ g_tb := tb0 28 rfl rfl
theorem w0_29 : Cond.selects RX11 yX11_keep yX11_keep ∈ g_tb := tb0 29 rfl rfl
theorem w0_30 : Cond.selects RX11 yX11_comes yX11_comes ∈ g_tb := tb0 30 rfl rfl
theorem w0_31 : Cond.selects RX11 yX11_isPath yX11_isPath ∈ g_tb := tb0 31 rfl rfl
theorem w0_32 : Cond.selects RX11 yX11_take yX11_take ∈ g_tb := tb0 32 rfl rfl
theorem w0_33 : Cond.selects RX11 yX11_isSound yX11_isSound ∈ g_tb := tb0 33 rfl rfl
theorem w0_34 : Cond.selects RX11 yX11_ahead0 yX11_ahead0 ∈ g_tb := tb0 34 rfl rfl
theorem w0_35 : Cond.selects RX11 yX11_isWithin yX11_isWithin ∈ g_tb := tb0 35 rfl rfl
theorem w0_36 : Cond.selects RX11 yX11_fits yX11_fits ∈ g_tb := tb0 36 rfl rfl
theorem w0_37 : Cond.selects RX11 yX11_isSoundWithout yX11_isSoundWithout ∈ g_tb := tb0 37 rfl rfl
theorem w0_38 : Cond.selects RX11 yX11_areSame yX11_areSame ∈ g_tb := tb0 38 rfl rfl
theorem inX0 : ∀ w ∈ wsX00, w ∈ g_tb := by
  intro w hw
  obtain ⟨k, hk, rfl⟩ := List.mem_map.mp hw
  have hk : k < 4 := List.mem_range.mp hk
  rcases (show k = 0 ∨ k = 1 ∨ k = 2 ∨ k = 3 by omega) with rfl | rfl | rfl | rfl
  · exact tb1 236 rfl rfl
  · exact tb1 238 rfl rfl
  · exact tb2 0 rfl rfl
  · exact tb2 2 rfl rfl
theorem inX1 : ∀ w ∈ wsX10, w ∈ g_tb := by
  intro w hw
  obtain ⟨k, hk, rfl⟩ := List.mem_map.mp hw
  have hk : k < 3 := List.mem_range.mp hk
  rcases (show k = 0 ∨ k = 1 ∨ k = 2 by omega) with rfl | rfl | rfl
  · exact tb2 9 rfl rfl
  · exact tb2 11 rfl rfl
  · exact tb2 13 rfl rfl
theorem inX2 : ∀ w ∈ wsX20, w ∈ g_tb := by
  intro w hw
  obtain ⟨k, hk, rfl⟩ := List.mem_map.mp hw
  have hk : k < 4 := List.mem_range.mp hk
  rcases (show k = 0 ∨ k = 1 ∨ k = 2 ∨ k = 3 by omega) with rfl | rfl | rfl | rfl
  · exact tb1 99 rfl rfl
  · exact tb1 101 rfl rfl
  · exact tb1 103 rfl rfl
  · exact tb1 105 rfl rfl
theorem inX3 : ∀ w ∈ wsX30, w ∈ g_tb := by
  intro w hw
  obtain ⟨k, hk, rfl⟩ := List.mem_map.mp hw
  have hk : k < 5 := List.mem_range.mp hk
  rcases (show k = 0 ∨ k = 1 ∨ k = 2 ∨ k = 3 ∨ k = 4 by omega) with rfl | rfl | rfl | rfl | rfl
  · exact tb2 29 rfl rfl
  · exact tb2 31 rfl rfl
  · exact tb2 33 rfl rfl
  · exact tb2 35 rfl rfl
  · exact tb2 37 rfl rfl
theorem inX4 : ∀ w ∈ wsX40, w ∈ g_tb := by
  intro w hw
  obtain ⟨k, hk, rfl⟩ := List.mem_map.mp hw
  have hk : k < 5 := List.mem_range.mp hk
  rcases (show k = 0 ∨ k = 1 ∨ k = 2 ∨ k = 3 ∨ k = 4 by omega) with rfl | rfl | rfl | rfl | rfl
  · exact tb1 75 rfl rfl
  · exact tb1 77 rfl rfl
  · exact tb1 79 rfl rfl
  · exact tb1 81 rfl rfl
  · exact tb1 83 rfl rfl
theorem inX5 : ∀ w ∈ wsX50, w ∈ g_tb := by
  intro w hw
  obtain ⟨k, hk, rfl⟩ := List.mem_map.mp hw
  have hk : k < 11 := List.mem_range.mp hk
  rcases (show k = 0 ∨ k = 1 ∨ k = 2 ∨ k = 3 ∨ k = 4 ∨ k = 5 ∨ k = 6 ∨ k = 7 ∨ k = 8 ∨ k = 9 ∨ k = 10 by omega) with rfl | rfl | rfl | rfl | rfl | rfl | rfl | rfl | rfl | rfl | rfl
  · exact tb1 148 rfl rfl
  · exact tb1 150 rfl rfl
  · exact tb1 152 rfl rfl
  · exact tb1 154 rfl rfl
  · exact tb1 156 rfl rfl
  · exact tb1 158 rfl rfl
  · exact tb1 160 rfl rfl
  · exact tb1 162 rfl rfl
  · exact tb1 164 rfl rfl
  · exact tb1 166 rfl rfl
  · exact tb1 168 rfl rfl
theorem inX6 : ∀ w ∈ wsX60, w ∈ g_tb := by
  intro w hw
  obtain ⟨k, hk, rfl⟩ := List.mem_map.mp hw
  have hk : k < 2 := List.mem_range.mp hk
  rcases (show k = 0 ∨ k = 1 by omega) with rfl | rfl
  · exact tb1 130 rfl rfl
  · exact tb1 132 rfl rfl
theorem inX7 : ∀ w ∈ wsX70, w ∈ g_tb := by
  intro w hw
  obtain ⟨k, hk, rfl⟩ := List.mem_map.mp hw
  have hk : k < 6 := List.mem_range.mp hk
  rcases (show k = 0 ∨ k = 1 ∨ k = 2 ∨ k = 3 ∨ k = 4 ∨ k = 5 by omega) with rfl | rfl | rfl | rfl | rfl | rfl
  · exact tb1 48 rfl rfl
  · exact tb1 50 rfl rfl
  · exact tb1 52 rfl rfl
  · exact tb1 54 rfl rfl
  · exact tb1 56 rfl rfl
  · exact tb1 58 rfl rfl
theorem inX8 : ∀ w ∈ wsX80, w ∈ g_tb := by
  intro w hw
  obtain ⟨k, hk, rfl⟩ := List.mem_map.mp hw
  have hk : k < 3 := List.mem_range.mp hk
  rcases (show k = 0 ∨ k = 1 ∨ k = 2 by omega) with rfl | rfl | rfl
  · exact tb1 193 rfl rfl
  · exact tb1 195 rfl rfl
  · exact tb1 197 rfl rfl
theorem inX9 : ∀ w ∈ wsX90, w ∈ g_tb := by
  intro w hw
  obtain ⟨k, hk, rfl⟩ := List.mem_map.mp hw
  have hk : k < 3 := List.mem_range.mp hk
  rcases (show k = 0 ∨ k = 1 ∨ k = 2 by omega) with rfl | rfl | rfl
  · exact tb1 205 rfl rfl
  · exact tb1 207 rfl rfl
  · exact tb1 209 rfl rfl
theorem inX10 : ∀ w ∈ wsX100, w ∈ g_tb := by
  intro w hw
  obtain ⟨k, hk, rfl⟩ := List.mem_map.mp hw
  have hk : k < 8 := List.mem_range.mp hk
  rcases (show k = 0 ∨ k = 1 ∨ k = 2 ∨ k = 3 ∨ k = 4 ∨ k = 5 ∨ k = 6 ∨ k = 7 by omega) with rfl | rfl | rfl | rfl | rfl | rfl | rfl | rfl
  · exact tb2 50 rfl rfl
  · exact tb2 52 rfl rfl
  · exact tb2 54 rfl rfl
  · exact tb2 56 rfl rfl
  · exact tb2 58 rfl rfl
  · exact tb2 60 rfl rfl
  · exact tb2 62 rfl rfl
  · exact tb2 64 rfl rfl
theorem inX11 : ∀ w ∈ wsX110, w ∈ g_tb := by
  intro w hw
  obtain ⟨k, hk, rfl⟩ := List.mem_map.mp hw
  have hk : k < 36 := List.mem_range.mp hk
  rcases (show k = 0 ∨ k = 1 ∨ k = 2 ∨ k = 3 ∨ k = 4 ∨ k = 5 ∨ k = 6 ∨ k = 7 ∨ k = 8 ∨ k = 9 ∨ k = 10 ∨ k = 11 ∨ k = 12 ∨ k = 13 ∨ k = 14 ∨ k = 15 ∨ k = 16 ∨ k = 17 ∨ k = 18 ∨ k = 19 ∨ k = 20 ∨ k = 21 ∨ k = 22 ∨ k = 23 ∨ k = 24 ∨ k = 25 ∨ k = 26 ∨ k = 27 ∨ k = 28 ∨ k = 29 ∨ k = 30 ∨ k = 31 ∨ k = 32 ∨ k = 33 ∨ k = 34 ∨ k = 35 by omega) with rfl | rfl | rfl | rfl | rfl | rfl | rfl | rfl | rfl | rfl | rfl | rfl | rfl | rfl | rfl | rfl | rfl | rfl | rfl | rfl | rfl | rfl | rfl | rfl | rfl | rfl | rfl | rfl | rfl | rfl | rfl | rfl | rfl | rfl | rfl | rfl
  · exact tb3 233 rfl rfl
  · exact tb3 235 rfl rfl
  · exact tb3 237 rfl rfl
  · exact tb3 239 rfl rfl
  · exact tb4 1 rfl rfl
  · exact tb4 3 rfl rfl
  · exact tb4 5 rfl rfl
  · exact tb4 7 rfl rfl
  · exact tb4 9 rfl rfl
  · exact tb4 11 rfl rfl
  · exact tb4 13 rfl rfl
  · exact tb4 15 rfl rfl
  · exact tb4 17 rfl rfl
  · exact tb4 19 rfl rfl
  · exact tb4 21 rfl rfl
  · exact tb4 23 rfl rfl
  · exact tb4 25 rfl rfl
  · exact tb4 27 rfl rfl
  · exact tb4 29 rfl rfl
  · exact tb4 31 rfl rfl
  · exact tb4 33 rfl rfl
  · exact tb4 35 rfl rfl
  · exact tb4 37 rfl rfl
  · exact tb4 39 rfl rfl
  · exact tb4 41 rfl rfl
  · exact tb4 43 rfl rfl
  · exact tb4 45 rfl rfl
  · exact tb4 47 rfl rfl
  · exact tb4 49 rfl rfl
  · exact tb4 51 rfl rfl
  · exact tb4 53 rfl rfl
  · exact tb4 55 rfl rfl
  · exact tb4 57 rfl rfl
  · exact tb4 59 rfl rfl
  · exact tb4 61 rfl rfl
  · exact tb4 63 rfl rfl
