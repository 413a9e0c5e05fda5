theorem dX5_leastCounters_54 : decode cX5_leastCounters 54 = .ok (.aload_n 0, 1) := by decide +kernel
theorem dX5_leastCounters_55 : decode cX5_leastCounters 55 = .ok (.getfield 24, 3) := by decide +kernel
theorem dX5_leastCounters_58 : decode cX5_leastCounters 58 = .ok (.iastore, 1) := by decide +kernel
theorem dX5_leastCounters_59 : decode cX5_leastCounters 59 = .ok (.aload_n 0, 1) := by decide +kernel
theorem dX5_leastCounters_60 : decode cX5_leastCounters 60 = .ok (.getfield 11, 3) := by decide +kernel
theorem dX5_leastCounters_63 : decode cX5_leastCounters 63 = .ok (.iload 4, 2) := by decide +kernel
theorem dX5_leastCounters_65 : decode cX5_leastCounters 65 = .ok (.bipush 16, 2) := by decide +kernel
theorem dX5_leastCounters_67 : decode cX5_leastCounters 67 = .ok (.imul, 1) := by decide +kernel
theorem dX5_leastCounters_68 : decode cX5_leastCounters 68 = .ok (.iload_n 3, 1) := by decide +kernel
theorem dX5_leastCounters_69 : decode cX5_leastCounters 69 = .ok (.iadd, 1) := by decide +kernel
theorem dX5_leastCounters_70 : decode cX5_leastCounters 70 = .ok (.iaload, 1) := by decide +kernel
theorem dX5_leastCounters_71 : decode cX5_leastCounters 71 = .ok (.ireturn, 1) := by decide +kernel
theorem dX5_makeRows_0 : decode cX5_makeRows 0 = .ok (.aload_n 0, 1) := by decide +kernel
theorem dX5_makeRows_1 : decode cX5_makeRows 1 = .ok (.sipush 25600, 3) := by decide +kernel
theorem dX5_makeRows_4 : decode cX5_makeRows 4 = .ok (.newarray .int, 2) := by decide +kernel
theorem dX5_makeRows_6 : decode cX5_makeRows 6 = .ok (.putfield 11, 3) := by decide +kernel
theorem dX5_makeRows_9 : decode cX5_makeRows 9 = .ok (.aload_n 0, 1) := by decide +kernel
theorem dX5_makeRows_10 : decode cX5_makeRows 10 = .ok (.sipush 1600, 3) := by decide +kernel
theorem dX5_makeRows_13 : decode cX5_makeRows 13 = .ok (.newarray .int, 2) := by decide +kernel
theorem dX5_makeRows_15 : decode cX5_makeRows 15 = .ok (.putfield 15, 3) := by decide +kernel
theorem dX5_makeRows_18 : decode cX5_makeRows 18 = .ok (.aload_n 0, 1) := by decide +kernel
theorem dX5_makeRows_19 : decode cX5_makeRows 19 = .ok (.sipush 1600, 3) := by decide +kernel
theorem dX5_makeRows_22 : decode cX5_makeRows 22 = .ok (.newarray .int, 2) := by decide +kernel
theorem dX5_makeRows_24 : decode cX5_makeRows 24 = .ok (.putfield 18, 3) := by decide +kernel
theorem dX5_makeRows_27 : decode cX5_makeRows 27 = .ok (.aload_n 0, 1) := by decide +kernel
theorem dX5_makeRows_28 : decode cX5_makeRows 28 = .ok (.sipush 1600, 3) := by decide +kernel
theorem dX5_makeRows_31 : decode cX5_makeRows 31 = .ok (.newarray .int, 2) := by decide +kernel
theorem dX5_makeRows_33 : decode cX5_makeRows 33 = .ok (.putfield 21, 3) := by decide +kernel
theorem dX5_makeRows_36 : decode cX5_makeRows 36 = .ok (.return_, 1) := by decide +kernel
theorem dX5_search_0 : decode cX5_search 0 = .ok (.iload_n 2, 1) := by decide +kernel
theorem dX5_search_1 : decode cX5_search 1 = .ok (.bipush 16, 2) := by decide +kernel
theorem dX5_search_3 : decode cX5_search 3 = .ok (.imul, 1) := by decide +kernel
theorem dX5_search_4 : decode cX5_search 4 = .ok (.istore_n 3, 1) := by decide +kernel
theorem dX5_search_5 : decode cX5_search 5 = .ok (.aload_n 0, 1) := by decide +kernel
theorem dX5_search_6 : decode cX5_search 6 = .ok (.getfield 11, 3) := by decide +kernel
theorem dX5_search_9 : decode cX5_search 9 = .ok (.iload_n 3, 1) := by decide +kernel
theorem dX5_search_10 : decode cX5_search 10 = .ok (.iload_n 3, 1) := by decide +kernel
theorem dX5_search_11 : decode cX5_search 11 = .ok (.bipush 16, 2) := by decide +kernel
theorem dX5_search_13 : decode cX5_search 13 = .ok (.iadd, 1) := by decide +kernel
theorem dX5_search_14 : decode cX5_search 14 = .ok (.iconst (-1), 1) := by decide +kernel
theorem dX5_search_15 : decode cX5_search 15 = .ok (.invokestatic 43, 3) := by decide +kernel
theorem dX5_search_18 : decode cX5_search 18 = .ok (.aload_n 0, 1) := by decide +kernel
theorem dX5_search_19 : decode cX5_search 19 = .ok (.dup, 1) := by decide +kernel
theorem dX5_search_20 : decode cX5_search 20 = .ok (.getfield 49, 3) := by decide +kernel
theorem dX5_search_23 : decode cX5_search 23 = .ok (.iconst 1, 1) := by decide +kernel
theorem dX5_search_24 : decode cX5_search 24 = .ok (.iadd, 1) := by decide +kernel
theorem dX5_search_25 : decode cX5_search 25 = .ok (.putfield 49, 3) := by decide +kernel
theorem dX5_search_28 : decode cX5_search 28 = .ok (.aload_n 0, 1) := by decide +kernel
theorem dX5_search_29 : decode cX5_search 29 = .ok (.iconst 0, 1) := by decide +kernel
theorem dX5_search_30 : decode cX5_search 30 = .ok (.putfield 52, 3) := by decide +kernel
theorem dX5_search_33 : decode cX5_search 33 = .ok (.aload_n 0, 1) := by decide +kernel
theorem dX5_search_34 : decode cX5_search 34 = .ok (.iload_n 2, 1) := by decide +kernel
theorem dX5_search_35 : decode cX5_search 35 = .ok (.bipush 100, 2) := by decide +kernel
theorem dX5_search_37 : decode cX5_search 37 = .ok (.idiv, 1) := by decide +kernel
theorem dX5_search_38 : decode cX5_search 38 = .ok (.iload_n 2, 1) := by decide +kernel
theorem dX5_search_39 : decode cX5_search 39 = .ok (.bipush 100, 2) := by decide +kernel
theorem dX5_search_41 : decode cX5_search 41 = .ok (.irem, 1) := by decide +kernel
theorem dX5_search_42 : decode cX5_search 42 = .ok (.invokevirtual 55, 3) := by decide +kernel
theorem dX5_search_45 : decode cX5_search 45 = .ok (.iconst 0, 1) := by decide +kernel
theorem dX5_search_46 : decode cX5_search 46 = .ok (.istore 4, 2) := by decide +kernel
theorem dX5_search_48 : decode cX5_search 48 = .ok (.iload 4, 2) := by decide +kernel
theorem dX5_search_50 : decode cX5_search 50 = .ok (.sipush 1600, 3) := by decide +kernel
theorem dX5_search_53 : decode cX5_search 53 = .ok (.if_icmp .ge 167, 3) := by decide +kernel
theorem dX5_search_56 : decode cX5_search 56 = .ok (.iload 4, 2) := by decide +kernel
theorem dX5_search_58 : decode cX5_search 58 = .ok (.aload_n 0, 1) := by decide +kernel
theorem dX5_search_59 : decode cX5_search 59 = .ok (.getfield 52, 3) := by decide +kernel
theorem dX5_search_62 : decode cX5_search 62 = .ok (.if_icmp .ge 158, 3) := by decide +kernel
theorem dX5_search_65 : decode cX5_search 65 = .ok (.aload_n 0, 1) := by decide +kernel
theorem dX5_search_66 : decode cX5_search 66 = .ok (.getfield 21, 3) := by decide +kernel
theorem dX5_search_69 : decode cX5_search 69 = .ok (.iload 4, 2) := by decide +kernel
theorem dX5_search_71 : decode cX5_search 71 = .ok (.iaload, 1) := by decide +kernel
theorem dX5_search_72 : decode cX5_search 72 = .ok (.bipush 100, 2) := by decide +kernel
theorem dX5_search_74 : decode cX5_search 74 = .ok (.idiv, 1) := by decide +kernel
theorem dX5_search_75 : decode cX5_search 75 = .ok (.istore 5, 2) := by decide +kernel
theorem dX5_search_77 : decode cX5_search 77 = .ok (.aload_n 0, 1) := by decide +kernel
theorem dX5_search_78 : decode cX5_search 78 = .ok (.getfield 21, 3) := by decide +kernel
theorem dX5_search_81 : decode cX5_search 81 = .ok (.iload 4, 2) := by decide +kernel
theorem dX5_search_83 : decode cX5_search 83 = .ok (.iaload, 1) := by decide +kernel
theorem dX5_search_84 : decode cX5_search 84 = .ok (.bipush 100, 2) := by decide +kernel
theorem dX5_search_86 : decode cX5_search 86 = .ok (.irem, 1) := by decide +kernel
theorem dX5_search_87 : decode cX5_search 87 = .ok (.istore 6, 2) := by decide +kernel
theorem dX5_search_89 : decode cX5_search 89 = .ok (.aload_n 0, 1) := by decide +kernel
theorem dX5_search_90 : decode cX5_search 90 = .ok (.getfield 11, 3) := by decide +kernel
theorem dX5_search_93 : decode cX5_search 93 = .ok (.iload_n 3, 1) := by decide +kernel
theorem dX5_search_94 : decode cX5_search 94 = .ok (.iload 5, 2) := by decide +kernel
theorem dX5_search_96 : decode cX5_search 96 = .ok (.iadd, 1) := by decide +kernel
theorem dX5_search_97 : decode cX5_search 97 = .ok (.iaload, 1) := by decide +kernel
theorem dX5_search_98 : decode cX5_search 98 = .ok (.iconst (-1), 1) := by decide +kernel
theorem dX5_search_99 : decode cX5_search 99 = .ok (.if_icmp .eq 17, 3) := by decide +kernel
theorem dX5_search_102 : decode cX5_search 102 = .ok (.iload 6, 2) := by decide +kernel
theorem dX5_search_104 : decode cX5_search 104 = .ok (.aload_n 0, 1) := by decide +kernel
theorem dX5_search_105 : decode cX5_search 105 = .ok (.getfield 11, 3) := by decide +kernel
theorem dX5_search_108 : decode cX5_search 108 = .ok (.iload_n 3, 1) := by decide +kernel
theorem dX5_search_109 : decode cX5_search 109 = .ok (.iload 5, 2) := by decide +kernel
theorem dX5_search_111 : decode cX5_search 111 = .ok (.iadd, 1) := by decide +kernel
theorem dX5_search_112 : decode cX5_search 112 = .ok (.iaload, 1) := by decide +kernel
theorem dX5_search_113 : decode cX5_search 113 = .ok (.if_icmp .ge 14, 3) := by decide +kernel
theorem dX5_search_116 : decode cX5_search 116 = .ok (.aload_n 0, 1) := by decide +kernel
theorem dX5_search_117 : decode cX5_search 117 = .ok (.getfield 11, 3) := by decide +kernel
theorem dX5_search_120 : decode cX5_search 120 = .ok (.iload_n 3, 1) := by decide +kernel
theorem dX5_search_121 : decode cX5_search 121 = .ok (.iload 5, 2) := by decide +kernel
theorem dX5_search_123 : decode cX5_search 123 = .ok (.iadd, 1) := by decide +kernel
theorem dX5_search_124 : decode cX5_search 124 = .ok (.iload 6, 2) := by decide +kernel
theorem dX5_search_126 : decode cX5_search 126 = .ok (.iastore, 1) := by decide +kernel
theorem dX5_search_127 : decode cX5_search 127 = .ok (.iconst 0, 1) := by decide +kernel
theorem dX5_search_128 : decode cX5_search 128 = .ok (.istore 7, 2) := by decide +kernel
theorem dX5_search_130 : decode cX5_search 130 = .ok (.iload 7, 2) := by decide +kernel
theorem dX5_search_132 : decode cX5_search 132 = .ok (.aload_n 1, 1) := by decide +kernel
theorem dX5_search_133 : decode cX5_search 133 = .ok (.getfield 59, 3) := by decide +kernel
theorem dX5_search_136 : decode cX5_search 136 = .ok (.if_icmp .ge 32, 3) := by decide +kernel
theorem dX5_search_139 : decode cX5_search 139 = .ok (.aload_n 1, 1) := by decide +kernel
theorem dX5_search_140 : decode cX5_search 140 = .ok (.getfield 64, 3) := by decide +kernel
theorem dX5_search_143 : decode cX5_search 143 = .ok (.iload 7, 2) := by decide +kernel
theorem dX5_search_145 : decode cX5_search 145 = .ok (.iaload, 1) := by decide +kernel
theorem dX5_search_146 : decode cX5_search 146 = .ok (.iload 5, 2) := by decide +kernel
theorem dX5_search_148 : decode cX5_search 148 = .ok (.if_icmp .ne 14, 3) := by decide +kernel
theorem dX5_search_151 : decode cX5_search 151 = .ok (.aload_n 0, 1) := by decide +kernel
theorem dX5_search_152 : decode cX5_search 152 = .ok (.bipush 6, 2) := by decide +kernel
theorem dX5_search_154 : decode cX5_search 154 = .ok (.iload 7, 2) := by decide +kernel
theorem dX5_search_156 : decode cX5_search 156 = .ok (.iadd, 1) := by decide +kernel
theorem dX5_search_157 : decode cX5_search 157 = .ok (.iload 6, 2) := by decide +kernel
theorem dX5_search_159 : decode cX5_search 159 = .ok (.invokevirtual 55, 3) := by decide +kernel
theorem dX5_search_162 : decode cX5_search 162 = .ok (.iinc 7 1, 3) := by decide +kernel
theorem dX5_search_165 : decode cX5_search 165 = .ok (.goto (-35), 3) := by decide +kernel
theorem dX5_search_168 : decode cX5_search 168 = .ok (.iload 5, 2) := by decide +kernel
theorem dX5_search_170 : decode cX5_search 170 = .ok (.bipush 6, 2) := by decide +kernel
theorem dX5_search_172 : decode cX5_search 172 = .ok (.if_icmp .ge 7, 3) := by decide +kernel
theorem dX5_search_175 : decode cX5_search 175 = .ok (.iconst (-1), 1) := by decide +kernel
theorem dX5_search_176 : decode cX5_search 176 = .ok (.goto 14, 3) := by decide +kernel
theorem dX5_search_179 : decode cX5_search 179 = .ok (.aload_n 1, 1) := by decide +kernel
theorem dX5_search_180 : decode cX5_search 180 = .ok (.iload 5, 2) := by decide +kernel
theorem dX5_search_182 : decode cX5_search 182 = .ok (.bipush 6, 2) := by decide +kernel
theorem dX5_search_184 : decode cX5_search 184 = .ok (.isub, 1) := by decide +kernel
theorem dX5_search_185 : decode cX5_search 185 = .ok (.iload 6, 2) := by decide +kernel
theorem dX5_search_187 : decode cX5_search 187 = .ok (.invokevirtual 67, 3) := by decide +kernel
theorem dX5_search_190 : decode cX5_search 190 = .ok (.istore 7, 2) := by decide +kernel
theorem dX5_search_192 : decode cX5_search 192 = .ok (.iload 7, 2) := by decide +kernel
theorem dX5_search_194 : decode cX5_search 194 = .ok (.iconst (-1), 1) := by decide +kernel
theorem dX5_search_195 : decode cX5_search 195 = .ok (.if_icmp .eq 19, 3) := by decide +kernel
theorem dX5_search_198 : decode cX5_search 198 = .ok (.aload_n 0, 1) := by decide +kernel
theorem dX5_search_199 : decode cX5_search 199 = .ok (.aload_n 1, 1) := by decide +kernel
theorem dX5_search_200 : decode cX5_search 200 = .ok (.getfield 71, 3) := by decide +kernel
theorem dX5_search_203 : decode cX5_search 203 = .ok (.iload 5, 2) := by decide +kernel
theorem dX5_search_205 : decode cX5_search 205 = .ok (.bipush 6, 2) := by decide +kernel
theorem dX5_search_207 : decode cX5_search 207 = .ok (.isub, 1) := by decide +kernel
theorem dX5_search_208 : decode cX5_search 208 = .ok (.iaload, 1) := by decide +kernel
theorem dX5_search_209 : decode cX5_search 209 = .ok (.iload 7, 2) := by decide +kernel
theorem dX5_search_211 : decode cX5_search 211 = .ok (.invokevirtual 55, 3) := by decide +kernel
theorem dX5_search_214 : decode cX5_search 214 = .ok (.iinc 4 1, 3) := by decide +kernel
theorem dX5_search_217 : decode cX5_search 217 = .ok (.goto (-169), 3) := by decide +kernel
theorem dX5_search_220 : decode cX5_search 220 = .ok (.return_, 1) := by decide +kernel
theorem dX5_addPlace_0 : decode cX5_addPlace 0 = .ok (.iload_n 1, 1) := by decide +kernel
theorem dX5_addPlace_1 : decode cX5_addPlace 1 = .ok (.bipush 100, 2) := by decide +kernel
theorem dX5_addPlace_3 : decode cX5_addPlace 3 = .ok (.imul, 1) := by decide +kernel
theorem dX5_addPlace_4 : decode cX5_addPlace 4 = .ok (.iload_n 2, 1) := by decide +kernel
theorem dX5_addPlace_5 : decode cX5_addPlace 5 = .ok (.iadd, 1) := by decide +kernel
theorem dX5_addPlace_6 : decode cX5_addPlace 6 = .ok (.istore_n 3, 1) := by decide +kernel
theorem dX5_addPlace_7 : decode cX5_addPlace 7 = .ok (.aload_n 0, 1) := by decide +kernel
theorem dX5_addPlace_8 : decode cX5_addPlace 8 = .ok (.getfield 18, 3) := by decide +kernel
theorem dX5_addPlace_11 : decode cX5_addPlace 11 = .ok (.iload_n 3, 1) := by decide +kernel
theorem dX5_addPlace_12 : decode cX5_addPlace 12 = .ok (.iaload, 1) := by decide +kernel
theorem dX5_addPlace_13 : decode cX5_addPlace 13 = .ok (.aload_n 0, 1) := by decide +kernel
theorem dX5_addPlace_14 : decode cX5_addPlace 14 = .ok (.getfield 49, 3) := by decide +kernel
theorem dX5_addPlace_17 : decode cX5_addPlace 17 = .ok (.if_icmp .eq 33, 3) := by decide +kernel
theorem dX5_addPlace_20 : decode cX5_addPlace 20 = .ok (.aload_n 0, 1) := by decide +kernel
theorem dX5_addPlace_21 : decode cX5_addPlace 21 = .ok (.getfield 18, 3) := by decide +kernel
theorem dX5_addPlace_24 : decode cX5_addPlace 24 = .ok (.iload_n 3, 1) := by decide +kernel
theorem dX5_addPlace_25 : decode cX5_addPlace 25 = .ok (.aload_n 0, 1) := by decide +kernel
theorem dX5_addPlace_26 : decode cX5_addPlace 26 = .ok (.getfield 49, 3) := by decide +kernel
theorem dX5_addPlace_29 : decode cX5_addPlace 29 = .ok (.iastore, 1) := by decide +kernel
theorem dX5_addPlace_30 : decode cX5_addPlace 30 = .ok (.aload_n 0, 1) := by decide +kernel
theorem dX5_addPlace_31 : decode cX5_addPlace 31 = .ok (.getfield 21, 3) := by decide +kernel
theorem dX5_addPlace_34 : decode cX5_addPlace 34 = .ok (.aload_n 0, 1) := by decide +kernel
theorem dX5_addPlace_35 : decode cX5_addPlace 35 = .ok (.getfield 52, 3) := by decide +kernel
theorem dX5_addPlace_38 : decode cX5_addPlace 38 = .ok (.iload_n 3, 1) := by decide +kernel
theorem dX5_addPlace_39 : decode cX5_addPlace 39 = .ok (.iastore, 1) := by decide +kernel
theorem dX5_addPlace_40 : decode cX5_addPlace 40 = .ok (.aload_n 0, 1) := by decide +kernel
theorem dX5_addPlace_41 : decode cX5_addPlace 41 = .ok (.dup, 1) := by decide +kernel
theorem dX5_addPlace_42 : decode cX5_addPlace 42 = .ok (.getfield 52, 3) := by decide +kernel
theorem dX5_addPlace_45 : decode cX5_addPlace 45 = .ok (.iconst 1, 1) := by decide +kernel
theorem dX5_addPlace_46 : decode cX5_addPlace 46 = .ok (.iadd, 1) := by decide +kernel
theorem dX5_addPlace_47 : decode cX5_addPlace 47 = .ok (.putfield 52, 3) := by decide +kernel
theorem dX5_addPlace_50 : decode cX5_addPlace 50 = .ok (.return_, 1) := by decide +kernel
theorem dX6_init_0 : decode cX6_init 0 = .ok (.aload_n 0, 1) := by decide +kernel
theorem dX6_init_1 : decode cX6_init 1 = .ok (.invokespecial 3, 3) := by decide +kernel
theorem dX6_init_4 : decode cX6_init 4 = .ok (.aload_n 0, 1) := by decide +kernel
theorem dX6_init_5 : decode cX6_init 5 = .ok (.iconst 2, 1) := by decide +kernel
theorem dX6_init_6 : decode cX6_init 6 = .ok (.newarray .int, 2) := by decide +kernel
theorem dX6_init_8 : decode cX6_init 8 = .ok (.putfield 9, 3) := by decide +kernel
theorem dX6_init_11 : decode cX6_init 11 = .ok (.aload_n 0, 1) := by decide +kernel
theorem dX6_init_12 : decode cX6_init 12 = .ok (.bipush 24, 2) := by decide +kernel
theorem dX6_init_14 : decode cX6_init 14 = .ok (.newarray .int, 2) := by decide +kernel
theorem dX6_init_16 : decode cX6_init 16 = .ok (.putfield 15, 3) := by decide +kernel
theorem dX6_init_19 : decode cX6_init 19 = .ok (.return_, 1) := by decide +kernel
theorem dX6_sizeOf_0 : decode cX6_sizeOf 0 = .ok (.aload_n 0, 1) := by decide +kernel
theorem dX6_sizeOf_1 : decode cX6_sizeOf 1 = .ok (.getfield 9, 3) := by decide +kernel
theorem dX6_sizeOf_4 : decode cX6_sizeOf 4 = .ok (.iload_n 1, 1) := by decide +kernel
theorem dX6_sizeOf_5 : decode cX6_sizeOf 5 = .ok (.iaload, 1) := by decide +kernel
theorem dX6_sizeOf_6 : decode cX6_sizeOf 6 = .ok (.ireturn, 1) := by decide +kernel
theorem dX6_stampAt_0 : decode cX6_stampAt 0 = .ok (.aload_n 0, 1) := by decide +kernel
theorem dX6_stampAt_1 : decode cX6_stampAt 1 = .ok (.getfield 15, 3) := by decide +kernel
theorem dX6_stampAt_4 : decode cX6_stampAt 4 = .ok (.iload_n 1, 1) := by decide +kernel
theorem dX6_stampAt_5 : decode cX6_stampAt 5 = .ok (.bipush 12, 2) := by decide +kernel
theorem dX6_stampAt_7 : decode cX6_stampAt 7 = .ok (.imul, 1) := by decide +kernel
theorem dX6_stampAt_8 : decode cX6_stampAt 8 = .ok (.iload_n 2, 1) := by decide +kernel
theorem dX6_stampAt_9 : decode cX6_stampAt 9 = .ok (.iadd, 1) := by decide +kernel
theorem dX6_stampAt_10 : decode cX6_stampAt 10 = .ok (.iaload, 1) := by decide +kernel
theorem dX6_stampAt_11 : decode cX6_stampAt 11 = .ok (.ireturn, 1) := by decide +kernel
theorem dX6_isFull_0 : decode cX6_isFull 0 = .ok (.aload_n 0, 1) := by decide +kernel
theorem dX6_isFull_1 : decode cX6_isFull 1 = .ok (.getfield 9, 3) := by decide +kernel
theorem dX6_isFull_4 : decode cX6_isFull 4 = .ok (.iload_n 1, 1) := by decide +kernel
theorem dX6_isFull_5 : decode cX6_isFull 5 = .ok (.iaload, 1) := by decide +kernel
theorem dX6_isFull_6 : decode cX6_isFull 6 = .ok (.bipush 12, 2) := by decide +kernel
theorem dX6_isFull_8 : decode cX6_isFull 8 = .ok (.if_icmp .lt 7, 3) := by decide +kernel
theorem dX6_isFull_11 : decode cX6_isFull 11 = .ok (.iconst 1, 1) := by decide +kernel
theorem dX6_isFull_12 : decode cX6_isFull 12 = .ok (.goto 4, 3) := by decide +kernel
theorem dX6_isFull_15 : decode cX6_isFull 15 = .ok (.iconst 0, 1) := by decide +kernel
theorem dX6_isFull_16 : decode cX6_isFull 16 = .ok (.ireturn, 1) := by decide +kernel
theorem dX6_countAt_0 : decode cX6_countAt 0 = .ok (.iconst 0, 1) := by decide +kernel
theorem dX6_countAt_1 : decode cX6_countAt 1 = .ok (.istore_n 3, 1) := by decide +kernel
theorem dX6_countAt_2 : decode cX6_countAt 2 = .ok (.iconst 0, 1) := by decide +kernel
theorem dX6_countAt_3 : decode cX6_countAt 3 = .ok (.istore 4, 2) := by decide +kernel
theorem dX6_countAt_5 : decode cX6_countAt 5 = .ok (.iload 4, 2) := by decide +kernel
theorem dX6_countAt_7 : decode cX6_countAt 7 = .ok (.aload_n 0, 1) := by decide +kernel
theorem dX6_countAt_8 : decode cX6_countAt 8 = .ok (.getfield 9, 3) := by decide +kernel
theorem dX6_countAt_11 : decode cX6_countAt 11 = .ok (.iload_n 1, 1) := by decide +kernel
theorem dX6_countAt_12 : decode cX6_countAt 12 = .ok (.iaload, 1) := by decide +kernel
theorem dX6_countAt_13 : decode cX6_countAt 13 = .ok (.if_icmp .ge 27, 3) := by decide +kernel
theorem dX6_countAt_16 : decode cX6_countAt 16 = .ok (.aload_n 0, 1) := by decide +kernel
theorem dX6_countAt_17 : decode cX6_countAt 17 = .ok (.iload_n 1, 1) := by decide +kernel
theorem dX6_countAt_18 : decode cX6_countAt 18 = .ok (.iload 4, 2) := by decide +kernel
theorem dX6_countAt_20 : decode cX6_countAt 20 = .ok (.invokevirtual 18, 3) := by decide +kernel
theorem dX6_countAt_23 : decode cX6_countAt 23 = .ok (.sipush 1000, 3) := by decide +kernel
theorem dX6_countAt_26 : decode cX6_countAt 26 = .ok (.idiv, 1) := by decide +kernel
theorem dX6_countAt_27 : decode cX6_countAt 27 = .ok (.iload_n 2, 1) := by decide +kernel
theorem dX6_countAt_28 : decode cX6_countAt 28 = .ok (.if_icmp .ne 6, 3) := by decide +kernel
theorem dX6_countAt_31 : decode cX6_countAt 31 = .ok (.iinc 3 1, 3) := by decide +kernel
theorem dX6_countAt_34 : decode cX6_countAt 34 = .ok (.iinc 4 1, 3) := by decide +kernel
theorem dX6_countAt_37 : decode cX6_countAt 37 = .ok (.goto (-32), 3) := by decide +kernel
theorem dX6_countAt_40 : decode cX6_countAt 40 = .ok (.iload_n 3, 1) := by decide +kernel
theorem dX6_countAt_41 : decode cX6_countAt 41 = .ok (.ireturn, 1) := by decide +kernel
theorem dX6_put_0 : decode cX6_put 0 = .ok (.aload_n 0, 1) := by decide +kernel
theorem dX6_put_1 : decode cX6_put 1 = .ok (.getfield 15, 3) := by decide +kernel
theorem dX6_put_4 : decode cX6_put 4 = .ok (.iload_n 1, 1) := by decide +kernel
theorem dX6_put_5 : decode cX6_put 5 = .ok (.bipush 12, 2) := by decide +kernel
theorem dX6_put_7 : decode cX6_put 7 = .ok (.imul, 1) := by decide +kernel
theorem dX6_put_8 : decode cX6_put 8 = .ok (.aload_n 0, 1) := by decide +kernel
theorem dX6_put_9 : decode cX6_put 9 = .ok (.getfield 9, 3) := by decide +kernel
theorem dX6_put_12 : decode cX6_put 12 = .ok (.iload_n 1, 1) := by decide +kernel
theorem dX6_put_13 : decode cX6_put 13 = .ok (.iaload, 1) := by decide +kernel
theorem dX6_put_14 : decode cX6_put 14 = .ok (.iadd, 1) := by decide +kernel
theorem dX6_put_15 : decode cX6_put 15 = .ok (.iload_n 2, 1) := by decide +kernel
theorem dX6_put_16 : decode cX6_put 16 = .ok (.iastore, 1) := by decide +kernel
theorem dX6_put_17 : decode cX6_put 17 = .ok (.aload_n 0, 1) := by decide +kernel
theorem dX6_put_18 : decode cX6_put 18 = .ok (.getfield 9, 3) := by decide +kernel
theorem dX6_put_21 : decode cX6_put 21 = .ok (.iload_n 1, 1) := by decide +kernel
theorem dX6_put_22 : decode cX6_put 22 = .ok (.dup2, 1) := by decide +kernel
theorem dX6_put_23 : decode cX6_put 23 = .ok (.iaload, 1) := by decide +kernel
theorem dX6_put_24 : decode cX6_put 24 = .ok (.iconst 1, 1) := by decide +kernel
theorem dX6_put_25 : decode cX6_put 25 = .ok (.iadd, 1) := by decide +kernel
theorem dX6_put_26 : decode cX6_put 26 = .ok (.iastore, 1) := by decide +kernel
theorem dX6_put_27 : decode cX6_put 27 = .ok (.return_, 1) := by decide +kernel
theorem dX6_remove_0 : decode cX6_remove 0 = .ok (.iconst 0, 1) := by decide +kernel
theorem dX6_remove_1 : decode cX6_remove 1 = .ok (.istore_n 3, 1) := by decide +kernel
theorem dX6_remove_2 : decode cX6_remove 2 = .ok (.iload_n 3, 1) := by decide +kernel
theorem dX6_remove_3 : decode cX6_remove 3 = .ok (.aload_n 0, 1) := by decide +kernel
theorem dX6_remove_4 : decode cX6_remove 4 = .ok (.getfield 9, 3) := by decide +kernel
theorem dX6_remove_7 : decode cX6_remove 7 = .ok (.iload_n 1, 1) := by decide +kernel
theorem dX6_remove_8 : decode cX6_remove 8 = .ok (.iaload, 1) := by decide +kernel
theorem dX6_remove_9 : decode cX6_remove 9 = .ok (.if_icmp .ge 52, 3) := by decide +kernel
theorem dX6_remove_12 : decode cX6_remove 12 = .ok (.aload_n 0, 1) := by decide +kernel
theorem dX6_remove_13 : decode cX6_remove 13 = .ok (.iload_n 1, 1) := by decide +kernel
theorem dX6_remove_14 : decode cX6_remove 14 = .ok (.iload_n 3, 1) := by decide +kernel
theorem dX6_remove_15 : decode cX6_remove 15 = .ok (.invokevirtual 18, 3) := by decide +kernel
theorem dX6_remove_18 : decode cX6_remove 18 = .ok (.iload_n 2, 1) := by decide +kernel
theorem dX6_remove_19 : decode cX6_remove 19 = .ok (.if_icmp .ne 36, 3) := by decide +kernel
theorem dX6_remove_22 : decode cX6_remove 22 = .ok (.aload_n 0, 1) := by decide +kernel
theorem dX6_remove_23 : decode cX6_remove 23 = .ok (.getfield 9, 3) := by decide +kernel
theorem dX6_remove_26 : decode cX6_remove 26 = .ok (.iload_n 1, 1) := by decide +kernel
theorem dX6_remove_27 : decode cX6_remove 27 = .ok (.dup2, 1) := by decide +kernel
theorem dX6_remove_28 : decode cX6_remove 28 = .ok (.iaload, 1) := by decide +kernel
theorem dX6_remove_29 : decode cX6_remove 29 = .ok (.iconst 1, 1) := by decide +kernel
theorem dX6_remove_30 : decode cX6_remove 30 = .ok (.isub, 1) := by decide +kernel
theorem dX6_remove_31 : decode cX6_remove 31 = .ok (.iastore, 1) := by decide +kernel
theorem dX6_remove_32 : decode cX6_remove 32 = .ok (.aload_n 0, 1) := by decide +kernel
theorem dX6_remove_33 : decode cX6_remove 33 = .ok (.getfield 15, 3) := by decide +kernel
theorem dX6_remove_36 : decode cX6_remove 36 = .ok (.iload_n 1, 1) := by decide +kernel
theorem dX6_remove_37 : decode cX6_remove 37 = .ok (.bipush 12, 2) := by decide +kernel
theorem dX6_remove_39 : decode cX6_remove 39 = .ok (.imul, 1) := by decide +kernel
theorem dX6_remove_40 : decode cX6_remove 40 = .ok (.iload_n 3, 1) := by decide +kernel
theorem dX6_remove_41 : decode cX6_remove 41 = .ok (.iadd, 1) := by decide +kernel
theorem dX6_remove_42 : decode cX6_remove 42 = .ok (.aload_n 0, 1) := by decide +kernel
theorem dX6_remove_43 : decode cX6_remove 43 = .ok (.iload_n 1, 1) := by decide +kernel
theorem dX6_remove_44 : decode cX6_remove 44 = .ok (.aload_n 0, 1) := by decide +kernel
theorem dX6_remove_45 : decode cX6_remove 45 = .ok (.getfield 9, 3) := by decide +kernel
theorem dX6_remove_48 : decode cX6_remove 48 = .ok (.iload_n 1, 1) := by decide +kernel
theorem dX6_remove_49 : decode cX6_remove 49 = .ok (.iaload, 1) := by decide +kernel
theorem dX6_remove_50 : decode cX6_remove 50 = .ok (.invokevirtual 18, 3) := by decide +kernel
theorem dX6_remove_53 : decode cX6_remove 53 = .ok (.iastore, 1) := by decide +kernel
theorem dX6_remove_54 : decode cX6_remove 54 = .ok (.return_, 1) := by decide +kernel
theorem dX6_remove_55 : decode cX6_remove 55 = .ok (.iinc 3 1, 3) := by decide +kernel
theorem dX6_remove_58 : decode cX6_remove 58 = .ok (.goto (-56), 3) := by decide +kernel
theorem dX6_remove_61 : decode cX6_remove 61 = .ok (.return_, 1) := by decide +kernel
theorem dX6_copyFrom_0 : decode cX6_copyFrom 0 = .ok (.aload_n 1, 1) := by decide +kernel
theorem dX6_copyFrom_1 : decode cX6_copyFrom 1 = .ok (.getfield 9, 3) := by decide +kernel
theorem dX6_copyFrom_4 : decode cX6_copyFrom 4 = .ok (.iconst 0, 1) := by decide +kernel
theorem dX6_copyFrom_5 : decode cX6_copyFrom 5 = .ok (.aload_n 0, 1) := by decide +kernel
theorem dX6_copyFrom_6 : decode cX6_copyFrom 6 = .ok (.getfield 9, 3) := by decide +kernel
theorem dX6_copyFrom_9 : decode cX6_copyFrom 9 = .ok (.iconst 0, 1) := by decide +kernel
theorem dX6_copyFrom_10 : decode cX6_copyFrom 10 = .ok (.aload_n 0, 1) := by decide +kernel
theorem dX6_copyFrom_11 : decode cX6_copyFrom 11 = .ok (.getfield 9, 3) := by decide +kernel
theorem dX6_copyFrom_14 : decode cX6_copyFrom 14 = .ok (.arraylength, 1) := by decide +kernel
theorem dX6_copyFrom_15 : decode cX6_copyFrom 15 = .ok (.invokestatic 22, 3) := by decide +kernel
theorem dX6_copyFrom_18 : decode cX6_copyFrom 18 = .ok (.aload_n 1, 1) := by decide +kernel
theorem dX6_copyFrom_19 : decode cX6_copyFrom 19 = .ok (.getfield 15, 3) := by decide +kernel
theorem dX6_copyFrom_22 : decode cX6_copyFrom 22 = .ok (.iconst 0, 1) := by decide +kernel
theorem dX6_copyFrom_23 : decode cX6_copyFrom 23 = .ok (.aload_n 0, 1) := by decide +kernel
theorem dX6_copyFrom_24 : decode cX6_copyFrom 24 = .ok (.getfield 15, 3) := by decide +kernel
theorem dX6_copyFrom_27 : decode cX6_copyFrom 27 = .ok (.iconst 0, 1) := by decide +kernel
theorem dX6_copyFrom_28 : decode cX6_copyFrom 28 = .ok (.aload_n 0, 1) := by decide +kernel
theorem dX6_copyFrom_29 : decode cX6_copyFrom 29 = .ok (.getfield 15, 3) := by decide +kernel
theorem dX6_copyFrom_32 : decode cX6_copyFrom 32 = .ok (.arraylength, 1) := by decide +kernel
theorem dX6_copyFrom_33 : decode cX6_copyFrom 33 = .ok (.invokestatic 22, 3) := by decide +kernel
theorem dX6_copyFrom_36 : decode cX6_copyFrom 36 = .ok (.return_, 1) := by decide +kernel
theorem dX7_init_0 : decode cX7_init 0 = .ok (.aload_n 0, 1) := by decide +kernel
theorem dX7_init_1 : decode cX7_init 1 = .ok (.invokespecial 3, 3) := by decide +kernel
theorem dX7_init_4 : decode cX7_init 4 = .ok (.aload_n 0, 1) := by decide +kernel
theorem dX7_init_5 : decode cX7_init 5 = .ok (.iconst 4, 1) := by decide +kernel
theorem dX7_init_6 : decode cX7_init 6 = .ok (.newarray .int, 2) := by decide +kernel
theorem dX7_init_8 : decode cX7_init 8 = .ok (.putfield 9, 3) := by decide +kernel
theorem dX7_init_11 : decode cX7_init 11 = .ok (.aload_n 0, 1) := by decide +kernel
theorem dX7_init_12 : decode cX7_init 12 = .ok (.iconst 3, 1) := by decide +kernel
theorem dX7_init_13 : decode cX7_init 13 = .ok (.anewarray 13, 3) := by decide +kernel
theorem dX7_init_16 : decode cX7_init 16 = .ok (.putfield 15, 3) := by decide +kernel
theorem dX7_init_19 : decode cX7_init 19 = .ok (.aload_n 0, 1) := by decide +kernel
theorem dX7_init_20 : decode cX7_init 20 = .ok (.new 19, 3) := by decide +kernel
theorem dX7_init_23 : decode cX7_init 23 = .ok (.dup, 1) := by decide +kernel
theorem dX7_init_24 : decode cX7_init 24 = .ok (.invokespecial 21, 3) := by decide +kernel
theorem dX7_init_27 : decode cX7_init 27 = .ok (.putfield 22, 3) := by decide +kernel
theorem dX7_init_30 : decode cX7_init 30 = .ok (.aload_n 0, 1) := by decide +kernel
theorem dX7_init_31 : decode cX7_init 31 = .ok (.new 13, 3) := by decide +kernel
theorem dX7_init_34 : decode cX7_init 34 = .ok (.dup, 1) := by decide +kernel
theorem dX7_init_35 : decode cX7_init 35 = .ok (.invokespecial 26, 3) := by decide +kernel
theorem dX7_init_38 : decode cX7_init 38 = .ok (.putfield 27, 3) := by decide +kernel
theorem dX7_init_41 : decode cX7_init 41 = .ok (.iconst 0, 1) := by decide +kernel
theorem dX7_init_42 : decode cX7_init 42 = .ok (.istore_n 1, 1) := by decide +kernel
theorem dX7_init_43 : decode cX7_init 43 = .ok (.iload_n 1, 1) := by decide +kernel
theorem dX7_init_44 : decode cX7_init 44 = .ok (.iconst 3, 1) := by decide +kernel
theorem dX7_init_45 : decode cX7_init 45 = .ok (.if_icmp .ge 22, 3) := by decide +kernel
theorem dX7_init_48 : decode cX7_init 48 = .ok (.aload_n 0, 1) := by decide +kernel
theorem dX7_init_49 : decode cX7_init 49 = .ok (.getfield 15, 3) := by decide +kernel
theorem dX7_init_52 : decode cX7_init 52 = .ok (.iload_n 1, 1) := by decide +kernel
theorem dX7_init_53 : decode cX7_init 53 = .ok (.new 13, 3) := by decide +kernel
theorem dX7_init_56 : decode cX7_init 56 = .ok (.dup, 1) := by decide +kernel
theorem dX7_init_57 : decode cX7_init 57 = .ok (.invokespecial 26, 3) := by decide +kernel
theorem dX7_init_60 : decode cX7_init 60 = .ok (.aastore, 1) := by decide +kernel
theorem dX7_init_61 : decode cX7_init 61 = .ok (.iinc 1 1, 3) := by decide +kernel
theorem dX7_init_64 : decode cX7_init 64 = .ok (.goto (-21), 3) := by decide +kernel
theorem dX7_init_67 : decode cX7_init 67 = .ok (.return_, 1) := by decide +kernel
theorem dX7_addNode_0 : decode cX7_addNode 0 = .ok (.iload_n 1, 1) := by decide +kernel
theorem dX7_addNode_1 : decode cX7_addNode 1 = .ok (.ifCond .lt 24, 3) := by decide +kernel
theorem dX7_addNode_4 : decode cX7_addNode 4 = .ok (.iload_n 1, 1) := by decide +kernel
theorem dX7_addNode_5 : decode cX7_addNode 5 = .ok (.iconst 2, 1) := by decide +kernel
theorem dX7_addNode_6 : decode cX7_addNode 6 = .ok (.if_icmp .gt 19, 3) := by decide +kernel
theorem dX7_addNode_9 : decode cX7_addNode 9 = .ok (.iload_n 2, 1) := by decide +kernel
theorem dX7_addNode_10 : decode cX7_addNode 10 = .ok (.invokestatic 31, 3) := by decide +kernel
theorem dX7_addNode_13 : decode cX7_addNode 13 = .ok (.ifCond .eq 12, 3) := by decide +kernel
theorem dX7_addNode_16 : decode cX7_addNode 16 = .ok (.iload_n 2, 1) := by decide +kernel
theorem dX7_addNode_17 : decode cX7_addNode 17 = .ok (.iconst 1, 1) := by decide +kernel
theorem dX7_addNode_18 : decode cX7_addNode 18 = .ok (.if_icmp .ne 14, 3) := by decide +kernel
theorem dX7_addNode_21 : decode cX7_addNode 21 = .ok (.iload_n 1, 1) := by decide +kernel
theorem dX7_addNode_22 : decode cX7_addNode 22 = .ok (.ifCond .eq 10, 3) := by decide +kernel
theorem dX7_addNode_25 : decode cX7_addNode 25 = .ok (.aload_n 0, 1) := by decide +kernel
theorem dX7_addNode_26 : decode cX7_addNode 26 = .ok (.bipush (-2), 2) := by decide +kernel
theorem dX7_addNode_28 : decode cX7_addNode 28 = .ok (.invokevirtual 35, 3) := by decide +kernel
theorem dX7_addNode_31 : decode cX7_addNode 31 = .ok (.ireturn, 1) := by decide +kernel
theorem dX7_addNode_32 : decode cX7_addNode 32 = .ok (.aload_n 0, 1) := by decide +kernel
theorem dX7_addNode_33 : decode cX7_addNode 33 = .ok (.getfield 27, 3) := by decide +kernel
theorem dX7_addNode_36 : decode cX7_addNode 36 = .ok (.getfield 39, 3) := by decide +kernel
theorem dX7_addNode_39 : decode cX7_addNode 39 = .ok (.ifCond .eq 10, 3) := by decide +kernel
theorem dX7_addNode_42 : decode cX7_addNode 42 = .ok (.aload_n 0, 1) := by decide +kernel
theorem dX7_addNode_43 : decode cX7_addNode 43 = .ok (.bipush (-3), 2) := by decide +kernel
theorem dX7_addNode_45 : decode cX7_addNode 45 = .ok (.invokevirtual 35, 3) := by decide +kernel
theorem dX7_addNode_48 : decode cX7_addNode 48 = .ok (.ireturn, 1) := by decide +kernel
theorem dX7_addNode_49 : decode cX7_addNode 49 = .ok (.aload_n 0, 1) := by decide +kernel
theorem dX7_addNode_50 : decode cX7_addNode 50 = .ok (.getfield 27, 3) := by decide +kernel
theorem dX7_addNode_53 : decode cX7_addNode 53 = .ok (.getfield 43, 3) := by decide +kernel
theorem dX7_addNode_56 : decode cX7_addNode 56 = .ok (.getfield 47, 3) := by decide +kernel
theorem dX7_addNode_59 : decode cX7_addNode 59 = .ok (.bipush 6, 2) := by decide +kernel
theorem dX7_addNode_61 : decode cX7_addNode 61 = .ok (.if_icmp .lt 10, 3) := by decide +kernel
theorem dX7_addNode_64 : decode cX7_addNode 64 = .ok (.aload_n 0, 1) := by decide +kernel
theorem dX7_addNode_65 : decode cX7_addNode 65 = .ok (.bipush (-4), 2) := by decide +kernel
theorem dX7_addNode_67 : decode cX7_addNode 67 = .ok (.invokevirtual 35, 3) := by decide +kernel
theorem dX7_addNode_70 : decode cX7_addNode 70 = .ok (.ireturn, 1) := by decide +kernel
theorem dX7_addNode_71 : decode cX7_addNode 71 = .ok (.aload_n 0, 1) := by decide +kernel
theorem dX7_addNode_72 : decode cX7_addNode 72 = .ok (.invokevirtual 53, 3) := by decide +kernel
theorem dX7_addNode_75 : decode cX7_addNode 75 = .ok (.aload_n 0, 1) := by decide +kernel
theorem dX7_addNode_76 : decode cX7_addNode 76 = .ok (.getfield 22, 3) := by decide +kernel
theorem dX7_addNode_79 : decode cX7_addNode 79 = .ok (.invokevirtual 56, 3) := by decide +kernel
theorem dX7_addNode_82 : decode cX7_addNode 82 = .ok (.aload_n 0, 1) := by decide +kernel
theorem dX7_addNode_83 : decode cX7_addNode 83 = .ok (.getfield 27, 3) := by decide +kernel
theorem dX7_addNode_86 : decode cX7_addNode 86 = .ok (.iload_n 1, 1) := by decide +kernel
theorem dX7_addNode_87 : decode cX7_addNode 87 = .ok (.iload_n 2, 1) := by decide +kernel
theorem dX7_addNode_88 : decode cX7_addNode 88 = .ok (.iconst 1, 1) := by decide +kernel
theorem dX7_addNode_89 : decode cX7_addNode 89 = .ok (.if_icmp .ne 7, 3) := by decide +kernel
theorem dX7_addNode_92 : decode cX7_addNode 92 = .ok (.iconst 1, 1) := by decide +kernel
theorem dX7_addNode_93 : decode cX7_addNode 93 = .ok (.goto 4, 3) := by decide +kernel
theorem dX7_addNode_96 : decode cX7_addNode 96 = .ok (.iconst 0, 1) := by decide +kernel
theorem dX7_addNode_97 : decode cX7_addNode 97 = .ok (.invokevirtual 59, 3) := by decide +kernel
theorem dX7_addNode_100 : decode cX7_addNode 100 = .ok (.ireturn, 1) := by decide +kernel
theorem dX7_addEdge_0 : decode cX7_addEdge 0 = .ok (.aload_n 0, 1) := by decide +kernel
theorem dX7_addEdge_1 : decode cX7_addEdge 1 = .ok (.getfield 27, 3) := by decide +kernel
theorem dX7_addEdge_4 : decode cX7_addEdge 4 = .ok (.getfield 43, 3) := by decide +kernel
theorem dX7_addEdge_7 : decode cX7_addEdge 7 = .ok (.astore 4, 2) := by decide +kernel
theorem dX7_addEdge_9 : decode cX7_addEdge 9 = .ok (.aload 4, 2) := by decide +kernel
theorem dX7_addEdge_11 : decode cX7_addEdge 11 = .ok (.iload_n 1, 1) := by decide +kernel
theorem dX7_addEdge_12 : decode cX7_addEdge 12 = .ok (.invokevirtual 63, 3) := by decide +kernel
theorem dX7_addEdge_15 : decode cX7_addEdge 15 = .ok (.ifCond .eq 19, 3) := by decide +kernel
theorem dX7_addEdge_18 : decode cX7_addEdge 18 = .ok (.aload 4, 2) := by decide +kernel
theorem dX7_addEdge_20 : decode cX7_addEdge 20 = .ok (.iload_n 2, 1) := by decide +kernel
theorem dX7_addEdge_21 : decode cX7_addEdge 21 = .ok (.invokevirtual 63, 3) := by decide +kernel
theorem dX7_addEdge_24 : decode cX7_addEdge 24 = .ok (.ifCond .eq 10, 3) := by decide +kernel
theorem dX7_addEdge_27 : decode cX7_addEdge 27 = .ok (.iload_n 3, 1) := by decide +kernel
theorem dX7_addEdge_28 : decode cX7_addEdge 28 = .ok (.invokestatic 31, 3) := by decide +kernel
theorem dX7_addEdge_31 : decode cX7_addEdge 31 = .ok (.ifCond .ne 10, 3) := by decide +kernel
theorem dX7_addEdge_34 : decode cX7_addEdge 34 = .ok (.aload_n 0, 1) := by decide +kernel
theorem dX7_addEdge_35 : decode cX7_addEdge 35 = .ok (.bipush (-2), 2) := by decide +kernel
theorem dX7_addEdge_37 : decode cX7_addEdge 37 = .ok (.invokevirtual 35, 3) := by decide +kernel
theorem dX7_addEdge_40 : decode cX7_addEdge 40 = .ok (.ireturn, 1) := by decide +kernel
theorem dX7_addEdge_41 : decode cX7_addEdge 41 = .ok (.aload_n 0, 1) := by decide +kernel
theorem dX7_addEdge_42 : decode cX7_addEdge 42 = .ok (.getfield 27, 3) := by decide +kernel
theorem dX7_addEdge_45 : decode cX7_addEdge 45 = .ok (.getfield 39, 3) := by decide +kernel
theorem dX7_addEdge_48 : decode cX7_addEdge 48 = .ok (.ifCond .ne 34, 3) := by decide +kernel
theorem dX7_addEdge_51 : decode cX7_addEdge 51 = .ok (.aload_n 0, 1) := by decide +kernel
theorem dX7_addEdge_52 : decode cX7_addEdge 52 = .ok (.getfield 27, 3) := by decide +kernel
theorem dX7_addEdge_55 : decode cX7_addEdge 55 = .ok (.iload_n 2, 1) := by decide +kernel
theorem dX7_addEdge_56 : decode cX7_addEdge 56 = .ok (.invokevirtual 66, 3) := by decide +kernel
theorem dX7_addEdge_59 : decode cX7_addEdge 59 = .ok (.ifCond .ne 23, 3) := by decide +kernel
theorem dX7_addEdge_62 : decode cX7_addEdge 62 = .ok (.aload 4, 2) := by decide +kernel
theorem dX7_addEdge_64 : decode cX7_addEdge 64 = .ok (.iload_n 1, 1) := by decide +kernel
theorem dX7_addEdge_65 : decode cX7_addEdge 65 = .ok (.iload_n 2, 1) := by decide +kernel
theorem dX7_addEdge_66 : decode cX7_addEdge 66 = .ok (.iload_n 3, 1) := by decide +kernel
theorem dX7_addEdge_67 : decode cX7_addEdge 67 = .ok (.iconst 1, 1) := by decide +kernel
theorem dX7_addEdge_68 : decode cX7_addEdge 68 = .ok (.if_icmp .ne 7, 3) := by decide +kernel
theorem dX7_addEdge_71 : decode cX7_addEdge 71 = .ok (.iconst 1, 1) := by decide +kernel
theorem dX7_addEdge_72 : decode cX7_addEdge 72 = .ok (.goto 4, 3) := by decide +kernel
theorem dX7_addEdge_75 : decode cX7_addEdge 75 = .ok (.iconst 0, 1) := by decide +kernel
theorem dX7_addEdge_76 : decode cX7_addEdge 76 = .ok (.invokevirtual 69, 3) := by decide +kernel
theorem dX7_addEdge_79 : decode cX7_addEdge 79 = .ok (.ifCond .ne 10, 3) := by decide +kernel
theorem dX7_addEdge_82 : decode cX7_addEdge 82 = .ok (.aload_n 0, 1) := by decide +kernel
theorem dX7_addEdge_83 : decode cX7_addEdge 83 = .ok (.bipush (-3), 2) := by decide +kernel
theorem dX7_addEdge_85 : decode cX7_addEdge 85 = .ok (.invokevirtual 35, 3) := by decide +kernel
theorem dX7_addEdge_88 : decode cX7_addEdge 88 = .ok (.ireturn, 1) := by decide +kernel
theorem dX7_addEdge_89 : decode cX7_addEdge 89 = .ok (.aload 4, 2) := by decide +kernel
theorem dX7_addEdge_91 : decode cX7_addEdge 91 = .ok (.getfield 73, 3) := by decide +kernel
theorem dX7_addEdge_94 : decode cX7_addEdge 94 = .ok (.bipush 10, 2) := by decide +kernel
theorem dX7_addEdge_96 : decode cX7_addEdge 96 = .ok (.if_icmp .lt 10, 3) := by decide +kernel
theorem dX7_addEdge_99 : decode cX7_addEdge 99 = .ok (.aload_n 0, 1) := by decide +kernel
theorem dX7_addEdge_100 : decode cX7_addEdge 100 = .ok (.bipush (-4), 2) := by decide +kernel
theorem dX7_addEdge_102 : decode cX7_addEdge 102 = .ok (.invokevirtual 35, 3) := by decide +kernel
theorem dX7_addEdge_105 : decode cX7_addEdge 105 = .ok (.ireturn, 1) := by decide +kernel
theorem dX7_addEdge_106 : decode cX7_addEdge 106 = .ok (.aload_n 0, 1) := by decide +kernel
theorem dX7_addEdge_107 : decode cX7_addEdge 107 = .ok (.invokevirtual 53, 3) := by decide +kernel
theorem dX7_addEdge_110 : decode cX7_addEdge 110 = .ok (.aload_n 0, 1) := by decide +kernel
theorem dX7_addEdge_111 : decode cX7_addEdge 111 = .ok (.getfield 22, 3) := by decide +kernel
theorem dX7_addEdge_114 : decode cX7_addEdge 114 = .ok (.invokevirtual 56, 3) := by decide +kernel
theorem dX7_addEdge_117 : decode cX7_addEdge 117 = .ok (.aload 4, 2) := by decide +kernel
theorem dX7_addEdge_119 : decode cX7_addEdge 119 = .ok (.iload_n 1, 1) := by decide +kernel
theorem dX7_addEdge_120 : decode cX7_addEdge 120 = .ok (.iload_n 2, 1) := by decide +kernel
theorem dX7_addEdge_121 : decode cX7_addEdge 121 = .ok (.iload_n 3, 1) := by decide +kernel
theorem dX7_addEdge_122 : decode cX7_addEdge 122 = .ok (.iconst 1, 1) := by decide +kernel
theorem dX7_addEdge_123 : decode cX7_addEdge 123 = .ok (.if_icmp .ne 7, 3) := by decide +kernel
theorem dX7_addEdge_126 : decode cX7_addEdge 126 = .ok (.iconst 1, 1) := by decide +kernel
theorem dX7_addEdge_127 : decode cX7_addEdge 127 = .ok (.goto 4, 3) := by decide +kernel
theorem dX7_addEdge_130 : decode cX7_addEdge 130 = .ok (.iconst 0, 1) := by decide +kernel
theorem dX7_addEdge_131 : decode cX7_addEdge 131 = .ok (.invokevirtual 76, 3) := by decide +kernel
theorem dX7_addEdge_134 : decode cX7_addEdge 134 = .ok (.ireturn, 1) := by decide +kernel
theorem dX7_kind_0 : decode cX7_kind 0 = .ok (.aload_n 0, 1) := by decide +kernel
theorem dX7_kind_1 : decode cX7_kind 1 = .ok (.getfield 27, 3) := by decide +kernel
theorem dX7_kind_4 : decode cX7_kind 4 = .ok (.getfield 43, 3) := by decide +kernel
theorem dX7_kind_7 : decode cX7_kind 7 = .ok (.iload_n 1, 1) := by decide +kernel
theorem dX7_kind_8 : decode cX7_kind 8 = .ok (.invokevirtual 80, 3) := by decide +kernel
theorem dX7_kind_11 : decode cX7_kind 11 = .ok (.ifCond .ne 10, 3) := by decide +kernel
theorem dX7_kind_14 : decode cX7_kind 14 = .ok (.aload_n 0, 1) := by decide +kernel
theorem dX7_kind_15 : decode cX7_kind 15 = .ok (.bipush (-2), 2) := by decide +kernel
theorem dX7_kind_17 : decode cX7_kind 17 = .ok (.invokevirtual 35, 3) := by decide +kernel
theorem dX7_kind_20 : decode cX7_kind 20 = .ok (.ireturn, 1) := by decide +kernel
theorem dX7_kind_21 : decode cX7_kind 21 = .ok (.aload_n 0, 1) := by decide +kernel
theorem dX7_kind_22 : decode cX7_kind 22 = .ok (.getfield 27, 3) := by decide +kernel
theorem dX7_kind_25 : decode cX7_kind 25 = .ok (.getfield 43, 3) := by decide +kernel
theorem dX7_kind_28 : decode cX7_kind 28 = .ok (.getfield 83, 3) := by decide +kernel
theorem dX7_kind_31 : decode cX7_kind 31 = .ok (.iload_n 1, 1) := by decide +kernel
theorem dX7_kind_32 : decode cX7_kind 32 = .ok (.iaload, 1) := by decide +kernel
theorem dX7_kind_33 : decode cX7_kind 33 = .ok (.ireturn, 1) := by decide +kernel
theorem dX7_move_0 : decode cX7_move 0 = .ok (.aload_n 0, 1) := by decide +kernel
theorem dX7_move_1 : decode cX7_move 1 = .ok (.getfield 27, 3) := by decide +kernel
theorem dX7_move_4 : decode cX7_move 4 = .ok (.getfield 43, 3) := by decide +kernel
theorem dX7_move_7 : decode cX7_move 7 = .ok (.iload_n 1, 1) := by decide +kernel
theorem dX7_move_8 : decode cX7_move 8 = .ok (.invokevirtual 80, 3) := by decide +kernel
theorem dX7_move_11 : decode cX7_move 11 = .ok (.ifCond .eq 21, 3) := by decide +kernel
theorem dX7_move_14 : decode cX7_move 14 = .ok (.aload_n 0, 1) := by decide +kernel
theorem dX7_move_15 : decode cX7_move 15 = .ok (.getfield 27, 3) := by decide +kernel
theorem dX7_move_18 : decode cX7_move 18 = .ok (.getfield 43, 3) := by decide +kernel
theorem dX7_move_21 : decode cX7_move 21 = .ok (.bipush 6, 2) := by decide +kernel
theorem dX7_move_23 : decode cX7_move 23 = .ok (.iload_n 1, 1) := by decide +kernel
theorem dX7_move_24 : decode cX7_move 24 = .ok (.iadd, 1) := by decide +kernel
theorem dX7_move_25 : decode cX7_move 25 = .ok (.iload_n 2, 1) := by decide +kernel
theorem dX7_move_26 : decode cX7_move 26 = .ok (.invokevirtual 86, 3) := by decide +kernel
theorem dX7_move_29 : decode cX7_move 29 = .ok (.ifCond .ne 10, 3) := by decide +kernel
theorem dX7_move_32 : decode cX7_move 32 = .ok (.aload_n 0, 1) := by decide +kernel
theorem dX7_move_33 : decode cX7_move 33 = .ok (.bipush (-2), 2) := by decide +kernel
theorem dX7_move_35 : decode cX7_move 35 = .ok (.invokevirtual 35, 3) := by decide +kernel
theorem dX7_move_38 : decode cX7_move 38 = .ok (.ireturn, 1) := by decide +kernel
theorem dX7_move_39 : decode cX7_move 39 = .ok (.aload_n 0, 1) := by decide +kernel
theorem dX7_move_40 : decode cX7_move 40 = .ok (.getfield 27, 3) := by decide +kernel
theorem dX7_move_43 : decode cX7_move 43 = .ok (.getfield 43, 3) := by decide +kernel
theorem dX7_move_46 : decode cX7_move 46 = .ok (.iload_n 1, 1) := by decide +kernel
theorem dX7_move_47 : decode cX7_move 47 = .ok (.iload_n 2, 1) := by decide +kernel
theorem dX7_move_48 : decode cX7_move 48 = .ok (.invokevirtual 90, 3) := by decide +kernel
theorem dX7_move_51 : decode cX7_move 51 = .ok (.ireturn, 1) := by decide +kernel
theorem dX7_couldResultIn_0 : decode cX7_couldResultIn 0 = .ok (.aload_n 0, 1) := by decide +kernel
theorem dX7_couldResultIn_1 : decode cX7_couldResultIn 1 = .ok (.getfield 27, 3) := by decide +kernel
theorem dX7_couldResultIn_4 : decode cX7_couldResultIn 4 = .ok (.getfield 43, 3) := by decide +kernel
theorem dX7_couldResultIn_7 : decode cX7_couldResultIn 7 = .ok (.iload_n 1, 1) := by decide +kernel
theorem dX7_couldResultIn_8 : decode cX7_couldResultIn 8 = .ok (.iload_n 2, 1) := by decide +kernel
theorem dX7_couldResultIn_9 : decode cX7_couldResultIn 9 = .ok (.invokevirtual 86, 3) := by decide +kernel
theorem dX7_couldResultIn_12 : decode cX7_couldResultIn 12 = .ok (.ifCond .eq 19, 3) := by decide +kernel
theorem dX7_couldResultIn_15 : decode cX7_couldResultIn 15 = .ok (.aload_n 0, 1) := by decide +kernel
theorem dX7_couldResultIn_16 : decode cX7_couldResultIn 16 = .ok (.getfield 27, 3) := by decide +kernel
theorem dX7_couldResultIn_19 : decode cX7_couldResultIn 19 = .ok (.getfield 43, 3) := by decide +kernel
theorem dX7_couldResultIn_22 : decode cX7_couldResultIn 22 = .ok (.iload_n 3, 1) := by decide +kernel
theorem dX7_couldResultIn_23 : decode cX7_couldResultIn 23 = .ok (.iload 4, 2) := by decide +kernel
theorem dX7_couldResultIn_25 : decode cX7_couldResultIn 25 = .ok (.invokevirtual 86, 3) := by decide +kernel
theorem dX7_couldResultIn_28 : decode cX7_couldResultIn 28 = .ok (.ifCond .ne 10, 3) := by decide +kernel
theorem dX7_couldResultIn_31 : decode cX7_couldResultIn 31 = .ok (.aload_n 0, 1) := by decide +kernel
theorem dX7_couldResultIn_32 : decode cX7_couldResultIn 32 = .ok (.bipush (-2), 2) := by decide +kernel
theorem dX7_couldResultIn_34 : decode cX7_couldResultIn 34 = .ok (.invokevirtual 35, 3) := by decide +kernel
theorem dX7_couldResultIn_37 : decode cX7_couldResultIn 37 = .ok (.ireturn, 1) := by decide +kernel
theorem dX7_couldResultIn_38 : decode cX7_couldResultIn 38 = .ok (.aload_n 0, 1) := by decide +kernel
theorem dX7_couldResultIn_39 : decode cX7_couldResultIn 39 = .ok (.getfield 22, 3) := by decide +kernel
theorem dX7_couldResultIn_42 : decode cX7_couldResultIn 42 = .ok (.aload_n 0, 1) := by decide +kernel
theorem dX7_couldResultIn_43 : decode cX7_couldResultIn 43 = .ok (.getfield 27, 3) := by decide +kernel
theorem dX7_couldResultIn_46 : decode cX7_couldResultIn 46 = .ok (.getfield 43, 3) := by decide +kernel
theorem dX7_couldResultIn_49 : decode cX7_couldResultIn 49 = .ok (.iload_n 1, 1) := by decide +kernel
theorem dX7_couldResultIn_50 : decode cX7_couldResultIn 50 = .ok (.iload_n 2, 1) := by decide +kernel
theorem dX7_couldResultIn_51 : decode cX7_couldResultIn 51 = .ok (.invokestatic 94, 3) := by decide +kernel
theorem dX7_couldResultIn_54 : decode cX7_couldResultIn 54 = .ok (.iload_n 3, 1) := by decide +kernel
theorem dX7_couldResultIn_55 : decode cX7_couldResultIn 55 = .ok (.iload 4, 2) := by decide +kernel
theorem dX7_couldResultIn_57 : decode cX7_couldResultIn 57 = .ok (.invokestatic 94, 3) := by decide +kernel
theorem dX7_couldResultIn_60 : decode cX7_couldResultIn 60 = .ok (.invokevirtual 97, 3) := by decide +kernel
theorem dX7_couldResultIn_63 : decode cX7_couldResultIn 63 = .ok (.ifCond .eq 7, 3) := by decide +kernel
theorem dX7_couldResultIn_66 : decode cX7_couldResultIn 66 = .ok (.iconst 1, 1) := by decide +kernel
theorem dX7_couldResultIn_67 : decode cX7_couldResultIn 67 = .ok (.goto 4, 3) := by decide +kernel
theorem dX7_couldResultIn_70 : decode cX7_couldResultIn 70 = .ok (.iconst 0, 1) := by decide +kernel
theorem dX7_couldResultIn_71 : decode cX7_couldResultIn 71 = .ok (.ireturn, 1) := by decide +kernel
theorem dX7_earliest_0 : decode cX7_earliest 0 = .ok (.aload_n 0, 1) := by decide +kernel
theorem dX7_earliest_1 : decode cX7_earliest 1 = .ok (.getfield 27, 3) := by decide +kernel
theorem dX7_earliest_4 : decode cX7_earliest 4 = .ok (.getfield 43, 3) := by decide +kernel
theorem dX7_earliest_7 : decode cX7_earliest 7 = .ok (.iload_n 1, 1) := by decide +kernel
theorem dX7_earliest_8 : decode cX7_earliest 8 = .ok (.iload_n 2, 1) := by decide +kernel
theorem dX7_earliest_9 : decode cX7_earliest 9 = .ok (.invokevirtual 86, 3) := by decide +kernel
theorem dX7_earliest_12 : decode cX7_earliest 12 = .ok (.ifCond .eq 17, 3) := by decide +kernel
theorem dX7_earliest_15 : decode cX7_earliest 15 = .ok (.aload_n 0, 1) := by decide +kernel
theorem dX7_earliest_16 : decode cX7_earliest 16 = .ok (.getfield 27, 3) := by decide +kernel
theorem dX7_earliest_19 : decode cX7_earliest 19 = .ok (.getfield 43, 3) := by decide +kernel
theorem dX7_earliest_22 : decode cX7_earliest 22 = .ok (.iload_n 3, 1) := by decide +kernel
theorem dX7_earliest_23 : decode cX7_earliest 23 = .ok (.invokevirtual 101, 3) := by decide +kernel
theorem dX7_earliest_26 : decode cX7_earliest 26 = .ok (.ifCond .ne 10, 3) := by decide +kernel
theorem dX7_earliest_29 : decode cX7_earliest 29 = .ok (.aload_n 0, 1) := by decide +kernel
theorem dX7_earliest_30 : decode cX7_earliest 30 = .ok (.bipush (-2), 2) := by decide +kernel
theorem dX7_earliest_32 : decode cX7_earliest 32 = .ok (.invokevirtual 35, 3) := by decide +kernel
theorem dX7_earliest_35 : decode cX7_earliest 35 = .ok (.ireturn, 1) := by decide +kernel
theorem dX7_earliest_36 : decode cX7_earliest 36 = .ok (.aload_n 0, 1) := by decide +kernel
theorem dX7_earliest_37 : decode cX7_earliest 37 = .ok (.getfield 22, 3) := by decide +kernel
theorem dX7_earliest_40 : decode cX7_earliest 40 = .ok (.aload_n 0, 1) := by decide +kernel
theorem dX7_earliest_41 : decode cX7_earliest 41 = .ok (.getfield 27, 3) := by decide +kernel
theorem dX7_earliest_44 : decode cX7_earliest 44 = .ok (.getfield 43, 3) := by decide +kernel
theorem dX7_earliest_47 : decode cX7_earliest 47 = .ok (.iload_n 1, 1) := by decide +kernel
theorem dX7_earliest_48 : decode cX7_earliest 48 = .ok (.iload_n 2, 1) := by decide +kernel
theorem dX7_earliest_49 : decode cX7_earliest 49 = .ok (.invokestatic 94, 3) := by decide +kernel
theorem dX7_earliest_52 : decode cX7_earliest 52 = .ok (.iload_n 3, 1) := by decide +kernel
theorem dX7_earliest_53 : decode cX7_earliest 53 = .ok (.invokevirtual 104, 3) := by decide +kernel
theorem dX7_earliest_56 : decode cX7_earliest 56 = .ok (.istore 4, 2) := by decide +kernel
theorem dX7_earliest_58 : decode cX7_earliest 58 = .ok (.iload 4, 2) := by decide +kernel
theorem dX7_earliest_60 : decode cX7_earliest 60 = .ok (.iconst (-1), 1) := by decide +kernel
theorem dX7_earliest_61 : decode cX7_earliest 61 = .ok (.if_icmp .ne 7, 3) := by decide +kernel
theorem dX7_earliest_64 : decode cX7_earliest 64 = .ok (.iconst (-1), 1) := by decide +kernel
theorem dX7_earliest_65 : decode cX7_earliest 65 = .ok (.goto 12, 3) := by decide +kernel
theorem dX7_earliest_68 : decode cX7_earliest 68 = .ok (.iload_n 2, 1) := by decide +kernel
theorem dX7_earliest_69 : decode cX7_earliest 69 = .ok (.iload_n 2, 1) := by decide +kernel
theorem dX7_earliest_70 : decode cX7_earliest 70 = .ok (.invokestatic 108, 3) := by decide +kernel
theorem dX7_earliest_73 : decode cX7_earliest 73 = .ok (.isub, 1) := by decide +kernel
theorem dX7_earliest_74 : decode cX7_earliest 74 = .ok (.iload 4, 2) := by decide +kernel
theorem dX7_earliest_76 : decode cX7_earliest 76 = .ok (.iadd, 1) := by decide +kernel
theorem dX7_earliest_77 : decode cX7_earliest 77 = .ok (.ireturn, 1) := by decide +kernel
theorem dX7_send_0 : decode cX7_send 0 = .ok (.aload_n 0, 1) := by decide +kernel
theorem dX7_send_1 : decode cX7_send 1 = .ok (.getfield 27, 3) := by decide +kernel
theorem dX7_send_4 : decode cX7_send 4 = .ok (.getfield 43, 3) := by decide +kernel
theorem dX7_send_7 : decode cX7_send 7 = .ok (.iload_n 1, 1) := by decide +kernel
theorem dX7_send_8 : decode cX7_send 8 = .ok (.invokevirtual 80, 3) := by decide +kernel
theorem dX7_send_11 : decode cX7_send 11 = .ok (.ifCond .eq 10, 3) := by decide +kernel
theorem dX7_send_14 : decode cX7_send 14 = .ok (.iload_n 2, 1) := by decide +kernel
theorem dX7_send_15 : decode cX7_send 15 = .ok (.invokestatic 111, 3) := by decide +kernel
theorem dX7_send_18 : decode cX7_send 18 = .ok (.ifCond .ne 10, 3) := by decide +kernel
theorem dX7_send_21 : decode cX7_send 21 = .ok (.aload_n 0, 1) := by decide +kernel
theorem dX7_send_22 : decode cX7_send 22 = .ok (.bipush (-2), 2) := by decide +kernel
theorem dX7_send_24 : decode cX7_send 24 = .ok (.invokevirtual 35, 3) := by decide +kernel
theorem dX7_send_27 : decode cX7_send 27 = .ok (.ireturn, 1) := by decide +kernel
theorem dX7_send_28 : decode cX7_send 28 = .ok (.aload_n 0, 1) := by decide +kernel
theorem dX7_send_29 : decode cX7_send 29 = .ok (.getfield 27, 3) := by decide +kernel
theorem dX7_send_32 : decode cX7_send 32 = .ok (.getfield 114, 3) := by decide +kernel
theorem dX7_send_35 : decode cX7_send 35 = .ok (.aload_n 0, 1) := by decide +kernel
theorem dX7_send_36 : decode cX7_send 36 = .ok (.getfield 27, 3) := by decide +kernel
theorem dX7_send_39 : decode cX7_send 39 = .ok (.getfield 43, 3) := by decide +kernel
theorem dX7_send_42 : decode cX7_send 42 = .ok (.getfield 117, 3) := by decide +kernel
theorem dX7_send_45 : decode cX7_send 45 = .ok (.iload_n 1, 1) := by decide +kernel
theorem dX7_send_46 : decode cX7_send 46 = .ok (.iaload, 1) := by decide +kernel
theorem dX7_send_47 : decode cX7_send 47 = .ok (.iaload, 1) := by decide +kernel
theorem dX7_send_48 : decode cX7_send 48 = .ok (.istore_n 3, 1) := by decide +kernel
theorem dX7_send_49 : decode cX7_send 49 = .ok (.iload_n 3, 1) := by decide +kernel
theorem dX7_send_50 : decode cX7_send 50 = .ok (.ifCond .ge 10, 3) := by decide +kernel
theorem dX7_send_53 : decode cX7_send 53 = .ok (.aload_n 0, 1) := by decide +kernel
theorem dX7_send_54 : decode cX7_send 54 = .ok (.bipush (-3), 2) := by decide +kernel
theorem dX7_send_56 : decode cX7_send 56 = .ok (.invokevirtual 35, 3) := by decide +kernel
theorem dX7_send_59 : decode cX7_send 59 = .ok (.ireturn, 1) := by decide +kernel
theorem dX7_send_60 : decode cX7_send 60 = .ok (.aload_n 0, 1) := by decide +kernel
theorem dX7_send_61 : decode cX7_send 61 = .ok (.getfield 27, 3) := by decide +kernel
theorem dX7_send_64 : decode cX7_send 64 = .ok (.getfield 120, 3) := by decide +kernel
theorem dX7_send_67 : decode cX7_send 67 = .ok (.iload_n 2, 1) := by decide +kernel
theorem dX7_send_68 : decode cX7_send 68 = .ok (.iload_n 1, 1) := by decide +kernel
theorem dX7_send_69 : decode cX7_send 69 = .ok (.invokevirtual 124, 3) := by decide +kernel
theorem dX7_send_72 : decode cX7_send 72 = .ok (.ifCond .eq 10, 3) := by decide +kernel
theorem dX7_send_75 : decode cX7_send 75 = .ok (.aload_n 0, 1) := by decide +kernel
theorem dX7_send_76 : decode cX7_send 76 = .ok (.bipush (-4), 2) := by decide +kernel
theorem dX7_send_78 : decode cX7_send 78 = .ok (.invokevirtual 35, 3) := by decide +kernel
theorem dX7_send_81 : decode cX7_send 81 = .ok (.ireturn, 1) := by decide +kernel
theorem dX7_send_82 : decode cX7_send 82 = .ok (.aload_n 0, 1) := by decide +kernel
theorem dX7_send_83 : decode cX7_send 83 = .ok (.invokevirtual 129, 3) := by decide +kernel
theorem dX7_send_86 : decode cX7_send 86 = .ok (.bipush 100, 2) := by decide +kernel
theorem dX7_send_88 : decode cX7_send 88 = .ok (.iload_n 3, 1) := by decide +kernel
theorem dX7_send_89 : decode cX7_send 89 = .ok (.imul, 1) := by decide +kernel
theorem dX7_send_90 : decode cX7_send 90 = .ok (.istore 4, 2) := by decide +kernel
theorem dX7_send_92 : decode cX7_send 92 = .ok (.aload_n 0, 1) := by decide +kernel
theorem dX7_send_93 : decode cX7_send 93 = .ok (.getfield 27, 3) := by decide +kernel
theorem dX7_send_96 : decode cX7_send 96 = .ok (.iconst 0, 1) := by decide +kernel
theorem dX7_send_97 : decode cX7_send 97 = .ok (.iload_n 1, 1) := by decide +kernel
theorem dX7_send_98 : decode cX7_send 98 = .ok (.iload_n 2, 1) := by decide +kernel
theorem dX7_send_99 : decode cX7_send 99 = .ok (.iload 4, 2) := by decide +kernel
theorem dX7_send_101 : decode cX7_send 101 = .ok (.invokevirtual 132, 3) := by decide +kernel
theorem dX7_send_104 : decode cX7_send 104 = .ok (.iload 4, 2) := by decide +kernel
theorem dX7_send_106 : decode cX7_send 106 = .ok (.ireturn, 1) := by decide +kernel
theorem dX7_advance_0 : decode cX7_advance 0 = .ok (.aload_n 0, 1) := by decide +kernel
theorem dX7_advance_1 : decode cX7_advance 1 = .ok (.getfield 27, 3) := by decide +kernel
theorem dX7_advance_4 : decode cX7_advance 4 = .ok (.getfield 43, 3) := by decide +kernel
theorem dX7_advance_7 : decode cX7_advance 7 = .ok (.iload_n 1, 1) := by decide +kernel
theorem dX7_advance_8 : decode cX7_advance 8 = .ok (.invokevirtual 63, 3) := by decide +kernel
theorem dX7_advance_11 : decode cX7_advance 11 = .ok (.ifCond .ne 10, 3) := by decide +kernel
theorem dX7_advance_14 : decode cX7_advance 14 = .ok (.aload_n 0, 1) := by decide +kernel
theorem dX7_advance_15 : decode cX7_advance 15 = .ok (.bipush (-2), 2) := by decide +kernel
theorem dX7_advance_17 : decode cX7_advance 17 = .ok (.invokevirtual 35, 3) := by decide +kernel
theorem dX7_advance_20 : decode cX7_advance 20 = .ok (.ireturn, 1) := by decide +kernel
theorem dX7_advance_21 : decode cX7_advance 21 = .ok (.aload_n 0, 1) := by decide +kernel
theorem dX7_advance_22 : decode cX7_advance 22 = .ok (.getfield 27, 3) := by decide +kernel
theorem dX7_advance_25 : decode cX7_advance 25 = .ok (.getfield 114, 3) := by decide +kernel
theorem dX7_advance_28 : decode cX7_advance 28 = .ok (.iload_n 1, 1) := by decide +kernel
theorem dX7_advance_29 : decode cX7_advance 29 = .ok (.iaload, 1) := by decide +kernel
theorem dX7_advance_30 : decode cX7_advance 30 = .ok (.istore_n 2, 1) := by decide +kernel
theorem dX7_advance_31 : decode cX7_advance 31 = .ok (.iload_n 2, 1) := by decide +kernel
theorem dX7_advance_32 : decode cX7_advance 32 = .ok (.ifCond .lt 9, 3) := by decide +kernel
theorem dX7_advance_35 : decode cX7_advance 35 = .ok (.iload_n 2, 1) := by decide +kernel
theorem dX7_advance_36 : decode cX7_advance 36 = .ok (.bipush 9, 2) := by decide +kernel
theorem dX7_advance_38 : decode cX7_advance 38 = .ok (.if_icmp .lt 10, 3) := by decide +kernel
theorem dX7_advance_41 : decode cX7_advance 41 = .ok (.aload_n 0, 1) := by decide +kernel
theorem dX7_advance_42 : decode cX7_advance 42 = .ok (.bipush (-3), 2) := by decide +kernel
theorem dX7_advance_44 : decode cX7_advance 44 = .ok (.invokevirtual 35, 3) := by decide +kernel
theorem dX7_advance_47 : decode cX7_advance 47 = .ok (.ireturn, 1) := by decide +kernel
theorem dX7_advance_48 : decode cX7_advance 48 = .ok (.aload_n 0, 1) := by decide +kernel
theorem dX7_advance_49 : decode cX7_advance 49 = .ok (.invokevirtual 129, 3) := by decide +kernel
theorem dX7_advance_52 : decode cX7_advance 52 = .ok (.aload_n 0, 1) := by decide +kernel
theorem dX7_advance_53 : decode cX7_advance 53 = .ok (.getfield 27, 3) := by decide +kernel
theorem dX7_advance_56 : decode cX7_advance 56 = .ok (.getfield 114, 3) := by decide +kernel
theorem dX7_advance_59 : decode cX7_advance 59 = .ok (.iload_n 1, 1) := by decide +kernel
theorem dX7_advance_60 : decode cX7_advance 60 = .ok (.iload_n 2, 1) := by decide +kernel
theorem dX7_advance_61 : decode cX7_advance 61 = .ok (.iconst 1, 1) := by decide +kernel
theorem dX7_advance_62 : decode cX7_advance 62 = .ok (.iadd, 1) := by decide +kernel
theorem dX7_advance_63 : decode cX7_advance 63 = .ok (.iastore, 1) := by decide +kernel
theorem dX7_advance_64 : decode cX7_advance 64 = .ok (.aload_n 0, 1) := by decide +kernel
theorem dX7_advance_65 : decode cX7_advance 65 = .ok (.getfield 27, 3) := by decide +kernel
theorem dX7_advance_68 : decode cX7_advance 68 = .ok (.iconst 0, 1) := by decide +kernel
theorem dX7_advance_69 : decode cX7_advance 69 = .ok (.iload_n 1, 1) := by decide +kernel
theorem dX7_advance_70 : decode cX7_advance 70 = .ok (.bipush 100, 2) := by decide +kernel
theorem dX7_advance_72 : decode cX7_advance 72 = .ok (.iload_n 2, 1) := by decide +kernel
theorem dX7_advance_73 : decode cX7_advance 73 = .ok (.iconst 1, 1) := by decide +kernel
theorem dX7_advance_74 : decode cX7_advance 74 = .ok (.iadd, 1) := by decide +kernel
theorem dX7_advance_75 : decode cX7_advance 75 = .ok (.imul, 1) := by decide +kernel
theorem dX7_advance_76 : decode cX7_advance 76 = .ok (.invokestatic 94, 3) := by decide +kernel
theorem dX7_advance_79 : decode cX7_advance 79 = .ok (.iconst 1, 1) := by decide +kernel
theorem dX7_advance_80 : decode cX7_advance 80 = .ok (.invokevirtual 136, 3) := by decide +kernel
theorem dX7_advance_83 : decode cX7_advance 83 = .ok (.aload_n 0, 1) := by decide +kernel
theorem dX7_advance_84 : decode cX7_advance 84 = .ok (.getfield 27, 3) := by decide +kernel
theorem dX7_advance_87 : decode cX7_advance 87 = .ok (.iconst 0, 1) := by decide +kernel
theorem dX7_advance_88 : decode cX7_advance 88 = .ok (.iload_n 1, 1) := by decide +kernel
theorem dX7_advance_89 : decode cX7_advance 89 = .ok (.bipush 100, 2) := by decide +kernel
theorem dX7_advance_91 : decode cX7_advance 91 = .ok (.iload_n 2, 1) := by decide +kernel
theorem dX7_advance_92 : decode cX7_advance 92 = .ok (.imul, 1) := by decide +kernel
theorem dX7_advance_93 : decode cX7_advance 93 = .ok (.invokestatic 94, 3) := by decide +kernel
theorem dX7_advance_96 : decode cX7_advance 96 = .ok (.iconst (-1), 1) := by decide +kernel
theorem dX7_advance_97 : decode cX7_advance 97 = .ok (.invokevirtual 136, 3) := by decide +kernel
theorem dX7_advance_100 : decode cX7_advance 100 = .ok (.iload_n 2, 1) := by decide +kernel
theorem dX7_advance_101 : decode cX7_advance 101 = .ok (.iconst 1, 1) := by decide +kernel
theorem dX7_advance_102 : decode cX7_advance 102 = .ok (.iadd, 1) := by decide +kernel
theorem dX7_advance_103 : decode cX7_advance 103 = .ok (.ireturn, 1) := by decide +kernel
theorem dX7_close_0 : decode cX7_close 0 = .ok (.aload_n 0, 1) := by decide +kernel
theorem dX7_close_1 : decode cX7_close 1 = .ok (.getfield 27, 3) := by decide +kernel
theorem dX7_close_4 : decode cX7_close 4 = .ok (.getfield 43, 3) := by decide +kernel
theorem dX7_close_7 : decode cX7_close 7 = .ok (.iload_n 1, 1) := by decide +kernel
theorem dX7_close_8 : decode cX7_close 8 = .ok (.invokevirtual 63, 3) := by decide +kernel
theorem dX7_close_11 : decode cX7_close 11 = .ok (.ifCond .ne 10, 3) := by decide +kernel
theorem dX7_close_14 : decode cX7_close 14 = .ok (.aload_n 0, 1) := by decide +kernel
theorem dX7_close_15 : decode cX7_close 15 = .ok (.bipush (-2), 2) := by decide +kernel
theorem dX7_close_17 : decode cX7_close 17 = .ok (.invokevirtual 35, 3) := by decide +kernel
theorem dX7_close_20 : decode cX7_close 20 = .ok (.ireturn, 1) := by decide +kernel
theorem dX7_close_21 : decode cX7_close 21 = .ok (.aload_n 0, 1) := by decide +kernel
theorem dX7_close_22 : decode cX7_close 22 = .ok (.getfield 27, 3) := by decide +kernel
theorem dX7_close_25 : decode cX7_close 25 = .ok (.getfield 114, 3) := by decide +kernel
theorem dX7_close_28 : decode cX7_close 28 = .ok (.iload_n 1, 1) := by decide +kernel
theorem dX7_close_29 : decode cX7_close 29 = .ok (.iaload, 1) := by decide +kernel
theorem dX7_close_30 : decode cX7_close 30 = .ok (.istore_n 2, 1) := by decide +kernel
theorem dX7_close_31 : decode cX7_close 31 = .ok (.iload_n 2, 1) := by decide +kernel
theorem dX7_close_32 : decode cX7_close 32 = .ok (.ifCond .ge 10, 3) := by decide +kernel
theorem dX7_close_35 : decode cX7_close 35 = .ok (.aload_n 0, 1) := by decide +kernel
theorem dX7_close_36 : decode cX7_close 36 = .ok (.bipush (-3), 2) := by decide +kernel
theorem dX7_close_38 : decode cX7_close 38 = .ok (.invokevirtual 35, 3) := by decide +kernel
theorem dX7_close_41 : decode cX7_close 41 = .ok (.ireturn, 1) := by decide +kernel
theorem dX7_close_42 : decode cX7_close 42 = .ok (.aload_n 0, 1) := by decide +kernel
theorem dX7_close_43 : decode cX7_close 43 = .ok (.invokevirtual 129, 3) := by decide +kernel
theorem dX7_close_46 : decode cX7_close 46 = .ok (.aload_n 0, 1) := by decide +kernel
theorem dX7_close_47 : decode cX7_close 47 = .ok (.getfield 27, 3) := by decide +kernel
theorem dX7_close_50 : decode cX7_close 50 = .ok (.getfield 114, 3) := by decide +kernel
theorem dX7_close_53 : decode cX7_close 53 = .ok (.iload_n 1, 1) := by decide +kernel
theorem dX7_close_54 : decode cX7_close 54 = .ok (.bipush (-2), 2) := by decide +kernel
theorem dX7_close_56 : decode cX7_close 56 = .ok (.iastore, 1) := by decide +kernel
theorem dX7_close_57 : decode cX7_close 57 = .ok (.aload_n 0, 1) := by decide +kernel
theorem dX7_close_58 : decode cX7_close 58 = .ok (.getfield 27, 3) := by decide +kernel
theorem dX7_close_61 : decode cX7_close 61 = .ok (.iconst 0, 1) := by decide +kernel
theorem dX7_close_62 : decode cX7_close 62 = .ok (.iload_n 1, 1) := by decide +kernel
theorem dX7_close_63 : decode cX7_close 63 = .ok (.bipush 100, 2) := by decide +kernel
theorem dX7_close_65 : decode cX7_close 65 = .ok (.iload_n 2, 1) := by decide +kernel
theorem dX7_close_66 : decode cX7_close 66 = .ok (.imul, 1) := by decide +kernel
theorem dX7_close_67 : decode cX7_close 67 = .ok (.invokestatic 94, 3) := by decide +kernel
theorem dX7_close_70 : decode cX7_close 70 = .ok (.iconst (-1), 1) := by decide +kernel
theorem dX7_close_71 : decode cX7_close 71 = .ok (.invokevirtual 136, 3) := by decide +kernel
theorem dX7_close_74 : decode cX7_close 74 = .ok (.iload_n 2, 1) := by decide +kernel
theorem dX7_close_75 : decode cX7_close 75 = .ok (.ireturn, 1) := by decide +kernel
theorem dX7_process_0 : decode cX7_process 0 = .ok (.aload_n 0, 1) := by decide +kernel
theorem dX7_process_1 : decode cX7_process 1 = .ok (.getfield 27, 3) := by decide +kernel
theorem dX7_process_4 : decode cX7_process 4 = .ok (.getfield 43, 3) := by decide +kernel
theorem dX7_process_7 : decode cX7_process 7 = .ok (.astore 6, 2) := by decide +kernel
theorem dX7_process_9 : decode cX7_process 9 = .ok (.iload_n 1, 1) := by decide +kernel
theorem dX7_process_10 : decode cX7_process 10 = .ok (.invokestatic 111, 3) := by decide +kernel
theorem dX7_process_13 : decode cX7_process 13 = .ok (.ifCond .eq 37, 3) := by decide +kernel
theorem dX7_process_16 : decode cX7_process 16 = .ok (.aload 6, 2) := by decide +kernel
theorem dX7_process_18 : decode cX7_process 18 = .ok (.iload_n 2, 1) := by decide +kernel
theorem dX7_process_19 : decode cX7_process 19 = .ok (.invokevirtual 80, 3) := by decide +kernel
theorem dX7_process_22 : decode cX7_process 22 = .ok (.ifCond .eq 28, 3) := by decide +kernel
theorem dX7_process_25 : decode cX7_process 25 = .ok (.iload 4, 2) := by decide +kernel
theorem dX7_process_27 : decode cX7_process 27 = .ok (.invokestatic 111, 3) := by decide +kernel
theorem dX7_process_30 : decode cX7_process 30 = .ok (.ifCond .eq 20, 3) := by decide +kernel
theorem dX7_process_33 : decode cX7_process 33 = .ok (.iload 5, 2) := by decide +kernel
theorem dX7_process_35 : decode cX7_process 35 = .ok (.invokestatic 31, 3) := by decide +kernel
theorem dX7_process_38 : decode cX7_process 38 = .ok (.ifCond .eq 12, 3) := by decide +kernel
theorem dX7_process_41 : decode cX7_process 41 = .ok (.aload 6, 2) := by decide +kernel
theorem dX7_process_43 : decode cX7_process 43 = .ok (.iload_n 3, 1) := by decide +kernel
theorem dX7_process_44 : decode cX7_process 44 = .ok (.invokevirtual 140, 3) := by decide +kernel
theorem dX7_process_47 : decode cX7_process 47 = .ok (.ifCond .ne 10, 3) := by decide +kernel
theorem dX7_process_50 : decode cX7_process 50 = .ok (.aload_n 0, 1) := by decide +kernel
theorem dX7_process_51 : decode cX7_process 51 = .ok (.bipush (-2), 2) := by decide +kernel
theorem dX7_process_53 : decode cX7_process 53 = .ok (.invokevirtual 35, 3) := by decide +kernel
theorem dX7_process_56 : decode cX7_process 56 = .ok (.ireturn, 1) := by decide +kernel
theorem dX7_process_57 : decode cX7_process 57 = .ok (.aload 6, 2) := by decide +kernel
theorem dX7_process_59 : decode cX7_process 59 = .ok (.getfield 143, 3) := by decide +kernel
theorem dX7_process_62 : decode cX7_process 62 = .ok (.iload_n 2, 1) := by decide +kernel
theorem dX7_process_63 : decode cX7_process 63 = .ok (.iaload, 1) := by decide +kernel
theorem dX7_process_64 : decode cX7_process 64 = .ok (.istore 7, 2) := by decide +kernel
theorem dX7_process_66 : decode cX7_process 66 = .ok (.aload_n 0, 1) := by decide +kernel
theorem dX7_process_67 : decode cX7_process 67 = .ok (.getfield 27, 3) := by decide +kernel
theorem dX7_process_70 : decode cX7_process 70 = .ok (.getfield 120, 3) := by decide +kernel
theorem dX7_process_73 : decode cX7_process 73 = .ok (.iload_n 1, 1) := by decide +kernel
theorem dX7_process_74 : decode cX7_process 74 = .ok (.iload_n 2, 1) := by decide +kernel
theorem dX7_process_75 : decode cX7_process 75 = .ok (.invokevirtual 146, 3) := by decide +kernel
theorem dX7_process_78 : decode cX7_process 78 = .ok (.ifCond .eq 14, 3) := by decide +kernel
theorem dX7_process_81 : decode cX7_process 81 = .ok (.aload 6, 2) := by decide +kernel
theorem dX7_process_83 : decode cX7_process 83 = .ok (.iload_n 3, 1) := by decide +kernel
theorem dX7_process_84 : decode cX7_process 84 = .ok (.iload 7, 2) := by decide +kernel
theorem dX7_process_86 : decode cX7_process 86 = .ok (.invokevirtual 149, 3) := by decide +kernel
theorem dX7_process_89 : decode cX7_process 89 = .ok (.ifCond .ne 10, 3) := by decide +kernel
theorem dX7_process_92 : decode cX7_process 92 = .ok (.aload_n 0, 1) := by decide +kernel
theorem dX7_process_93 : decode cX7_process 93 = .ok (.bipush (-3), 2) := by decide +kernel
theorem dX7_process_95 : decode cX7_process 95 = .ok (.invokevirtual 35, 3) := by decide +kernel
theorem dX7_process_98 : decode cX7_process 98 = .ok (.ireturn, 1) := by decide +kernel
theorem dX7_process_99 : decode cX7_process 99 = .ok (.aload_n 0, 1) := by decide +kernel
theorem dX7_process_100 : decode cX7_process 100 = .ok (.getfield 27, 3) := by decide +kernel
theorem dX7_process_103 : decode cX7_process 103 = .ok (.getfield 120, 3) := by decide +kernel
theorem dX7_process_106 : decode cX7_process 106 = .ok (.iload 4, 2) := by decide +kernel
theorem dX7_process_108 : decode cX7_process 108 = .ok (.iload_n 3, 1) := by decide +kernel
theorem dX7_process_109 : decode cX7_process 109 = .ok (.invokevirtual 152, 3) := by decide +kernel
theorem dX7_process_112 : decode cX7_process 112 = .ok (.ifCond .ne 23, 3) := by decide +kernel
theorem dX7_process_115 : decode cX7_process 115 = .ok (.iload 5, 2) := by decide +kernel
theorem dX7_process_117 : decode cX7_process 117 = .ok (.iconst 1, 1) := by decide +kernel
theorem dX7_process_118 : decode cX7_process 118 = .ok (.if_icmp .ne 24, 3) := by decide +kernel
theorem dX7_process_121 : decode cX7_process 121 = .ok (.aload_n 0, 1) := by decide +kernel
theorem dX7_process_122 : decode cX7_process 122 = .ok (.getfield 27, 3) := by decide +kernel
theorem dX7_process_125 : decode cX7_process 125 = .ok (.getfield 155, 3) := by decide +kernel
theorem dX7_process_128 : decode cX7_process 128 = .ok (.iload_n 1, 1) := by decide +kernel
theorem dX7_process_129 : decode cX7_process 129 = .ok (.invokevirtual 159, 3) := by decide +kernel
theorem dX7_process_132 : decode cX7_process 132 = .ok (.ifCond .eq 10, 3) := by decide +kernel
theorem dX7_process_135 : decode cX7_process 135 = .ok (.aload_n 0, 1) := by decide +kernel
theorem dX7_process_136 : decode cX7_process 136 = .ok (.bipush (-4), 2) := by decide +kernel
theorem dX7_process_138 : decode cX7_process 138 = .ok (.invokevirtual 35, 3) := by decide +kernel
theorem dX7_process_141 : decode cX7_process 141 = .ok (.ireturn, 1) := by decide +kernel
theorem dX7_process_142 : decode cX7_process 142 = .ok (.aload_n 0, 1) := by decide +kernel
theorem dX7_process_143 : decode cX7_process 143 = .ok (.invokevirtual 129, 3) := by decide +kernel
theorem dX7_process_146 : decode cX7_process 146 = .ok (.aload_n 0, 1) := by decide +kernel
theorem dX7_process_147 : decode cX7_process 147 = .ok (.getfield 27, 3) := by decide +kernel
theorem dX7_process_150 : decode cX7_process 150 = .ok (.getfield 120, 3) := by decide +kernel
theorem dX7_process_153 : decode cX7_process 153 = .ok (.iload_n 1, 1) := by decide +kernel
theorem dX7_process_154 : decode cX7_process 154 = .ok (.iload_n 2, 1) := by decide +kernel
theorem dX7_process_155 : decode cX7_process 155 = .ok (.invokevirtual 163, 3) := by decide +kernel
theorem dX7_process_158 : decode cX7_process 158 = .ok (.istore 8, 2) := by decide +kernel
theorem dX7_process_160 : decode cX7_process 160 = .ok (.aload 6, 2) := by decide +kernel
theorem dX7_process_162 : decode cX7_process 162 = .ok (.iload_n 2, 1) := by decide +kernel
theorem dX7_process_163 : decode cX7_process 163 = .ok (.iload 8, 2) := by decide +kernel
theorem dX7_process_165 : decode cX7_process 165 = .ok (.invokevirtual 90, 3) := by decide +kernel
theorem dX7_process_168 : decode cX7_process 168 = .ok (.istore 9, 2) := by decide +kernel
theorem dX7_process_170 : decode cX7_process 170 = .ok (.iload 9, 2) := by decide +kernel
theorem dX7_process_172 : decode cX7_process 172 = .ok (.iconst (-1), 1) := by decide +kernel
theorem dX7_process_173 : decode cX7_process 173 = .ok (.if_icmp .eq 67, 3) := by decide +kernel
theorem dX7_process_176 : decode cX7_process 176 = .ok (.aload_n 0, 1) := by decide +kernel
theorem dX7_process_177 : decode cX7_process 177 = .ok (.getfield 27, 3) := by decide +kernel
theorem dX7_process_180 : decode cX7_process 180 = .ok (.iload_n 1, 1) := by decide +kernel
theorem dX7_process_181 : decode cX7_process 181 = .ok (.iload_n 3, 1) := by decide +kernel
theorem dX7_process_182 : decode cX7_process 182 = .ok (.iload 4, 2) := by decide +kernel
theorem dX7_process_184 : decode cX7_process 184 = .ok (.iload 9, 2) := by decide +kernel
theorem dX7_process_186 : decode cX7_process 186 = .ok (.invokevirtual 166, 3) := by decide +kernel
theorem dX7_process_189 : decode cX7_process 189 = .ok (.iload 5, 2) := by decide +kernel
theorem dX7_process_191 : decode cX7_process 191 = .ok (.iconst 1, 1) := by decide +kernel
theorem dX7_process_192 : decode cX7_process 192 = .ok (.if_icmp .ne 37, 3) := by decide +kernel
theorem dX7_process_195 : decode cX7_process 195 = .ok (.aload_n 0, 1) := by decide +kernel
theorem dX7_process_196 : decode cX7_process 196 = .ok (.getfield 27, 3) := by decide +kernel
theorem dX7_process_199 : decode cX7_process 199 = .ok (.getfield 155, 3) := by decide +kernel
theorem dX7_process_202 : decode cX7_process 202 = .ok (.iload_n 1, 1) := by decide +kernel
theorem dX7_process_203 : decode cX7_process 203 = .ok (.iload 7, 2) := by decide +kernel
theorem dX7_process_205 : decode cX7_process 205 = .ok (.iload 9, 2) := by decide +kernel
theorem dX7_process_207 : decode cX7_process 207 = .ok (.invokestatic 94, 3) := by decide +kernel
theorem dX7_process_210 : decode cX7_process 210 = .ok (.invokevirtual 169, 3) := by decide +kernel
theorem dX7_process_213 : decode cX7_process 213 = .ok (.aload_n 0, 1) := by decide +kernel
theorem dX7_process_214 : decode cX7_process 214 = .ok (.getfield 27, 3) := by decide +kernel
theorem dX7_process_217 : decode cX7_process 217 = .ok (.iload_n 1, 1) := by decide +kernel
theorem dX7_process_218 : decode cX7_process 218 = .ok (.iload 7, 2) := by decide +kernel
theorem dX7_process_220 : decode cX7_process 220 = .ok (.iload 9, 2) := by decide +kernel
theorem dX7_process_222 : decode cX7_process 222 = .ok (.invokestatic 94, 3) := by decide +kernel
theorem dX7_process_225 : decode cX7_process 225 = .ok (.iconst 1, 1) := by decide +kernel
theorem dX7_process_226 : decode cX7_process 226 = .ok (.invokevirtual 136, 3) := by decide +kernel
theorem dX7_process_229 : decode cX7_process 229 = .ok (.aload_n 0, 1) := by decide +kernel
theorem dX7_process_230 : decode cX7_process 230 = .ok (.getfield 27, 3) := by decide +kernel
theorem dX7_process_233 : decode cX7_process 233 = .ok (.iload 7, 2) := by decide +kernel
theorem dX7_process_235 : decode cX7_process 235 = .ok (.iload 9, 2) := by decide +kernel
theorem dX7_process_237 : decode cX7_process 237 = .ok (.invokevirtual 173, 3) := by decide +kernel
theorem dX7_process_240 : decode cX7_process 240 = .ok (.aload_n 0, 1) := by decide +kernel
theorem dX7_process_241 : decode cX7_process 241 = .ok (.getfield 27, 3) := by decide +kernel
theorem dX7_process_244 : decode cX7_process 244 = .ok (.iload_n 1, 1) := by decide +kernel
theorem dX7_process_245 : decode cX7_process 245 = .ok (.bipush 6, 2) := by decide +kernel
theorem dX7_process_247 : decode cX7_process 247 = .ok (.iload_n 2, 1) := by decide +kernel
theorem dX7_process_248 : decode cX7_process 248 = .ok (.iadd, 1) := by decide +kernel
theorem dX7_process_249 : decode cX7_process 249 = .ok (.iload 8, 2) := by decide +kernel
theorem dX7_process_251 : decode cX7_process 251 = .ok (.invokestatic 94, 3) := by decide +kernel
theorem dX7_process_254 : decode cX7_process 254 = .ok (.iconst (-1), 1) := by decide +kernel
theorem dX7_process_255 : decode cX7_process 255 = .ok (.invokevirtual 136, 3) := by decide +kernel
theorem dX7_process_258 : decode cX7_process 258 = .ok (.iload 9, 2) := by decide +kernel
theorem dX7_process_260 : decode cX7_process 260 = .ok (.ireturn, 1) := by decide +kernel
theorem dX7_deliver_0 : decode cX7_deliver 0 = .ok (.aload_n 0, 1) := by decide +kernel
theorem dX7_deliver_1 : decode cX7_deliver 1 = .ok (.getfield 27, 3) := by decide +kernel
theorem dX7_deliver_4 : decode cX7_deliver 4 = .ok (.getfield 43, 3) := by decide +kernel
theorem dX7_deliver_7 : decode cX7_deliver 7 = .ok (.astore 5, 2) := by decide +kernel
theorem dX7_deliver_9 : decode cX7_deliver 9 = .ok (.iload_n 1, 1) := by decide +kernel
theorem dX7_deliver_10 : decode cX7_deliver 10 = .ok (.invokestatic 111, 3) := by decide +kernel
theorem dX7_deliver_13 : decode cX7_deliver 13 = .ok (.ifCond .eq 29, 3) := by decide +kernel
theorem dX7_deliver_16 : decode cX7_deliver 16 = .ok (.aload 5, 2) := by decide +kernel
theorem dX7_deliver_18 : decode cX7_deliver 18 = .ok (.iload_n 2, 1) := by decide +kernel
theorem dX7_deliver_19 : decode cX7_deliver 19 = .ok (.invokevirtual 63, 3) := by decide +kernel
theorem dX7_deliver_22 : decode cX7_deliver 22 = .ok (.ifCond .eq 20, 3) := by decide +kernel
theorem dX7_deliver_25 : decode cX7_deliver 25 = .ok (.iload 4, 2) := by decide +kernel
theorem dX7_deliver_27 : decode cX7_deliver 27 = .ok (.invokestatic 111, 3) := by decide +kernel
theorem dX7_deliver_30 : decode cX7_deliver 30 = .ok (.ifCond .eq 12, 3) := by decide +kernel
theorem dX7_deliver_33 : decode cX7_deliver 33 = .ok (.aload 5, 2) := by decide +kernel
theorem dX7_deliver_35 : decode cX7_deliver 35 = .ok (.iload_n 3, 1) := by decide +kernel
theorem dX7_deliver_36 : decode cX7_deliver 36 = .ok (.invokevirtual 140, 3) := by decide +kernel
theorem dX7_deliver_39 : decode cX7_deliver 39 = .ok (.ifCond .ne 10, 3) := by decide +kernel
theorem dX7_deliver_42 : decode cX7_deliver 42 = .ok (.aload_n 0, 1) := by decide +kernel
theorem dX7_deliver_43 : decode cX7_deliver 43 = .ok (.bipush (-2), 2) := by decide +kernel
theorem dX7_deliver_45 : decode cX7_deliver 45 = .ok (.invokevirtual 35, 3) := by decide +kernel
theorem dX7_deliver_48 : decode cX7_deliver 48 = .ok (.ireturn, 1) := by decide +kernel
theorem dX7_deliver_49 : decode cX7_deliver 49 = .ok (.aload_n 0, 1) := by decide +kernel
theorem dX7_deliver_50 : decode cX7_deliver 50 = .ok (.iload_n 1, 1) := by decide +kernel
theorem dX7_deliver_51 : decode cX7_deliver 51 = .ok (.iload_n 2, 1) := by decide +kernel
theorem dX7_deliver_52 : decode cX7_deliver 52 = .ok (.invokevirtual 176, 3) := by decide +kernel
theorem dX7_deliver_55 : decode cX7_deliver 55 = .ok (.istore 6, 2) := by decide +kernel
theorem dX7_deliver_57 : decode cX7_deliver 57 = .ok (.iload 6, 2) := by decide +kernel
theorem dX7_deliver_59 : decode cX7_deliver 59 = .ok (.iconst (-1), 1) := by decide +kernel
theorem dX7_deliver_60 : decode cX7_deliver 60 = .ok (.if_icmp .eq 13, 3) := by decide +kernel
theorem dX7_deliver_63 : decode cX7_deliver 63 = .ok (.aload 5, 2) := by decide +kernel
theorem dX7_deliver_65 : decode cX7_deliver 65 = .ok (.iload_n 3, 1) := by decide +kernel
theorem dX7_deliver_66 : decode cX7_deliver 66 = .ok (.iload_n 2, 1) := by decide +kernel
theorem dX7_deliver_67 : decode cX7_deliver 67 = .ok (.invokevirtual 149, 3) := by decide +kernel
theorem dX7_deliver_70 : decode cX7_deliver 70 = .ok (.ifCond .ne 10, 3) := by decide +kernel
theorem dX7_deliver_73 : decode cX7_deliver 73 = .ok (.aload_n 0, 1) := by decide +kernel
theorem dX7_deliver_74 : decode cX7_deliver 74 = .ok (.bipush (-3), 2) := by decide +kernel
theorem dX7_deliver_76 : decode cX7_deliver 76 = .ok (.invokevirtual 35, 3) := by decide +kernel
theorem dX7_deliver_79 : decode cX7_deliver 79 = .ok (.ireturn, 1) := by decide +kernel
theorem dX7_deliver_80 : decode cX7_deliver 80 = .ok (.aload_n 0, 1) := by decide +kernel
theorem dX7_deliver_81 : decode cX7_deliver 81 = .ok (.getfield 27, 3) := by decide +kernel
theorem dX7_deliver_84 : decode cX7_deliver 84 = .ok (.getfield 120, 3) := by decide +kernel
theorem dX7_deliver_87 : decode cX7_deliver 87 = .ok (.iload 4, 2) := by decide +kernel
theorem dX7_deliver_89 : decode cX7_deliver 89 = .ok (.iload_n 3, 1) := by decide +kernel
theorem dX7_deliver_90 : decode cX7_deliver 90 = .ok (.invokevirtual 152, 3) := by decide +kernel
theorem dX7_deliver_93 : decode cX7_deliver 93 = .ok (.ifCond .eq 10, 3) := by decide +kernel
theorem dX7_deliver_96 : decode cX7_deliver 96 = .ok (.aload_n 0, 1) := by decide +kernel
theorem dX7_deliver_97 : decode cX7_deliver 97 = .ok (.bipush (-4), 2) := by decide +kernel
theorem dX7_deliver_99 : decode cX7_deliver 99 = .ok (.invokevirtual 35, 3) := by decide +kernel
theorem dX7_deliver_102 : decode cX7_deliver 102 = .ok (.ireturn, 1) := by decide +kernel
theorem dX7_deliver_103 : decode cX7_deliver 103 = .ok (.aload_n 0, 1) := by decide +kernel
theorem dX7_deliver_104 : decode cX7_deliver 104 = .ok (.invokevirtual 129, 3) := by decide +kernel
theorem dX7_deliver_107 : decode cX7_deliver 107 = .ok (.aload_n 0, 1) := by decide +kernel
theorem dX7_deliver_108 : decode cX7_deliver 108 = .ok (.getfield 27, 3) := by decide +kernel
theorem dX7_deliver_111 : decode cX7_deliver 111 = .ok (.getfield 155, 3) := by decide +kernel
theorem dX7_deliver_114 : decode cX7_deliver 114 = .ok (.iload_n 1, 1) := by decide +kernel
theorem dX7_deliver_115 : decode cX7_deliver 115 = .ok (.iload_n 2, 1) := by decide +kernel
theorem dX7_deliver_116 : decode cX7_deliver 116 = .ok (.iload 6, 2) := by decide +kernel
theorem dX7_deliver_118 : decode cX7_deliver 118 = .ok (.invokestatic 94, 3) := by decide +kernel
theorem dX7_deliver_121 : decode cX7_deliver 121 = .ok (.invokevirtual 179, 3) := by decide +kernel
theorem dX7_deliver_124 : decode cX7_deliver 124 = .ok (.aload_n 0, 1) := by decide +kernel
theorem dX7_deliver_125 : decode cX7_deliver 125 = .ok (.getfield 27, 3) := by decide +kernel
theorem dX7_deliver_128 : decode cX7_deliver 128 = .ok (.iload_n 1, 1) := by decide +kernel
theorem dX7_deliver_129 : decode cX7_deliver 129 = .ok (.iload_n 3, 1) := by decide +kernel
theorem dX7_deliver_130 : decode cX7_deliver 130 = .ok (.iload 4, 2) := by decide +kernel
theorem dX7_deliver_132 : decode cX7_deliver 132 = .ok (.iload 6, 2) := by decide +kernel
theorem dX7_deliver_134 : decode cX7_deliver 134 = .ok (.invokevirtual 166, 3) := by decide +kernel
theorem dX7_deliver_137 : decode cX7_deliver 137 = .ok (.aload_n 0, 1) := by decide +kernel
theorem dX7_deliver_138 : decode cX7_deliver 138 = .ok (.getfield 27, 3) := by decide +kernel
theorem dX7_deliver_141 : decode cX7_deliver 141 = .ok (.iload_n 1, 1) := by decide +kernel
theorem dX7_deliver_142 : decode cX7_deliver 142 = .ok (.iload_n 2, 1) := by decide +kernel
theorem dX7_deliver_143 : decode cX7_deliver 143 = .ok (.iload 6, 2) := by decide +kernel
theorem dX7_deliver_145 : decode cX7_deliver 145 = .ok (.invokestatic 94, 3) := by decide +kernel
theorem dX7_deliver_148 : decode cX7_deliver 148 = .ok (.iconst (-1), 1) := by decide +kernel
theorem dX7_deliver_149 : decode cX7_deliver 149 = .ok (.invokevirtual 136, 3) := by decide +kernel
theorem dX7_deliver_152 : decode cX7_deliver 152 = .ok (.aload_n 0, 1) := by decide +kernel
theorem dX7_deliver_153 : decode cX7_deliver 153 = .ok (.getfield 27, 3) := by decide +kernel
theorem dX7_deliver_156 : decode cX7_deliver 156 = .ok (.iload_n 2, 1) := by decide +kernel
theorem dX7_deliver_157 : decode cX7_deliver 157 = .ok (.iload 6, 2) := by decide +kernel
theorem dX7_deliver_159 : decode cX7_deliver 159 = .ok (.invokevirtual 182, 3) := by decide +kernel
theorem dX7_deliver_162 : decode cX7_deliver 162 = .ok (.iload 6, 2) := by decide +kernel
theorem dX7_deliver_164 : decode cX7_deliver 164 = .ok (.ireturn, 1) := by decide +kernel
theorem dX7_receive_0 : decode cX7_receive 0 = .ok (.iload_n 1, 1) := by decide +kernel
theorem dX7_receive_1 : decode cX7_receive 1 = .ok (.invokestatic 111, 3) := by decide +kernel
theorem dX7_receive_4 : decode cX7_receive 4 = .ok (.ifCond .eq 14, 3) := by decide +kernel
theorem dX7_receive_7 : decode cX7_receive 7 = .ok (.iload_n 2, 1) := by decide +kernel
theorem dX7_receive_8 : decode cX7_receive 8 = .ok (.iconst 1, 1) := by decide +kernel
theorem dX7_receive_9 : decode cX7_receive 9 = .ok (.if_icmp .lt 9, 3) := by decide +kernel
theorem dX7_receive_12 : decode cX7_receive 12 = .ok (.iload_n 2, 1) := by decide +kernel
theorem dX7_receive_13 : decode cX7_receive 13 = .ok (.bipush 99, 2) := by decide +kernel
theorem dX7_receive_15 : decode cX7_receive 15 = .ok (.if_icmp .le 10, 3) := by decide +kernel
theorem dX7_receive_18 : decode cX7_receive 18 = .ok (.aload_n 0, 1) := by decide +kernel
theorem dX7_receive_19 : decode cX7_receive 19 = .ok (.bipush (-2), 2) := by decide +kernel
theorem dX7_receive_21 : decode cX7_receive 21 = .ok (.invokevirtual 35, 3) := by decide +kernel
theorem dX7_receive_24 : decode cX7_receive 24 = .ok (.ireturn, 1) := by decide +kernel
theorem dX7_receive_25 : decode cX7_receive 25 = .ok (.aload_n 0, 1) := by decide +kernel
theorem dX7_receive_26 : decode cX7_receive 26 = .ok (.invokevirtual 53, 3) := by decide +kernel
theorem dX7_receive_29 : decode cX7_receive 29 = .ok (.aload_n 0, 1) := by decide +kernel
theorem dX7_receive_30 : decode cX7_receive 30 = .ok (.getfield 27, 3) := by decide +kernel
theorem dX7_receive_33 : decode cX7_receive 33 = .ok (.getfield 185, 3) := by decide +kernel
theorem dX7_receive_36 : decode cX7_receive 36 = .ok (.iload_n 1, 1) := by decide +kernel
theorem dX7_receive_37 : decode cX7_receive 37 = .ok (.aaload, 1) := by decide +kernel
theorem dX7_receive_38 : decode cX7_receive 38 = .ok (.aload_n 0, 1) := by decide +kernel
theorem dX7_receive_39 : decode cX7_receive 39 = .ok (.getfield 27, 3) := by decide +kernel
theorem dX7_receive_42 : decode cX7_receive 42 = .ok (.getfield 189, 3) := by decide +kernel
theorem dX7_receive_45 : decode cX7_receive 45 = .ok (.iload_n 1, 1) := by decide +kernel
theorem dX7_receive_46 : decode cX7_receive 46 = .ok (.aaload, 1) := by decide +kernel
theorem dX7_receive_47 : decode cX7_receive 47 = .ok (.iload_n 2, 1) := by decide +kernel
theorem dX7_receive_48 : decode cX7_receive 48 = .ok (.invokevirtual 193, 3) := by decide +kernel
theorem dX7_receive_51 : decode cX7_receive 51 = .ok (.ireturn, 1) := by decide +kernel
theorem dX7_messages_0 : decode cX7_messages 0 = .ok (.iload_n 1, 1) := by decide +kernel
theorem dX7_messages_1 : decode cX7_messages 1 = .ok (.invokestatic 111, 3) := by decide +kernel
theorem dX7_messages_4 : decode cX7_messages 4 = .ok (.ifCond .eq 17, 3) := by decide +kernel
theorem dX7_messages_7 : decode cX7_messages 7 = .ok (.aload_n 0, 1) := by decide +kernel
theorem dX7_messages_8 : decode cX7_messages 8 = .ok (.getfield 27, 3) := by decide +kernel
theorem dX7_messages_11 : decode cX7_messages 11 = .ok (.getfield 43, 3) := by decide +kernel
theorem dX7_messages_14 : decode cX7_messages 14 = .ok (.iload_n 2, 1) := by decide +kernel
theorem dX7_messages_15 : decode cX7_messages 15 = .ok (.invokevirtual 80, 3) := by decide +kernel
theorem dX7_messages_18 : decode cX7_messages 18 = .ok (.ifCond .ne 10, 3) := by decide +kernel
theorem dX7_messages_21 : decode cX7_messages 21 = .ok (.aload_n 0, 1) := by decide +kernel
theorem dX7_messages_22 : decode cX7_messages 22 = .ok (.bipush (-2), 2) := by decide +kernel
theorem dX7_messages_24 : decode cX7_messages 24 = .ok (.invokevirtual 35, 3) := by decide +kernel
theorem dX7_messages_27 : decode cX7_messages 27 = .ok (.ireturn, 1) := by decide +kernel
theorem dX7_messages_28 : decode cX7_messages 28 = .ok (.aload_n 0, 1) := by decide +kernel
theorem dX7_messages_29 : decode cX7_messages 29 = .ok (.getfield 27, 3) := by decide +kernel
theorem dX7_messages_32 : decode cX7_messages 32 = .ok (.getfield 120, 3) := by decide +kernel
theorem dX7_messages_35 : decode cX7_messages 35 = .ok (.iload_n 1, 1) := by decide +kernel
theorem dX7_messages_36 : decode cX7_messages 36 = .ok (.iload_n 2, 1) := by decide +kernel
theorem dX7_messages_37 : decode cX7_messages 37 = .ok (.invokevirtual 146, 3) := by decide +kernel
theorem dX7_messages_40 : decode cX7_messages 40 = .ok (.ireturn, 1) := by decide +kernel
theorem dX7_messageTime_0 : decode cX7_messageTime 0 = .ok (.iload_n 1, 1) := by decide +kernel
theorem dX7_messageTime_1 : decode cX7_messageTime 1 = .ok (.invokestatic 111, 3) := by decide +kernel
theorem dX7_messageTime_4 : decode cX7_messageTime 4 = .ok (.ifCond .eq 21, 3) := by decide +kernel
theorem dX7_messageTime_7 : decode cX7_messageTime 7 = .ok (.aload_n 0, 1) := by decide +kernel
theorem dX7_messageTime_8 : decode cX7_messageTime 8 = .ok (.getfield 27, 3) := by decide +kernel
theorem dX7_messageTime_11 : decode cX7_messageTime 11 = .ok (.getfield 43, 3) := by decide +kernel
theorem dX7_messageTime_14 : decode cX7_messageTime 14 = .ok (.iload_n 2, 1) := by decide +kernel
theorem dX7_messageTime_15 : decode cX7_messageTime 15 = .ok (.invokevirtual 80, 3) := by decide +kernel
theorem dX7_messageTime_18 : decode cX7_messageTime 18 = .ok (.ifCond .eq 7, 3) := by decide +kernel
theorem dX7_messageTime_21 : decode cX7_messageTime 21 = .ok (.iload_n 3, 1) := by decide +kernel
theorem dX7_messageTime_22 : decode cX7_messageTime 22 = .ok (.ifCond .ge 10, 3) := by decide +kernel
theorem dX7_messageTime_25 : decode cX7_messageTime 25 = .ok (.aload_n 0, 1) := by decide +kernel
theorem dX7_messageTime_26 : decode cX7_messageTime 26 = .ok (.bipush (-2), 2) := by decide +kernel
theorem dX7_messageTime_28 : decode cX7_messageTime 28 = .ok (.invokevirtual 35, 3) := by decide +kernel
theorem dX7_messageTime_31 : decode cX7_messageTime 31 = .ok (.ireturn, 1) := by decide +kernel
theorem dX7_messageTime_32 : decode cX7_messageTime 32 = .ok (.iload_n 3, 1) := by decide +kernel
theorem dX7_messageTime_33 : decode cX7_messageTime 33 = .ok (.aload_n 0, 1) := by decide +kernel
theorem dX7_messageTime_34 : decode cX7_messageTime 34 = .ok (.getfield 27, 3) := by decide +kernel
theorem dX7_messageTime_37 : decode cX7_messageTime 37 = .ok (.getfield 120, 3) := by decide +kernel
theorem dX7_messageTime_40 : decode cX7_messageTime 40 = .ok (.iload_n 1, 1) := by decide +kernel
theorem dX7_messageTime_41 : decode cX7_messageTime 41 = .ok (.iload_n 2, 1) := by decide +kernel
theorem dX7_messageTime_42 : decode cX7_messageTime 42 = .ok (.invokevirtual 146, 3) := by decide +kernel
theorem dX7_messageTime_45 : decode cX7_messageTime 45 = .ok (.if_icmp .ge 19, 3) := by decide +kernel
theorem dX7_messageTime_48 : decode cX7_messageTime 48 = .ok (.aload_n 0, 1) := by decide +kernel
theorem dX7_messageTime_49 : decode cX7_messageTime 49 = .ok (.getfield 27, 3) := by decide +kernel
theorem dX7_messageTime_52 : decode cX7_messageTime 52 = .ok (.getfield 120, 3) := by decide +kernel
theorem dX7_messageTime_55 : decode cX7_messageTime 55 = .ok (.iload_n 1, 1) := by decide +kernel
theorem dX7_messageTime_56 : decode cX7_messageTime 56 = .ok (.iload_n 2, 1) := by decide +kernel
theorem dX7_messageTime_57 : decode cX7_messageTime 57 = .ok (.iload_n 3, 1) := by decide +kernel
theorem dX7_messageTime_58 : decode cX7_messageTime 58 = .ok (.invokevirtual 199, 3) := by decide +kernel
theorem dX7_messageTime_61 : decode cX7_messageTime 61 = .ok (.goto 4, 3) := by decide +kernel
theorem dX7_messageTime_64 : decode cX7_messageTime 64 = .ok (.iconst (-1), 1) := by decide +kernel
theorem dX7_messageTime_65 : decode cX7_messageTime 65 = .ok (.ireturn, 1) := by decide +kernel
theorem dX7_requests_0 : decode cX7_requests 0 = .ok (.iload_n 1, 1) := by decide +kernel
theorem dX7_requests_1 : decode cX7_requests 1 = .ok (.invokestatic 111, 3) := by decide +kernel
theorem dX7_requests_4 : decode cX7_requests 4 = .ok (.ifCond .eq 17, 3) := by decide +kernel
theorem dX7_requests_7 : decode cX7_requests 7 = .ok (.aload_n 0, 1) := by decide +kernel
theorem dX7_requests_8 : decode cX7_requests 8 = .ok (.getfield 27, 3) := by decide +kernel
theorem dX7_requests_11 : decode cX7_requests 11 = .ok (.getfield 43, 3) := by decide +kernel
theorem dX7_requests_14 : decode cX7_requests 14 = .ok (.iload_n 2, 1) := by decide +kernel
theorem dX7_requests_15 : decode cX7_requests 15 = .ok (.invokevirtual 63, 3) := by decide +kernel
theorem dX7_requests_18 : decode cX7_requests 18 = .ok (.ifCond .ne 10, 3) := by decide +kernel
theorem dX7_requests_21 : decode cX7_requests 21 = .ok (.aload_n 0, 1) := by decide +kernel
theorem dX7_requests_22 : decode cX7_requests 22 = .ok (.bipush (-2), 2) := by decide +kernel
theorem dX7_requests_24 : decode cX7_requests 24 = .ok (.invokevirtual 35, 3) := by decide +kernel
theorem dX7_requests_27 : decode cX7_requests 27 = .ok (.ireturn, 1) := by decide +kernel
theorem dX7_requests_28 : decode cX7_requests 28 = .ok (.aload_n 0, 1) := by decide +kernel
theorem dX7_requests_29 : decode cX7_requests 29 = .ok (.getfield 27, 3) := by decide +kernel
theorem dX7_requests_32 : decode cX7_requests 32 = .ok (.getfield 155, 3) := by decide +kernel
theorem dX7_requests_35 : decode cX7_requests 35 = .ok (.iload_n 1, 1) := by decide +kernel
theorem dX7_requests_36 : decode cX7_requests 36 = .ok (.iload_n 2, 1) := by decide +kernel
theorem dX7_requests_37 : decode cX7_requests 37 = .ok (.invokevirtual 203, 3) := by decide +kernel
theorem dX7_requests_40 : decode cX7_requests 40 = .ok (.ireturn, 1) := by decide +kernel
theorem dX7_deliverable_0 : decode cX7_deliverable 0 = .ok (.iload_n 1, 1) := by decide +kernel
theorem dX7_deliverable_1 : decode cX7_deliverable 1 = .ok (.invokestatic 111, 3) := by decide +kernel
theorem dX7_deliverable_4 : decode cX7_deliverable 4 = .ok (.ifCond .eq 17, 3) := by decide +kernel
theorem dX7_deliverable_7 : decode cX7_deliverable 7 = .ok (.aload_n 0, 1) := by decide +kernel
theorem dX7_deliverable_8 : decode cX7_deliverable 8 = .ok (.getfield 27, 3) := by decide +kernel
theorem dX7_deliverable_11 : decode cX7_deliverable 11 = .ok (.getfield 43, 3) := by decide +kernel
theorem dX7_deliverable_14 : decode cX7_deliverable 14 = .ok (.iload_n 2, 1) := by decide +kernel
theorem dX7_deliverable_15 : decode cX7_deliverable 15 = .ok (.invokevirtual 63, 3) := by decide +kernel
theorem dX7_deliverable_18 : decode cX7_deliverable 18 = .ok (.ifCond .ne 10, 3) := by decide +kernel
theorem dX7_deliverable_21 : decode cX7_deliverable 21 = .ok (.aload_n 0, 1) := by decide +kernel
theorem dX7_deliverable_22 : decode cX7_deliverable 22 = .ok (.bipush (-2), 2) := by decide +kernel
theorem dX7_deliverable_24 : decode cX7_deliverable 24 = .ok (.invokevirtual 35, 3) := by decide +kernel
theorem dX7_deliverable_27 : decode cX7_deliverable 27 = .ok (.ireturn, 1) := by decide +kernel
theorem dX7_deliverable_28 : decode cX7_deliverable 28 = .ok (.aload_n 0, 1) := by decide +kernel
theorem dX7_deliverable_29 : decode cX7_deliverable 29 = .ok (.iload_n 1, 1) := by decide +kernel
theorem dX7_deliverable_30 : decode cX7_deliverable 30 = .ok (.iload_n 2, 1) := by decide +kernel
theorem dX7_deliverable_31 : decode cX7_deliverable 31 = .ok (.invokevirtual 176, 3) := by decide +kernel
theorem dX7_deliverable_34 : decode cX7_deliverable 34 = .ok (.ireturn, 1) := by decide +kernel
theorem dX7_count_0 : decode cX7_count 0 = .ok (.iload_n 1, 1) := by decide +kernel
theorem dX7_count_1 : decode cX7_count 1 = .ok (.invokestatic 111, 3) := by decide +kernel
theorem dX7_count_4 : decode cX7_count 4 = .ok (.ifCond .eq 18, 3) := by decide +kernel
theorem dX7_count_7 : decode cX7_count 7 = .ok (.aload_n 0, 1) := by decide +kernel
theorem dX7_count_8 : decode cX7_count 8 = .ok (.getfield 27, 3) := by decide +kernel
theorem dX7_count_11 : decode cX7_count 11 = .ok (.getfield 43, 3) := by decide +kernel
theorem dX7_count_14 : decode cX7_count 14 = .ok (.iload_n 2, 1) := by decide +kernel
theorem dX7_count_15 : decode cX7_count 15 = .ok (.iload_n 3, 1) := by decide +kernel
theorem dX7_count_16 : decode cX7_count 16 = .ok (.invokevirtual 86, 3) := by decide +kernel
theorem dX7_count_19 : decode cX7_count 19 = .ok (.ifCond .ne 10, 3) := by decide +kernel
theorem dX7_count_22 : decode cX7_count 22 = .ok (.aload_n 0, 1) := by decide +kernel
theorem dX7_count_23 : decode cX7_count 23 = .ok (.bipush (-2), 2) := by decide +kernel
theorem dX7_count_25 : decode cX7_count 25 = .ok (.invokevirtual 35, 3) := by decide +kernel
theorem dX7_count_28 : decode cX7_count 28 = .ok (.ireturn, 1) := by decide +kernel
theorem dX7_count_29 : decode cX7_count 29 = .ok (.sipush 1000, 3) := by decide +kernel
theorem dX7_count_32 : decode cX7_count 32 = .ok (.aload_n 0, 1) := by decide +kernel
theorem dX7_count_33 : decode cX7_count 33 = .ok (.getfield 27, 3) := by decide +kernel
theorem dX7_count_36 : decode cX7_count 36 = .ok (.getfield 189, 3) := by decide +kernel
theorem dX7_count_39 : decode cX7_count 39 = .ok (.iload_n 1, 1) := by decide +kernel
theorem dX7_count_40 : decode cX7_count 40 = .ok (.aaload, 1) := by decide +kernel
theorem dX7_count_41 : decode cX7_count 41 = .ok (.iload_n 2, 1) := by decide +kernel
theorem dX7_count_42 : decode cX7_count 42 = .ok (.iload_n 3, 1) := by decide +kernel
theorem dX7_count_43 : decode cX7_count 43 = .ok (.invokestatic 94, 3) := by decide +kernel
theorem dX7_count_46 : decode cX7_count 46 = .ok (.invokevirtual 206, 3) := by decide +kernel
theorem dX7_count_49 : decode cX7_count 49 = .ok (.iadd, 1) := by decide +kernel
theorem dX7_count_50 : decode cX7_count 50 = .ok (.ireturn, 1) := by decide +kernel
theorem dX7_active_0 : decode cX7_active 0 = .ok (.iload_n 1, 1) := by decide +kernel
theorem dX7_active_1 : decode cX7_active 1 = .ok (.invokestatic 111, 3) := by decide +kernel
theorem dX7_active_4 : decode cX7_active 4 = .ok (.ifCond .ne 10, 3) := by decide +kernel
theorem dX7_active_7 : decode cX7_active 7 = .ok (.aload_n 0, 1) := by decide +kernel
theorem dX7_active_8 : decode cX7_active 8 = .ok (.bipush (-2), 2) := by decide +kernel
theorem dX7_active_10 : decode cX7_active 10 = .ok (.invokevirtual 35, 3) := by decide +kernel
theorem dX7_active_13 : decode cX7_active 13 = .ok (.ireturn, 1) := by decide +kernel
theorem dX7_active_14 : decode cX7_active 14 = .ok (.aload_n 0, 1) := by decide +kernel
theorem dX7_active_15 : decode cX7_active 15 = .ok (.getfield 27, 3) := by decide +kernel
theorem dX7_active_18 : decode cX7_active 18 = .ok (.getfield 189, 3) := by decide +kernel
theorem dX7_active_21 : decode cX7_active 21 = .ok (.iload_n 1, 1) := by decide +kernel
theorem dX7_active_22 : decode cX7_active 22 = .ok (.aaload, 1) := by decide +kernel
theorem dX7_active_23 : decode cX7_active 23 = .ok (.invokevirtual 211, 3) := by decide +kernel
theorem dX7_active_26 : decode cX7_active 26 = .ok (.ireturn, 1) := by decide +kernel
theorem dX7_frontier_0 : decode cX7_frontier 0 = .ok (.iload_n 1, 1) := by decide +kernel
theorem dX7_frontier_1 : decode cX7_frontier 1 = .ok (.invokestatic 111, 3) := by decide +kernel
theorem dX7_frontier_4 : decode cX7_frontier 4 = .ok (.ifCond .eq 8, 3) := by decide +kernel
theorem dX7_frontier_7 : decode cX7_frontier 7 = .ok (.iload_n 2, 1) := by decide +kernel
theorem dX7_frontier_8 : decode cX7_frontier 8 = .ok (.iconst (-1), 1) := by decide +kernel
theorem dX7_frontier_9 : decode cX7_frontier 9 = .ok (.if_icmp .ge 10, 3) := by decide +kernel
theorem dX7_frontier_12 : decode cX7_frontier 12 = .ok (.aload_n 0, 1) := by decide +kernel
theorem dX7_frontier_13 : decode cX7_frontier 13 = .ok (.bipush (-2), 2) := by decide +kernel
theorem dX7_frontier_15 : decode cX7_frontier 15 = .ok (.invokevirtual 35, 3) := by decide +kernel
theorem dX7_frontier_18 : decode cX7_frontier 18 = .ok (.ireturn, 1) := by decide +kernel
theorem dX7_frontier_19 : decode cX7_frontier 19 = .ok (.aload_n 0, 1) := by decide +kernel
theorem dX7_frontier_20 : decode cX7_frontier 20 = .ok (.getfield 27, 3) := by decide +kernel
theorem dX7_frontier_23 : decode cX7_frontier 23 = .ok (.getfield 189, 3) := by decide +kernel
theorem dX7_frontier_26 : decode cX7_frontier 26 = .ok (.iload_n 1, 1) := by decide +kernel
theorem dX7_frontier_27 : decode cX7_frontier 27 = .ok (.aaload, 1) := by decide +kernel
theorem dX7_frontier_28 : decode cX7_frontier 28 = .ok (.astore_n 3, 1) := by decide +kernel
theorem dX7_frontier_29 : decode cX7_frontier 29 = .ok (.iconst 0, 1) := by decide +kernel
theorem dX7_frontier_30 : decode cX7_frontier 30 = .ok (.istore 4, 2) := by decide +kernel
theorem dX7_frontier_32 : decode cX7_frontier 32 = .ok (.iconst 0, 1) := by decide +kernel
theorem dX7_frontier_33 : decode cX7_frontier 33 = .ok (.istore 5, 2) := by decide +kernel
theorem dX7_frontier_35 : decode cX7_frontier 35 = .ok (.iload 5, 2) := by decide +kernel
theorem dX7_frontier_37 : decode cX7_frontier 37 = .ok (.aload_n 3, 1) := by decide +kernel
theorem dX7_frontier_38 : decode cX7_frontier 38 = .ok (.getfield 215, 3) := by decide +kernel
theorem dX7_frontier_41 : decode cX7_frontier 41 = .ok (.if_icmp .ge 36, 3) := by decide +kernel
theorem dX7_frontier_44 : decode cX7_frontier 44 = .ok (.aload_n 0, 1) := by decide +kernel
theorem dX7_frontier_45 : decode cX7_frontier 45 = .ok (.aload_n 3, 1) := by decide +kernel
theorem dX7_frontier_46 : decode cX7_frontier 46 = .ok (.iload 5, 2) := by decide +kernel
theorem dX7_frontier_48 : decode cX7_frontier 48 = .ok (.invokevirtual 218, 3) := by decide +kernel
theorem dX7_frontier_51 : decode cX7_frontier 51 = .ok (.ifCond .eq 20, 3) := by decide +kernel
theorem dX7_frontier_54 : decode cX7_frontier 54 = .ok (.iload 4, 2) := by decide +kernel
theorem dX7_frontier_56 : decode cX7_frontier 56 = .ok (.iload_n 2, 1) := by decide +kernel
theorem dX7_frontier_57 : decode cX7_frontier 57 = .ok (.if_icmp .ne 11, 3) := by decide +kernel
theorem dX7_frontier_60 : decode cX7_frontier 60 = .ok (.aload_n 3, 1) := by decide +kernel
theorem dX7_frontier_61 : decode cX7_frontier 61 = .ok (.getfield 222, 3) := by decide +kernel
theorem dX7_frontier_64 : decode cX7_frontier 64 = .ok (.iload 5, 2) := by decide +kernel
theorem dX7_frontier_66 : decode cX7_frontier 66 = .ok (.iaload, 1) := by decide +kernel
theorem dX7_frontier_67 : decode cX7_frontier 67 = .ok (.ireturn, 1) := by decide +kernel
theorem dX7_frontier_68 : decode cX7_frontier 68 = .ok (.iinc 4 1, 3) := by decide +kernel
theorem dX7_frontier_71 : decode cX7_frontier 71 = .ok (.iinc 5 1, 3) := by decide +kernel
theorem dX7_frontier_74 : decode cX7_frontier 74 = .ok (.goto (-39), 3) := by decide +kernel
theorem dX7_frontier_77 : decode cX7_frontier 77 = .ok (.iload_n 2, 1) := by decide +kernel
theorem dX7_frontier_78 : decode cX7_frontier 78 = .ok (.iconst (-1), 1) := by decide +kernel
theorem dX7_frontier_79 : decode cX7_frontier 79 = .ok (.if_icmp .ne 8, 3) := by decide +kernel
theorem dX7_frontier_82 : decode cX7_frontier 82 = .ok (.iload 4, 2) := by decide +kernel
theorem dX7_frontier_84 : decode cX7_frontier 84 = .ok (.goto 4, 3) := by decide +kernel
theorem dX7_frontier_87 : decode cX7_frontier 87 = .ok (.iconst (-1), 1) := by decide +kernel
theorem dX7_frontier_88 : decode cX7_frontier 88 = .ok (.ireturn, 1) := by decide +kernel
theorem dX7_pending_0 : decode cX7_pending 0 = .ok (.iload_n 1, 1) := by decide +kernel
theorem dX7_pending_1 : decode cX7_pending 1 = .ok (.invokestatic 111, 3) := by decide +kernel
theorem dX7_pending_4 : decode cX7_pending 4 = .ok (.ifCond .ne 10, 3) := by decide +kernel
theorem dX7_pending_7 : decode cX7_pending 7 = .ok (.aload_n 0, 1) := by decide +kernel
theorem dX7_pending_8 : decode cX7_pending 8 = .ok (.bipush (-2), 2) := by decide +kernel
theorem dX7_pending_10 : decode cX7_pending 10 = .ok (.invokevirtual 35, 3) := by decide +kernel
theorem dX7_pending_13 : decode cX7_pending 13 = .ok (.ireturn, 1) := by decide +kernel
theorem dX7_pending_14 : decode cX7_pending 14 = .ok (.aload_n 0, 1) := by decide +kernel
theorem dX7_pending_15 : decode cX7_pending 15 = .ok (.getfield 27, 3) := by decide +kernel
theorem dX7_pending_18 : decode cX7_pending 18 = .ok (.getfield 185, 3) := by decide +kernel
theorem dX7_pending_21 : decode cX7_pending 21 = .ok (.iload_n 1, 1) := by decide +kernel
theorem dX7_pending_22 : decode cX7_pending 22 = .ok (.aaload, 1) := by decide +kernel
theorem dX7_pending_23 : decode cX7_pending 23 = .ok (.getfield 225, 3) := by decide +kernel
theorem dX7_pending_26 : decode cX7_pending 26 = .ok (.ireturn, 1) := by decide +kernel
theorem dX7_delivered_0 : decode cX7_delivered 0 = .ok (.aload_n 0, 1) := by decide +kernel
theorem dX7_delivered_1 : decode cX7_delivered 1 = .ok (.getfield 27, 3) := by decide +kernel
theorem dX7_delivered_4 : decode cX7_delivered 4 = .ok (.getfield 226, 3) := by decide +kernel
theorem dX7_delivered_7 : decode cX7_delivered 7 = .ok (.ireturn, 1) := by decide +kernel
theorem dX7_violations_0 : decode cX7_violations 0 = .ok (.aload_n 0, 1) := by decide +kernel
theorem dX7_violations_1 : decode cX7_violations 1 = .ok (.getfield 27, 3) := by decide +kernel
theorem dX7_violations_4 : decode cX7_violations 4 = .ok (.getfield 229, 3) := by decide +kernel
theorem dX7_violations_7 : decode cX7_violations 7 = .ok (.ireturn, 1) := by decide +kernel
theorem dX7_undo_0 : decode cX7_undo 0 = .ok (.aload_n 0, 1) := by decide +kernel
theorem dX7_undo_1 : decode cX7_undo 1 = .ok (.getfield 232, 3) := by decide +kernel
theorem dX7_undo_4 : decode cX7_undo 4 = .ok (.ifCond .ne 10, 3) := by decide +kernel
theorem dX7_undo_7 : decode cX7_undo 7 = .ok (.aload_n 0, 1) := by decide +kernel
theorem dX7_undo_8 : decode cX7_undo 8 = .ok (.bipush (-5), 2) := by decide +kernel
theorem dX7_undo_10 : decode cX7_undo 10 = .ok (.invokevirtual 35, 3) := by decide +kernel
theorem dX7_undo_13 : decode cX7_undo 13 = .ok (.ireturn, 1) := by decide +kernel
theorem dX7_undo_14 : decode cX7_undo 14 = .ok (.aload_n 0, 1) := by decide +kernel
theorem dX7_undo_15 : decode cX7_undo 15 = .ok (.dup, 1) := by decide +kernel
theorem dX7_undo_16 : decode cX7_undo 16 = .ok (.getfield 232, 3) := by decide +kernel
theorem dX7_undo_19 : decode cX7_undo 19 = .ok (.iconst 1, 1) := by decide +kernel
theorem dX7_undo_20 : decode cX7_undo 20 = .ok (.isub, 1) := by decide +kernel
theorem dX7_undo_21 : decode cX7_undo 21 = .ok (.putfield 232, 3) := by decide +kernel
theorem dX7_undo_24 : decode cX7_undo 24 = .ok (.aload_n 0, 1) := by decide +kernel
theorem dX7_undo_25 : decode cX7_undo 25 = .ok (.getfield 27, 3) := by decide +kernel
theorem dX7_undo_28 : decode cX7_undo 28 = .ok (.astore_n 1, 1) := by decide +kernel
theorem dX7_undo_29 : decode cX7_undo 29 = .ok (.aload_n 0, 1) := by decide +kernel
theorem dX7_undo_30 : decode cX7_undo 30 = .ok (.aload_n 0, 1) := by decide +kernel
theorem dX7_undo_31 : decode cX7_undo 31 = .ok (.getfield 15, 3) := by decide +kernel
theorem dX7_undo_34 : decode cX7_undo 34 = .ok (.aload_n 0, 1) := by decide +kernel
theorem dX7_undo_35 : decode cX7_undo 35 = .ok (.getfield 232, 3) := by decide +kernel
theorem dX7_undo_38 : decode cX7_undo 38 = .ok (.aaload, 1) := by decide +kernel
theorem dX7_undo_39 : decode cX7_undo 39 = .ok (.putfield 27, 3) := by decide +kernel
theorem dX7_undo_42 : decode cX7_undo 42 = .ok (.aload_n 0, 1) := by decide +kernel
theorem dX7_undo_43 : decode cX7_undo 43 = .ok (.getfield 15, 3) := by decide +kernel
theorem dX7_undo_46 : decode cX7_undo 46 = .ok (.aload_n 0, 1) := by decide +kernel
theorem dX7_undo_47 : decode cX7_undo 47 = .ok (.getfield 232, 3) := by decide +kernel
theorem dX7_undo_50 : decode cX7_undo 50 = .ok (.aload_n 1, 1) := by decide +kernel
theorem dX7_undo_51 : decode cX7_undo 51 = .ok (.aastore, 1) := by decide +kernel
theorem dX7_undo_52 : decode cX7_undo 52 = .ok (.aload_n 0, 1) := by decide +kernel
theorem dX7_undo_53 : decode cX7_undo 53 = .ok (.getfield 27, 3) := by decide +kernel
theorem dX7_undo_56 : decode cX7_undo 56 = .ok (.getfield 43, 3) := by decide +kernel
theorem dX7_undo_59 : decode cX7_undo 59 = .ok (.aload_n 1, 1) := by decide +kernel
theorem dX7_undo_60 : decode cX7_undo 60 = .ok (.getfield 43, 3) := by decide +kernel
theorem dX7_undo_63 : decode cX7_undo 63 = .ok (.invokevirtual 235, 3) := by decide +kernel
theorem dX7_undo_66 : decode cX7_undo 66 = .ok (.ifCond .ne 10, 3) := by decide +kernel
theorem dX7_undo_69 : decode cX7_undo 69 = .ok (.aload_n 0, 1) := by decide +kernel
theorem dX7_undo_70 : decode cX7_undo 70 = .ok (.getfield 22, 3) := by decide +kernel
theorem dX7_undo_73 : decode cX7_undo 73 = .ok (.invokevirtual 56, 3) := by decide +kernel
theorem dX7_undo_76 : decode cX7_undo 76 = .ok (.aload_n 0, 1) := by decide +kernel
theorem dX7_undo_77 : decode cX7_undo 77 = .ok (.getfield 232, 3) := by decide +kernel
theorem dX7_undo_80 : decode cX7_undo 80 = .ok (.ireturn, 1) := by decide +kernel
theorem dX7_errorCount_0 : decode cX7_errorCount 0 = .ok (.iload_n 1, 1) := by decide +kernel
theorem dX7_errorCount_1 : decode cX7_errorCount 1 = .ok (.bipush (-5), 2) := by decide +kernel
theorem dX7_errorCount_3 : decode cX7_errorCount 3 = .ok (.if_icmp .lt 9, 3) := by decide +kernel
theorem dX7_errorCount_6 : decode cX7_errorCount 6 = .ok (.iload_n 1, 1) := by decide +kernel
theorem dX7_errorCount_7 : decode cX7_errorCount 7 = .ok (.bipush (-2), 2) := by decide +kernel
theorem dX7_errorCount_9 : decode cX7_errorCount 9 = .ok (.if_icmp .le 10, 3) := by decide +kernel
theorem dX7_errorCount_12 : decode cX7_errorCount 12 = .ok (.aload_n 0, 1) := by decide +kernel
theorem dX7_errorCount_13 : decode cX7_errorCount 13 = .ok (.bipush (-2), 2) := by decide +kernel
theorem dX7_errorCount_15 : decode cX7_errorCount 15 = .ok (.invokevirtual 35, 3) := by decide +kernel
theorem dX7_errorCount_18 : decode cX7_errorCount 18 = .ok (.ireturn, 1) := by decide +kernel
theorem dX7_errorCount_19 : decode cX7_errorCount 19 = .ok (.aload_n 0, 1) := by decide +kernel
theorem dX7_errorCount_20 : decode cX7_errorCount 20 = .ok (.getfield 9, 3) := by decide +kernel
theorem dX7_errorCount_23 : decode cX7_errorCount 23 = .ok (.bipush (-2), 2) := by decide +kernel
theorem dX7_errorCount_25 : decode cX7_errorCount 25 = .ok (.iload_n 1, 1) := by decide +kernel
theorem dX7_errorCount_26 : decode cX7_errorCount 26 = .ok (.isub, 1) := by decide +kernel
theorem dX7_errorCount_27 : decode cX7_errorCount 27 = .ok (.iaload, 1) := by decide +kernel
theorem dX7_errorCount_28 : decode cX7_errorCount 28 = .ok (.ireturn, 1) := by decide +kernel
theorem dX7_digest_0 : decode cX7_digest 0 = .ok (.ldc2_w 239, 3) := by decide +kernel
theorem dX7_digest_3 : decode cX7_digest 3 = .ok (.lstore_n 1, 1) := by decide +kernel
theorem dX7_digest_4 : decode cX7_digest 4 = .ok (.iconst 0, 1) := by decide +kernel
theorem dX7_digest_5 : decode cX7_digest 5 = .ok (.istore_n 3, 1) := by decide +kernel
theorem dX7_digest_6 : decode cX7_digest 6 = .ok (.iload_n 3, 1) := by decide +kernel
theorem dX7_digest_7 : decode cX7_digest 7 = .ok (.iconst 4, 1) := by decide +kernel
theorem dX7_digest_8 : decode cX7_digest 8 = .ok (.if_icmp .ge 20, 3) := by decide +kernel
theorem dX7_digest_11 : decode cX7_digest 11 = .ok (.lload_n 1, 1) := by decide +kernel
theorem dX7_digest_12 : decode cX7_digest 12 = .ok (.aload_n 0, 1) := by decide +kernel
theorem dX7_digest_13 : decode cX7_digest 13 = .ok (.getfield 9, 3) := by decide +kernel
theorem dX7_digest_16 : decode cX7_digest 16 = .ok (.iload_n 3, 1) := by decide +kernel
theorem dX7_digest_17 : decode cX7_digest 17 = .ok (.iaload, 1) := by decide +kernel
theorem dX7_digest_18 : decode cX7_digest 18 = .ok (.invokestatic 241, 3) := by decide +kernel
theorem dX7_digest_21 : decode cX7_digest 21 = .ok (.lstore_n 1, 1) := by decide +kernel
theorem dX7_digest_22 : decode cX7_digest 22 = .ok (.iinc 3 1, 3) := by decide +kernel
theorem dX7_digest_25 : decode cX7_digest 25 = .ok (.goto (-19), 3) := by decide +kernel
theorem dX7_digest_28 : decode cX7_digest 28 = .ok (.aload_n 0, 1) := by decide +kernel
theorem dX7_digest_29 : decode cX7_digest 29 = .ok (.lload_n 1, 1) := by decide +kernel
theorem dX7_digest_30 : decode cX7_digest 30 = .ok (.invokevirtual 245, 3) := by decide +kernel
theorem dX7_digest_33 : decode cX7_digest 33 = .ok (.lstore_n 1, 1) := by decide +kernel
theorem dX7_digest_34 : decode cX7_digest 34 = .ok (.iconst 0, 1) := by decide +kernel
theorem dX7_digest_35 : decode cX7_digest 35 = .ok (.istore_n 3, 1) := by decide +kernel
theorem dX7_digest_36 : decode cX7_digest 36 = .ok (.iload_n 3, 1) := by decide +kernel
theorem dX7_digest_37 : decode cX7_digest 37 = .ok (.iconst 2, 1) := by decide +kernel
theorem dX7_digest_38 : decode cX7_digest 38 = .ok (.if_icmp .ge 30, 3) := by decide +kernel
theorem dX7_digest_41 : decode cX7_digest 41 = .ok (.aload_n 0, 1) := by decide +kernel
theorem dX7_digest_42 : decode cX7_digest 42 = .ok (.lload_n 1, 1) := by decide +kernel
theorem dX7_digest_43 : decode cX7_digest 43 = .ok (.iload_n 3, 1) := by decide +kernel
theorem dX7_digest_44 : decode cX7_digest 44 = .ok (.invokevirtual 249, 3) := by decide +kernel
theorem dX7_digest_47 : decode cX7_digest 47 = .ok (.lstore_n 1, 1) := by decide +kernel
theorem dX7_digest_48 : decode cX7_digest 48 = .ok (.aload_n 0, 1) := by decide +kernel
theorem dX7_digest_49 : decode cX7_digest 49 = .ok (.lload_n 1, 1) := by decide +kernel
theorem dX7_digest_50 : decode cX7_digest 50 = .ok (.iload_n 3, 1) := by decide +kernel
theorem dX7_digest_51 : decode cX7_digest 51 = .ok (.invokevirtual 252, 3) := by decide +kernel
theorem dX7_digest_54 : decode cX7_digest 54 = .ok (.lstore_n 1, 1) := by decide +kernel
theorem dX7_digest_55 : decode cX7_digest 55 = .ok (.aload_n 0, 1) := by decide +kernel
theorem dX7_digest_56 : decode cX7_digest 56 = .ok (.lload_n 1, 1) := by decide +kernel
theorem dX7_digest_57 : decode cX7_digest 57 = .ok (.iload_n 3, 1) := by decide +kernel
theorem dX7_digest_58 : decode cX7_digest 58 = .ok (.invokevirtual 255, 3) := by decide +kernel
theorem dX7_digest_61 : decode cX7_digest 61 = .ok (.lstore_n 1, 1) := by decide +kernel
theorem dX7_digest_62 : decode cX7_digest 62 = .ok (.iinc 3 1, 3) := by decide +kernel
theorem dX7_digest_65 : decode cX7_digest 65 = .ok (.goto (-29), 3) := by decide +kernel
theorem dX7_digest_68 : decode cX7_digest 68 = .ok (.lload_n 1, 1) := by decide +kernel
theorem dX7_digest_69 : decode cX7_digest 69 = .ok (.aload_n 0, 1) := by decide +kernel
theorem dX7_digest_70 : decode cX7_digest 70 = .ok (.getfield 27, 3) := by decide +kernel
theorem dX7_digest_73 : decode cX7_digest 73 = .ok (.getfield 226, 3) := by decide +kernel
theorem dX7_digest_76 : decode cX7_digest 76 = .ok (.invokestatic 241, 3) := by decide +kernel
theorem dX7_digest_79 : decode cX7_digest 79 = .ok (.lstore_n 1, 1) := by decide +kernel
theorem dX7_digest_80 : decode cX7_digest 80 = .ok (.lload_n 1, 1) := by decide +kernel
theorem dX7_digest_81 : decode cX7_digest 81 = .ok (.aload_n 0, 1) := by decide +kernel
theorem dX7_digest_82 : decode cX7_digest 82 = .ok (.getfield 27, 3) := by decide +kernel
theorem dX7_digest_85 : decode cX7_digest 85 = .ok (.getfield 229, 3) := by decide +kernel
theorem dX7_digest_88 : decode cX7_digest 88 = .ok (.invokestatic 241, 3) := by decide +kernel
theorem dX7_digest_91 : decode cX7_digest 91 = .ok (.lstore_n 1, 1) := by decide +kernel
theorem dX7_digest_92 : decode cX7_digest 92 = .ok (.lload_n 1, 1) := by decide +kernel
theorem dX7_digest_93 : decode cX7_digest 93 = .ok (.aload_n 0, 1) := by decide +kernel
theorem dX7_digest_94 : decode cX7_digest 94 = .ok (.getfield 232, 3) := by decide +kernel
theorem dX7_digest_97 : decode cX7_digest 97 = .ok (.invokestatic 241, 3) := by decide +kernel
theorem dX7_digest_100 : decode cX7_digest 100 = .ok (.lreturn, 1) := by decide +kernel
theorem dX7_mixGraph_0 : decode cX7_mixGraph 0 = .ok (.aload_n 0, 1) := by decide +kernel
theorem dX7_mixGraph_1 : decode cX7_mixGraph 1 = .ok (.getfield 27, 3) := by decide +kernel
theorem dX7_mixGraph_4 : decode cX7_mixGraph 4 = .ok (.getfield 43, 3) := by decide +kernel
theorem dX7_mixGraph_7 : decode cX7_mixGraph 7 = .ok (.astore_n 3, 1) := by decide +kernel
theorem dX7_mixGraph_8 : decode cX7_mixGraph 8 = .ok (.lload_n 1, 1) := by decide +kernel
theorem dX7_mixGraph_9 : decode cX7_mixGraph 9 = .ok (.aload_n 3, 1) := by decide +kernel
theorem dX7_mixGraph_10 : decode cX7_mixGraph 10 = .ok (.getfield 47, 3) := by decide +kernel
theorem dX7_mixGraph_13 : decode cX7_mixGraph 13 = .ok (.invokestatic 241, 3) := by decide +kernel
theorem dX7_mixGraph_16 : decode cX7_mixGraph 16 = .ok (.lstore 4, 2) := by decide +kernel
theorem dX7_mixGraph_18 : decode cX7_mixGraph 18 = .ok (.iconst 0, 1) := by decide +kernel
theorem dX7_mixGraph_19 : decode cX7_mixGraph 19 = .ok (.istore 6, 2) := by decide +kernel
theorem dX7_mixGraph_21 : decode cX7_mixGraph 21 = .ok (.iload 6, 2) := by decide +kernel
theorem dX7_mixGraph_23 : decode cX7_mixGraph 23 = .ok (.aload_n 3, 1) := by decide +kernel
theorem dX7_mixGraph_24 : decode cX7_mixGraph 24 = .ok (.getfield 47, 3) := by decide +kernel
theorem dX7_mixGraph_27 : decode cX7_mixGraph 27 = .ok (.if_icmp .ge 40, 3) := by decide +kernel
theorem dX7_mixGraph_30 : decode cX7_mixGraph 30 = .ok (.lload 4, 2) := by decide +kernel
theorem dX7_mixGraph_32 : decode cX7_mixGraph 32 = .ok (.aload_n 3, 1) := by decide +kernel
theorem dX7_mixGraph_33 : decode cX7_mixGraph 33 = .ok (.getfield 258, 3) := by decide +kernel
theorem dX7_mixGraph_36 : decode cX7_mixGraph 36 = .ok (.iload 6, 2) := by decide +kernel
theorem dX7_mixGraph_38 : decode cX7_mixGraph 38 = .ok (.iaload, 1) := by decide +kernel
theorem dX7_mixGraph_39 : decode cX7_mixGraph 39 = .ok (.invokestatic 241, 3) := by decide +kernel
theorem dX7_mixGraph_42 : decode cX7_mixGraph 42 = .ok (.lstore 4, 2) := by decide +kernel
theorem dX7_mixGraph_44 : decode cX7_mixGraph 44 = .ok (.lload 4, 2) := by decide +kernel
theorem dX7_mixGraph_46 : decode cX7_mixGraph 46 = .ok (.aload_n 0, 1) := by decide +kernel
theorem dX7_mixGraph_47 : decode cX7_mixGraph 47 = .ok (.getfield 27, 3) := by decide +kernel
theorem dX7_mixGraph_50 : decode cX7_mixGraph 50 = .ok (.getfield 114, 3) := by decide +kernel
theorem dX7_mixGraph_53 : decode cX7_mixGraph 53 = .ok (.iload 6, 2) := by decide +kernel
theorem dX7_mixGraph_55 : decode cX7_mixGraph 55 = .ok (.iaload, 1) := by decide +kernel
theorem dX7_mixGraph_56 : decode cX7_mixGraph 56 = .ok (.invokestatic 241, 3) := by decide +kernel
theorem dX7_mixGraph_59 : decode cX7_mixGraph 59 = .ok (.lstore 4, 2) := by decide +kernel
theorem dX7_mixGraph_61 : decode cX7_mixGraph 61 = .ok (.iinc 6 1, 3) := by decide +kernel
theorem dX7_mixGraph_64 : decode cX7_mixGraph 64 = .ok (.goto (-43), 3) := by decide +kernel
theorem dX7_mixGraph_67 : decode cX7_mixGraph 67 = .ok (.lload 4, 2) := by decide +kernel
theorem dX7_mixGraph_69 : decode cX7_mixGraph 69 = .ok (.aload_n 3, 1) := by decide +kernel
theorem dX7_mixGraph_70 : decode cX7_mixGraph 70 = .ok (.getfield 73, 3) := by decide +kernel
theorem dX7_mixGraph_73 : decode cX7_mixGraph 73 = .ok (.invokestatic 241, 3) := by decide +kernel
theorem dX7_mixGraph_76 : decode cX7_mixGraph 76 = .ok (.lstore 4, 2) := by decide +kernel
theorem dX7_mixGraph_78 : decode cX7_mixGraph 78 = .ok (.iconst 0, 1) := by decide +kernel
theorem dX7_mixGraph_79 : decode cX7_mixGraph 79 = .ok (.istore 6, 2) := by decide +kernel
theorem dX7_mixGraph_81 : decode cX7_mixGraph 81 = .ok (.iload 6, 2) := by decide +kernel
theorem dX7_mixGraph_83 : decode cX7_mixGraph 83 = .ok (.aload_n 3, 1) := by decide +kernel
theorem dX7_mixGraph_84 : decode cX7_mixGraph 84 = .ok (.getfield 73, 3) := by decide +kernel
theorem dX7_mixGraph_87 : decode cX7_mixGraph 87 = .ok (.if_icmp .ge 51, 3) := by decide +kernel
theorem dX7_mixGraph_90 : decode cX7_mixGraph 90 = .ok (.lload 4, 2) := by decide +kernel
theorem dX7_mixGraph_92 : decode cX7_mixGraph 92 = .ok (.aload_n 3, 1) := by decide +kernel
theorem dX7_mixGraph_93 : decode cX7_mixGraph 93 = .ok (.getfield 117, 3) := by decide +kernel
theorem dX7_mixGraph_96 : decode cX7_mixGraph 96 = .ok (.iload 6, 2) := by decide +kernel
theorem dX7_mixGraph_98 : decode cX7_mixGraph 98 = .ok (.iaload, 1) := by decide +kernel
theorem dX7_mixGraph_99 : decode cX7_mixGraph 99 = .ok (.invokestatic 241, 3) := by decide +kernel
theorem dX7_mixGraph_102 : decode cX7_mixGraph 102 = .ok (.lstore 4, 2) := by decide +kernel
theorem dX7_mixGraph_104 : decode cX7_mixGraph 104 = .ok (.lload 4, 2) := by decide +kernel
theorem dX7_mixGraph_106 : decode cX7_mixGraph 106 = .ok (.aload_n 3, 1) := by decide +kernel
theorem dX7_mixGraph_107 : decode cX7_mixGraph 107 = .ok (.getfield 143, 3) := by decide +kernel
theorem dX7_mixGraph_110 : decode cX7_mixGraph 110 = .ok (.iload 6, 2) := by decide +kernel
theorem dX7_mixGraph_112 : decode cX7_mixGraph 112 = .ok (.iaload, 1) := by decide +kernel
theorem dX7_mixGraph_113 : decode cX7_mixGraph 113 = .ok (.invokestatic 241, 3) := by decide +kernel
theorem dX7_mixGraph_116 : decode cX7_mixGraph 116 = .ok (.lstore 4, 2) := by decide +kernel
theorem dX7_mixGraph_118 : decode cX7_mixGraph 118 = .ok (.lload 4, 2) := by decide +kernel
theorem dX7_mixGraph_120 : decode cX7_mixGraph 120 = .ok (.aload_n 3, 1) := by decide +kernel
theorem dX7_mixGraph_121 : decode cX7_mixGraph 121 = .ok (.getfield 83, 3) := by decide +kernel
theorem dX7_mixGraph_124 : decode cX7_mixGraph 124 = .ok (.iload 6, 2) := by decide +kernel
theorem dX7_mixGraph_126 : decode cX7_mixGraph 126 = .ok (.iaload, 1) := by decide +kernel
theorem dX7_mixGraph_127 : decode cX7_mixGraph 127 = .ok (.invokestatic 241, 3) := by decide +kernel
theorem dX7_mixGraph_130 : decode cX7_mixGraph 130 = .ok (.lstore 4, 2) := by decide +kernel
theorem dX7_mixGraph_132 : decode cX7_mixGraph 132 = .ok (.iinc 6 1, 3) := by decide +kernel
theorem dX7_mixGraph_135 : decode cX7_mixGraph 135 = .ok (.goto (-54), 3) := by decide +kernel
theorem dX7_mixGraph_138 : decode cX7_mixGraph 138 = .ok (.lload 4, 2) := by decide +kernel
theorem dX7_mixGraph_140 : decode cX7_mixGraph 140 = .ok (.lreturn, 1) := by decide +kernel
theorem dX7_mixMail_0 : decode cX7_mixMail 0 = .ok (.lload_n 1, 1) := by decide +kernel
theorem dX7_mixMail_1 : decode cX7_mixMail 1 = .ok (.lstore 4, 2) := by decide +kernel
theorem dX7_mixMail_3 : decode cX7_mixMail 3 = .ok (.iconst 0, 1) := by decide +kernel
theorem dX7_mixMail_4 : decode cX7_mixMail 4 = .ok (.istore 6, 2) := by decide +kernel
theorem dX7_mixMail_6 : decode cX7_mixMail 6 = .ok (.iload 6, 2) := by decide +kernel
theorem dX7_mixMail_8 : decode cX7_mixMail 8 = .ok (.aload_n 0, 1) := by decide +kernel
theorem dX7_mixMail_9 : decode cX7_mixMail 9 = .ok (.getfield 27, 3) := by decide +kernel
theorem dX7_mixMail_12 : decode cX7_mixMail 12 = .ok (.getfield 43, 3) := by decide +kernel
theorem dX7_mixMail_15 : decode cX7_mixMail 15 = .ok (.getfield 73, 3) := by decide +kernel
theorem dX7_mixMail_18 : decode cX7_mixMail 18 = .ok (.if_icmp .ge 71, 3) := by decide +kernel
theorem dX7_mixMail_21 : decode cX7_mixMail 21 = .ok (.aload_n 0, 1) := by decide +kernel
theorem dX7_mixMail_22 : decode cX7_mixMail 22 = .ok (.getfield 27, 3) := by decide +kernel
theorem dX7_mixMail_25 : decode cX7_mixMail 25 = .ok (.getfield 120, 3) := by decide +kernel
theorem dX7_mixMail_28 : decode cX7_mixMail 28 = .ok (.iload_n 3, 1) := by decide +kernel
theorem dX7_mixMail_29 : decode cX7_mixMail 29 = .ok (.iload 6, 2) := by decide +kernel
theorem dX7_mixMail_31 : decode cX7_mixMail 31 = .ok (.invokevirtual 146, 3) := by decide +kernel
theorem dX7_mixMail_34 : decode cX7_mixMail 34 = .ok (.istore 7, 2) := by decide +kernel
theorem dX7_mixMail_36 : decode cX7_mixMail 36 = .ok (.lload 4, 2) := by decide +kernel
theorem dX7_mixMail_38 : decode cX7_mixMail 38 = .ok (.iload 7, 2) := by decide +kernel
theorem dX7_mixMail_40 : decode cX7_mixMail 40 = .ok (.invokestatic 241, 3) := by decide +kernel
theorem dX7_mixMail_43 : decode cX7_mixMail 43 = .ok (.lstore 4, 2) := by decide +kernel
theorem dX7_mixMail_45 : decode cX7_mixMail 45 = .ok (.iconst 0, 1) := by decide +kernel
theorem dX7_mixMail_46 : decode cX7_mixMail 46 = .ok (.istore 8, 2) := by decide +kernel
theorem dX7_mixMail_48 : decode cX7_mixMail 48 = .ok (.iload 8, 2) := by decide +kernel
