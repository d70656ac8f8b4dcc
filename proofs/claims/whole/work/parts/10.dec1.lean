theorem dX5_readPart_45 : decode MX5_readPart.2.1 45 = .ok (.iload_n 1, 1) := by decide +kernel
theorem dX5_readPart_46 : decode MX5_readPart.2.1 46 = .ok (.sipush 1000, 3) := by decide +kernel
theorem dX5_readPart_49 : decode MX5_readPart.2.1 49 = .ok (.sipush 2000, 3) := by decide +kernel
theorem dX5_readPart_52 : decode MX5_readPart.2.1 52 = .ok (.invokestatic 72, 3) := by decide +kernel
theorem dX5_readPart_55 : decode MX5_readPart.2.1 55 = .ok (.ifCond .eq 16, 3) := by decide +kernel
theorem dX5_readPart_58 : decode MX5_readPart.2.1 58 = .ok (.aload_n 0, 1) := by decide +kernel
theorem dX5_readPart_59 : decode MX5_readPart.2.1 59 = .ok (.iconst 1, 1) := by decide +kernel
theorem dX5_readPart_60 : decode MX5_readPart.2.1 60 = .ok (.iload_n 1, 1) := by decide +kernel
theorem dX5_readPart_61 : decode MX5_readPart.2.1 61 = .ok (.sipush 1000, 3) := by decide +kernel
theorem dX5_readPart_64 : decode MX5_readPart.2.1 64 = .ok (.isub, 1) := by decide +kernel
theorem dX5_readPart_65 : decode MX5_readPart.2.1 65 = .ok (.invokevirtual 127, 3) := by decide +kernel
theorem dX5_readPart_68 : decode MX5_readPart.2.1 68 = .ok (.goto 133, 3) := by decide +kernel
theorem dX5_readPart_71 : decode MX5_readPart.2.1 71 = .ok (.aload_n 0, 1) := by decide +kernel
theorem dX5_readPart_72 : decode MX5_readPart.2.1 72 = .ok (.getfield 41, 3) := by decide +kernel
theorem dX5_readPart_75 : decode MX5_readPart.2.1 75 = .ok (.ifCond .eq 17, 3) := by decide +kernel
theorem dX5_readPart_78 : decode MX5_readPart.2.1 78 = .ok (.iload_n 1, 1) := by decide +kernel
theorem dX5_readPart_79 : decode MX5_readPart.2.1 79 = .ok (.bipush 13, 2) := by decide +kernel
theorem dX5_readPart_81 : decode MX5_readPart.2.1 81 = .ok (.bipush 22, 2) := by decide +kernel
theorem dX5_readPart_83 : decode MX5_readPart.2.1 83 = .ok (.invokestatic 72, 3) := by decide +kernel
theorem dX5_readPart_86 : decode MX5_readPart.2.1 86 = .ok (.ifCond .eq 26, 3) := by decide +kernel
theorem dX5_readPart_89 : decode MX5_readPart.2.1 89 = .ok (.goto 14, 3) := by decide +kernel
theorem dX5_readPart_92 : decode MX5_readPart.2.1 92 = .ok (.iload_n 1, 1) := by decide +kernel
theorem dX5_readPart_93 : decode MX5_readPart.2.1 93 = .ok (.bipush 22, 2) := by decide +kernel
theorem dX5_readPart_95 : decode MX5_readPart.2.1 95 = .ok (.bipush 26, 2) := by decide +kernel
theorem dX5_readPart_97 : decode MX5_readPart.2.1 97 = .ok (.invokestatic 72, 3) := by decide +kernel
theorem dX5_readPart_100 : decode MX5_readPart.2.1 100 = .ok (.ifCond .eq 12, 3) := by decide +kernel
theorem dX5_readPart_103 : decode MX5_readPart.2.1 103 = .ok (.aload_n 0, 1) := by decide +kernel
theorem dX5_readPart_104 : decode MX5_readPart.2.1 104 = .ok (.iconst 2, 1) := by decide +kernel
theorem dX5_readPart_105 : decode MX5_readPart.2.1 105 = .ok (.iload_n 1, 1) := by decide +kernel
theorem dX5_readPart_106 : decode MX5_readPart.2.1 106 = .ok (.invokevirtual 127, 3) := by decide +kernel
theorem dX5_readPart_109 : decode MX5_readPart.2.1 109 = .ok (.goto 92, 3) := by decide +kernel
theorem dX5_readPart_112 : decode MX5_readPart.2.1 112 = .ok (.aload_n 0, 1) := by decide +kernel
theorem dX5_readPart_113 : decode MX5_readPart.2.1 113 = .ok (.getfield 41, 3) := by decide +kernel
theorem dX5_readPart_116 : decode MX5_readPart.2.1 116 = .ok (.ifCond .ne 83, 3) := by decide +kernel
theorem dX5_readPart_119 : decode MX5_readPart.2.1 119 = .ok (.iload_n 1, 1) := by decide +kernel
theorem dX5_readPart_120 : decode MX5_readPart.2.1 120 = .ok (.bipush 21, 2) := by decide +kernel
theorem dX5_readPart_122 : decode MX5_readPart.2.1 122 = .ok (.if_icmp .eq 9, 3) := by decide +kernel
theorem dX5_readPart_125 : decode MX5_readPart.2.1 125 = .ok (.iload_n 1, 1) := by decide +kernel
theorem dX5_readPart_126 : decode MX5_readPart.2.1 126 = .ok (.bipush 27, 2) := by decide +kernel
theorem dX5_readPart_128 : decode MX5_readPart.2.1 128 = .ok (.if_icmp .ne 71, 3) := by decide +kernel
theorem dX5_readPart_131 : decode MX5_readPart.2.1 131 = .ok (.aload_n 0, 1) := by decide +kernel
theorem dX5_readPart_132 : decode MX5_readPart.2.1 132 = .ok (.dup, 1) := by decide +kernel
theorem dX5_readPart_133 : decode MX5_readPart.2.1 133 = .ok (.getfield 45, 3) := by decide +kernel
theorem dX5_readPart_136 : decode MX5_readPart.2.1 136 = .ok (.iconst 1, 1) := by decide +kernel
theorem dX5_readPart_137 : decode MX5_readPart.2.1 137 = .ok (.iadd, 1) := by decide +kernel
theorem dX5_readPart_138 : decode MX5_readPart.2.1 138 = .ok (.putfield 45, 3) := by decide +kernel
theorem dX5_readPart_141 : decode MX5_readPart.2.1 141 = .ok (.aload_n 0, 1) := by decide +kernel
theorem dX5_readPart_142 : decode MX5_readPart.2.1 142 = .ok (.getfield 15, 3) := by decide +kernel
theorem dX5_readPart_145 : decode MX5_readPart.2.1 145 = .ok (.aload_n 0, 1) := by decide +kernel
theorem dX5_readPart_146 : decode MX5_readPart.2.1 146 = .ok (.getfield 45, 3) := by decide +kernel
theorem dX5_readPart_149 : decode MX5_readPart.2.1 149 = .ok (.iaload, 1) := by decide +kernel
theorem dX5_readPart_150 : decode MX5_readPart.2.1 150 = .ok (.sipush 1000, 3) := by decide +kernel
theorem dX5_readPart_153 : decode MX5_readPart.2.1 153 = .ok (.sipush 1005, 3) := by decide +kernel
theorem dX5_readPart_156 : decode MX5_readPart.2.1 156 = .ok (.invokestatic 72, 3) := by decide +kernel
theorem dX5_readPart_159 : decode MX5_readPart.2.1 159 = .ok (.ifCond .ne 5, 3) := by decide +kernel
theorem dX5_readPart_162 : decode MX5_readPart.2.1 162 = .ok (.iconst 0, 1) := by decide +kernel
theorem dX5_readPart_163 : decode MX5_readPart.2.1 163 = .ok (.ireturn, 1) := by decide +kernel
theorem dX5_readPart_164 : decode MX5_readPart.2.1 164 = .ok (.aload_n 0, 1) := by decide +kernel
theorem dX5_readPart_165 : decode MX5_readPart.2.1 165 = .ok (.iconst 2, 1) := by decide +kernel
theorem dX5_readPart_166 : decode MX5_readPart.2.1 166 = .ok (.iload_n 1, 1) := by decide +kernel
theorem dX5_readPart_167 : decode MX5_readPart.2.1 167 = .ok (.bipush 21, 2) := by decide +kernel
theorem dX5_readPart_169 : decode MX5_readPart.2.1 169 = .ok (.if_icmp .ne 8, 3) := by decide +kernel
theorem dX5_readPart_172 : decode MX5_readPart.2.1 172 = .ok (.bipush 28, 2) := by decide +kernel
theorem dX5_readPart_174 : decode MX5_readPart.2.1 174 = .ok (.goto 5, 3) := by decide +kernel
theorem dX5_readPart_177 : decode MX5_readPart.2.1 177 = .ok (.bipush 34, 2) := by decide +kernel
theorem dX5_readPart_179 : decode MX5_readPart.2.1 179 = .ok (.aload_n 0, 1) := by decide +kernel
theorem dX5_readPart_180 : decode MX5_readPart.2.1 180 = .ok (.getfield 15, 3) := by decide +kernel
theorem dX5_readPart_183 : decode MX5_readPart.2.1 183 = .ok (.aload_n 0, 1) := by decide +kernel
theorem dX5_readPart_184 : decode MX5_readPart.2.1 184 = .ok (.getfield 45, 3) := by decide +kernel
theorem dX5_readPart_187 : decode MX5_readPart.2.1 187 = .ok (.iaload, 1) := by decide +kernel
theorem dX5_readPart_188 : decode MX5_readPart.2.1 188 = .ok (.iadd, 1) := by decide +kernel
theorem dX5_readPart_189 : decode MX5_readPart.2.1 189 = .ok (.sipush 1000, 3) := by decide +kernel
theorem dX5_readPart_192 : decode MX5_readPart.2.1 192 = .ok (.isub, 1) := by decide +kernel
theorem dX5_readPart_193 : decode MX5_readPart.2.1 193 = .ok (.invokevirtual 127, 3) := by decide +kernel
theorem dX5_readPart_196 : decode MX5_readPart.2.1 196 = .ok (.goto 5, 3) := by decide +kernel
theorem dX5_readPart_199 : decode MX5_readPart.2.1 199 = .ok (.iconst 0, 1) := by decide +kernel
theorem dX5_readPart_200 : decode MX5_readPart.2.1 200 = .ok (.ireturn, 1) := by decide +kernel
theorem dX5_readPart_201 : decode MX5_readPart.2.1 201 = .ok (.aload_n 0, 1) := by decide +kernel
theorem dX5_readPart_202 : decode MX5_readPart.2.1 202 = .ok (.dup, 1) := by decide +kernel
theorem dX5_readPart_203 : decode MX5_readPart.2.1 203 = .ok (.getfield 45, 3) := by decide +kernel
theorem dX5_readPart_206 : decode MX5_readPart.2.1 206 = .ok (.iconst 1, 1) := by decide +kernel
theorem dX5_readPart_207 : decode MX5_readPart.2.1 207 = .ok (.iadd, 1) := by decide +kernel
theorem dX5_readPart_208 : decode MX5_readPart.2.1 208 = .ok (.putfield 45, 3) := by decide +kernel
theorem dX5_readPart_211 : decode MX5_readPart.2.1 211 = .ok (.iconst 1, 1) := by decide +kernel
theorem dX5_readPart_212 : decode MX5_readPart.2.1 212 = .ok (.ireturn, 1) := by decide +kernel
theorem dX6_init_0 : decode MX6_init.2.1 0 = .ok (.aload_n 0, 1) := by decide +kernel
theorem dX6_init_1 : decode MX6_init.2.1 1 = .ok (.invokespecial 1, 3) := by decide +kernel
theorem dX6_init_4 : decode MX6_init.2.1 4 = .ok (.aload_n 0, 1) := by decide +kernel
theorem dX6_init_5 : decode MX6_init.2.1 5 = .ok (.aload_n 1, 1) := by decide +kernel
theorem dX6_init_6 : decode MX6_init.2.1 6 = .ok (.putfield 7, 3) := by decide +kernel
theorem dX6_init_9 : decode MX6_init.2.1 9 = .ok (.aload_n 0, 1) := by decide +kernel
theorem dX6_init_10 : decode MX6_init.2.1 10 = .ok (.aload_n 2, 1) := by decide +kernel
theorem dX6_init_11 : decode MX6_init.2.1 11 = .ok (.putfield 13, 3) := by decide +kernel
theorem dX6_init_14 : decode MX6_init.2.1 14 = .ok (.aload_n 0, 1) := by decide +kernel
theorem dX6_init_15 : decode MX6_init.2.1 15 = .ok (.iload_n 3, 1) := by decide +kernel
theorem dX6_init_16 : decode MX6_init.2.1 16 = .ok (.putfield 16, 3) := by decide +kernel
theorem dX6_init_19 : decode MX6_init.2.1 19 = .ok (.return_, 1) := by decide +kernel
theorem dX6_trimmed_0 : decode MX6_trimmed.2.1 0 = .ok (.new 8, 3) := by decide +kernel
theorem dX6_trimmed_3 : decode MX6_trimmed.2.1 3 = .ok (.dup, 1) := by decide +kernel
theorem dX6_trimmed_4 : decode MX6_trimmed.2.1 4 = .ok (.aload_n 0, 1) := by decide +kernel
theorem dX6_trimmed_5 : decode MX6_trimmed.2.1 5 = .ok (.getfield 7, 3) := by decide +kernel
theorem dX6_trimmed_8 : decode MX6_trimmed.2.1 8 = .ok (.aload_n 0, 1) := by decide +kernel
theorem dX6_trimmed_9 : decode MX6_trimmed.2.1 9 = .ok (.getfield 16, 3) := by decide +kernel
theorem dX6_trimmed_12 : decode MX6_trimmed.2.1 12 = .ok (.bipush 6, 2) := by decide +kernel
theorem dX6_trimmed_14 : decode MX6_trimmed.2.1 14 = .ok (.imul, 1) := by decide +kernel
theorem dX6_trimmed_15 : decode MX6_trimmed.2.1 15 = .ok (.invokestatic 20, 3) := by decide +kernel
theorem dX6_trimmed_18 : decode MX6_trimmed.2.1 18 = .ok (.aload_n 0, 1) := by decide +kernel
theorem dX6_trimmed_19 : decode MX6_trimmed.2.1 19 = .ok (.getfield 13, 3) := by decide +kernel
theorem dX6_trimmed_22 : decode MX6_trimmed.2.1 22 = .ok (.iload_n 1, 1) := by decide +kernel
theorem dX6_trimmed_23 : decode MX6_trimmed.2.1 23 = .ok (.invokestatic 20, 3) := by decide +kernel
theorem dX6_trimmed_26 : decode MX6_trimmed.2.1 26 = .ok (.aload_n 0, 1) := by decide +kernel
theorem dX6_trimmed_27 : decode MX6_trimmed.2.1 27 = .ok (.getfield 16, 3) := by decide +kernel
theorem dX6_trimmed_30 : decode MX6_trimmed.2.1 30 = .ok (.invokespecial 26, 3) := by decide +kernel
theorem dX6_trimmed_33 : decode MX6_trimmed.2.1 33 = .ok (.areturn, 1) := by decide +kernel
theorem dX6_kindOf_0 : decode MX6_kindOf.2.1 0 = .ok (.aload_n 0, 1) := by decide +kernel
theorem dX6_kindOf_1 : decode MX6_kindOf.2.1 1 = .ok (.getfield 7, 3) := by decide +kernel
theorem dX6_kindOf_4 : decode MX6_kindOf.2.1 4 = .ok (.iload_n 1, 1) := by decide +kernel
theorem dX6_kindOf_5 : decode MX6_kindOf.2.1 5 = .ok (.bipush 6, 2) := by decide +kernel
theorem dX6_kindOf_7 : decode MX6_kindOf.2.1 7 = .ok (.imul, 1) := by decide +kernel
theorem dX6_kindOf_8 : decode MX6_kindOf.2.1 8 = .ok (.iconst 0, 1) := by decide +kernel
theorem dX6_kindOf_9 : decode MX6_kindOf.2.1 9 = .ok (.iadd, 1) := by decide +kernel
theorem dX6_kindOf_10 : decode MX6_kindOf.2.1 10 = .ok (.iaload, 1) := by decide +kernel
theorem dX6_kindOf_11 : decode MX6_kindOf.2.1 11 = .ok (.ireturn, 1) := by decide +kernel
theorem dX6_sumOf_0 : decode MX6_sumOf.2.1 0 = .ok (.aload_n 0, 1) := by decide +kernel
theorem dX6_sumOf_1 : decode MX6_sumOf.2.1 1 = .ok (.getfield 7, 3) := by decide +kernel
theorem dX6_sumOf_4 : decode MX6_sumOf.2.1 4 = .ok (.iload_n 1, 1) := by decide +kernel
theorem dX6_sumOf_5 : decode MX6_sumOf.2.1 5 = .ok (.bipush 6, 2) := by decide +kernel
theorem dX6_sumOf_7 : decode MX6_sumOf.2.1 7 = .ok (.imul, 1) := by decide +kernel
theorem dX6_sumOf_8 : decode MX6_sumOf.2.1 8 = .ok (.iconst 1, 1) := by decide +kernel
theorem dX6_sumOf_9 : decode MX6_sumOf.2.1 9 = .ok (.iadd, 1) := by decide +kernel
theorem dX6_sumOf_10 : decode MX6_sumOf.2.1 10 = .ok (.iload_n 2, 1) := by decide +kernel
theorem dX6_sumOf_11 : decode MX6_sumOf.2.1 11 = .ok (.iadd, 1) := by decide +kernel
theorem dX6_sumOf_12 : decode MX6_sumOf.2.1 12 = .ok (.iaload, 1) := by decide +kernel
theorem dX6_sumOf_13 : decode MX6_sumOf.2.1 13 = .ok (.ireturn, 1) := by decide +kernel
theorem dX6_testOf_0 : decode MX6_testOf.2.1 0 = .ok (.aload_n 0, 1) := by decide +kernel
theorem dX6_testOf_1 : decode MX6_testOf.2.1 1 = .ok (.getfield 7, 3) := by decide +kernel
theorem dX6_testOf_4 : decode MX6_testOf.2.1 4 = .ok (.iload_n 1, 1) := by decide +kernel
theorem dX6_testOf_5 : decode MX6_testOf.2.1 5 = .ok (.bipush 6, 2) := by decide +kernel
theorem dX6_testOf_7 : decode MX6_testOf.2.1 7 = .ok (.imul, 1) := by decide +kernel
theorem dX6_testOf_8 : decode MX6_testOf.2.1 8 = .ok (.iconst 4, 1) := by decide +kernel
theorem dX6_testOf_9 : decode MX6_testOf.2.1 9 = .ok (.iadd, 1) := by decide +kernel
theorem dX6_testOf_10 : decode MX6_testOf.2.1 10 = .ok (.iaload, 1) := by decide +kernel
theorem dX6_testOf_11 : decode MX6_testOf.2.1 11 = .ok (.ireturn, 1) := by decide +kernel
theorem dX6_timesOf_0 : decode MX6_timesOf.2.1 0 = .ok (.aload_n 0, 1) := by decide +kernel
theorem dX6_timesOf_1 : decode MX6_timesOf.2.1 1 = .ok (.getfield 7, 3) := by decide +kernel
theorem dX6_timesOf_4 : decode MX6_timesOf.2.1 4 = .ok (.iload_n 1, 1) := by decide +kernel
theorem dX6_timesOf_5 : decode MX6_timesOf.2.1 5 = .ok (.bipush 6, 2) := by decide +kernel
theorem dX6_timesOf_7 : decode MX6_timesOf.2.1 7 = .ok (.imul, 1) := by decide +kernel
theorem dX6_timesOf_8 : decode MX6_timesOf.2.1 8 = .ok (.iconst 5, 1) := by decide +kernel
theorem dX6_timesOf_9 : decode MX6_timesOf.2.1 9 = .ok (.iadd, 1) := by decide +kernel
theorem dX6_timesOf_10 : decode MX6_timesOf.2.1 10 = .ok (.iaload, 1) := by decide +kernel
theorem dX6_timesOf_11 : decode MX6_timesOf.2.1 11 = .ok (.ireturn, 1) := by decide +kernel
theorem dX7_init_0 : decode MX7_init.2.1 0 = .ok (.aload_n 0, 1) := by decide +kernel
theorem dX7_init_1 : decode MX7_init.2.1 1 = .ok (.invokespecial 3, 3) := by decide +kernel
theorem dX7_init_4 : decode MX7_init.2.1 4 = .ok (.aload_n 0, 1) := by decide +kernel
theorem dX7_init_5 : decode MX7_init.2.1 5 = .ok (.bipush 16, 2) := by decide +kernel
theorem dX7_init_7 : decode MX7_init.2.1 7 = .ok (.newarray .int, 2) := by decide +kernel
theorem dX7_init_9 : decode MX7_init.2.1 9 = .ok (.putfield 9, 3) := by decide +kernel
theorem dX7_init_12 : decode MX7_init.2.1 12 = .ok (.aload_n 0, 1) := by decide +kernel
theorem dX7_init_13 : decode MX7_init.2.1 13 = .ok (.sipush 1024, 3) := by decide +kernel
theorem dX7_init_16 : decode MX7_init.2.1 16 = .ok (.newarray .boolean, 2) := by decide +kernel
theorem dX7_init_18 : decode MX7_init.2.1 18 = .ok (.putfield 15, 3) := by decide +kernel
theorem dX7_init_21 : decode MX7_init.2.1 21 = .ok (.aload_n 0, 1) := by decide +kernel
theorem dX7_init_22 : decode MX7_init.2.1 22 = .ok (.aload_n 1, 1) := by decide +kernel
theorem dX7_init_23 : decode MX7_init.2.1 23 = .ok (.putfield 19, 3) := by decide +kernel
theorem dX7_init_26 : decode MX7_init.2.1 26 = .ok (.aload_n 0, 1) := by decide +kernel
theorem dX7_init_27 : decode MX7_init.2.1 27 = .ok (.aload_n 2, 1) := by decide +kernel
theorem dX7_init_28 : decode MX7_init.2.1 28 = .ok (.putfield 23, 3) := by decide +kernel
theorem dX7_init_31 : decode MX7_init.2.1 31 = .ok (.return_, 1) := by decide +kernel
theorem dX7_prepare_0 : decode MX7_prepare.2.1 0 = .ok (.aload_n 0, 1) := by decide +kernel
theorem dX7_prepare_1 : decode MX7_prepare.2.1 1 = .ok (.getfield 23, 3) := by decide +kernel
theorem dX7_prepare_4 : decode MX7_prepare.2.1 4 = .ok (.aload_n 0, 1) := by decide +kernel
theorem dX7_prepare_5 : decode MX7_prepare.2.1 5 = .ok (.getfield 19, 3) := by decide +kernel
theorem dX7_prepare_8 : decode MX7_prepare.2.1 8 = .ok (.getfield 27, 3) := by decide +kernel
theorem dX7_prepare_11 : decode MX7_prepare.2.1 11 = .ok (.getfield 33, 3) := by decide +kernel
theorem dX7_prepare_14 : decode MX7_prepare.2.1 14 = .ok (.invokevirtual 39, 3) := by decide +kernel
theorem dX7_prepare_17 : decode MX7_prepare.2.1 17 = .ok (.iconst 0, 1) := by decide +kernel
theorem dX7_prepare_18 : decode MX7_prepare.2.1 18 = .ok (.istore_n 3, 1) := by decide +kernel
theorem dX7_prepare_19 : decode MX7_prepare.2.1 19 = .ok (.iload_n 3, 1) := by decide +kernel
theorem dX7_prepare_20 : decode MX7_prepare.2.1 20 = .ok (.aload_n 0, 1) := by decide +kernel
theorem dX7_prepare_21 : decode MX7_prepare.2.1 21 = .ok (.getfield 19, 3) := by decide +kernel
theorem dX7_prepare_24 : decode MX7_prepare.2.1 24 = .ok (.getfield 45, 3) := by decide +kernel
theorem dX7_prepare_27 : decode MX7_prepare.2.1 27 = .ok (.getfield 49, 3) := by decide +kernel
theorem dX7_prepare_30 : decode MX7_prepare.2.1 30 = .ok (.if_icmp .ge 59, 3) := by decide +kernel
theorem dX7_prepare_33 : decode MX7_prepare.2.1 33 = .ok (.aload_n 0, 1) := by decide +kernel
theorem dX7_prepare_34 : decode MX7_prepare.2.1 34 = .ok (.getfield 23, 3) := by decide +kernel
theorem dX7_prepare_37 : decode MX7_prepare.2.1 37 = .ok (.iload_n 3, 1) := by decide +kernel
theorem dX7_prepare_38 : decode MX7_prepare.2.1 38 = .ok (.iload_n 2, 1) := by decide +kernel
theorem dX7_prepare_39 : decode MX7_prepare.2.1 39 = .ok (.iconst 1, 1) := by decide +kernel
theorem dX7_prepare_40 : decode MX7_prepare.2.1 40 = .ok (.invokevirtual 54, 3) := by decide +kernel
theorem dX7_prepare_43 : decode MX7_prepare.2.1 43 = .ok (.aload_n 0, 1) := by decide +kernel
theorem dX7_prepare_44 : decode MX7_prepare.2.1 44 = .ok (.getfield 9, 3) := by decide +kernel
theorem dX7_prepare_47 : decode MX7_prepare.2.1 47 = .ok (.iload_n 3, 1) := by decide +kernel
theorem dX7_prepare_48 : decode MX7_prepare.2.1 48 = .ok (.aload_n 0, 1) := by decide +kernel
theorem dX7_prepare_49 : decode MX7_prepare.2.1 49 = .ok (.getfield 23, 3) := by decide +kernel
theorem dX7_prepare_52 : decode MX7_prepare.2.1 52 = .ok (.invokevirtual 58, 3) := by decide +kernel
theorem dX7_prepare_55 : decode MX7_prepare.2.1 55 = .ok (.ifCond .eq 7, 3) := by decide +kernel
theorem dX7_prepare_58 : decode MX7_prepare.2.1 58 = .ok (.iconst 0, 1) := by decide +kernel
theorem dX7_prepare_59 : decode MX7_prepare.2.1 59 = .ok (.goto 23, 3) := by decide +kernel
theorem dX7_prepare_62 : decode MX7_prepare.2.1 62 = .ok (.aload_n 0, 1) := by decide +kernel
theorem dX7_prepare_63 : decode MX7_prepare.2.1 63 = .ok (.getfield 23, 3) := by decide +kernel
theorem dX7_prepare_66 : decode MX7_prepare.2.1 66 = .ok (.iload_n 1, 1) := by decide +kernel
theorem dX7_prepare_67 : decode MX7_prepare.2.1 67 = .ok (.aload_n 0, 1) := by decide +kernel
theorem dX7_prepare_68 : decode MX7_prepare.2.1 68 = .ok (.getfield 19, 3) := by decide +kernel
theorem dX7_prepare_71 : decode MX7_prepare.2.1 71 = .ok (.getfield 27, 3) := by decide +kernel
theorem dX7_prepare_74 : decode MX7_prepare.2.1 74 = .ok (.getfield 62, 3) := by decide +kernel
theorem dX7_prepare_77 : decode MX7_prepare.2.1 77 = .ok (.iload_n 1, 1) := by decide +kernel
theorem dX7_prepare_78 : decode MX7_prepare.2.1 78 = .ok (.iaload, 1) := by decide +kernel
theorem dX7_prepare_79 : decode MX7_prepare.2.1 79 = .ok (.invokevirtual 65, 3) := by decide +kernel
theorem dX7_prepare_82 : decode MX7_prepare.2.1 82 = .ok (.iastore, 1) := by decide +kernel
theorem dX7_prepare_83 : decode MX7_prepare.2.1 83 = .ok (.iinc 3 1, 3) := by decide +kernel
theorem dX7_prepare_86 : decode MX7_prepare.2.1 86 = .ok (.goto (-67), 3) := by decide +kernel
theorem dX7_prepare_89 : decode MX7_prepare.2.1 89 = .ok (.return_, 1) := by decide +kernel
theorem dX7_play_0 : decode MX7_play.2.1 0 = .ok (.iconst 0, 1) := by decide +kernel
theorem dX7_play_1 : decode MX7_play.2.1 1 = .ok (.istore_n 2, 1) := by decide +kernel
theorem dX7_play_2 : decode MX7_play.2.1 2 = .ok (.iload_n 2, 1) := by decide +kernel
theorem dX7_play_3 : decode MX7_play.2.1 3 = .ok (.iload_n 1, 1) := by decide +kernel
theorem dX7_play_4 : decode MX7_play.2.1 4 = .ok (.if_icmp .ge 71, 3) := by decide +kernel
theorem dX7_play_7 : decode MX7_play.2.1 7 = .ok (.aload_n 0, 1) := by decide +kernel
theorem dX7_play_8 : decode MX7_play.2.1 8 = .ok (.getfield 15, 3) := by decide +kernel
theorem dX7_play_11 : decode MX7_play.2.1 11 = .ok (.iload_n 2, 1) := by decide +kernel
theorem dX7_play_12 : decode MX7_play.2.1 12 = .ok (.sipush 1024, 3) := by decide +kernel
theorem dX7_play_15 : decode MX7_play.2.1 15 = .ok (.irem, 1) := by decide +kernel
theorem dX7_play_16 : decode MX7_play.2.1 16 = .ok (.iconst 0, 1) := by decide +kernel
theorem dX7_play_17 : decode MX7_play.2.1 17 = .ok (.bastore, 1) := by decide +kernel
theorem dX7_play_18 : decode MX7_play.2.1 18 = .ok (.iconst 0, 1) := by decide +kernel
theorem dX7_play_19 : decode MX7_play.2.1 19 = .ok (.istore_n 3, 1) := by decide +kernel
theorem dX7_play_20 : decode MX7_play.2.1 20 = .ok (.iload_n 3, 1) := by decide +kernel
theorem dX7_play_21 : decode MX7_play.2.1 21 = .ok (.aload_n 0, 1) := by decide +kernel
theorem dX7_play_22 : decode MX7_play.2.1 22 = .ok (.getfield 19, 3) := by decide +kernel
theorem dX7_play_25 : decode MX7_play.2.1 25 = .ok (.getfield 45, 3) := by decide +kernel
theorem dX7_play_28 : decode MX7_play.2.1 28 = .ok (.getfield 49, 3) := by decide +kernel
theorem dX7_play_31 : decode MX7_play.2.1 31 = .ok (.if_icmp .ge 38, 3) := by decide +kernel
theorem dX7_play_34 : decode MX7_play.2.1 34 = .ok (.aload_n 0, 1) := by decide +kernel
theorem dX7_play_35 : decode MX7_play.2.1 35 = .ok (.getfield 15, 3) := by decide +kernel
theorem dX7_play_38 : decode MX7_play.2.1 38 = .ok (.iload_n 2, 1) := by decide +kernel
theorem dX7_play_39 : decode MX7_play.2.1 39 = .ok (.sipush 1024, 3) := by decide +kernel
theorem dX7_play_42 : decode MX7_play.2.1 42 = .ok (.irem, 1) := by decide +kernel
theorem dX7_play_43 : decode MX7_play.2.1 43 = .ok (.baload, 1) := by decide +kernel
theorem dX7_play_44 : decode MX7_play.2.1 44 = .ok (.ifCond .ne 25, 3) := by decide +kernel
theorem dX7_play_47 : decode MX7_play.2.1 47 = .ok (.aload_n 0, 1) := by decide +kernel
theorem dX7_play_48 : decode MX7_play.2.1 48 = .ok (.getfield 15, 3) := by decide +kernel
theorem dX7_play_51 : decode MX7_play.2.1 51 = .ok (.iload_n 2, 1) := by decide +kernel
theorem dX7_play_52 : decode MX7_play.2.1 52 = .ok (.sipush 1024, 3) := by decide +kernel
theorem dX7_play_55 : decode MX7_play.2.1 55 = .ok (.irem, 1) := by decide +kernel
theorem dX7_play_56 : decode MX7_play.2.1 56 = .ok (.aload_n 0, 1) := by decide +kernel
theorem dX7_play_57 : decode MX7_play.2.1 57 = .ok (.iload_n 3, 1) := by decide +kernel
theorem dX7_play_58 : decode MX7_play.2.1 58 = .ok (.iload_n 2, 1) := by decide +kernel
theorem dX7_play_59 : decode MX7_play.2.1 59 = .ok (.invokevirtual 68, 3) := by decide +kernel
theorem dX7_play_62 : decode MX7_play.2.1 62 = .ok (.bastore, 1) := by decide +kernel
theorem dX7_play_63 : decode MX7_play.2.1 63 = .ok (.iinc 3 1, 3) := by decide +kernel
theorem dX7_play_66 : decode MX7_play.2.1 66 = .ok (.goto (-46), 3) := by decide +kernel
theorem dX7_play_69 : decode MX7_play.2.1 69 = .ok (.iinc 2 1, 3) := by decide +kernel
theorem dX7_play_72 : decode MX7_play.2.1 72 = .ok (.goto (-70), 3) := by decide +kernel
theorem dX7_play_75 : decode MX7_play.2.1 75 = .ok (.aload_n 0, 1) := by decide +kernel
theorem dX7_play_76 : decode MX7_play.2.1 76 = .ok (.iconst 0, 1) := by decide +kernel
theorem dX7_play_77 : decode MX7_play.2.1 77 = .ok (.putfield 72, 3) := by decide +kernel
theorem dX7_play_80 : decode MX7_play.2.1 80 = .ok (.aload_n 0, 1) := by decide +kernel
theorem dX7_play_81 : decode MX7_play.2.1 81 = .ok (.iconst (-1), 1) := by decide +kernel
theorem dX7_play_82 : decode MX7_play.2.1 82 = .ok (.putfield 75, 3) := by decide +kernel
theorem dX7_play_85 : decode MX7_play.2.1 85 = .ok (.aload_n 0, 1) := by decide +kernel
theorem dX7_play_86 : decode MX7_play.2.1 86 = .ok (.getfield 19, 3) := by decide +kernel
theorem dX7_play_89 : decode MX7_play.2.1 89 = .ok (.getfield 45, 3) := by decide +kernel
theorem dX7_play_92 : decode MX7_play.2.1 92 = .ok (.getfield 49, 3) := by decide +kernel
theorem dX7_play_95 : decode MX7_play.2.1 95 = .ok (.iconst 1, 1) := by decide +kernel
theorem dX7_play_96 : decode MX7_play.2.1 96 = .ok (.isub, 1) := by decide +kernel
theorem dX7_play_97 : decode MX7_play.2.1 97 = .ok (.istore_n 2, 1) := by decide +kernel
theorem dX7_play_98 : decode MX7_play.2.1 98 = .ok (.iload_n 2, 1) := by decide +kernel
theorem dX7_play_99 : decode MX7_play.2.1 99 = .ok (.ifCond .lt 33, 3) := by decide +kernel
theorem dX7_play_102 : decode MX7_play.2.1 102 = .ok (.aload_n 0, 1) := by decide +kernel
theorem dX7_play_103 : decode MX7_play.2.1 103 = .ok (.iload_n 2, 1) := by decide +kernel
theorem dX7_play_104 : decode MX7_play.2.1 104 = .ok (.iload_n 1, 1) := by decide +kernel
theorem dX7_play_105 : decode MX7_play.2.1 105 = .ok (.invokevirtual 68, 3) := by decide +kernel
theorem dX7_play_108 : decode MX7_play.2.1 108 = .ok (.ifCond .eq 18, 3) := by decide +kernel
theorem dX7_play_111 : decode MX7_play.2.1 111 = .ok (.aload_n 0, 1) := by decide +kernel
theorem dX7_play_112 : decode MX7_play.2.1 112 = .ok (.dup, 1) := by decide +kernel
theorem dX7_play_113 : decode MX7_play.2.1 113 = .ok (.getfield 72, 3) := by decide +kernel
theorem dX7_play_116 : decode MX7_play.2.1 116 = .ok (.iconst 1, 1) := by decide +kernel
theorem dX7_play_117 : decode MX7_play.2.1 117 = .ok (.iadd, 1) := by decide +kernel
theorem dX7_play_118 : decode MX7_play.2.1 118 = .ok (.putfield 72, 3) := by decide +kernel
theorem dX7_play_121 : decode MX7_play.2.1 121 = .ok (.aload_n 0, 1) := by decide +kernel
theorem dX7_play_122 : decode MX7_play.2.1 122 = .ok (.iload_n 2, 1) := by decide +kernel
theorem dX7_play_123 : decode MX7_play.2.1 123 = .ok (.putfield 75, 3) := by decide +kernel
theorem dX7_play_126 : decode MX7_play.2.1 126 = .ok (.iinc 2 (-1), 3) := by decide +kernel
theorem dX7_play_129 : decode MX7_play.2.1 129 = .ok (.goto (-31), 3) := by decide +kernel
theorem dX7_play_132 : decode MX7_play.2.1 132 = .ok (.return_, 1) := by decide +kernel
theorem dX7_isWinning_0 : decode MX7_isWinning.2.1 0 = .ok (.aload_n 0, 1) := by decide +kernel
theorem dX7_isWinning_1 : decode MX7_isWinning.2.1 1 = .ok (.getfield 9, 3) := by decide +kernel
theorem dX7_isWinning_4 : decode MX7_isWinning.2.1 4 = .ok (.iload_n 1, 1) := by decide +kernel
theorem dX7_isWinning_5 : decode MX7_isWinning.2.1 5 = .ok (.iaload, 1) := by decide +kernel
theorem dX7_isWinning_6 : decode MX7_isWinning.2.1 6 = .ok (.istore_n 3, 1) := by decide +kernel
theorem dX7_isWinning_7 : decode MX7_isWinning.2.1 7 = .ok (.iload_n 3, 1) := by decide +kernel
theorem dX7_isWinning_8 : decode MX7_isWinning.2.1 8 = .ok (.ifCond .le 27, 3) := by decide +kernel
theorem dX7_isWinning_11 : decode MX7_isWinning.2.1 11 = .ok (.iload_n 3, 1) := by decide +kernel
theorem dX7_isWinning_12 : decode MX7_isWinning.2.1 12 = .ok (.iload_n 2, 1) := by decide +kernel
theorem dX7_isWinning_13 : decode MX7_isWinning.2.1 13 = .ok (.if_icmp .gt 22, 3) := by decide +kernel
theorem dX7_isWinning_16 : decode MX7_isWinning.2.1 16 = .ok (.aload_n 0, 1) := by decide +kernel
theorem dX7_isWinning_17 : decode MX7_isWinning.2.1 17 = .ok (.getfield 15, 3) := by decide +kernel
theorem dX7_isWinning_20 : decode MX7_isWinning.2.1 20 = .ok (.iload_n 2, 1) := by decide +kernel
theorem dX7_isWinning_21 : decode MX7_isWinning.2.1 21 = .ok (.iload_n 3, 1) := by decide +kernel
theorem dX7_isWinning_22 : decode MX7_isWinning.2.1 22 = .ok (.isub, 1) := by decide +kernel
theorem dX7_isWinning_23 : decode MX7_isWinning.2.1 23 = .ok (.sipush 1024, 3) := by decide +kernel
theorem dX7_isWinning_26 : decode MX7_isWinning.2.1 26 = .ok (.irem, 1) := by decide +kernel
theorem dX7_isWinning_27 : decode MX7_isWinning.2.1 27 = .ok (.baload, 1) := by decide +kernel
theorem dX7_isWinning_28 : decode MX7_isWinning.2.1 28 = .ok (.ifCond .ne 7, 3) := by decide +kernel
theorem dX7_isWinning_31 : decode MX7_isWinning.2.1 31 = .ok (.iconst 1, 1) := by decide +kernel
theorem dX7_isWinning_32 : decode MX7_isWinning.2.1 32 = .ok (.goto 4, 3) := by decide +kernel
theorem dX7_isWinning_35 : decode MX7_isWinning.2.1 35 = .ok (.iconst 0, 1) := by decide +kernel
theorem dX7_isWinning_36 : decode MX7_isWinning.2.1 36 = .ok (.ireturn, 1) := by decide +kernel
theorem dX8_init_0 : decode MX8_init.2.1 0 = .ok (.aload_n 0, 1) := by decide +kernel
theorem dX8_init_1 : decode MX8_init.2.1 1 = .ok (.invokespecial 3, 3) := by decide +kernel
theorem dX8_init_4 : decode MX8_init.2.1 4 = .ok (.aload_n 0, 1) := by decide +kernel
theorem dX8_init_5 : decode MX8_init.2.1 5 = .ok (.bipush 16, 2) := by decide +kernel
theorem dX8_init_7 : decode MX8_init.2.1 7 = .ok (.anewarray 9, 3) := by decide +kernel
theorem dX8_init_10 : decode MX8_init.2.1 10 = .ok (.putfield 11, 3) := by decide +kernel
theorem dX8_init_13 : decode MX8_init.2.1 13 = .ok (.aload_n 0, 1) := by decide +kernel
theorem dX8_init_14 : decode MX8_init.2.1 14 = .ok (.bipush 16, 2) := by decide +kernel
theorem dX8_init_16 : decode MX8_init.2.1 16 = .ok (.newarray .int, 2) := by decide +kernel
theorem dX8_init_18 : decode MX8_init.2.1 18 = .ok (.putfield 17, 3) := by decide +kernel
theorem dX8_init_21 : decode MX8_init.2.1 21 = .ok (.return_, 1) := by decide +kernel
theorem dX8_keep_0 : decode MX8_keep.2.1 0 = .ok (.aload_n 0, 1) := by decide +kernel
theorem dX8_keep_1 : decode MX8_keep.2.1 1 = .ok (.getfield 11, 3) := by decide +kernel
theorem dX8_keep_4 : decode MX8_keep.2.1 4 = .ok (.aload_n 0, 1) := by decide +kernel
theorem dX8_keep_5 : decode MX8_keep.2.1 5 = .ok (.getfield 21, 3) := by decide +kernel
theorem dX8_keep_8 : decode MX8_keep.2.1 8 = .ok (.aaload, 1) := by decide +kernel
theorem dX8_keep_9 : decode MX8_keep.2.1 9 = .ok (.ifnonnull 19, 3) := by decide +kernel
theorem dX8_keep_12 : decode MX8_keep.2.1 12 = .ok (.aload_n 0, 1) := by decide +kernel
theorem dX8_keep_13 : decode MX8_keep.2.1 13 = .ok (.getfield 11, 3) := by decide +kernel
theorem dX8_keep_16 : decode MX8_keep.2.1 16 = .ok (.aload_n 0, 1) := by decide +kernel
theorem dX8_keep_17 : decode MX8_keep.2.1 17 = .ok (.getfield 21, 3) := by decide +kernel
theorem dX8_keep_20 : decode MX8_keep.2.1 20 = .ok (.new 9, 3) := by decide +kernel
theorem dX8_keep_23 : decode MX8_keep.2.1 23 = .ok (.dup, 1) := by decide +kernel
theorem dX8_keep_24 : decode MX8_keep.2.1 24 = .ok (.invokespecial 25, 3) := by decide +kernel
theorem dX8_keep_27 : decode MX8_keep.2.1 27 = .ok (.aastore, 1) := by decide +kernel
theorem dX8_keep_28 : decode MX8_keep.2.1 28 = .ok (.aload_n 0, 1) := by decide +kernel
theorem dX8_keep_29 : decode MX8_keep.2.1 29 = .ok (.getfield 11, 3) := by decide +kernel
theorem dX8_keep_32 : decode MX8_keep.2.1 32 = .ok (.aload_n 0, 1) := by decide +kernel
theorem dX8_keep_33 : decode MX8_keep.2.1 33 = .ok (.getfield 21, 3) := by decide +kernel
theorem dX8_keep_36 : decode MX8_keep.2.1 36 = .ok (.aaload, 1) := by decide +kernel
theorem dX8_keep_37 : decode MX8_keep.2.1 37 = .ok (.aload_n 1, 1) := by decide +kernel
theorem dX8_keep_38 : decode MX8_keep.2.1 38 = .ok (.invokevirtual 26, 3) := by decide +kernel
theorem dX8_keep_41 : decode MX8_keep.2.1 41 = .ok (.aload_n 0, 1) := by decide +kernel
theorem dX8_keep_42 : decode MX8_keep.2.1 42 = .ok (.getfield 17, 3) := by decide +kernel
theorem dX8_keep_45 : decode MX8_keep.2.1 45 = .ok (.aload_n 0, 1) := by decide +kernel
theorem dX8_keep_46 : decode MX8_keep.2.1 46 = .ok (.getfield 21, 3) := by decide +kernel
theorem dX8_keep_49 : decode MX8_keep.2.1 49 = .ok (.iload_n 2, 1) := by decide +kernel
theorem dX8_keep_50 : decode MX8_keep.2.1 50 = .ok (.iastore, 1) := by decide +kernel
theorem dX8_keep_51 : decode MX8_keep.2.1 51 = .ok (.aload_n 0, 1) := by decide +kernel
theorem dX8_keep_52 : decode MX8_keep.2.1 52 = .ok (.aload_n 0, 1) := by decide +kernel
theorem dX8_keep_53 : decode MX8_keep.2.1 53 = .ok (.getfield 21, 3) := by decide +kernel
theorem dX8_keep_56 : decode MX8_keep.2.1 56 = .ok (.iconst 1, 1) := by decide +kernel
theorem dX8_keep_57 : decode MX8_keep.2.1 57 = .ok (.iadd, 1) := by decide +kernel
theorem dX8_keep_58 : decode MX8_keep.2.1 58 = .ok (.bipush 16, 2) := by decide +kernel
theorem dX8_keep_60 : decode MX8_keep.2.1 60 = .ok (.irem, 1) := by decide +kernel
theorem dX8_keep_61 : decode MX8_keep.2.1 61 = .ok (.putfield 21, 3) := by decide +kernel
theorem dX8_keep_64 : decode MX8_keep.2.1 64 = .ok (.aload_n 0, 1) := by decide +kernel
theorem dX8_keep_65 : decode MX8_keep.2.1 65 = .ok (.bipush 16, 2) := by decide +kernel
theorem dX8_keep_67 : decode MX8_keep.2.1 67 = .ok (.aload_n 0, 1) := by decide +kernel
theorem dX8_keep_68 : decode MX8_keep.2.1 68 = .ok (.getfield 30, 3) := by decide +kernel
theorem dX8_keep_71 : decode MX8_keep.2.1 71 = .ok (.iconst 1, 1) := by decide +kernel
theorem dX8_keep_72 : decode MX8_keep.2.1 72 = .ok (.iadd, 1) := by decide +kernel
theorem dX8_keep_73 : decode MX8_keep.2.1 73 = .ok (.invokestatic 33, 3) := by decide +kernel
theorem dX8_keep_76 : decode MX8_keep.2.1 76 = .ok (.putfield 30, 3) := by decide +kernel
theorem dX8_keep_79 : decode MX8_keep.2.1 79 = .ok (.return_, 1) := by decide +kernel
theorem dX8_giveBack_0 : decode MX8_giveBack.2.1 0 = .ok (.aload_n 0, 1) := by decide +kernel
theorem dX8_giveBack_1 : decode MX8_giveBack.2.1 1 = .ok (.getfield 21, 3) := by decide +kernel
theorem dX8_giveBack_4 : decode MX8_giveBack.2.1 4 = .ok (.bipush 16, 2) := by decide +kernel
theorem dX8_giveBack_6 : decode MX8_giveBack.2.1 6 = .ok (.iadd, 1) := by decide +kernel
theorem dX8_giveBack_7 : decode MX8_giveBack.2.1 7 = .ok (.iconst 1, 1) := by decide +kernel
theorem dX8_giveBack_8 : decode MX8_giveBack.2.1 8 = .ok (.isub, 1) := by decide +kernel
theorem dX8_giveBack_9 : decode MX8_giveBack.2.1 9 = .ok (.bipush 16, 2) := by decide +kernel
theorem dX8_giveBack_11 : decode MX8_giveBack.2.1 11 = .ok (.irem, 1) := by decide +kernel
theorem dX8_giveBack_12 : decode MX8_giveBack.2.1 12 = .ok (.istore_n 2, 1) := by decide +kernel
theorem dX8_giveBack_13 : decode MX8_giveBack.2.1 13 = .ok (.aload_n 0, 1) := by decide +kernel
theorem dX8_giveBack_14 : decode MX8_giveBack.2.1 14 = .ok (.getfield 30, 3) := by decide +kernel
theorem dX8_giveBack_17 : decode MX8_giveBack.2.1 17 = .ok (.ifCond .eq 12, 3) := by decide +kernel
theorem dX8_giveBack_20 : decode MX8_giveBack.2.1 20 = .ok (.aload_n 0, 1) := by decide +kernel
theorem dX8_giveBack_21 : decode MX8_giveBack.2.1 21 = .ok (.getfield 11, 3) := by decide +kernel
theorem dX8_giveBack_24 : decode MX8_giveBack.2.1 24 = .ok (.iload_n 2, 1) := by decide +kernel
theorem dX8_giveBack_25 : decode MX8_giveBack.2.1 25 = .ok (.aaload, 1) := by decide +kernel
theorem dX8_giveBack_26 : decode MX8_giveBack.2.1 26 = .ok (.ifnonnull 5, 3) := by decide +kernel
theorem dX8_giveBack_29 : decode MX8_giveBack.2.1 29 = .ok (.iconst (-1), 1) := by decide +kernel
theorem dX8_giveBack_30 : decode MX8_giveBack.2.1 30 = .ok (.ireturn, 1) := by decide +kernel
theorem dX8_giveBack_31 : decode MX8_giveBack.2.1 31 = .ok (.aload_n 1, 1) := by decide +kernel
theorem dX8_giveBack_32 : decode MX8_giveBack.2.1 32 = .ok (.aload_n 0, 1) := by decide +kernel
theorem dX8_giveBack_33 : decode MX8_giveBack.2.1 33 = .ok (.getfield 11, 3) := by decide +kernel
theorem dX8_giveBack_36 : decode MX8_giveBack.2.1 36 = .ok (.iload_n 2, 1) := by decide +kernel
theorem dX8_giveBack_37 : decode MX8_giveBack.2.1 37 = .ok (.aaload, 1) := by decide +kernel
theorem dX8_giveBack_38 : decode MX8_giveBack.2.1 38 = .ok (.invokevirtual 26, 3) := by decide +kernel
theorem dX8_giveBack_41 : decode MX8_giveBack.2.1 41 = .ok (.aload_n 0, 1) := by decide +kernel
theorem dX8_giveBack_42 : decode MX8_giveBack.2.1 42 = .ok (.iload_n 2, 1) := by decide +kernel
theorem dX8_giveBack_43 : decode MX8_giveBack.2.1 43 = .ok (.putfield 21, 3) := by decide +kernel
theorem dX8_giveBack_46 : decode MX8_giveBack.2.1 46 = .ok (.aload_n 0, 1) := by decide +kernel
theorem dX8_giveBack_47 : decode MX8_giveBack.2.1 47 = .ok (.dup, 1) := by decide +kernel
theorem dX8_giveBack_48 : decode MX8_giveBack.2.1 48 = .ok (.getfield 30, 3) := by decide +kernel
theorem dX8_giveBack_51 : decode MX8_giveBack.2.1 51 = .ok (.iconst 1, 1) := by decide +kernel
theorem dX8_giveBack_52 : decode MX8_giveBack.2.1 52 = .ok (.isub, 1) := by decide +kernel
theorem dX8_giveBack_53 : decode MX8_giveBack.2.1 53 = .ok (.putfield 30, 3) := by decide +kernel
theorem dX8_giveBack_56 : decode MX8_giveBack.2.1 56 = .ok (.aload_n 0, 1) := by decide +kernel
theorem dX8_giveBack_57 : decode MX8_giveBack.2.1 57 = .ok (.getfield 17, 3) := by decide +kernel
theorem dX8_giveBack_60 : decode MX8_giveBack.2.1 60 = .ok (.iload_n 2, 1) := by decide +kernel
theorem dX8_giveBack_61 : decode MX8_giveBack.2.1 61 = .ok (.iaload, 1) := by decide +kernel
theorem dX8_giveBack_62 : decode MX8_giveBack.2.1 62 = .ok (.ireturn, 1) := by decide +kernel
theorem dX8_clear_0 : decode MX8_clear.2.1 0 = .ok (.aload_n 0, 1) := by decide +kernel
theorem dX8_clear_1 : decode MX8_clear.2.1 1 = .ok (.iconst 0, 1) := by decide +kernel
theorem dX8_clear_2 : decode MX8_clear.2.1 2 = .ok (.putfield 30, 3) := by decide +kernel
theorem dX8_clear_5 : decode MX8_clear.2.1 5 = .ok (.return_, 1) := by decide +kernel
theorem dX9_init_0 : decode MX9_init.2.1 0 = .ok (.aload_n 0, 1) := by decide +kernel
theorem dX9_init_1 : decode MX9_init.2.1 1 = .ok (.invokespecial 3, 3) := by decide +kernel
theorem dX9_init_4 : decode MX9_init.2.1 4 = .ok (.aload_n 0, 1) := by decide +kernel
theorem dX9_init_5 : decode MX9_init.2.1 5 = .ok (.new 9, 3) := by decide +kernel
theorem dX9_init_8 : decode MX9_init.2.1 8 = .ok (.dup, 1) := by decide +kernel
theorem dX9_init_9 : decode MX9_init.2.1 9 = .ok (.invokespecial 11, 3) := by decide +kernel
theorem dX9_init_12 : decode MX9_init.2.1 12 = .ok (.putfield 12, 3) := by decide +kernel
theorem dX9_init_15 : decode MX9_init.2.1 15 = .ok (.aload_n 0, 1) := by decide +kernel
theorem dX9_init_16 : decode MX9_init.2.1 16 = .ok (.bipush 6, 2) := by decide +kernel
theorem dX9_init_18 : decode MX9_init.2.1 18 = .ok (.newarray .int, 2) := by decide +kernel
theorem dX9_init_20 : decode MX9_init.2.1 20 = .ok (.putfield 18, 3) := by decide +kernel
theorem dX9_init_23 : decode MX9_init.2.1 23 = .ok (.aload_n 0, 1) := by decide +kernel
theorem dX9_init_24 : decode MX9_init.2.1 24 = .ok (.bipush 6, 2) := by decide +kernel
theorem dX9_init_26 : decode MX9_init.2.1 26 = .ok (.newarray .int, 2) := by decide +kernel
theorem dX9_init_28 : decode MX9_init.2.1 28 = .ok (.putfield 22, 3) := by decide +kernel
theorem dX9_init_31 : decode MX9_init.2.1 31 = .ok (.aload_n 0, 1) := by decide +kernel
theorem dX9_init_32 : decode MX9_init.2.1 32 = .ok (.bipush 6, 2) := by decide +kernel
theorem dX9_init_34 : decode MX9_init.2.1 34 = .ok (.newarray .int, 2) := by decide +kernel
theorem dX9_init_36 : decode MX9_init.2.1 36 = .ok (.putfield 25, 3) := by decide +kernel
theorem dX9_init_39 : decode MX9_init.2.1 39 = .ok (.aload_n 0, 1) := by decide +kernel
theorem dX9_init_40 : decode MX9_init.2.1 40 = .ok (.bipush 24, 2) := by decide +kernel
theorem dX9_init_42 : decode MX9_init.2.1 42 = .ok (.newarray .int, 2) := by decide +kernel
theorem dX9_init_44 : decode MX9_init.2.1 44 = .ok (.putfield 28, 3) := by decide +kernel
theorem dX9_init_47 : decode MX9_init.2.1 47 = .ok (.aload_n 0, 1) := by decide +kernel
theorem dX9_init_48 : decode MX9_init.2.1 48 = .ok (.new 31, 3) := by decide +kernel
theorem dX9_init_51 : decode MX9_init.2.1 51 = .ok (.dup, 1) := by decide +kernel
theorem dX9_init_52 : decode MX9_init.2.1 52 = .ok (.invokespecial 33, 3) := by decide +kernel
theorem dX9_init_55 : decode MX9_init.2.1 55 = .ok (.putfield 34, 3) := by decide +kernel
theorem dX9_init_58 : decode MX9_init.2.1 58 = .ok (.aload_n 0, 1) := by decide +kernel
theorem dX9_init_59 : decode MX9_init.2.1 59 = .ok (.iconst 5, 1) := by decide +kernel
theorem dX9_init_60 : decode MX9_init.2.1 60 = .ok (.newarray .int, 2) := by decide +kernel
theorem dX9_init_62 : decode MX9_init.2.1 62 = .ok (.putfield 38, 3) := by decide +kernel
theorem dX9_init_65 : decode MX9_init.2.1 65 = .ok (.aload_n 0, 1) := by decide +kernel
theorem dX9_init_66 : decode MX9_init.2.1 66 = .ok (.bipush 6, 2) := by decide +kernel
theorem dX9_init_68 : decode MX9_init.2.1 68 = .ok (.newarray .int, 2) := by decide +kernel
theorem dX9_init_70 : decode MX9_init.2.1 70 = .ok (.putfield 41, 3) := by decide +kernel
theorem dX9_init_73 : decode MX9_init.2.1 73 = .ok (.aload_n 0, 1) := by decide +kernel
theorem dX9_init_74 : decode MX9_init.2.1 74 = .ok (.bipush 6, 2) := by decide +kernel
theorem dX9_init_76 : decode MX9_init.2.1 76 = .ok (.newarray .int, 2) := by decide +kernel
theorem dX9_init_78 : decode MX9_init.2.1 78 = .ok (.putfield 44, 3) := by decide +kernel
theorem dX9_init_81 : decode MX9_init.2.1 81 = .ok (.aload_n 0, 1) := by decide +kernel
theorem dX9_init_82 : decode MX9_init.2.1 82 = .ok (.bipush 6, 2) := by decide +kernel
theorem dX9_init_84 : decode MX9_init.2.1 84 = .ok (.newarray .int, 2) := by decide +kernel
theorem dX9_init_86 : decode MX9_init.2.1 86 = .ok (.putfield 47, 3) := by decide +kernel
theorem dX9_init_89 : decode MX9_init.2.1 89 = .ok (.aload_n 0, 1) := by decide +kernel
theorem dX9_init_90 : decode MX9_init.2.1 90 = .ok (.bipush 10, 2) := by decide +kernel
theorem dX9_init_92 : decode MX9_init.2.1 92 = .ok (.newarray .int, 2) := by decide +kernel
theorem dX9_init_94 : decode MX9_init.2.1 94 = .ok (.putfield 50, 3) := by decide +kernel
theorem dX9_init_97 : decode MX9_init.2.1 97 = .ok (.aload_n 0, 1) := by decide +kernel
theorem dX9_init_98 : decode MX9_init.2.1 98 = .ok (.bipush 10, 2) := by decide +kernel
theorem dX9_init_100 : decode MX9_init.2.1 100 = .ok (.newarray .int, 2) := by decide +kernel
theorem dX9_init_102 : decode MX9_init.2.1 102 = .ok (.putfield 53, 3) := by decide +kernel
theorem dX9_init_105 : decode MX9_init.2.1 105 = .ok (.aload_n 0, 1) := by decide +kernel
theorem dX9_init_106 : decode MX9_init.2.1 106 = .ok (.bipush 10, 2) := by decide +kernel
theorem dX9_init_108 : decode MX9_init.2.1 108 = .ok (.newarray .int, 2) := by decide +kernel
theorem dX9_init_110 : decode MX9_init.2.1 110 = .ok (.putfield 56, 3) := by decide +kernel
theorem dX9_init_113 : decode MX9_init.2.1 113 = .ok (.aload_n 0, 1) := by decide +kernel
theorem dX9_init_114 : decode MX9_init.2.1 114 = .ok (.bipush 6, 2) := by decide +kernel
theorem dX9_init_116 : decode MX9_init.2.1 116 = .ok (.anewarray 59, 3) := by decide +kernel
theorem dX9_init_119 : decode MX9_init.2.1 119 = .ok (.putfield 61, 3) := by decide +kernel
theorem dX9_init_122 : decode MX9_init.2.1 122 = .ok (.aload_n 0, 1) := by decide +kernel
theorem dX9_init_123 : decode MX9_init.2.1 123 = .ok (.iconst (-1), 1) := by decide +kernel
theorem dX9_init_124 : decode MX9_init.2.1 124 = .ok (.putfield 65, 3) := by decide +kernel
theorem dX9_init_127 : decode MX9_init.2.1 127 = .ok (.aload_n 0, 1) := by decide +kernel
theorem dX9_init_128 : decode MX9_init.2.1 128 = .ok (.getfield 18, 3) := by decide +kernel
theorem dX9_init_131 : decode MX9_init.2.1 131 = .ok (.sipush 500, 3) := by decide +kernel
theorem dX9_init_134 : decode MX9_init.2.1 134 = .ok (.invokestatic 69, 3) := by decide +kernel
theorem dX9_init_137 : decode MX9_init.2.1 137 = .ok (.aload_n 0, 1) := by decide +kernel
theorem dX9_init_138 : decode MX9_init.2.1 138 = .ok (.getfield 22, 3) := by decide +kernel
theorem dX9_init_141 : decode MX9_init.2.1 141 = .ok (.iconst (-1), 1) := by decide +kernel
theorem dX9_init_142 : decode MX9_init.2.1 142 = .ok (.invokestatic 69, 3) := by decide +kernel
theorem dX9_init_145 : decode MX9_init.2.1 145 = .ok (.aload_n 0, 1) := by decide +kernel
theorem dX9_init_146 : decode MX9_init.2.1 146 = .ok (.getfield 28, 3) := by decide +kernel
theorem dX9_init_149 : decode MX9_init.2.1 149 = .ok (.iconst 1, 1) := by decide +kernel
theorem dX9_init_150 : decode MX9_init.2.1 150 = .ok (.invokestatic 69, 3) := by decide +kernel
theorem dX9_init_153 : decode MX9_init.2.1 153 = .ok (.return_, 1) := by decide +kernel
theorem dX9_copyFrom_0 : decode MX9_copyFrom.2.1 0 = .ok (.aload_n 0, 1) := by decide +kernel
theorem dX9_copyFrom_1 : decode MX9_copyFrom.2.1 1 = .ok (.getfield 12, 3) := by decide +kernel
theorem dX9_copyFrom_4 : decode MX9_copyFrom.2.1 4 = .ok (.aload_n 1, 1) := by decide +kernel
theorem dX9_copyFrom_5 : decode MX9_copyFrom.2.1 5 = .ok (.getfield 12, 3) := by decide +kernel
theorem dX9_copyFrom_8 : decode MX9_copyFrom.2.1 8 = .ok (.invokevirtual 75, 3) := by decide +kernel
theorem dX9_copyFrom_11 : decode MX9_copyFrom.2.1 11 = .ok (.aload_n 0, 1) := by decide +kernel
theorem dX9_copyFrom_12 : decode MX9_copyFrom.2.1 12 = .ok (.getfield 34, 3) := by decide +kernel
theorem dX9_copyFrom_15 : decode MX9_copyFrom.2.1 15 = .ok (.aload_n 1, 1) := by decide +kernel
theorem dX9_copyFrom_16 : decode MX9_copyFrom.2.1 16 = .ok (.getfield 34, 3) := by decide +kernel
theorem dX9_copyFrom_19 : decode MX9_copyFrom.2.1 19 = .ok (.invokevirtual 79, 3) := by decide +kernel
theorem dX9_copyFrom_22 : decode MX9_copyFrom.2.1 22 = .ok (.aload_n 1, 1) := by decide +kernel
theorem dX9_copyFrom_23 : decode MX9_copyFrom.2.1 23 = .ok (.getfield 18, 3) := by decide +kernel
theorem dX9_copyFrom_26 : decode MX9_copyFrom.2.1 26 = .ok (.iconst 0, 1) := by decide +kernel
theorem dX9_copyFrom_27 : decode MX9_copyFrom.2.1 27 = .ok (.aload_n 0, 1) := by decide +kernel
theorem dX9_copyFrom_28 : decode MX9_copyFrom.2.1 28 = .ok (.getfield 18, 3) := by decide +kernel
theorem dX9_copyFrom_31 : decode MX9_copyFrom.2.1 31 = .ok (.iconst 0, 1) := by decide +kernel
theorem dX9_copyFrom_32 : decode MX9_copyFrom.2.1 32 = .ok (.bipush 6, 2) := by decide +kernel
theorem dX9_copyFrom_34 : decode MX9_copyFrom.2.1 34 = .ok (.invokestatic 82, 3) := by decide +kernel
theorem dX9_copyFrom_37 : decode MX9_copyFrom.2.1 37 = .ok (.aload_n 1, 1) := by decide +kernel
theorem dX9_copyFrom_38 : decode MX9_copyFrom.2.1 38 = .ok (.getfield 22, 3) := by decide +kernel
theorem dX9_copyFrom_41 : decode MX9_copyFrom.2.1 41 = .ok (.iconst 0, 1) := by decide +kernel
theorem dX9_copyFrom_42 : decode MX9_copyFrom.2.1 42 = .ok (.aload_n 0, 1) := by decide +kernel
theorem dX9_copyFrom_43 : decode MX9_copyFrom.2.1 43 = .ok (.getfield 22, 3) := by decide +kernel
theorem dX9_copyFrom_46 : decode MX9_copyFrom.2.1 46 = .ok (.iconst 0, 1) := by decide +kernel
theorem dX9_copyFrom_47 : decode MX9_copyFrom.2.1 47 = .ok (.bipush 6, 2) := by decide +kernel
theorem dX9_copyFrom_49 : decode MX9_copyFrom.2.1 49 = .ok (.invokestatic 82, 3) := by decide +kernel
theorem dX9_copyFrom_52 : decode MX9_copyFrom.2.1 52 = .ok (.aload_n 1, 1) := by decide +kernel
theorem dX9_copyFrom_53 : decode MX9_copyFrom.2.1 53 = .ok (.getfield 25, 3) := by decide +kernel
theorem dX9_copyFrom_56 : decode MX9_copyFrom.2.1 56 = .ok (.iconst 0, 1) := by decide +kernel
theorem dX9_copyFrom_57 : decode MX9_copyFrom.2.1 57 = .ok (.aload_n 0, 1) := by decide +kernel
theorem dX9_copyFrom_58 : decode MX9_copyFrom.2.1 58 = .ok (.getfield 25, 3) := by decide +kernel
theorem dX9_copyFrom_61 : decode MX9_copyFrom.2.1 61 = .ok (.iconst 0, 1) := by decide +kernel
theorem dX9_copyFrom_62 : decode MX9_copyFrom.2.1 62 = .ok (.bipush 6, 2) := by decide +kernel
theorem dX9_copyFrom_64 : decode MX9_copyFrom.2.1 64 = .ok (.invokestatic 82, 3) := by decide +kernel
theorem dX9_copyFrom_67 : decode MX9_copyFrom.2.1 67 = .ok (.aload_n 1, 1) := by decide +kernel
theorem dX9_copyFrom_68 : decode MX9_copyFrom.2.1 68 = .ok (.getfield 28, 3) := by decide +kernel
theorem dX9_copyFrom_71 : decode MX9_copyFrom.2.1 71 = .ok (.iconst 0, 1) := by decide +kernel
theorem dX9_copyFrom_72 : decode MX9_copyFrom.2.1 72 = .ok (.aload_n 0, 1) := by decide +kernel
theorem dX9_copyFrom_73 : decode MX9_copyFrom.2.1 73 = .ok (.getfield 28, 3) := by decide +kernel
theorem dX9_copyFrom_76 : decode MX9_copyFrom.2.1 76 = .ok (.iconst 0, 1) := by decide +kernel
theorem dX9_copyFrom_77 : decode MX9_copyFrom.2.1 77 = .ok (.bipush 24, 2) := by decide +kernel
theorem dX9_copyFrom_79 : decode MX9_copyFrom.2.1 79 = .ok (.invokestatic 82, 3) := by decide +kernel
theorem dX9_copyFrom_82 : decode MX9_copyFrom.2.1 82 = .ok (.aload_n 1, 1) := by decide +kernel
theorem dX9_copyFrom_83 : decode MX9_copyFrom.2.1 83 = .ok (.getfield 38, 3) := by decide +kernel
theorem dX9_copyFrom_86 : decode MX9_copyFrom.2.1 86 = .ok (.iconst 0, 1) := by decide +kernel
theorem dX9_copyFrom_87 : decode MX9_copyFrom.2.1 87 = .ok (.aload_n 0, 1) := by decide +kernel
theorem dX9_copyFrom_88 : decode MX9_copyFrom.2.1 88 = .ok (.getfield 38, 3) := by decide +kernel
theorem dX9_copyFrom_91 : decode MX9_copyFrom.2.1 91 = .ok (.iconst 0, 1) := by decide +kernel
theorem dX9_copyFrom_92 : decode MX9_copyFrom.2.1 92 = .ok (.iconst 5, 1) := by decide +kernel
theorem dX9_copyFrom_93 : decode MX9_copyFrom.2.1 93 = .ok (.invokestatic 82, 3) := by decide +kernel
theorem dX9_copyFrom_96 : decode MX9_copyFrom.2.1 96 = .ok (.aload_n 1, 1) := by decide +kernel
theorem dX9_copyFrom_97 : decode MX9_copyFrom.2.1 97 = .ok (.getfield 41, 3) := by decide +kernel
theorem dX9_copyFrom_100 : decode MX9_copyFrom.2.1 100 = .ok (.iconst 0, 1) := by decide +kernel
theorem dX9_copyFrom_101 : decode MX9_copyFrom.2.1 101 = .ok (.aload_n 0, 1) := by decide +kernel
theorem dX9_copyFrom_102 : decode MX9_copyFrom.2.1 102 = .ok (.getfield 41, 3) := by decide +kernel
theorem dX9_copyFrom_105 : decode MX9_copyFrom.2.1 105 = .ok (.iconst 0, 1) := by decide +kernel
theorem dX9_copyFrom_106 : decode MX9_copyFrom.2.1 106 = .ok (.bipush 6, 2) := by decide +kernel
theorem dX9_copyFrom_108 : decode MX9_copyFrom.2.1 108 = .ok (.invokestatic 82, 3) := by decide +kernel
theorem dX9_copyFrom_111 : decode MX9_copyFrom.2.1 111 = .ok (.aload_n 1, 1) := by decide +kernel
theorem dX9_copyFrom_112 : decode MX9_copyFrom.2.1 112 = .ok (.getfield 44, 3) := by decide +kernel
theorem dX9_copyFrom_115 : decode MX9_copyFrom.2.1 115 = .ok (.iconst 0, 1) := by decide +kernel
theorem dX9_copyFrom_116 : decode MX9_copyFrom.2.1 116 = .ok (.aload_n 0, 1) := by decide +kernel
theorem dX9_copyFrom_117 : decode MX9_copyFrom.2.1 117 = .ok (.getfield 44, 3) := by decide +kernel
theorem dX9_copyFrom_120 : decode MX9_copyFrom.2.1 120 = .ok (.iconst 0, 1) := by decide +kernel
theorem dX9_copyFrom_121 : decode MX9_copyFrom.2.1 121 = .ok (.bipush 6, 2) := by decide +kernel
theorem dX9_copyFrom_123 : decode MX9_copyFrom.2.1 123 = .ok (.invokestatic 82, 3) := by decide +kernel
theorem dX9_copyFrom_126 : decode MX9_copyFrom.2.1 126 = .ok (.aload_n 1, 1) := by decide +kernel
theorem dX9_copyFrom_127 : decode MX9_copyFrom.2.1 127 = .ok (.getfield 47, 3) := by decide +kernel
theorem dX9_copyFrom_130 : decode MX9_copyFrom.2.1 130 = .ok (.iconst 0, 1) := by decide +kernel
theorem dX9_copyFrom_131 : decode MX9_copyFrom.2.1 131 = .ok (.aload_n 0, 1) := by decide +kernel
theorem dX9_copyFrom_132 : decode MX9_copyFrom.2.1 132 = .ok (.getfield 47, 3) := by decide +kernel
theorem dX9_copyFrom_135 : decode MX9_copyFrom.2.1 135 = .ok (.iconst 0, 1) := by decide +kernel
theorem dX9_copyFrom_136 : decode MX9_copyFrom.2.1 136 = .ok (.bipush 6, 2) := by decide +kernel
theorem dX9_copyFrom_138 : decode MX9_copyFrom.2.1 138 = .ok (.invokestatic 82, 3) := by decide +kernel
theorem dX9_copyFrom_141 : decode MX9_copyFrom.2.1 141 = .ok (.aload_n 1, 1) := by decide +kernel
theorem dX9_copyFrom_142 : decode MX9_copyFrom.2.1 142 = .ok (.getfield 50, 3) := by decide +kernel
theorem dX9_copyFrom_145 : decode MX9_copyFrom.2.1 145 = .ok (.iconst 0, 1) := by decide +kernel
theorem dX9_copyFrom_146 : decode MX9_copyFrom.2.1 146 = .ok (.aload_n 0, 1) := by decide +kernel
theorem dX9_copyFrom_147 : decode MX9_copyFrom.2.1 147 = .ok (.getfield 50, 3) := by decide +kernel
theorem dX9_copyFrom_150 : decode MX9_copyFrom.2.1 150 = .ok (.iconst 0, 1) := by decide +kernel
theorem dX9_copyFrom_151 : decode MX9_copyFrom.2.1 151 = .ok (.bipush 10, 2) := by decide +kernel
theorem dX9_copyFrom_153 : decode MX9_copyFrom.2.1 153 = .ok (.invokestatic 82, 3) := by decide +kernel
theorem dX9_copyFrom_156 : decode MX9_copyFrom.2.1 156 = .ok (.aload_n 1, 1) := by decide +kernel
theorem dX9_copyFrom_157 : decode MX9_copyFrom.2.1 157 = .ok (.getfield 53, 3) := by decide +kernel
theorem dX9_copyFrom_160 : decode MX9_copyFrom.2.1 160 = .ok (.iconst 0, 1) := by decide +kernel
theorem dX9_copyFrom_161 : decode MX9_copyFrom.2.1 161 = .ok (.aload_n 0, 1) := by decide +kernel
theorem dX9_copyFrom_162 : decode MX9_copyFrom.2.1 162 = .ok (.getfield 53, 3) := by decide +kernel
theorem dX9_copyFrom_165 : decode MX9_copyFrom.2.1 165 = .ok (.iconst 0, 1) := by decide +kernel
theorem dX9_copyFrom_166 : decode MX9_copyFrom.2.1 166 = .ok (.bipush 10, 2) := by decide +kernel
theorem dX9_copyFrom_168 : decode MX9_copyFrom.2.1 168 = .ok (.invokestatic 82, 3) := by decide +kernel
theorem dX9_copyFrom_171 : decode MX9_copyFrom.2.1 171 = .ok (.aload_n 1, 1) := by decide +kernel
theorem dX9_copyFrom_172 : decode MX9_copyFrom.2.1 172 = .ok (.getfield 56, 3) := by decide +kernel
theorem dX9_copyFrom_175 : decode MX9_copyFrom.2.1 175 = .ok (.iconst 0, 1) := by decide +kernel
theorem dX9_copyFrom_176 : decode MX9_copyFrom.2.1 176 = .ok (.aload_n 0, 1) := by decide +kernel
theorem dX9_copyFrom_177 : decode MX9_copyFrom.2.1 177 = .ok (.getfield 56, 3) := by decide +kernel
theorem dX9_copyFrom_180 : decode MX9_copyFrom.2.1 180 = .ok (.iconst 0, 1) := by decide +kernel
theorem dX9_copyFrom_181 : decode MX9_copyFrom.2.1 181 = .ok (.bipush 10, 2) := by decide +kernel
theorem dX9_copyFrom_183 : decode MX9_copyFrom.2.1 183 = .ok (.invokestatic 82, 3) := by decide +kernel
theorem dX9_copyFrom_186 : decode MX9_copyFrom.2.1 186 = .ok (.iconst 0, 1) := by decide +kernel
theorem dX9_copyFrom_187 : decode MX9_copyFrom.2.1 187 = .ok (.istore_n 2, 1) := by decide +kernel
theorem dX9_copyFrom_188 : decode MX9_copyFrom.2.1 188 = .ok (.iload_n 2, 1) := by decide +kernel
theorem dX9_copyFrom_189 : decode MX9_copyFrom.2.1 189 = .ok (.bipush 6, 2) := by decide +kernel
theorem dX9_copyFrom_191 : decode MX9_copyFrom.2.1 191 = .ok (.if_icmp .ge 21, 3) := by decide +kernel
theorem dX9_copyFrom_194 : decode MX9_copyFrom.2.1 194 = .ok (.aload_n 0, 1) := by decide +kernel
theorem dX9_copyFrom_195 : decode MX9_copyFrom.2.1 195 = .ok (.getfield 61, 3) := by decide +kernel
theorem dX9_copyFrom_198 : decode MX9_copyFrom.2.1 198 = .ok (.iload_n 2, 1) := by decide +kernel
theorem dX9_copyFrom_199 : decode MX9_copyFrom.2.1 199 = .ok (.aload_n 1, 1) := by decide +kernel
theorem dX9_copyFrom_200 : decode MX9_copyFrom.2.1 200 = .ok (.getfield 61, 3) := by decide +kernel
theorem dX9_copyFrom_203 : decode MX9_copyFrom.2.1 203 = .ok (.iload_n 2, 1) := by decide +kernel
theorem dX9_copyFrom_204 : decode MX9_copyFrom.2.1 204 = .ok (.aaload, 1) := by decide +kernel
theorem dX9_copyFrom_205 : decode MX9_copyFrom.2.1 205 = .ok (.aastore, 1) := by decide +kernel
theorem dX9_copyFrom_206 : decode MX9_copyFrom.2.1 206 = .ok (.iinc 2 1, 3) := by decide +kernel
theorem dX9_copyFrom_209 : decode MX9_copyFrom.2.1 209 = .ok (.goto (-21), 3) := by decide +kernel
theorem dX9_copyFrom_212 : decode MX9_copyFrom.2.1 212 = .ok (.aload_n 0, 1) := by decide +kernel
theorem dX9_copyFrom_213 : decode MX9_copyFrom.2.1 213 = .ok (.aload_n 1, 1) := by decide +kernel
theorem dX9_copyFrom_214 : decode MX9_copyFrom.2.1 214 = .ok (.getfield 88, 3) := by decide +kernel
theorem dX9_copyFrom_217 : decode MX9_copyFrom.2.1 217 = .ok (.putfield 88, 3) := by decide +kernel
theorem dX9_copyFrom_220 : decode MX9_copyFrom.2.1 220 = .ok (.aload_n 0, 1) := by decide +kernel
theorem dX9_copyFrom_221 : decode MX9_copyFrom.2.1 221 = .ok (.aload_n 1, 1) := by decide +kernel
theorem dX9_copyFrom_222 : decode MX9_copyFrom.2.1 222 = .ok (.getfield 91, 3) := by decide +kernel
theorem dX9_copyFrom_225 : decode MX9_copyFrom.2.1 225 = .ok (.putfield 91, 3) := by decide +kernel
theorem dX9_copyFrom_228 : decode MX9_copyFrom.2.1 228 = .ok (.aload_n 0, 1) := by decide +kernel
theorem dX9_copyFrom_229 : decode MX9_copyFrom.2.1 229 = .ok (.aload_n 1, 1) := by decide +kernel
theorem dX9_copyFrom_230 : decode MX9_copyFrom.2.1 230 = .ok (.getfield 94, 3) := by decide +kernel
theorem dX9_copyFrom_233 : decode MX9_copyFrom.2.1 233 = .ok (.putfield 94, 3) := by decide +kernel
theorem dX9_copyFrom_236 : decode MX9_copyFrom.2.1 236 = .ok (.aload_n 0, 1) := by decide +kernel
theorem dX9_copyFrom_237 : decode MX9_copyFrom.2.1 237 = .ok (.aload_n 1, 1) := by decide +kernel
theorem dX9_copyFrom_238 : decode MX9_copyFrom.2.1 238 = .ok (.getfield 97, 3) := by decide +kernel
theorem dX9_copyFrom_241 : decode MX9_copyFrom.2.1 241 = .ok (.putfield 97, 3) := by decide +kernel
theorem dX9_copyFrom_244 : decode MX9_copyFrom.2.1 244 = .ok (.aload_n 0, 1) := by decide +kernel
theorem dX9_copyFrom_245 : decode MX9_copyFrom.2.1 245 = .ok (.aload_n 1, 1) := by decide +kernel
theorem dX9_copyFrom_246 : decode MX9_copyFrom.2.1 246 = .ok (.getfield 65, 3) := by decide +kernel
theorem dX9_copyFrom_249 : decode MX9_copyFrom.2.1 249 = .ok (.putfield 65, 3) := by decide +kernel
theorem dX9_copyFrom_252 : decode MX9_copyFrom.2.1 252 = .ok (.aload_n 0, 1) := by decide +kernel
theorem dX9_copyFrom_253 : decode MX9_copyFrom.2.1 253 = .ok (.aload_n 1, 1) := by decide +kernel
theorem dX9_copyFrom_254 : decode MX9_copyFrom.2.1 254 = .ok (.getfield 100, 3) := by decide +kernel
theorem dX9_copyFrom_257 : decode MX9_copyFrom.2.1 257 = .ok (.putfield 100, 3) := by decide +kernel
theorem dX9_copyFrom_260 : decode MX9_copyFrom.2.1 260 = .ok (.return_, 1) := by decide +kernel
theorem dX9_lawInForce_0 : decode MX9_lawInForce.2.1 0 = .ok (.aload_n 0, 1) := by decide +kernel
theorem dX9_lawInForce_1 : decode MX9_lawInForce.2.1 1 = .ok (.getfield 65, 3) := by decide +kernel
theorem dX9_lawInForce_4 : decode MX9_lawInForce.2.1 4 = .ok (.iconst 0, 1) := by decide +kernel
theorem dX9_lawInForce_5 : decode MX9_lawInForce.2.1 5 = .ok (.iconst 5, 1) := by decide +kernel
theorem dX9_lawInForce_6 : decode MX9_lawInForce.2.1 6 = .ok (.invokestatic 103, 3) := by decide +kernel
theorem dX9_lawInForce_9 : decode MX9_lawInForce.2.1 9 = .ok (.ifCond .eq 15, 3) := by decide +kernel
theorem dX9_lawInForce_12 : decode MX9_lawInForce.2.1 12 = .ok (.aload_n 0, 1) := by decide +kernel
theorem dX9_lawInForce_13 : decode MX9_lawInForce.2.1 13 = .ok (.getfield 61, 3) := by decide +kernel
theorem dX9_lawInForce_16 : decode MX9_lawInForce.2.1 16 = .ok (.aload_n 0, 1) := by decide +kernel
theorem dX9_lawInForce_17 : decode MX9_lawInForce.2.1 17 = .ok (.getfield 65, 3) := by decide +kernel
theorem dX9_lawInForce_20 : decode MX9_lawInForce.2.1 20 = .ok (.aaload, 1) := by decide +kernel
theorem dX9_lawInForce_21 : decode MX9_lawInForce.2.1 21 = .ok (.goto 4, 3) := by decide +kernel
theorem dX9_lawInForce_24 : decode MX9_lawInForce.2.1 24 = .ok (.aconst_null, 1) := by decide +kernel
theorem dX9_lawInForce_25 : decode MX9_lawInForce.2.1 25 = .ok (.areturn, 1) := by decide +kernel
theorem dX9_roomOn_0 : decode MX9_roomOn.2.1 0 = .ok (.aload_n 2, 1) := by decide +kernel
theorem dX9_roomOn_1 : decode MX9_roomOn.2.1 1 = .ok (.getfield 107, 3) := by decide +kernel
theorem dX9_roomOn_4 : decode MX9_roomOn.2.1 4 = .ok (.iload_n 1, 1) := by decide +kernel
theorem dX9_roomOn_5 : decode MX9_roomOn.2.1 5 = .ok (.iaload, 1) := by decide +kernel
theorem dX9_roomOn_6 : decode MX9_roomOn.2.1 6 = .ok (.istore_n 3, 1) := by decide +kernel
theorem dX9_roomOn_7 : decode MX9_roomOn.2.1 7 = .ok (.iload_n 3, 1) := by decide +kernel
theorem dX9_roomOn_8 : decode MX9_roomOn.2.1 8 = .ok (.ifCond .ne 8, 3) := by decide +kernel
theorem dX9_roomOn_11 : decode MX9_roomOn.2.1 11 = .ok (.ldc 110, 2) := by decide +kernel
theorem dX9_roomOn_13 : decode MX9_roomOn.2.1 13 = .ok (.goto 18, 3) := by decide +kernel
theorem dX9_roomOn_16 : decode MX9_roomOn.2.1 16 = .ok (.aload_n 0, 1) := by decide +kernel
theorem dX9_roomOn_17 : decode MX9_roomOn.2.1 17 = .ok (.getfield 18, 3) := by decide +kernel
theorem dX9_roomOn_20 : decode MX9_roomOn.2.1 20 = .ok (.iload_n 1, 1) := by decide +kernel
theorem dX9_roomOn_21 : decode MX9_roomOn.2.1 21 = .ok (.iaload, 1) := by decide +kernel
theorem dX9_roomOn_22 : decode MX9_roomOn.2.1 22 = .ok (.iload_n 3, 1) := by decide +kernel
theorem dX9_roomOn_23 : decode MX9_roomOn.2.1 23 = .ok (.isub, 1) := by decide +kernel
theorem dX9_roomOn_24 : decode MX9_roomOn.2.1 24 = .ok (.aload_n 2, 1) := by decide +kernel
theorem dX9_roomOn_25 : decode MX9_roomOn.2.1 25 = .ok (.getfield 111, 3) := by decide +kernel
theorem dX9_roomOn_28 : decode MX9_roomOn.2.1 28 = .ok (.iload_n 1, 1) := by decide +kernel
theorem dX9_roomOn_29 : decode MX9_roomOn.2.1 29 = .ok (.iaload, 1) := by decide +kernel
theorem dX9_roomOn_30 : decode MX9_roomOn.2.1 30 = .ok (.isub, 1) := by decide +kernel
theorem dX9_roomOn_31 : decode MX9_roomOn.2.1 31 = .ok (.ireturn, 1) := by decide +kernel
theorem dX10_init_0 : decode MX10_init.2.1 0 = .ok (.aload_n 0, 1) := by decide +kernel
theorem dX10_init_1 : decode MX10_init.2.1 1 = .ok (.invokespecial 3, 3) := by decide +kernel
theorem dX10_init_4 : decode MX10_init.2.1 4 = .ok (.aload_n 0, 1) := by decide +kernel
theorem dX10_init_5 : decode MX10_init.2.1 5 = .ok (.bipush 16, 2) := by decide +kernel
theorem dX10_init_7 : decode MX10_init.2.1 7 = .ok (.newarray .int, 2) := by decide +kernel
theorem dX10_init_9 : decode MX10_init.2.1 9 = .ok (.putfield 9, 3) := by decide +kernel
theorem dX10_init_12 : decode MX10_init.2.1 12 = .ok (.aload_n 0, 1) := by decide +kernel
theorem dX10_init_13 : decode MX10_init.2.1 13 = .ok (.bipush 16, 2) := by decide +kernel
theorem dX10_init_15 : decode MX10_init.2.1 15 = .ok (.newarray .int, 2) := by decide +kernel
theorem dX10_init_17 : decode MX10_init.2.1 17 = .ok (.putfield 15, 3) := by decide +kernel
theorem dX10_init_20 : decode MX10_init.2.1 20 = .ok (.aload_n 0, 1) := by decide +kernel
theorem dX10_init_21 : decode MX10_init.2.1 21 = .ok (.bipush 16, 2) := by decide +kernel
theorem dX10_init_23 : decode MX10_init.2.1 23 = .ok (.newarray .int, 2) := by decide +kernel
theorem dX10_init_25 : decode MX10_init.2.1 25 = .ok (.putfield 18, 3) := by decide +kernel
theorem dX10_init_28 : decode MX10_init.2.1 28 = .ok (.aload_n 0, 1) := by decide +kernel
theorem dX10_init_29 : decode MX10_init.2.1 29 = .ok (.bipush 16, 2) := by decide +kernel
theorem dX10_init_31 : decode MX10_init.2.1 31 = .ok (.newarray .int, 2) := by decide +kernel
theorem dX10_init_33 : decode MX10_init.2.1 33 = .ok (.putfield 21, 3) := by decide +kernel
theorem dX10_init_36 : decode MX10_init.2.1 36 = .ok (.return_, 1) := by decide +kernel
theorem dX10_canBe_0 : decode MX10_canBe.2.1 0 = .ok (.iload_n 0, 1) := by decide +kernel
theorem dX10_canBe_1 : decode MX10_canBe.2.1 1 = .ok (.iconst 1, 1) := by decide +kernel
theorem dX10_canBe_2 : decode MX10_canBe.2.1 2 = .ok (.bipush 9, 2) := by decide +kernel
theorem dX10_canBe_4 : decode MX10_canBe.2.1 4 = .ok (.invokestatic 24, 3) := by decide +kernel
theorem dX10_canBe_7 : decode MX10_canBe.2.1 7 = .ok (.ifCond .eq 27, 3) := by decide +kernel
theorem dX10_canBe_10 : decode MX10_canBe.2.1 10 = .ok (.iload_n 1, 1) := by decide +kernel
theorem dX10_canBe_11 : decode MX10_canBe.2.1 11 = .ok (.iconst 0, 1) := by decide +kernel
theorem dX10_canBe_12 : decode MX10_canBe.2.1 12 = .ok (.bipush 9, 2) := by decide +kernel
theorem dX10_canBe_14 : decode MX10_canBe.2.1 14 = .ok (.invokestatic 24, 3) := by decide +kernel
theorem dX10_canBe_17 : decode MX10_canBe.2.1 17 = .ok (.ifCond .eq 17, 3) := by decide +kernel
theorem dX10_canBe_20 : decode MX10_canBe.2.1 20 = .ok (.iload_n 2, 1) := by decide +kernel
theorem dX10_canBe_21 : decode MX10_canBe.2.1 21 = .ok (.iconst 0, 1) := by decide +kernel
theorem dX10_canBe_22 : decode MX10_canBe.2.1 22 = .ok (.bipush 7, 2) := by decide +kernel
theorem dX10_canBe_24 : decode MX10_canBe.2.1 24 = .ok (.invokestatic 24, 3) := by decide +kernel
theorem dX10_canBe_27 : decode MX10_canBe.2.1 27 = .ok (.ifCond .eq 7, 3) := by decide +kernel
theorem dX10_canBe_30 : decode MX10_canBe.2.1 30 = .ok (.iconst 1, 1) := by decide +kernel
theorem dX10_canBe_31 : decode MX10_canBe.2.1 31 = .ok (.goto 4, 3) := by decide +kernel
theorem dX10_canBe_34 : decode MX10_canBe.2.1 34 = .ok (.iconst 0, 1) := by decide +kernel
theorem dX10_canBe_35 : decode MX10_canBe.2.1 35 = .ok (.ireturn, 1) := by decide +kernel
theorem dX10_has_0 : decode MX10_has.2.1 0 = .ok (.iload_n 1, 1) := by decide +kernel
theorem dX10_has_1 : decode MX10_has.2.1 1 = .ok (.iconst 0, 1) := by decide +kernel
theorem dX10_has_2 : decode MX10_has.2.1 2 = .ok (.aload_n 0, 1) := by decide +kernel
theorem dX10_has_3 : decode MX10_has.2.1 3 = .ok (.getfield 28, 3) := by decide +kernel
theorem dX10_has_6 : decode MX10_has.2.1 6 = .ok (.iconst 1, 1) := by decide +kernel
theorem dX10_has_7 : decode MX10_has.2.1 7 = .ok (.isub, 1) := by decide +kernel
theorem dX10_has_8 : decode MX10_has.2.1 8 = .ok (.invokestatic 24, 3) := by decide +kernel
theorem dX10_has_11 : decode MX10_has.2.1 11 = .ok (.ireturn, 1) := by decide +kernel
theorem dX10_isFull_0 : decode MX10_isFull.2.1 0 = .ok (.aload_n 0, 1) := by decide +kernel
theorem dX10_isFull_1 : decode MX10_isFull.2.1 1 = .ok (.getfield 28, 3) := by decide +kernel
theorem dX10_isFull_4 : decode MX10_isFull.2.1 4 = .ok (.bipush 16, 2) := by decide +kernel
theorem dX10_isFull_6 : decode MX10_isFull.2.1 6 = .ok (.if_icmp .lt 7, 3) := by decide +kernel
theorem dX10_isFull_9 : decode MX10_isFull.2.1 9 = .ok (.iconst 1, 1) := by decide +kernel
theorem dX10_isFull_10 : decode MX10_isFull.2.1 10 = .ok (.goto 4, 3) := by decide +kernel
theorem dX10_isFull_13 : decode MX10_isFull.2.1 13 = .ok (.iconst 0, 1) := by decide +kernel
theorem dX10_isFull_14 : decode MX10_isFull.2.1 14 = .ok (.ireturn, 1) := by decide +kernel
theorem dX10_coin_0 : decode MX10_coin.2.1 0 = .ok (.aload_n 0, 1) := by decide +kernel
theorem dX10_coin_1 : decode MX10_coin.2.1 1 = .ok (.getfield 9, 3) := by decide +kernel
theorem dX10_coin_4 : decode MX10_coin.2.1 4 = .ok (.aload_n 0, 1) := by decide +kernel
theorem dX10_coin_5 : decode MX10_coin.2.1 5 = .ok (.getfield 28, 3) := by decide +kernel
theorem dX10_coin_8 : decode MX10_coin.2.1 8 = .ok (.iload_n 1, 1) := by decide +kernel
theorem dX10_coin_9 : decode MX10_coin.2.1 9 = .ok (.iastore, 1) := by decide +kernel
theorem dX10_coin_10 : decode MX10_coin.2.1 10 = .ok (.aload_n 0, 1) := by decide +kernel
theorem dX10_coin_11 : decode MX10_coin.2.1 11 = .ok (.getfield 15, 3) := by decide +kernel
theorem dX10_coin_14 : decode MX10_coin.2.1 14 = .ok (.aload_n 0, 1) := by decide +kernel
theorem dX10_coin_15 : decode MX10_coin.2.1 15 = .ok (.getfield 28, 3) := by decide +kernel
theorem dX10_coin_18 : decode MX10_coin.2.1 18 = .ok (.iload_n 2, 1) := by decide +kernel
theorem dX10_coin_19 : decode MX10_coin.2.1 19 = .ok (.iastore, 1) := by decide +kernel
theorem dX10_coin_20 : decode MX10_coin.2.1 20 = .ok (.aload_n 0, 1) := by decide +kernel
theorem dX10_coin_21 : decode MX10_coin.2.1 21 = .ok (.getfield 18, 3) := by decide +kernel
theorem dX10_coin_24 : decode MX10_coin.2.1 24 = .ok (.aload_n 0, 1) := by decide +kernel
theorem dX10_coin_25 : decode MX10_coin.2.1 25 = .ok (.getfield 28, 3) := by decide +kernel
theorem dX10_coin_28 : decode MX10_coin.2.1 28 = .ok (.iload_n 3, 1) := by decide +kernel
theorem dX10_coin_29 : decode MX10_coin.2.1 29 = .ok (.iastore, 1) := by decide +kernel
theorem dX10_coin_30 : decode MX10_coin.2.1 30 = .ok (.aload_n 0, 1) := by decide +kernel
theorem dX10_coin_31 : decode MX10_coin.2.1 31 = .ok (.getfield 21, 3) := by decide +kernel
theorem dX10_coin_34 : decode MX10_coin.2.1 34 = .ok (.aload_n 0, 1) := by decide +kernel
theorem dX10_coin_35 : decode MX10_coin.2.1 35 = .ok (.getfield 28, 3) := by decide +kernel
theorem dX10_coin_38 : decode MX10_coin.2.1 38 = .ok (.iconst 0, 1) := by decide +kernel
theorem dX10_coin_39 : decode MX10_coin.2.1 39 = .ok (.iastore, 1) := by decide +kernel
theorem dX10_coin_40 : decode MX10_coin.2.1 40 = .ok (.aload_n 0, 1) := by decide +kernel
theorem dX10_coin_41 : decode MX10_coin.2.1 41 = .ok (.dup, 1) := by decide +kernel
theorem dX10_coin_42 : decode MX10_coin.2.1 42 = .ok (.getfield 28, 3) := by decide +kernel
theorem dX10_coin_45 : decode MX10_coin.2.1 45 = .ok (.iconst 1, 1) := by decide +kernel
theorem dX10_coin_46 : decode MX10_coin.2.1 46 = .ok (.iadd, 1) := by decide +kernel
theorem dX10_coin_47 : decode MX10_coin.2.1 47 = .ok (.putfield 28, 3) := by decide +kernel
theorem dX10_coin_50 : decode MX10_coin.2.1 50 = .ok (.aload_n 0, 1) := by decide +kernel
theorem dX10_coin_51 : decode MX10_coin.2.1 51 = .ok (.getfield 28, 3) := by decide +kernel
theorem dX10_coin_54 : decode MX10_coin.2.1 54 = .ok (.iconst 1, 1) := by decide +kernel
theorem dX10_coin_55 : decode MX10_coin.2.1 55 = .ok (.isub, 1) := by decide +kernel
theorem dX10_coin_56 : decode MX10_coin.2.1 56 = .ok (.ireturn, 1) := by decide +kernel
theorem dX10_copyFrom_0 : decode MX10_copyFrom.2.1 0 = .ok (.aload_n 1, 1) := by decide +kernel
theorem dX10_copyFrom_1 : decode MX10_copyFrom.2.1 1 = .ok (.getfield 9, 3) := by decide +kernel
theorem dX10_copyFrom_4 : decode MX10_copyFrom.2.1 4 = .ok (.iconst 0, 1) := by decide +kernel
theorem dX10_copyFrom_5 : decode MX10_copyFrom.2.1 5 = .ok (.aload_n 0, 1) := by decide +kernel
theorem dX10_copyFrom_6 : decode MX10_copyFrom.2.1 6 = .ok (.getfield 9, 3) := by decide +kernel
theorem dX10_copyFrom_9 : decode MX10_copyFrom.2.1 9 = .ok (.iconst 0, 1) := by decide +kernel
theorem dX10_copyFrom_10 : decode MX10_copyFrom.2.1 10 = .ok (.bipush 16, 2) := by decide +kernel
theorem dX10_copyFrom_12 : decode MX10_copyFrom.2.1 12 = .ok (.invokestatic 32, 3) := by decide +kernel
theorem dX10_copyFrom_15 : decode MX10_copyFrom.2.1 15 = .ok (.aload_n 1, 1) := by decide +kernel
theorem dX10_copyFrom_16 : decode MX10_copyFrom.2.1 16 = .ok (.getfield 15, 3) := by decide +kernel
theorem dX10_copyFrom_19 : decode MX10_copyFrom.2.1 19 = .ok (.iconst 0, 1) := by decide +kernel
theorem dX10_copyFrom_20 : decode MX10_copyFrom.2.1 20 = .ok (.aload_n 0, 1) := by decide +kernel
theorem dX10_copyFrom_21 : decode MX10_copyFrom.2.1 21 = .ok (.getfield 15, 3) := by decide +kernel
theorem dX10_copyFrom_24 : decode MX10_copyFrom.2.1 24 = .ok (.iconst 0, 1) := by decide +kernel
theorem dX10_copyFrom_25 : decode MX10_copyFrom.2.1 25 = .ok (.bipush 16, 2) := by decide +kernel
theorem dX10_copyFrom_27 : decode MX10_copyFrom.2.1 27 = .ok (.invokestatic 32, 3) := by decide +kernel
theorem dX10_copyFrom_30 : decode MX10_copyFrom.2.1 30 = .ok (.aload_n 1, 1) := by decide +kernel
theorem dX10_copyFrom_31 : decode MX10_copyFrom.2.1 31 = .ok (.getfield 18, 3) := by decide +kernel
theorem dX10_copyFrom_34 : decode MX10_copyFrom.2.1 34 = .ok (.iconst 0, 1) := by decide +kernel
theorem dX10_copyFrom_35 : decode MX10_copyFrom.2.1 35 = .ok (.aload_n 0, 1) := by decide +kernel
theorem dX10_copyFrom_36 : decode MX10_copyFrom.2.1 36 = .ok (.getfield 18, 3) := by decide +kernel
theorem dX10_copyFrom_39 : decode MX10_copyFrom.2.1 39 = .ok (.iconst 0, 1) := by decide +kernel
theorem dX10_copyFrom_40 : decode MX10_copyFrom.2.1 40 = .ok (.bipush 16, 2) := by decide +kernel
theorem dX10_copyFrom_42 : decode MX10_copyFrom.2.1 42 = .ok (.invokestatic 32, 3) := by decide +kernel
theorem dX10_copyFrom_45 : decode MX10_copyFrom.2.1 45 = .ok (.aload_n 1, 1) := by decide +kernel
theorem dX10_copyFrom_46 : decode MX10_copyFrom.2.1 46 = .ok (.getfield 21, 3) := by decide +kernel
theorem dX10_copyFrom_49 : decode MX10_copyFrom.2.1 49 = .ok (.iconst 0, 1) := by decide +kernel
theorem dX10_copyFrom_50 : decode MX10_copyFrom.2.1 50 = .ok (.aload_n 0, 1) := by decide +kernel
theorem dX10_copyFrom_51 : decode MX10_copyFrom.2.1 51 = .ok (.getfield 21, 3) := by decide +kernel
theorem dX10_copyFrom_54 : decode MX10_copyFrom.2.1 54 = .ok (.iconst 0, 1) := by decide +kernel
theorem dX10_copyFrom_55 : decode MX10_copyFrom.2.1 55 = .ok (.bipush 16, 2) := by decide +kernel
theorem dX10_copyFrom_57 : decode MX10_copyFrom.2.1 57 = .ok (.invokestatic 32, 3) := by decide +kernel
theorem dX10_copyFrom_60 : decode MX10_copyFrom.2.1 60 = .ok (.aload_n 0, 1) := by decide +kernel
theorem dX10_copyFrom_61 : decode MX10_copyFrom.2.1 61 = .ok (.aload_n 1, 1) := by decide +kernel
theorem dX10_copyFrom_62 : decode MX10_copyFrom.2.1 62 = .ok (.getfield 28, 3) := by decide +kernel
theorem dX10_copyFrom_65 : decode MX10_copyFrom.2.1 65 = .ok (.putfield 28, 3) := by decide +kernel
theorem dX10_copyFrom_68 : decode MX10_copyFrom.2.1 68 = .ok (.return_, 1) := by decide +kernel
theorem dX11_init_0 : decode MX11_init.2.1 0 = .ok (.aload_n 0, 1) := by decide +kernel
theorem dX11_init_1 : decode MX11_init.2.1 1 = .ok (.invokespecial 5, 3) := by decide +kernel
theorem dX11_init_4 : decode MX11_init.2.1 4 = .ok (.aload_n 0, 1) := by decide +kernel
theorem dX11_init_5 : decode MX11_init.2.1 5 = .ok (.new 11, 3) := by decide +kernel
theorem dX11_init_8 : decode MX11_init.2.1 8 = .ok (.dup, 1) := by decide +kernel
theorem dX11_init_9 : decode MX11_init.2.1 9 = .ok (.invokespecial 13, 3) := by decide +kernel
theorem dX11_init_12 : decode MX11_init.2.1 12 = .ok (.putfield 14, 3) := by decide +kernel
theorem dX11_init_15 : decode MX11_init.2.1 15 = .ok (.aload_n 0, 1) := by decide +kernel
theorem dX11_init_16 : decode MX11_init.2.1 16 = .ok (.iconst 2, 1) := by decide +kernel
theorem dX11_init_17 : decode MX11_init.2.1 17 = .ok (.anewarray 11, 3) := by decide +kernel
theorem dX11_init_20 : decode MX11_init.2.1 20 = .ok (.putfield 18, 3) := by decide +kernel
theorem dX11_init_23 : decode MX11_init.2.1 23 = .ok (.aload_n 0, 1) := by decide +kernel
theorem dX11_init_24 : decode MX11_init.2.1 24 = .ok (.new 22, 3) := by decide +kernel
theorem dX11_init_27 : decode MX11_init.2.1 27 = .ok (.dup, 1) := by decide +kernel
theorem dX11_init_28 : decode MX11_init.2.1 28 = .ok (.invokespecial 24, 3) := by decide +kernel
theorem dX11_init_31 : decode MX11_init.2.1 31 = .ok (.putfield 25, 3) := by decide +kernel
theorem dX11_init_34 : decode MX11_init.2.1 34 = .ok (.aload_n 0, 1) := by decide +kernel
theorem dX11_init_35 : decode MX11_init.2.1 35 = .ok (.new 29, 3) := by decide +kernel
theorem dX11_init_38 : decode MX11_init.2.1 38 = .ok (.dup, 1) := by decide +kernel
theorem dX11_init_39 : decode MX11_init.2.1 39 = .ok (.invokespecial 31, 3) := by decide +kernel
theorem dX11_init_42 : decode MX11_init.2.1 42 = .ok (.putfield 32, 3) := by decide +kernel
theorem dX11_init_45 : decode MX11_init.2.1 45 = .ok (.aload_n 0, 1) := by decide +kernel
theorem dX11_init_46 : decode MX11_init.2.1 46 = .ok (.new 36, 3) := by decide +kernel
theorem dX11_init_49 : decode MX11_init.2.1 49 = .ok (.dup, 1) := by decide +kernel
theorem dX11_init_50 : decode MX11_init.2.1 50 = .ok (.aload_n 0, 1) := by decide +kernel
theorem dX11_init_51 : decode MX11_init.2.1 51 = .ok (.getfield 14, 3) := by decide +kernel
theorem dX11_init_54 : decode MX11_init.2.1 54 = .ok (.invokespecial 38, 3) := by decide +kernel
theorem dX11_init_57 : decode MX11_init.2.1 57 = .ok (.putfield 41, 3) := by decide +kernel
theorem dX11_init_60 : decode MX11_init.2.1 60 = .ok (.aload_n 0, 1) := by decide +kernel
theorem dX11_init_61 : decode MX11_init.2.1 61 = .ok (.new 45, 3) := by decide +kernel
theorem dX11_init_64 : decode MX11_init.2.1 64 = .ok (.dup, 1) := by decide +kernel
theorem dX11_init_65 : decode MX11_init.2.1 65 = .ok (.aload_n 0, 1) := by decide +kernel
theorem dX11_init_66 : decode MX11_init.2.1 66 = .ok (.getfield 14, 3) := by decide +kernel
theorem dX11_init_69 : decode MX11_init.2.1 69 = .ok (.aload_n 0, 1) := by decide +kernel
theorem dX11_init_70 : decode MX11_init.2.1 70 = .ok (.getfield 41, 3) := by decide +kernel
theorem dX11_init_73 : decode MX11_init.2.1 73 = .ok (.invokespecial 47, 3) := by decide +kernel
theorem dX11_init_76 : decode MX11_init.2.1 76 = .ok (.putfield 50, 3) := by decide +kernel
theorem dX11_init_79 : decode MX11_init.2.1 79 = .ok (.aload_n 0, 1) := by decide +kernel
theorem dX11_init_80 : decode MX11_init.2.1 80 = .ok (.new 54, 3) := by decide +kernel
theorem dX11_init_83 : decode MX11_init.2.1 83 = .ok (.dup, 1) := by decide +kernel
theorem dX11_init_84 : decode MX11_init.2.1 84 = .ok (.aload_n 0, 1) := by decide +kernel
theorem dX11_init_85 : decode MX11_init.2.1 85 = .ok (.getfield 14, 3) := by decide +kernel
theorem dX11_init_88 : decode MX11_init.2.1 88 = .ok (.aload_n 0, 1) := by decide +kernel
theorem dX11_init_89 : decode MX11_init.2.1 89 = .ok (.getfield 41, 3) := by decide +kernel
theorem dX11_init_92 : decode MX11_init.2.1 92 = .ok (.invokespecial 56, 3) := by decide +kernel
theorem dX11_init_95 : decode MX11_init.2.1 95 = .ok (.putfield 57, 3) := by decide +kernel
theorem dX11_init_98 : decode MX11_init.2.1 98 = .ok (.aload_n 0, 1) := by decide +kernel
theorem dX11_init_99 : decode MX11_init.2.1 99 = .ok (.new 61, 3) := by decide +kernel
theorem dX11_init_102 : decode MX11_init.2.1 102 = .ok (.dup, 1) := by decide +kernel
theorem dX11_init_103 : decode MX11_init.2.1 103 = .ok (.aload_n 0, 1) := by decide +kernel
theorem dX11_init_104 : decode MX11_init.2.1 104 = .ok (.getfield 14, 3) := by decide +kernel
theorem dX11_init_107 : decode MX11_init.2.1 107 = .ok (.aload_n 0, 1) := by decide +kernel
theorem dX11_init_108 : decode MX11_init.2.1 108 = .ok (.getfield 41, 3) := by decide +kernel
theorem dX11_init_111 : decode MX11_init.2.1 111 = .ok (.invokespecial 63, 3) := by decide +kernel
theorem dX11_init_114 : decode MX11_init.2.1 114 = .ok (.putfield 64, 3) := by decide +kernel
theorem dX11_init_117 : decode MX11_init.2.1 117 = .ok (.aload_n 0, 1) := by decide +kernel
theorem dX11_init_118 : decode MX11_init.2.1 118 = .ok (.new 68, 3) := by decide +kernel
theorem dX11_init_121 : decode MX11_init.2.1 121 = .ok (.dup, 1) := by decide +kernel
theorem dX11_init_122 : decode MX11_init.2.1 122 = .ok (.aload_n 0, 1) := by decide +kernel
theorem dX11_init_123 : decode MX11_init.2.1 123 = .ok (.getfield 14, 3) := by decide +kernel
theorem dX11_init_126 : decode MX11_init.2.1 126 = .ok (.aload_n 0, 1) := by decide +kernel
theorem dX11_init_127 : decode MX11_init.2.1 127 = .ok (.getfield 41, 3) := by decide +kernel
theorem dX11_init_130 : decode MX11_init.2.1 130 = .ok (.invokespecial 70, 3) := by decide +kernel
theorem dX11_init_133 : decode MX11_init.2.1 133 = .ok (.putfield 71, 3) := by decide +kernel
theorem dX11_init_136 : decode MX11_init.2.1 136 = .ok (.aload_n 0, 1) := by decide +kernel
theorem dX11_init_137 : decode MX11_init.2.1 137 = .ok (.new 75, 3) := by decide +kernel
theorem dX11_init_140 : decode MX11_init.2.1 140 = .ok (.dup, 1) := by decide +kernel
theorem dX11_init_141 : decode MX11_init.2.1 141 = .ok (.invokespecial 77, 3) := by decide +kernel
theorem dX11_init_144 : decode MX11_init.2.1 144 = .ok (.putfield 78, 3) := by decide +kernel
theorem dX11_init_147 : decode MX11_init.2.1 147 = .ok (.aload_n 0, 1) := by decide +kernel
theorem dX11_init_148 : decode MX11_init.2.1 148 = .ok (.new 75, 3) := by decide +kernel
theorem dX11_init_151 : decode MX11_init.2.1 151 = .ok (.dup, 1) := by decide +kernel
theorem dX11_init_152 : decode MX11_init.2.1 152 = .ok (.invokespecial 77, 3) := by decide +kernel
theorem dX11_init_155 : decode MX11_init.2.1 155 = .ok (.putfield 82, 3) := by decide +kernel
theorem dX11_init_158 : decode MX11_init.2.1 158 = .ok (.aload_n 0, 1) := by decide +kernel
theorem dX11_init_159 : decode MX11_init.2.1 159 = .ok (.bipush 7, 2) := by decide +kernel
theorem dX11_init_161 : decode MX11_init.2.1 161 = .ok (.newarray .int, 2) := by decide +kernel
theorem dX11_init_163 : decode MX11_init.2.1 163 = .ok (.putfield 85, 3) := by decide +kernel
theorem dX11_init_166 : decode MX11_init.2.1 166 = .ok (.aload_n 0, 1) := by decide +kernel
theorem dX11_init_167 : decode MX11_init.2.1 167 = .ok (.bipush 16, 2) := by decide +kernel
theorem dX11_init_169 : decode MX11_init.2.1 169 = .ok (.newarray .int, 2) := by decide +kernel
theorem dX11_init_171 : decode MX11_init.2.1 171 = .ok (.putfield 89, 3) := by decide +kernel
theorem dX11_init_174 : decode MX11_init.2.1 174 = .ok (.aload_n 0, 1) := by decide +kernel
theorem dX11_init_175 : decode MX11_init.2.1 175 = .ok (.iconst (-1), 1) := by decide +kernel
theorem dX11_init_176 : decode MX11_init.2.1 176 = .ok (.putfield 92, 3) := by decide +kernel
theorem dX11_init_179 : decode MX11_init.2.1 179 = .ok (.return_, 1) := by decide +kernel
theorem dX11_put_0 : decode MX11_put.2.1 0 = .ok (.iload_n 1, 1) := by decide +kernel
theorem dX11_put_1 : decode MX11_put.2.1 1 = .ok (.invokestatic 96, 3) := by decide +kernel
theorem dX11_put_4 : decode MX11_put.2.1 4 = .ok (.ifCond .eq 12, 3) := by decide +kernel
theorem dX11_put_7 : decode MX11_put.2.1 7 = .ok (.iload_n 1, 1) := by decide +kernel
theorem dX11_put_8 : decode MX11_put.2.1 8 = .ok (.iload_n 2, 1) := by decide +kernel
theorem dX11_put_9 : decode MX11_put.2.1 9 = .ok (.iload_n 3, 1) := by decide +kernel
theorem dX11_put_10 : decode MX11_put.2.1 10 = .ok (.invokestatic 100, 3) := by decide +kernel
theorem dX11_put_13 : decode MX11_put.2.1 13 = .ok (.ifCond .ne 9, 3) := by decide +kernel
theorem dX11_put_16 : decode MX11_put.2.1 16 = .ok (.aload_n 0, 1) := by decide +kernel
theorem dX11_put_17 : decode MX11_put.2.1 17 = .ok (.iconst (-1), 1) := by decide +kernel
theorem dX11_put_18 : decode MX11_put.2.1 18 = .ok (.invokevirtual 104, 3) := by decide +kernel
theorem dX11_put_21 : decode MX11_put.2.1 21 = .ok (.ireturn, 1) := by decide +kernel
theorem dX11_put_22 : decode MX11_put.2.1 22 = .ok (.aload_n 0, 1) := by decide +kernel
theorem dX11_put_23 : decode MX11_put.2.1 23 = .ok (.iload_n 1, 1) := by decide +kernel
theorem dX11_put_24 : decode MX11_put.2.1 24 = .ok (.iload_n 2, 1) := by decide +kernel
theorem dX11_put_25 : decode MX11_put.2.1 25 = .ok (.invokevirtual 108, 3) := by decide +kernel
theorem dX11_put_28 : decode MX11_put.2.1 28 = .ok (.istore 4, 2) := by decide +kernel
theorem dX11_put_30 : decode MX11_put.2.1 30 = .ok (.iload_n 2, 1) := by decide +kernel
theorem dX11_put_31 : decode MX11_put.2.1 31 = .ok (.ifCond .ne 19, 3) := by decide +kernel
theorem dX11_put_34 : decode MX11_put.2.1 34 = .ok (.aload_n 0, 1) := by decide +kernel
theorem dX11_put_35 : decode MX11_put.2.1 35 = .ok (.getfield 14, 3) := by decide +kernel
theorem dX11_put_38 : decode MX11_put.2.1 38 = .ok (.getfield 112, 3) := by decide +kernel
theorem dX11_put_41 : decode MX11_put.2.1 41 = .ok (.getfield 115, 3) := by decide +kernel
theorem dX11_put_44 : decode MX11_put.2.1 44 = .ok (.iload_n 1, 1) := by decide +kernel
theorem dX11_put_45 : decode MX11_put.2.1 45 = .ok (.iload_n 3, 1) := by decide +kernel
theorem dX11_put_46 : decode MX11_put.2.1 46 = .ok (.iastore, 1) := by decide +kernel
theorem dX11_put_47 : decode MX11_put.2.1 47 = .ok (.goto 73, 3) := by decide +kernel
theorem dX11_put_50 : decode MX11_put.2.1 50 = .ok (.iload_n 2, 1) := by decide +kernel
theorem dX11_put_51 : decode MX11_put.2.1 51 = .ok (.iconst 1, 1) := by decide +kernel
theorem dX11_put_52 : decode MX11_put.2.1 52 = .ok (.if_icmp .ne 16, 3) := by decide +kernel
theorem dX11_put_55 : decode MX11_put.2.1 55 = .ok (.aload_n 0, 1) := by decide +kernel
theorem dX11_put_56 : decode MX11_put.2.1 56 = .ok (.getfield 14, 3) := by decide +kernel
theorem dX11_put_59 : decode MX11_put.2.1 59 = .ok (.getfield 118, 3) := by decide +kernel
theorem dX11_put_62 : decode MX11_put.2.1 62 = .ok (.iload_n 1, 1) := by decide +kernel
theorem dX11_put_63 : decode MX11_put.2.1 63 = .ok (.iload_n 3, 1) := by decide +kernel
theorem dX11_put_64 : decode MX11_put.2.1 64 = .ok (.iastore, 1) := by decide +kernel
theorem dX11_put_65 : decode MX11_put.2.1 65 = .ok (.goto 55, 3) := by decide +kernel
theorem dX11_put_68 : decode MX11_put.2.1 68 = .ok (.iload_n 2, 1) := by decide +kernel
theorem dX11_put_69 : decode MX11_put.2.1 69 = .ok (.iconst 2, 1) := by decide +kernel
theorem dX11_put_70 : decode MX11_put.2.1 70 = .ok (.if_icmp .ne 16, 3) := by decide +kernel
theorem dX11_put_73 : decode MX11_put.2.1 73 = .ok (.aload_n 0, 1) := by decide +kernel
theorem dX11_put_74 : decode MX11_put.2.1 74 = .ok (.getfield 14, 3) := by decide +kernel
theorem dX11_put_77 : decode MX11_put.2.1 77 = .ok (.getfield 121, 3) := by decide +kernel
theorem dX11_put_80 : decode MX11_put.2.1 80 = .ok (.iload_n 1, 1) := by decide +kernel
theorem dX11_put_81 : decode MX11_put.2.1 81 = .ok (.iload_n 3, 1) := by decide +kernel
theorem dX11_put_82 : decode MX11_put.2.1 82 = .ok (.iastore, 1) := by decide +kernel
theorem dX11_put_83 : decode MX11_put.2.1 83 = .ok (.goto 37, 3) := by decide +kernel
theorem dX11_put_86 : decode MX11_put.2.1 86 = .ok (.iload_n 2, 1) := by decide +kernel
theorem dX11_put_87 : decode MX11_put.2.1 87 = .ok (.iconst 3, 1) := by decide +kernel
theorem dX11_put_88 : decode MX11_put.2.1 88 = .ok (.if_icmp .ne 16, 3) := by decide +kernel
theorem dX11_put_91 : decode MX11_put.2.1 91 = .ok (.aload_n 0, 1) := by decide +kernel
theorem dX11_put_92 : decode MX11_put.2.1 92 = .ok (.getfield 14, 3) := by decide +kernel
theorem dX11_put_95 : decode MX11_put.2.1 95 = .ok (.getfield 124, 3) := by decide +kernel
theorem dX11_put_98 : decode MX11_put.2.1 98 = .ok (.iload_n 1, 1) := by decide +kernel
theorem dX11_put_99 : decode MX11_put.2.1 99 = .ok (.iload_n 3, 1) := by decide +kernel
theorem dX11_put_100 : decode MX11_put.2.1 100 = .ok (.iastore, 1) := by decide +kernel
theorem dX11_put_101 : decode MX11_put.2.1 101 = .ok (.goto 19, 3) := by decide +kernel
theorem dX11_put_104 : decode MX11_put.2.1 104 = .ok (.aload_n 0, 1) := by decide +kernel
theorem dX11_put_105 : decode MX11_put.2.1 105 = .ok (.getfield 14, 3) := by decide +kernel
theorem dX11_put_108 : decode MX11_put.2.1 108 = .ok (.getfield 127, 3) := by decide +kernel
theorem dX11_put_111 : decode MX11_put.2.1 111 = .ok (.iload_n 1, 1) := by decide +kernel
theorem dX11_put_112 : decode MX11_put.2.1 112 = .ok (.iconst 4, 1) := by decide +kernel
theorem dX11_put_113 : decode MX11_put.2.1 113 = .ok (.imul, 1) := by decide +kernel
theorem dX11_put_114 : decode MX11_put.2.1 114 = .ok (.iload_n 2, 1) := by decide +kernel
theorem dX11_put_115 : decode MX11_put.2.1 115 = .ok (.iadd, 1) := by decide +kernel
theorem dX11_put_116 : decode MX11_put.2.1 116 = .ok (.iconst 4, 1) := by decide +kernel
theorem dX11_put_117 : decode MX11_put.2.1 117 = .ok (.isub, 1) := by decide +kernel
theorem dX11_put_118 : decode MX11_put.2.1 118 = .ok (.iload_n 3, 1) := by decide +kernel
theorem dX11_put_119 : decode MX11_put.2.1 119 = .ok (.iastore, 1) := by decide +kernel
theorem dX11_put_120 : decode MX11_put.2.1 120 = .ok (.aload_n 0, 1) := by decide +kernel
theorem dX11_put_121 : decode MX11_put.2.1 121 = .ok (.getfield 25, 3) := by decide +kernel
theorem dX11_put_124 : decode MX11_put.2.1 124 = .ok (.invokevirtual 130, 3) := by decide +kernel
theorem dX11_put_127 : decode MX11_put.2.1 127 = .ok (.aload_n 0, 1) := by decide +kernel
theorem dX11_put_128 : decode MX11_put.2.1 128 = .ok (.iload 4, 2) := by decide +kernel
theorem dX11_put_130 : decode MX11_put.2.1 130 = .ok (.invokevirtual 133, 3) := by decide +kernel
theorem dX11_put_133 : decode MX11_put.2.1 133 = .ok (.ireturn, 1) := by decide +kernel
theorem dX11_canPut_0 : decode MX11_canPut.2.1 0 = .ok (.iload_n 1, 1) := by decide +kernel
theorem dX11_canPut_1 : decode MX11_canPut.2.1 1 = .ok (.tableswitch 78 0 3 #[31, 40, 49, 71], 31) := by decide +kernel
theorem dX11_canPut_32 : decode MX11_canPut.2.1 32 = .ok (.iload_n 2, 1) := by decide +kernel
theorem dX11_canPut_33 : decode MX11_canPut.2.1 33 = .ok (.iconst 0, 1) := by decide +kernel
theorem dX11_canPut_34 : decode MX11_canPut.2.1 34 = .ok (.sipush 9999, 3) := by decide +kernel
theorem dX11_canPut_37 : decode MX11_canPut.2.1 37 = .ok (.invokestatic 136, 3) := by decide +kernel
theorem dX11_canPut_40 : decode MX11_canPut.2.1 40 = .ok (.ireturn, 1) := by decide +kernel
theorem dX11_canPut_41 : decode MX11_canPut.2.1 41 = .ok (.iload_n 2, 1) := by decide +kernel
theorem dX11_canPut_42 : decode MX11_canPut.2.1 42 = .ok (.iconst 1, 1) := by decide +kernel
theorem dX11_canPut_43 : decode MX11_canPut.2.1 43 = .ok (.sipush 9999, 3) := by decide +kernel
theorem dX11_canPut_46 : decode MX11_canPut.2.1 46 = .ok (.invokestatic 136, 3) := by decide +kernel
theorem dX11_canPut_49 : decode MX11_canPut.2.1 49 = .ok (.ireturn, 1) := by decide +kernel
theorem dX11_canPut_50 : decode MX11_canPut.2.1 50 = .ok (.iload_n 2, 1) := by decide +kernel
theorem dX11_canPut_51 : decode MX11_canPut.2.1 51 = .ok (.iconst (-1), 1) := by decide +kernel
theorem dX11_canPut_52 : decode MX11_canPut.2.1 52 = .ok (.if_icmp .eq 14, 3) := by decide +kernel
theorem dX11_canPut_55 : decode MX11_canPut.2.1 55 = .ok (.iload_n 2, 1) := by decide +kernel
theorem dX11_canPut_56 : decode MX11_canPut.2.1 56 = .ok (.iload_n 0, 1) := by decide +kernel
theorem dX11_canPut_57 : decode MX11_canPut.2.1 57 = .ok (.iconst 1, 1) := by decide +kernel
theorem dX11_canPut_58 : decode MX11_canPut.2.1 58 = .ok (.iadd, 1) := by decide +kernel
theorem dX11_canPut_59 : decode MX11_canPut.2.1 59 = .ok (.iconst 5, 1) := by decide +kernel
theorem dX11_canPut_60 : decode MX11_canPut.2.1 60 = .ok (.invokestatic 136, 3) := by decide +kernel
theorem dX11_canPut_63 : decode MX11_canPut.2.1 63 = .ok (.ifCond .eq 7, 3) := by decide +kernel
theorem dX11_canPut_66 : decode MX11_canPut.2.1 66 = .ok (.iconst 1, 1) := by decide +kernel
theorem dX11_canPut_67 : decode MX11_canPut.2.1 67 = .ok (.goto 4, 3) := by decide +kernel
theorem dX11_canPut_70 : decode MX11_canPut.2.1 70 = .ok (.iconst 0, 1) := by decide +kernel
theorem dX11_canPut_71 : decode MX11_canPut.2.1 71 = .ok (.ireturn, 1) := by decide +kernel
theorem dX11_canPut_72 : decode MX11_canPut.2.1 72 = .ok (.iload_n 2, 1) := by decide +kernel
theorem dX11_canPut_73 : decode MX11_canPut.2.1 73 = .ok (.iconst 0, 1) := by decide +kernel
theorem dX11_canPut_74 : decode MX11_canPut.2.1 74 = .ok (.iconst 1, 1) := by decide +kernel
theorem dX11_canPut_75 : decode MX11_canPut.2.1 75 = .ok (.invokestatic 136, 3) := by decide +kernel
theorem dX11_canPut_78 : decode MX11_canPut.2.1 78 = .ok (.ireturn, 1) := by decide +kernel
theorem dX11_canPut_79 : decode MX11_canPut.2.1 79 = .ok (.iload_n 1, 1) := by decide +kernel
theorem dX11_canPut_80 : decode MX11_canPut.2.1 80 = .ok (.iconst 4, 1) := by decide +kernel
theorem dX11_canPut_81 : decode MX11_canPut.2.1 81 = .ok (.bipush 7, 2) := by decide +kernel
theorem dX11_canPut_83 : decode MX11_canPut.2.1 83 = .ok (.invokestatic 136, 3) := by decide +kernel
theorem dX11_canPut_86 : decode MX11_canPut.2.1 86 = .ok (.ifCond .eq 17, 3) := by decide +kernel
theorem dX11_canPut_89 : decode MX11_canPut.2.1 89 = .ok (.iload_n 2, 1) := by decide +kernel
theorem dX11_canPut_90 : decode MX11_canPut.2.1 90 = .ok (.iconst 0, 1) := by decide +kernel
theorem dX11_canPut_91 : decode MX11_canPut.2.1 91 = .ok (.bipush 9, 2) := by decide +kernel
theorem dX11_canPut_93 : decode MX11_canPut.2.1 93 = .ok (.invokestatic 136, 3) := by decide +kernel
theorem dX11_canPut_96 : decode MX11_canPut.2.1 96 = .ok (.ifCond .eq 7, 3) := by decide +kernel
theorem dX11_canPut_99 : decode MX11_canPut.2.1 99 = .ok (.iconst 1, 1) := by decide +kernel
theorem dX11_canPut_100 : decode MX11_canPut.2.1 100 = .ok (.goto 4, 3) := by decide +kernel
theorem dX11_canPut_103 : decode MX11_canPut.2.1 103 = .ok (.iconst 0, 1) := by decide +kernel
theorem dX11_canPut_104 : decode MX11_canPut.2.1 104 = .ok (.ireturn, 1) := by decide +kernel
theorem dX11_of_0 : decode MX11_of.2.1 0 = .ok (.iload_n 1, 1) := by decide +kernel
theorem dX11_of_1 : decode MX11_of.2.1 1 = .ok (.invokestatic 96, 3) := by decide +kernel
theorem dX11_of_4 : decode MX11_of.2.1 4 = .ok (.ifCond .eq 22, 3) := by decide +kernel
theorem dX11_of_7 : decode MX11_of.2.1 7 = .ok (.iload_n 2, 1) := by decide +kernel
theorem dX11_of_8 : decode MX11_of.2.1 8 = .ok (.iconst 0, 1) := by decide +kernel
theorem dX11_of_9 : decode MX11_of.2.1 9 = .ok (.bipush 9, 2) := by decide +kernel
theorem dX11_of_11 : decode MX11_of.2.1 11 = .ok (.invokestatic 136, 3) := by decide +kernel
theorem dX11_of_14 : decode MX11_of.2.1 14 = .ok (.ifCond .eq 12, 3) := by decide +kernel
theorem dX11_of_17 : decode MX11_of.2.1 17 = .ok (.aload_n 0, 1) := by decide +kernel
theorem dX11_of_18 : decode MX11_of.2.1 18 = .ok (.iload_n 1, 1) := by decide +kernel
theorem dX11_of_19 : decode MX11_of.2.1 19 = .ok (.iload_n 2, 1) := by decide +kernel
theorem dX11_of_20 : decode MX11_of.2.1 20 = .ok (.invokevirtual 108, 3) := by decide +kernel
theorem dX11_of_23 : decode MX11_of.2.1 23 = .ok (.goto 4, 3) := by decide +kernel
theorem dX11_of_26 : decode MX11_of.2.1 26 = .ok (.iconst (-1), 1) := by decide +kernel
theorem dX11_of_27 : decode MX11_of.2.1 27 = .ok (.ireturn, 1) := by decide +kernel
theorem dX11_ofSlope_0 : decode MX11_ofSlope.2.1 0 = .ok (.iload_n 2, 1) := by decide +kernel
theorem dX11_ofSlope_1 : decode MX11_ofSlope.2.1 1 = .ok (.tableswitch 124 0 9 #[55, 68, 78, 88, 124, 124, 124, 124, 98, 111], 55) := by decide +kernel
theorem dX11_ofSlope_56 : decode MX11_ofSlope.2.1 56 = .ok (.aload_n 0, 1) := by decide +kernel
theorem dX11_ofSlope_57 : decode MX11_ofSlope.2.1 57 = .ok (.getfield 14, 3) := by decide +kernel
theorem dX11_ofSlope_60 : decode MX11_ofSlope.2.1 60 = .ok (.getfield 112, 3) := by decide +kernel
theorem dX11_ofSlope_63 : decode MX11_ofSlope.2.1 63 = .ok (.getfield 115, 3) := by decide +kernel
theorem dX11_ofSlope_66 : decode MX11_ofSlope.2.1 66 = .ok (.iload_n 1, 1) := by decide +kernel
theorem dX11_ofSlope_67 : decode MX11_ofSlope.2.1 67 = .ok (.iaload, 1) := by decide +kernel
theorem dX11_ofSlope_68 : decode MX11_ofSlope.2.1 68 = .ok (.ireturn, 1) := by decide +kernel
theorem dX11_ofSlope_69 : decode MX11_ofSlope.2.1 69 = .ok (.aload_n 0, 1) := by decide +kernel
theorem dX11_ofSlope_70 : decode MX11_ofSlope.2.1 70 = .ok (.getfield 14, 3) := by decide +kernel
theorem dX11_ofSlope_73 : decode MX11_ofSlope.2.1 73 = .ok (.getfield 118, 3) := by decide +kernel
theorem dX11_ofSlope_76 : decode MX11_ofSlope.2.1 76 = .ok (.iload_n 1, 1) := by decide +kernel
theorem dX11_ofSlope_77 : decode MX11_ofSlope.2.1 77 = .ok (.iaload, 1) := by decide +kernel
theorem dX11_ofSlope_78 : decode MX11_ofSlope.2.1 78 = .ok (.ireturn, 1) := by decide +kernel
theorem dX11_ofSlope_79 : decode MX11_ofSlope.2.1 79 = .ok (.aload_n 0, 1) := by decide +kernel
theorem dX11_ofSlope_80 : decode MX11_ofSlope.2.1 80 = .ok (.getfield 14, 3) := by decide +kernel
theorem dX11_ofSlope_83 : decode MX11_ofSlope.2.1 83 = .ok (.getfield 121, 3) := by decide +kernel
theorem dX11_ofSlope_86 : decode MX11_ofSlope.2.1 86 = .ok (.iload_n 1, 1) := by decide +kernel
theorem dX11_ofSlope_87 : decode MX11_ofSlope.2.1 87 = .ok (.iaload, 1) := by decide +kernel
theorem dX11_ofSlope_88 : decode MX11_ofSlope.2.1 88 = .ok (.ireturn, 1) := by decide +kernel
theorem dX11_ofSlope_89 : decode MX11_ofSlope.2.1 89 = .ok (.aload_n 0, 1) := by decide +kernel
theorem dX11_ofSlope_90 : decode MX11_ofSlope.2.1 90 = .ok (.getfield 14, 3) := by decide +kernel
theorem dX11_ofSlope_93 : decode MX11_ofSlope.2.1 93 = .ok (.getfield 124, 3) := by decide +kernel
theorem dX11_ofSlope_96 : decode MX11_ofSlope.2.1 96 = .ok (.iload_n 1, 1) := by decide +kernel
theorem dX11_ofSlope_97 : decode MX11_ofSlope.2.1 97 = .ok (.iaload, 1) := by decide +kernel
theorem dX11_ofSlope_98 : decode MX11_ofSlope.2.1 98 = .ok (.ireturn, 1) := by decide +kernel
theorem dX11_ofSlope_99 : decode MX11_ofSlope.2.1 99 = .ok (.aload_n 0, 1) := by decide +kernel
theorem dX11_ofSlope_100 : decode MX11_ofSlope.2.1 100 = .ok (.getfield 14, 3) := by decide +kernel
theorem dX11_ofSlope_103 : decode MX11_ofSlope.2.1 103 = .ok (.getfield 112, 3) := by decide +kernel
theorem dX11_ofSlope_106 : decode MX11_ofSlope.2.1 106 = .ok (.getfield 139, 3) := by decide +kernel
theorem dX11_ofSlope_109 : decode MX11_ofSlope.2.1 109 = .ok (.iload_n 1, 1) := by decide +kernel
theorem dX11_ofSlope_110 : decode MX11_ofSlope.2.1 110 = .ok (.iaload, 1) := by decide +kernel
theorem dX11_ofSlope_111 : decode MX11_ofSlope.2.1 111 = .ok (.ireturn, 1) := by decide +kernel
theorem dX11_ofSlope_112 : decode MX11_ofSlope.2.1 112 = .ok (.aload_n 0, 1) := by decide +kernel
theorem dX11_ofSlope_113 : decode MX11_ofSlope.2.1 113 = .ok (.getfield 14, 3) := by decide +kernel
theorem dX11_ofSlope_116 : decode MX11_ofSlope.2.1 116 = .ok (.getfield 112, 3) := by decide +kernel
theorem dX11_ofSlope_119 : decode MX11_ofSlope.2.1 119 = .ok (.getfield 142, 3) := by decide +kernel
theorem dX11_ofSlope_122 : decode MX11_ofSlope.2.1 122 = .ok (.iload_n 1, 1) := by decide +kernel
theorem dX11_ofSlope_123 : decode MX11_ofSlope.2.1 123 = .ok (.iaload, 1) := by decide +kernel
theorem dX11_ofSlope_124 : decode MX11_ofSlope.2.1 124 = .ok (.ireturn, 1) := by decide +kernel
theorem dX11_ofSlope_125 : decode MX11_ofSlope.2.1 125 = .ok (.aload_n 0, 1) := by decide +kernel
theorem dX11_ofSlope_126 : decode MX11_ofSlope.2.1 126 = .ok (.getfield 14, 3) := by decide +kernel
theorem dX11_ofSlope_129 : decode MX11_ofSlope.2.1 129 = .ok (.getfield 127, 3) := by decide +kernel
theorem dX11_ofSlope_132 : decode MX11_ofSlope.2.1 132 = .ok (.iload_n 1, 1) := by decide +kernel
theorem dX11_ofSlope_133 : decode MX11_ofSlope.2.1 133 = .ok (.iconst 4, 1) := by decide +kernel
theorem dX11_ofSlope_134 : decode MX11_ofSlope.2.1 134 = .ok (.imul, 1) := by decide +kernel
theorem dX11_ofSlope_135 : decode MX11_ofSlope.2.1 135 = .ok (.iload_n 2, 1) := by decide +kernel
theorem dX11_ofSlope_136 : decode MX11_ofSlope.2.1 136 = .ok (.iadd, 1) := by decide +kernel
theorem dX11_ofSlope_137 : decode MX11_ofSlope.2.1 137 = .ok (.iconst 4, 1) := by decide +kernel
theorem dX11_ofSlope_138 : decode MX11_ofSlope.2.1 138 = .ok (.isub, 1) := by decide +kernel
theorem dX11_ofSlope_139 : decode MX11_ofSlope.2.1 139 = .ok (.iaload, 1) := by decide +kernel
theorem dX11_ofSlope_140 : decode MX11_ofSlope.2.1 140 = .ok (.ireturn, 1) := by decide +kernel
theorem dX11_word_0 : decode MX11_word.2.1 0 = .ok (.iload_n 1, 1) := by decide +kernel
theorem dX11_word_1 : decode MX11_word.2.1 1 = .ok (.iload_n 2, 1) := by decide +kernel
theorem dX11_word_2 : decode MX11_word.2.1 2 = .ok (.iload_n 3, 1) := by decide +kernel
theorem dX11_word_3 : decode MX11_word.2.1 3 = .ok (.invokestatic 145, 3) := by decide +kernel
theorem dX11_word_6 : decode MX11_word.2.1 6 = .ok (.ifCond .ne 9, 3) := by decide +kernel
theorem dX11_word_9 : decode MX11_word.2.1 9 = .ok (.aload_n 0, 1) := by decide +kernel
theorem dX11_word_10 : decode MX11_word.2.1 10 = .ok (.iconst (-1), 1) := by decide +kernel
theorem dX11_word_11 : decode MX11_word.2.1 11 = .ok (.invokevirtual 104, 3) := by decide +kernel
theorem dX11_word_14 : decode MX11_word.2.1 14 = .ok (.ireturn, 1) := by decide +kernel
theorem dX11_word_15 : decode MX11_word.2.1 15 = .ok (.aload_n 0, 1) := by decide +kernel
theorem dX11_word_16 : decode MX11_word.2.1 16 = .ok (.getfield 14, 3) := by decide +kernel
theorem dX11_word_19 : decode MX11_word.2.1 19 = .ok (.getfield 150, 3) := by decide +kernel
theorem dX11_word_22 : decode MX11_word.2.1 22 = .ok (.invokevirtual 154, 3) := by decide +kernel
theorem dX11_word_25 : decode MX11_word.2.1 25 = .ok (.ifCond .eq 10, 3) := by decide +kernel
theorem dX11_word_28 : decode MX11_word.2.1 28 = .ok (.aload_n 0, 1) := by decide +kernel
theorem dX11_word_29 : decode MX11_word.2.1 29 = .ok (.bipush (-5), 2) := by decide +kernel
theorem dX11_word_31 : decode MX11_word.2.1 31 = .ok (.invokevirtual 104, 3) := by decide +kernel
theorem dX11_word_34 : decode MX11_word.2.1 34 = .ok (.ireturn, 1) := by decide +kernel
theorem dX11_word_35 : decode MX11_word.2.1 35 = .ok (.aload_n 0, 1) := by decide +kernel
theorem dX11_word_36 : decode MX11_word.2.1 36 = .ok (.aload_n 0, 1) := by decide +kernel
theorem dX11_word_37 : decode MX11_word.2.1 37 = .ok (.getfield 14, 3) := by decide +kernel
theorem dX11_word_40 : decode MX11_word.2.1 40 = .ok (.getfield 150, 3) := by decide +kernel
theorem dX11_word_43 : decode MX11_word.2.1 43 = .ok (.iload_n 1, 1) := by decide +kernel
theorem dX11_word_44 : decode MX11_word.2.1 44 = .ok (.iload_n 2, 1) := by decide +kernel
theorem dX11_word_45 : decode MX11_word.2.1 45 = .ok (.iload_n 3, 1) := by decide +kernel
theorem dX11_word_46 : decode MX11_word.2.1 46 = .ok (.invokevirtual 158, 3) := by decide +kernel
theorem dX11_word_49 : decode MX11_word.2.1 49 = .ok (.invokevirtual 133, 3) := by decide +kernel
theorem dX11_word_52 : decode MX11_word.2.1 52 = .ok (.ireturn, 1) := by decide +kernel
theorem dX11_at_0 : decode MX11_at.2.1 0 = .ok (.aload_n 0, 1) := by decide +kernel
theorem dX11_at_1 : decode MX11_at.2.1 1 = .ok (.getfield 14, 3) := by decide +kernel
theorem dX11_at_4 : decode MX11_at.2.1 4 = .ok (.getfield 150, 3) := by decide +kernel
theorem dX11_at_7 : decode MX11_at.2.1 7 = .ok (.iload_n 1, 1) := by decide +kernel
theorem dX11_at_8 : decode MX11_at.2.1 8 = .ok (.invokevirtual 162, 3) := by decide +kernel
theorem dX11_at_11 : decode MX11_at.2.1 11 = .ok (.ifCond .ne 5, 3) := by decide +kernel
theorem dX11_at_14 : decode MX11_at.2.1 14 = .ok (.iconst (-1), 1) := by decide +kernel
theorem dX11_at_15 : decode MX11_at.2.1 15 = .ok (.ireturn, 1) := by decide +kernel
theorem dX11_at_16 : decode MX11_at.2.1 16 = .ok (.iload_n 2, 1) := by decide +kernel
theorem dX11_at_17 : decode MX11_at.2.1 17 = .ok (.tableswitch 83 0 3 #[31, 44, 57, 70], 31) := by decide +kernel
theorem dX11_at_48 : decode MX11_at.2.1 48 = .ok (.aload_n 0, 1) := by decide +kernel
theorem dX11_at_49 : decode MX11_at.2.1 49 = .ok (.getfield 14, 3) := by decide +kernel
theorem dX11_at_52 : decode MX11_at.2.1 52 = .ok (.getfield 150, 3) := by decide +kernel
theorem dX11_at_55 : decode MX11_at.2.1 55 = .ok (.getfield 165, 3) := by decide +kernel
theorem dX11_at_58 : decode MX11_at.2.1 58 = .ok (.iload_n 1, 1) := by decide +kernel
theorem dX11_at_59 : decode MX11_at.2.1 59 = .ok (.iaload, 1) := by decide +kernel
theorem dX11_at_60 : decode MX11_at.2.1 60 = .ok (.ireturn, 1) := by decide +kernel
theorem dX11_at_61 : decode MX11_at.2.1 61 = .ok (.aload_n 0, 1) := by decide +kernel
theorem dX11_at_62 : decode MX11_at.2.1 62 = .ok (.getfield 14, 3) := by decide +kernel
theorem dX11_at_65 : decode MX11_at.2.1 65 = .ok (.getfield 150, 3) := by decide +kernel
theorem dX11_at_68 : decode MX11_at.2.1 68 = .ok (.getfield 168, 3) := by decide +kernel
theorem dX11_at_71 : decode MX11_at.2.1 71 = .ok (.iload_n 1, 1) := by decide +kernel
theorem dX11_at_72 : decode MX11_at.2.1 72 = .ok (.iaload, 1) := by decide +kernel
theorem dX11_at_73 : decode MX11_at.2.1 73 = .ok (.ireturn, 1) := by decide +kernel
theorem dX11_at_74 : decode MX11_at.2.1 74 = .ok (.aload_n 0, 1) := by decide +kernel
theorem dX11_at_75 : decode MX11_at.2.1 75 = .ok (.getfield 14, 3) := by decide +kernel
theorem dX11_at_78 : decode MX11_at.2.1 78 = .ok (.getfield 150, 3) := by decide +kernel
theorem dX11_at_81 : decode MX11_at.2.1 81 = .ok (.getfield 171, 3) := by decide +kernel
theorem dX11_at_84 : decode MX11_at.2.1 84 = .ok (.iload_n 1, 1) := by decide +kernel
theorem dX11_at_85 : decode MX11_at.2.1 85 = .ok (.iaload, 1) := by decide +kernel
theorem dX11_at_86 : decode MX11_at.2.1 86 = .ok (.ireturn, 1) := by decide +kernel
theorem dX11_at_87 : decode MX11_at.2.1 87 = .ok (.aload_n 0, 1) := by decide +kernel
theorem dX11_at_88 : decode MX11_at.2.1 88 = .ok (.getfield 14, 3) := by decide +kernel
theorem dX11_at_91 : decode MX11_at.2.1 91 = .ok (.getfield 150, 3) := by decide +kernel
theorem dX11_at_94 : decode MX11_at.2.1 94 = .ok (.getfield 174, 3) := by decide +kernel
theorem dX11_at_97 : decode MX11_at.2.1 97 = .ok (.iload_n 1, 1) := by decide +kernel
theorem dX11_at_98 : decode MX11_at.2.1 98 = .ok (.iaload, 1) := by decide +kernel
theorem dX11_at_99 : decode MX11_at.2.1 99 = .ok (.ireturn, 1) := by decide +kernel
theorem dX11_at_100 : decode MX11_at.2.1 100 = .ok (.iconst (-1), 1) := by decide +kernel
theorem dX11_at_101 : decode MX11_at.2.1 101 = .ok (.ireturn, 1) := by decide +kernel
theorem dX11_often_0 : decode MX11_often.2.1 0 = .ok (.iload_n 2, 1) := by decide +kernel
theorem dX11_often_1 : decode MX11_often.2.1 1 = .ok (.iconst 0, 1) := by decide +kernel
theorem dX11_often_2 : decode MX11_often.2.1 2 = .ok (.bipush 99, 2) := by decide +kernel
theorem dX11_often_4 : decode MX11_often.2.1 4 = .ok (.invokestatic 136, 3) := by decide +kernel
theorem dX11_often_7 : decode MX11_often.2.1 7 = .ok (.ifCond .ne 9, 3) := by decide +kernel
theorem dX11_often_10 : decode MX11_often.2.1 10 = .ok (.aload_n 0, 1) := by decide +kernel
theorem dX11_often_11 : decode MX11_often.2.1 11 = .ok (.iconst (-1), 1) := by decide +kernel
theorem dX11_often_12 : decode MX11_often.2.1 12 = .ok (.invokevirtual 104, 3) := by decide +kernel
theorem dX11_often_15 : decode MX11_often.2.1 15 = .ok (.ireturn, 1) := by decide +kernel
theorem dX11_often_16 : decode MX11_often.2.1 16 = .ok (.aload_n 0, 1) := by decide +kernel
theorem dX11_often_17 : decode MX11_often.2.1 17 = .ok (.getfield 14, 3) := by decide +kernel
theorem dX11_often_20 : decode MX11_often.2.1 20 = .ok (.getfield 150, 3) := by decide +kernel
theorem dX11_often_23 : decode MX11_often.2.1 23 = .ok (.iload_n 1, 1) := by decide +kernel
theorem dX11_often_24 : decode MX11_often.2.1 24 = .ok (.invokevirtual 162, 3) := by decide +kernel
theorem dX11_often_27 : decode MX11_often.2.1 27 = .ok (.ifCond .ne 10, 3) := by decide +kernel
theorem dX11_often_30 : decode MX11_often.2.1 30 = .ok (.aload_n 0, 1) := by decide +kernel
theorem dX11_often_31 : decode MX11_often.2.1 31 = .ok (.bipush (-2), 2) := by decide +kernel
theorem dX11_often_33 : decode MX11_often.2.1 33 = .ok (.invokevirtual 104, 3) := by decide +kernel
theorem dX11_often_36 : decode MX11_often.2.1 36 = .ok (.ireturn, 1) := by decide +kernel
theorem dX11_often_37 : decode MX11_often.2.1 37 = .ok (.aload_n 0, 1) := by decide +kernel
theorem dX11_often_38 : decode MX11_often.2.1 38 = .ok (.getfield 14, 3) := by decide +kernel
theorem dX11_often_41 : decode MX11_often.2.1 41 = .ok (.getfield 150, 3) := by decide +kernel
theorem dX11_often_44 : decode MX11_often.2.1 44 = .ok (.getfield 174, 3) := by decide +kernel
theorem dX11_often_47 : decode MX11_often.2.1 47 = .ok (.iload_n 1, 1) := by decide +kernel
theorem dX11_often_48 : decode MX11_often.2.1 48 = .ok (.iaload, 1) := by decide +kernel
theorem dX11_often_49 : decode MX11_often.2.1 49 = .ok (.istore_n 3, 1) := by decide +kernel
theorem dX11_often_50 : decode MX11_often.2.1 50 = .ok (.aload_n 0, 1) := by decide +kernel
theorem dX11_often_51 : decode MX11_often.2.1 51 = .ok (.getfield 14, 3) := by decide +kernel
theorem dX11_often_54 : decode MX11_often.2.1 54 = .ok (.getfield 150, 3) := by decide +kernel
theorem dX11_often_57 : decode MX11_often.2.1 57 = .ok (.getfield 174, 3) := by decide +kernel
theorem dX11_often_60 : decode MX11_often.2.1 60 = .ok (.iload_n 1, 1) := by decide +kernel
theorem dX11_often_61 : decode MX11_often.2.1 61 = .ok (.iload_n 2, 1) := by decide +kernel
theorem dX11_often_62 : decode MX11_often.2.1 62 = .ok (.iastore, 1) := by decide +kernel
theorem dX11_often_63 : decode MX11_often.2.1 63 = .ok (.aload_n 0, 1) := by decide +kernel
theorem dX11_often_64 : decode MX11_often.2.1 64 = .ok (.iload_n 3, 1) := by decide +kernel
theorem dX11_often_65 : decode MX11_often.2.1 65 = .ok (.invokevirtual 133, 3) := by decide +kernel
theorem dX11_often_68 : decode MX11_often.2.1 68 = .ok (.ireturn, 1) := by decide +kernel
theorem dX11_terms_0 : decode MX11_terms.2.1 0 = .ok (.iload_n 1, 1) := by decide +kernel
theorem dX11_terms_1 : decode MX11_terms.2.1 1 = .ok (.ifCond .ne 9, 3) := by decide +kernel
theorem dX11_terms_4 : decode MX11_terms.2.1 4 = .ok (.sipush 999, 3) := by decide +kernel
theorem dX11_terms_7 : decode MX11_terms.2.1 7 = .ok (.goto 5, 3) := by decide +kernel
theorem dX11_terms_10 : decode MX11_terms.2.1 10 = .ok (.bipush 9, 2) := by decide +kernel
theorem dX11_terms_12 : decode MX11_terms.2.1 12 = .ok (.istore_n 3, 1) := by decide +kernel
theorem dX11_terms_13 : decode MX11_terms.2.1 13 = .ok (.iload_n 1, 1) := by decide +kernel
theorem dX11_terms_14 : decode MX11_terms.2.1 14 = .ok (.iconst 0, 1) := by decide +kernel
theorem dX11_terms_15 : decode MX11_terms.2.1 15 = .ok (.iconst 1, 1) := by decide +kernel
theorem dX11_terms_16 : decode MX11_terms.2.1 16 = .ok (.invokestatic 136, 3) := by decide +kernel
theorem dX11_terms_19 : decode MX11_terms.2.1 19 = .ok (.ifCond .eq 12, 3) := by decide +kernel
theorem dX11_terms_22 : decode MX11_terms.2.1 22 = .ok (.iload_n 2, 1) := by decide +kernel
theorem dX11_terms_23 : decode MX11_terms.2.1 23 = .ok (.iconst 0, 1) := by decide +kernel
theorem dX11_terms_24 : decode MX11_terms.2.1 24 = .ok (.iload_n 3, 1) := by decide +kernel
theorem dX11_terms_25 : decode MX11_terms.2.1 25 = .ok (.invokestatic 136, 3) := by decide +kernel
theorem dX11_terms_28 : decode MX11_terms.2.1 28 = .ok (.ifCond .ne 9, 3) := by decide +kernel
theorem dX11_terms_31 : decode MX11_terms.2.1 31 = .ok (.aload_n 0, 1) := by decide +kernel
theorem dX11_terms_32 : decode MX11_terms.2.1 32 = .ok (.iconst (-1), 1) := by decide +kernel
theorem dX11_terms_33 : decode MX11_terms.2.1 33 = .ok (.invokevirtual 104, 3) := by decide +kernel
theorem dX11_terms_36 : decode MX11_terms.2.1 36 = .ok (.ireturn, 1) := by decide +kernel
theorem dX11_terms_37 : decode MX11_terms.2.1 37 = .ok (.iload_n 1, 1) := by decide +kernel
theorem dX11_terms_38 : decode MX11_terms.2.1 38 = .ok (.ifCond .ne 16, 3) := by decide +kernel
theorem dX11_terms_41 : decode MX11_terms.2.1 41 = .ok (.aload_n 0, 1) := by decide +kernel
theorem dX11_terms_42 : decode MX11_terms.2.1 42 = .ok (.getfield 14, 3) := by decide +kernel
theorem dX11_terms_45 : decode MX11_terms.2.1 45 = .ok (.getfield 112, 3) := by decide +kernel
theorem dX11_terms_48 : decode MX11_terms.2.1 48 = .ok (.getfield 177, 3) := by decide +kernel
theorem dX11_terms_51 : decode MX11_terms.2.1 51 = .ok (.goto 10, 3) := by decide +kernel
theorem dX11_terms_54 : decode MX11_terms.2.1 54 = .ok (.aload_n 0, 1) := by decide +kernel
theorem dX11_terms_55 : decode MX11_terms.2.1 55 = .ok (.getfield 14, 3) := by decide +kernel
theorem dX11_terms_58 : decode MX11_terms.2.1 58 = .ok (.getfield 180, 3) := by decide +kernel
theorem dX11_terms_61 : decode MX11_terms.2.1 61 = .ok (.istore 4, 2) := by decide +kernel
theorem dX11_terms_63 : decode MX11_terms.2.1 63 = .ok (.iload_n 1, 1) := by decide +kernel
theorem dX11_terms_64 : decode MX11_terms.2.1 64 = .ok (.ifCond .ne 17, 3) := by decide +kernel
theorem dX11_terms_67 : decode MX11_terms.2.1 67 = .ok (.aload_n 0, 1) := by decide +kernel
theorem dX11_terms_68 : decode MX11_terms.2.1 68 = .ok (.getfield 14, 3) := by decide +kernel
theorem dX11_terms_71 : decode MX11_terms.2.1 71 = .ok (.getfield 112, 3) := by decide +kernel
theorem dX11_terms_74 : decode MX11_terms.2.1 74 = .ok (.iload_n 2, 1) := by decide +kernel
theorem dX11_terms_75 : decode MX11_terms.2.1 75 = .ok (.putfield 177, 3) := by decide +kernel
theorem dX11_terms_78 : decode MX11_terms.2.1 78 = .ok (.goto 11, 3) := by decide +kernel
theorem dX11_terms_81 : decode MX11_terms.2.1 81 = .ok (.aload_n 0, 1) := by decide +kernel
theorem dX11_terms_82 : decode MX11_terms.2.1 82 = .ok (.getfield 14, 3) := by decide +kernel
theorem dX11_terms_85 : decode MX11_terms.2.1 85 = .ok (.iload_n 2, 1) := by decide +kernel
theorem dX11_terms_86 : decode MX11_terms.2.1 86 = .ok (.putfield 180, 3) := by decide +kernel
theorem dX11_terms_89 : decode MX11_terms.2.1 89 = .ok (.aload_n 0, 1) := by decide +kernel
theorem dX11_terms_90 : decode MX11_terms.2.1 90 = .ok (.getfield 25, 3) := by decide +kernel
theorem dX11_terms_93 : decode MX11_terms.2.1 93 = .ok (.invokevirtual 130, 3) := by decide +kernel
theorem dX11_terms_96 : decode MX11_terms.2.1 96 = .ok (.aload_n 0, 1) := by decide +kernel
theorem dX11_terms_97 : decode MX11_terms.2.1 97 = .ok (.iload 4, 2) := by decide +kernel
theorem dX11_terms_99 : decode MX11_terms.2.1 99 = .ok (.invokevirtual 133, 3) := by decide +kernel
theorem dX11_terms_102 : decode MX11_terms.2.1 102 = .ok (.ireturn, 1) := by decide +kernel
theorem dX11_feed_0 : decode MX11_feed.2.1 0 = .ok (.aload_n 0, 1) := by decide +kernel
theorem dX11_feed_1 : decode MX11_feed.2.1 1 = .ok (.getfield 32, 3) := by decide +kernel
theorem dX11_feed_4 : decode MX11_feed.2.1 4 = .ok (.getfield 183, 3) := by decide +kernel
theorem dX11_feed_7 : decode MX11_feed.2.1 7 = .ok (.bipush 20, 2) := by decide +kernel
theorem dX11_feed_9 : decode MX11_feed.2.1 9 = .ok (.iadd, 1) := by decide +kernel
theorem dX11_feed_10 : decode MX11_feed.2.1 10 = .ok (.sipush 400, 3) := by decide +kernel
theorem dX11_feed_13 : decode MX11_feed.2.1 13 = .ok (.if_icmp .le 5, 3) := by decide +kernel
theorem dX11_feed_16 : decode MX11_feed.2.1 16 = .ok (.iconst (-1), 1) := by decide +kernel
theorem dX11_feed_17 : decode MX11_feed.2.1 17 = .ok (.ireturn, 1) := by decide +kernel
theorem dX11_feed_18 : decode MX11_feed.2.1 18 = .ok (.aload_n 0, 1) := by decide +kernel
theorem dX11_feed_19 : decode MX11_feed.2.1 19 = .ok (.getfield 32, 3) := by decide +kernel
theorem dX11_feed_22 : decode MX11_feed.2.1 22 = .ok (.iload_n 1, 1) := by decide +kernel
theorem dX11_feed_23 : decode MX11_feed.2.1 23 = .ok (.invokevirtual 186, 3) := by decide +kernel
theorem dX11_feed_26 : decode MX11_feed.2.1 26 = .ok (.aload_n 0, 1) := by decide +kernel
theorem dX11_feed_27 : decode MX11_feed.2.1 27 = .ok (.getfield 32, 3) := by decide +kernel
theorem dX11_feed_30 : decode MX11_feed.2.1 30 = .ok (.iload_n 2, 1) := by decide +kernel
theorem dX11_feed_31 : decode MX11_feed.2.1 31 = .ok (.invokevirtual 186, 3) := by decide +kernel
theorem dX11_feed_34 : decode MX11_feed.2.1 34 = .ok (.aload_n 0, 1) := by decide +kernel
theorem dX11_feed_35 : decode MX11_feed.2.1 35 = .ok (.getfield 32, 3) := by decide +kernel
theorem dX11_feed_38 : decode MX11_feed.2.1 38 = .ok (.iload_n 3, 1) := by decide +kernel
theorem dX11_feed_39 : decode MX11_feed.2.1 39 = .ok (.invokevirtual 186, 3) := by decide +kernel
theorem dX11_feed_42 : decode MX11_feed.2.1 42 = .ok (.aload_n 0, 1) := by decide +kernel
theorem dX11_feed_43 : decode MX11_feed.2.1 43 = .ok (.getfield 32, 3) := by decide +kernel
theorem dX11_feed_46 : decode MX11_feed.2.1 46 = .ok (.iload 4, 2) := by decide +kernel
theorem dX11_feed_48 : decode MX11_feed.2.1 48 = .ok (.invokevirtual 186, 3) := by decide +kernel
theorem dX11_feed_51 : decode MX11_feed.2.1 51 = .ok (.aload_n 0, 1) := by decide +kernel
theorem dX11_feed_52 : decode MX11_feed.2.1 52 = .ok (.getfield 32, 3) := by decide +kernel
theorem dX11_feed_55 : decode MX11_feed.2.1 55 = .ok (.iload 5, 2) := by decide +kernel
theorem dX11_feed_57 : decode MX11_feed.2.1 57 = .ok (.invokevirtual 186, 3) := by decide +kernel
theorem dX11_feed_60 : decode MX11_feed.2.1 60 = .ok (.aload_n 0, 1) := by decide +kernel
theorem dX11_feed_61 : decode MX11_feed.2.1 61 = .ok (.getfield 32, 3) := by decide +kernel
theorem dX11_feed_64 : decode MX11_feed.2.1 64 = .ok (.getfield 183, 3) := by decide +kernel
theorem dX11_feed_67 : decode MX11_feed.2.1 67 = .ok (.ireturn, 1) := by decide +kernel
theorem dX11_end_0 : decode MX11_end.2.1 0 = .ok (.iload_n 1, 1) := by decide +kernel
theorem dX11_end_1 : decode MX11_end.2.1 1 = .ok (.iconst 0, 1) := by decide +kernel
theorem dX11_end_2 : decode MX11_end.2.1 2 = .ok (.aload_n 0, 1) := by decide +kernel
theorem dX11_end_3 : decode MX11_end.2.1 3 = .ok (.getfield 32, 3) := by decide +kernel
theorem dX11_end_6 : decode MX11_end.2.1 6 = .ok (.getfield 183, 3) := by decide +kernel
theorem dX11_end_9 : decode MX11_end.2.1 9 = .ok (.invokestatic 136, 3) := by decide +kernel
theorem dX11_end_12 : decode MX11_end.2.1 12 = .ok (.ifCond .ne 5, 3) := by decide +kernel
theorem dX11_end_15 : decode MX11_end.2.1 15 = .ok (.iconst (-1), 1) := by decide +kernel
theorem dX11_end_16 : decode MX11_end.2.1 16 = .ok (.ireturn, 1) := by decide +kernel
theorem dX11_end_17 : decode MX11_end.2.1 17 = .ok (.aload_n 0, 1) := by decide +kernel
theorem dX11_end_18 : decode MX11_end.2.1 18 = .ok (.getfield 32, 3) := by decide +kernel
theorem dX11_end_21 : decode MX11_end.2.1 21 = .ok (.iload_n 1, 1) := by decide +kernel
theorem dX11_end_22 : decode MX11_end.2.1 22 = .ok (.putfield 183, 3) := by decide +kernel
theorem dX11_end_25 : decode MX11_end.2.1 25 = .ok (.iload_n 1, 1) := by decide +kernel
theorem dX11_end_26 : decode MX11_end.2.1 26 = .ok (.ireturn, 1) := by decide +kernel
theorem dX11_row_0 : decode MX11_row.2.1 0 = .ok (.aload_n 0, 1) := by decide +kernel
theorem dX11_row_1 : decode MX11_row.2.1 1 = .ok (.getfield 32, 3) := by decide +kernel
theorem dX11_row_4 : decode MX11_row.2.1 4 = .ok (.getfield 183, 3) := by decide +kernel
theorem dX11_row_7 : decode MX11_row.2.1 7 = .ok (.ifCond .ne 10, 3) := by decide +kernel
theorem dX11_row_10 : decode MX11_row.2.1 10 = .ok (.aload_n 0, 1) := by decide +kernel
theorem dX11_row_11 : decode MX11_row.2.1 11 = .ok (.bipush (-6), 2) := by decide +kernel
theorem dX11_row_13 : decode MX11_row.2.1 13 = .ok (.invokevirtual 104, 3) := by decide +kernel
theorem dX11_row_16 : decode MX11_row.2.1 16 = .ok (.ireturn, 1) := by decide +kernel
theorem dX11_row_17 : decode MX11_row.2.1 17 = .ok (.iconst 0, 1) := by decide +kernel
theorem dX11_row_18 : decode MX11_row.2.1 18 = .ok (.istore_n 1, 1) := by decide +kernel
theorem dX11_row_19 : decode MX11_row.2.1 19 = .ok (.aload_n 0, 1) := by decide +kernel
theorem dX11_row_20 : decode MX11_row.2.1 20 = .ok (.iconst 0, 1) := by decide +kernel
theorem dX11_row_21 : decode MX11_row.2.1 21 = .ok (.putfield 190, 3) := by decide +kernel
theorem dX11_row_24 : decode MX11_row.2.1 24 = .ok (.iconst 0, 1) := by decide +kernel
theorem dX11_row_25 : decode MX11_row.2.1 25 = .ok (.istore_n 2, 1) := by decide +kernel
theorem dX11_row_26 : decode MX11_row.2.1 26 = .ok (.iload_n 2, 1) := by decide +kernel
theorem dX11_row_27 : decode MX11_row.2.1 27 = .ok (.aload_n 0, 1) := by decide +kernel
theorem dX11_row_28 : decode MX11_row.2.1 28 = .ok (.getfield 32, 3) := by decide +kernel
theorem dX11_row_31 : decode MX11_row.2.1 31 = .ok (.getfield 183, 3) := by decide +kernel
theorem dX11_row_34 : decode MX11_row.2.1 34 = .ok (.if_icmp .ge 33, 3) := by decide +kernel
theorem dX11_row_37 : decode MX11_row.2.1 37 = .ok (.aload_n 0, 1) := by decide +kernel
theorem dX11_row_38 : decode MX11_row.2.1 38 = .ok (.iload_n 2, 1) := by decide +kernel
theorem dX11_row_39 : decode MX11_row.2.1 39 = .ok (.invokevirtual 193, 3) := by decide +kernel
theorem dX11_row_42 : decode MX11_row.2.1 42 = .ok (.ifCond .eq 9, 3) := by decide +kernel
theorem dX11_row_45 : decode MX11_row.2.1 45 = .ok (.iinc 1 1, 3) := by decide +kernel
theorem dX11_row_48 : decode MX11_row.2.1 48 = .ok (.goto 13, 3) := by decide +kernel
theorem dX11_row_51 : decode MX11_row.2.1 51 = .ok (.aload_n 0, 1) := by decide +kernel
theorem dX11_row_52 : decode MX11_row.2.1 52 = .ok (.dup, 1) := by decide +kernel
theorem dX11_row_53 : decode MX11_row.2.1 53 = .ok (.getfield 190, 3) := by decide +kernel
theorem dX11_row_56 : decode MX11_row.2.1 56 = .ok (.iconst 1, 1) := by decide +kernel
theorem dX11_row_57 : decode MX11_row.2.1 57 = .ok (.iadd, 1) := by decide +kernel
theorem dX11_row_58 : decode MX11_row.2.1 58 = .ok (.putfield 190, 3) := by decide +kernel
theorem dX11_row_61 : decode MX11_row.2.1 61 = .ok (.iinc 2 3, 3) := by decide +kernel
theorem dX11_row_64 : decode MX11_row.2.1 64 = .ok (.goto (-38), 3) := by decide +kernel
theorem dX11_row_67 : decode MX11_row.2.1 67 = .ok (.aload_n 0, 1) := by decide +kernel
theorem dX11_row_68 : decode MX11_row.2.1 68 = .ok (.getfield 32, 3) := by decide +kernel
theorem dX11_row_71 : decode MX11_row.2.1 71 = .ok (.iconst 0, 1) := by decide +kernel
theorem dX11_row_72 : decode MX11_row.2.1 72 = .ok (.putfield 183, 3) := by decide +kernel
theorem dX11_row_75 : decode MX11_row.2.1 75 = .ok (.aload_n 0, 1) := by decide +kernel
theorem dX11_row_76 : decode MX11_row.2.1 76 = .ok (.iload_n 1, 1) := by decide +kernel
theorem dX11_row_77 : decode MX11_row.2.1 77 = .ok (.invokevirtual 133, 3) := by decide +kernel
theorem dX11_row_80 : decode MX11_row.2.1 80 = .ok (.ireturn, 1) := by decide +kernel
theorem dX11_coinFromTape_0 : decode MX11_coinFromTape.2.1 0 = .ok (.iload_n 1, 1) := by decide +kernel
theorem dX11_coinFromTape_1 : decode MX11_coinFromTape.2.1 1 = .ok (.iconst 3, 1) := by decide +kernel
theorem dX11_coinFromTape_2 : decode MX11_coinFromTape.2.1 2 = .ok (.iadd, 1) := by decide +kernel
theorem dX11_coinFromTape_3 : decode MX11_coinFromTape.2.1 3 = .ok (.aload_n 0, 1) := by decide +kernel
theorem dX11_coinFromTape_4 : decode MX11_coinFromTape.2.1 4 = .ok (.getfield 32, 3) := by decide +kernel
theorem dX11_coinFromTape_7 : decode MX11_coinFromTape.2.1 7 = .ok (.getfield 183, 3) := by decide +kernel
theorem dX11_coinFromTape_10 : decode MX11_coinFromTape.2.1 10 = .ok (.if_icmp .gt 16, 3) := by decide +kernel
theorem dX11_coinFromTape_13 : decode MX11_coinFromTape.2.1 13 = .ok (.aload_n 0, 1) := by decide +kernel
theorem dX11_coinFromTape_14 : decode MX11_coinFromTape.2.1 14 = .ok (.getfield 14, 3) := by decide +kernel
theorem dX11_coinFromTape_17 : decode MX11_coinFromTape.2.1 17 = .ok (.getfield 150, 3) := by decide +kernel
theorem dX11_coinFromTape_20 : decode MX11_coinFromTape.2.1 20 = .ok (.invokevirtual 154, 3) := by decide +kernel
theorem dX11_coinFromTape_23 : decode MX11_coinFromTape.2.1 23 = .ok (.ifCond .eq 5, 3) := by decide +kernel
theorem dX11_coinFromTape_26 : decode MX11_coinFromTape.2.1 26 = .ok (.iconst 0, 1) := by decide +kernel
theorem dX11_coinFromTape_27 : decode MX11_coinFromTape.2.1 27 = .ok (.ireturn, 1) := by decide +kernel
theorem dX11_coinFromTape_28 : decode MX11_coinFromTape.2.1 28 = .ok (.aload_n 0, 1) := by decide +kernel
theorem dX11_coinFromTape_29 : decode MX11_coinFromTape.2.1 29 = .ok (.getfield 32, 3) := by decide +kernel
theorem dX11_coinFromTape_32 : decode MX11_coinFromTape.2.1 32 = .ok (.iload_n 1, 1) := by decide +kernel
theorem dX11_coinFromTape_33 : decode MX11_coinFromTape.2.1 33 = .ok (.invokevirtual 196, 3) := by decide +kernel
theorem dX11_coinFromTape_36 : decode MX11_coinFromTape.2.1 36 = .ok (.istore_n 2, 1) := by decide +kernel
theorem dX11_coinFromTape_37 : decode MX11_coinFromTape.2.1 37 = .ok (.aload_n 0, 1) := by decide +kernel
theorem dX11_coinFromTape_38 : decode MX11_coinFromTape.2.1 38 = .ok (.getfield 32, 3) := by decide +kernel
theorem dX11_coinFromTape_41 : decode MX11_coinFromTape.2.1 41 = .ok (.iload_n 1, 1) := by decide +kernel
theorem dX11_coinFromTape_42 : decode MX11_coinFromTape.2.1 42 = .ok (.iconst 1, 1) := by decide +kernel
theorem dX11_coinFromTape_43 : decode MX11_coinFromTape.2.1 43 = .ok (.iadd, 1) := by decide +kernel
theorem dX11_coinFromTape_44 : decode MX11_coinFromTape.2.1 44 = .ok (.invokevirtual 196, 3) := by decide +kernel
theorem dX11_coinFromTape_47 : decode MX11_coinFromTape.2.1 47 = .ok (.istore_n 3, 1) := by decide +kernel
theorem dX11_coinFromTape_48 : decode MX11_coinFromTape.2.1 48 = .ok (.aload_n 0, 1) := by decide +kernel
theorem dX11_coinFromTape_49 : decode MX11_coinFromTape.2.1 49 = .ok (.getfield 32, 3) := by decide +kernel
theorem dX11_coinFromTape_52 : decode MX11_coinFromTape.2.1 52 = .ok (.iload_n 1, 1) := by decide +kernel
theorem dX11_coinFromTape_53 : decode MX11_coinFromTape.2.1 53 = .ok (.iconst 2, 1) := by decide +kernel
theorem dX11_coinFromTape_54 : decode MX11_coinFromTape.2.1 54 = .ok (.iadd, 1) := by decide +kernel
theorem dX11_coinFromTape_55 : decode MX11_coinFromTape.2.1 55 = .ok (.invokevirtual 196, 3) := by decide +kernel
theorem dX11_coinFromTape_58 : decode MX11_coinFromTape.2.1 58 = .ok (.istore 4, 2) := by decide +kernel
theorem dX11_coinFromTape_60 : decode MX11_coinFromTape.2.1 60 = .ok (.iload_n 2, 1) := by decide +kernel
theorem dX11_coinFromTape_61 : decode MX11_coinFromTape.2.1 61 = .ok (.iload_n 3, 1) := by decide +kernel
theorem dX11_coinFromTape_62 : decode MX11_coinFromTape.2.1 62 = .ok (.iload 4, 2) := by decide +kernel
theorem dX11_coinFromTape_64 : decode MX11_coinFromTape.2.1 64 = .ok (.invokestatic 145, 3) := by decide +kernel
theorem dX11_coinFromTape_67 : decode MX11_coinFromTape.2.1 67 = .ok (.ifCond .ne 5, 3) := by decide +kernel
theorem dX11_coinFromTape_70 : decode MX11_coinFromTape.2.1 70 = .ok (.iconst 0, 1) := by decide +kernel
theorem dX11_coinFromTape_71 : decode MX11_coinFromTape.2.1 71 = .ok (.ireturn, 1) := by decide +kernel
theorem dX11_coinFromTape_72 : decode MX11_coinFromTape.2.1 72 = .ok (.aload_n 0, 1) := by decide +kernel
theorem dX11_coinFromTape_73 : decode MX11_coinFromTape.2.1 73 = .ok (.getfield 14, 3) := by decide +kernel
theorem dX11_coinFromTape_76 : decode MX11_coinFromTape.2.1 76 = .ok (.getfield 150, 3) := by decide +kernel
theorem dX11_coinFromTape_79 : decode MX11_coinFromTape.2.1 79 = .ok (.iload_n 2, 1) := by decide +kernel
theorem dX11_coinFromTape_80 : decode MX11_coinFromTape.2.1 80 = .ok (.iload_n 3, 1) := by decide +kernel
theorem dX11_coinFromTape_81 : decode MX11_coinFromTape.2.1 81 = .ok (.iload 4, 2) := by decide +kernel
theorem dX11_coinFromTape_83 : decode MX11_coinFromTape.2.1 83 = .ok (.invokevirtual 158, 3) := by decide +kernel
theorem dX11_coinFromTape_86 : decode MX11_coinFromTape.2.1 86 = .ok (.pop, 1) := by decide +kernel
theorem dX11_coinFromTape_87 : decode MX11_coinFromTape.2.1 87 = .ok (.iconst 1, 1) := by decide +kernel
theorem dX11_coinFromTape_88 : decode MX11_coinFromTape.2.1 88 = .ok (.ireturn, 1) := by decide +kernel
theorem dX11_murmur_0 : decode MX11_murmur.2.1 0 = .ok (.aload_n 0, 1) := by decide +kernel
theorem dX11_murmur_1 : decode MX11_murmur.2.1 1 = .ok (.getfield 190, 3) := by decide +kernel
theorem dX11_murmur_4 : decode MX11_murmur.2.1 4 = .ok (.ireturn, 1) := by decide +kernel
theorem dX11_law_0 : decode MX11_law.2.1 0 = .ok (.aload_n 0, 1) := by decide +kernel
theorem dX11_law_1 : decode MX11_law.2.1 1 = .ok (.getfield 14, 3) := by decide +kernel
theorem dX11_law_4 : decode MX11_law.2.1 4 = .ok (.getfield 199, 3) := by decide +kernel
theorem dX11_law_7 : decode MX11_law.2.1 7 = .ok (.bipush 6, 2) := by decide +kernel
theorem dX11_law_9 : decode MX11_law.2.1 9 = .ok (.if_icmp .lt 18, 3) := by decide +kernel
theorem dX11_law_12 : decode MX11_law.2.1 12 = .ok (.aload_n 0, 1) := by decide +kernel
theorem dX11_law_13 : decode MX11_law.2.1 13 = .ok (.getfield 32, 3) := by decide +kernel
theorem dX11_law_16 : decode MX11_law.2.1 16 = .ok (.iconst 0, 1) := by decide +kernel
theorem dX11_law_17 : decode MX11_law.2.1 17 = .ok (.putfield 183, 3) := by decide +kernel
theorem dX11_law_20 : decode MX11_law.2.1 20 = .ok (.aload_n 0, 1) := by decide +kernel
theorem dX11_law_21 : decode MX11_law.2.1 21 = .ok (.bipush (-5), 2) := by decide +kernel
theorem dX11_law_23 : decode MX11_law.2.1 23 = .ok (.invokevirtual 104, 3) := by decide +kernel
theorem dX11_law_26 : decode MX11_law.2.1 26 = .ok (.ireturn, 1) := by decide +kernel
theorem dX11_law_27 : decode MX11_law.2.1 27 = .ok (.aload_n 0, 1) := by decide +kernel
theorem dX11_law_28 : decode MX11_law.2.1 28 = .ok (.getfield 32, 3) := by decide +kernel
theorem dX11_law_31 : decode MX11_law.2.1 31 = .ok (.iconst 1, 1) := by decide +kernel
theorem dX11_law_32 : decode MX11_law.2.1 32 = .ok (.invokevirtual 202, 3) := by decide +kernel
theorem dX11_law_35 : decode MX11_law.2.1 35 = .ok (.ifCond .ne 10, 3) := by decide +kernel
theorem dX11_law_38 : decode MX11_law.2.1 38 = .ok (.aload_n 0, 1) := by decide +kernel
theorem dX11_law_39 : decode MX11_law.2.1 39 = .ok (.bipush (-6), 2) := by decide +kernel
theorem dX11_law_41 : decode MX11_law.2.1 41 = .ok (.invokevirtual 104, 3) := by decide +kernel
theorem dX11_law_44 : decode MX11_law.2.1 44 = .ok (.ireturn, 1) := by decide +kernel
theorem dX11_law_45 : decode MX11_law.2.1 45 = .ok (.aload_n 0, 1) := by decide +kernel
theorem dX11_law_46 : decode MX11_law.2.1 46 = .ok (.getfield 14, 3) := by decide +kernel
theorem dX11_law_49 : decode MX11_law.2.1 49 = .ok (.getfield 206, 3) := by decide +kernel
theorem dX11_law_52 : decode MX11_law.2.1 52 = .ok (.aload_n 0, 1) := by decide +kernel
theorem dX11_law_53 : decode MX11_law.2.1 53 = .ok (.getfield 14, 3) := by decide +kernel
theorem dX11_law_56 : decode MX11_law.2.1 56 = .ok (.getfield 199, 3) := by decide +kernel
theorem dX11_law_59 : decode MX11_law.2.1 59 = .ok (.aload_n 0, 1) := by decide +kernel
theorem dX11_law_60 : decode MX11_law.2.1 60 = .ok (.getfield 32, 3) := by decide +kernel
theorem dX11_law_63 : decode MX11_law.2.1 63 = .ok (.getfield 210, 3) := by decide +kernel
theorem dX11_law_66 : decode MX11_law.2.1 66 = .ok (.aload_n 0, 1) := by decide +kernel
theorem dX11_law_67 : decode MX11_law.2.1 67 = .ok (.getfield 32, 3) := by decide +kernel
theorem dX11_law_70 : decode MX11_law.2.1 70 = .ok (.getfield 214, 3) := by decide +kernel
theorem dX11_law_73 : decode MX11_law.2.1 73 = .ok (.invokevirtual 217, 3) := by decide +kernel
theorem dX11_law_76 : decode MX11_law.2.1 76 = .ok (.aastore, 1) := by decide +kernel
theorem dX11_law_77 : decode MX11_law.2.1 77 = .ok (.aload_n 0, 1) := by decide +kernel
theorem dX11_law_78 : decode MX11_law.2.1 78 = .ok (.getfield 14, 3) := by decide +kernel
theorem dX11_law_81 : decode MX11_law.2.1 81 = .ok (.dup, 1) := by decide +kernel
theorem dX11_law_82 : decode MX11_law.2.1 82 = .ok (.getfield 199, 3) := by decide +kernel
theorem dX11_law_85 : decode MX11_law.2.1 85 = .ok (.iconst 1, 1) := by decide +kernel
theorem dX11_law_86 : decode MX11_law.2.1 86 = .ok (.iadd, 1) := by decide +kernel
theorem dX11_law_87 : decode MX11_law.2.1 87 = .ok (.putfield 199, 3) := by decide +kernel
theorem dX11_law_90 : decode MX11_law.2.1 90 = .ok (.aload_n 0, 1) := by decide +kernel
theorem dX11_law_91 : decode MX11_law.2.1 91 = .ok (.aload_n 0, 1) := by decide +kernel
theorem dX11_law_92 : decode MX11_law.2.1 92 = .ok (.getfield 14, 3) := by decide +kernel
theorem dX11_law_95 : decode MX11_law.2.1 95 = .ok (.getfield 199, 3) := by decide +kernel
theorem dX11_law_98 : decode MX11_law.2.1 98 = .ok (.iconst 1, 1) := by decide +kernel
theorem dX11_law_99 : decode MX11_law.2.1 99 = .ok (.isub, 1) := by decide +kernel
theorem dX11_law_100 : decode MX11_law.2.1 100 = .ok (.invokevirtual 133, 3) := by decide +kernel
theorem dX11_law_103 : decode MX11_law.2.1 103 = .ok (.ireturn, 1) := by decide +kernel
theorem dX11_told_0 : decode MX11_told.2.1 0 = .ok (.aload_n 0, 1) := by decide +kernel
theorem dX11_told_1 : decode MX11_told.2.1 1 = .ok (.iconst (-1), 1) := by decide +kernel
theorem dX11_told_2 : decode MX11_told.2.1 2 = .ok (.putfield 92, 3) := by decide +kernel
theorem dX11_told_5 : decode MX11_told.2.1 5 = .ok (.aload_n 0, 1) := by decide +kernel
theorem dX11_told_6 : decode MX11_told.2.1 6 = .ok (.getfield 32, 3) := by decide +kernel
theorem dX11_told_9 : decode MX11_told.2.1 9 = .ok (.iconst 0, 1) := by decide +kernel
theorem dX11_told_10 : decode MX11_told.2.1 10 = .ok (.invokevirtual 202, 3) := by decide +kernel
theorem dX11_told_13 : decode MX11_told.2.1 13 = .ok (.ifCond .ne 10, 3) := by decide +kernel
theorem dX11_told_16 : decode MX11_told.2.1 16 = .ok (.aload_n 0, 1) := by decide +kernel
theorem dX11_told_17 : decode MX11_told.2.1 17 = .ok (.bipush (-6), 2) := by decide +kernel
theorem dX11_told_19 : decode MX11_told.2.1 19 = .ok (.invokevirtual 104, 3) := by decide +kernel
theorem dX11_told_22 : decode MX11_told.2.1 22 = .ok (.ireturn, 1) := by decide +kernel
theorem dX11_told_23 : decode MX11_told.2.1 23 = .ok (.aload_n 0, 1) := by decide +kernel
theorem dX11_told_24 : decode MX11_told.2.1 24 = .ok (.getfield 78, 3) := by decide +kernel
theorem dX11_told_27 : decode MX11_told.2.1 27 = .ok (.aload_n 0, 1) := by decide +kernel
theorem dX11_told_28 : decode MX11_told.2.1 28 = .ok (.getfield 14, 3) := by decide +kernel
theorem dX11_told_31 : decode MX11_told.2.1 31 = .ok (.getfield 112, 3) := by decide +kernel
theorem dX11_told_34 : decode MX11_told.2.1 34 = .ok (.invokevirtual 223, 3) := by decide +kernel
theorem dX11_told_37 : decode MX11_told.2.1 37 = .ok (.aload_n 0, 1) := by decide +kernel
theorem dX11_told_38 : decode MX11_told.2.1 38 = .ok (.aload_n 0, 1) := by decide +kernel
theorem dX11_told_39 : decode MX11_told.2.1 39 = .ok (.aload_n 0, 1) := by decide +kernel
theorem dX11_told_40 : decode MX11_told.2.1 40 = .ok (.getfield 78, 3) := by decide +kernel
theorem dX11_told_43 : decode MX11_told.2.1 43 = .ok (.iconst 0, 1) := by decide +kernel
theorem dX11_told_44 : decode MX11_told.2.1 44 = .ok (.invokevirtual 227, 3) := by decide +kernel
theorem dX11_told_47 : decode MX11_told.2.1 47 = .ok (.putfield 92, 3) := by decide +kernel
theorem dX11_told_50 : decode MX11_told.2.1 50 = .ok (.aload_n 0, 1) := by decide +kernel
theorem dX11_told_51 : decode MX11_told.2.1 51 = .ok (.getfield 92, 3) := by decide +kernel
theorem dX11_told_54 : decode MX11_told.2.1 54 = .ok (.iconst (-1), 1) := by decide +kernel
theorem dX11_told_55 : decode MX11_told.2.1 55 = .ok (.if_icmp .eq 10, 3) := by decide +kernel
theorem dX11_told_58 : decode MX11_told.2.1 58 = .ok (.aload_n 0, 1) := by decide +kernel
theorem dX11_told_59 : decode MX11_told.2.1 59 = .ok (.bipush (-3), 2) := by decide +kernel
theorem dX11_told_61 : decode MX11_told.2.1 61 = .ok (.invokevirtual 104, 3) := by decide +kernel
theorem dX11_told_64 : decode MX11_told.2.1 64 = .ok (.ireturn, 1) := by decide +kernel
theorem dX11_told_65 : decode MX11_told.2.1 65 = .ok (.aload_n 0, 1) := by decide +kernel
theorem dX11_told_66 : decode MX11_told.2.1 66 = .ok (.aload_n 0, 1) := by decide +kernel
theorem dX11_told_67 : decode MX11_told.2.1 67 = .ok (.getfield 14, 3) := by decide +kernel
theorem dX11_told_70 : decode MX11_told.2.1 70 = .ok (.getfield 112, 3) := by decide +kernel
theorem dX11_told_73 : decode MX11_told.2.1 73 = .ok (.iconst 1, 1) := by decide +kernel
theorem dX11_told_74 : decode MX11_told.2.1 74 = .ok (.invokevirtual 227, 3) := by decide +kernel
theorem dX11_told_77 : decode MX11_told.2.1 77 = .ok (.pop, 1) := by decide +kernel
theorem dX11_told_78 : decode MX11_told.2.1 78 = .ok (.aload_n 0, 1) := by decide +kernel
theorem dX11_told_79 : decode MX11_told.2.1 79 = .ok (.aload_n 0, 1) := by decide +kernel
theorem dX11_told_80 : decode MX11_told.2.1 80 = .ok (.getfield 41, 3) := by decide +kernel
theorem dX11_told_83 : decode MX11_told.2.1 83 = .ok (.getfield 231, 3) := by decide +kernel
theorem dX11_told_86 : decode MX11_told.2.1 86 = .ok (.bipush 24, 2) := by decide +kernel
theorem dX11_told_88 : decode MX11_told.2.1 88 = .ok (.iaload, 1) := by decide +kernel
theorem dX11_told_89 : decode MX11_told.2.1 89 = .ok (.invokevirtual 133, 3) := by decide +kernel
theorem dX11_told_92 : decode MX11_told.2.1 92 = .ok (.ireturn, 1) := by decide +kernel
theorem dX11_tellAll_0 : decode MX11_tellAll.2.1 0 = .ok (.aload_n 0, 1) := by decide +kernel
theorem dX11_tellAll_1 : decode MX11_tellAll.2.1 1 = .ok (.getfield 32, 3) := by decide +kernel
theorem dX11_tellAll_4 : decode MX11_tellAll.2.1 4 = .ok (.getfield 210, 3) := by decide +kernel
theorem dX11_tellAll_7 : decode MX11_tellAll.2.1 7 = .ok (.astore_n 3, 1) := by decide +kernel
theorem dX11_tellAll_8 : decode MX11_tellAll.2.1 8 = .ok (.aload_n 1, 1) := by decide +kernel
theorem dX11_tellAll_9 : decode MX11_tellAll.2.1 9 = .ok (.getfield 234, 3) := by decide +kernel
theorem dX11_tellAll_12 : decode MX11_tellAll.2.1 12 = .ok (.istore 4, 2) := by decide +kernel
theorem dX11_tellAll_14 : decode MX11_tellAll.2.1 14 = .ok (.aload_n 0, 1) := by decide +kernel
theorem dX11_tellAll_15 : decode MX11_tellAll.2.1 15 = .ok (.getfield 41, 3) := by decide +kernel
theorem dX11_tellAll_18 : decode MX11_tellAll.2.1 18 = .ok (.getfield 231, 3) := by decide +kernel
theorem dX11_tellAll_21 : decode MX11_tellAll.2.1 21 = .ok (.bipush 24, 2) := by decide +kernel
theorem dX11_tellAll_23 : decode MX11_tellAll.2.1 23 = .ok (.iconst 0, 1) := by decide +kernel
theorem dX11_tellAll_24 : decode MX11_tellAll.2.1 24 = .ok (.iastore, 1) := by decide +kernel
theorem dX11_tellAll_25 : decode MX11_tellAll.2.1 25 = .ok (.aload_n 0, 1) := by decide +kernel
theorem dX11_tellAll_26 : decode MX11_tellAll.2.1 26 = .ok (.getfield 41, 3) := by decide +kernel
theorem dX11_tellAll_29 : decode MX11_tellAll.2.1 29 = .ok (.getfield 231, 3) := by decide +kernel
theorem dX11_tellAll_32 : decode MX11_tellAll.2.1 32 = .ok (.bipush 25, 2) := by decide +kernel
theorem dX11_tellAll_34 : decode MX11_tellAll.2.1 34 = .ok (.iconst 0, 1) := by decide +kernel
theorem dX11_tellAll_35 : decode MX11_tellAll.2.1 35 = .ok (.iastore, 1) := by decide +kernel
theorem dX11_tellAll_36 : decode MX11_tellAll.2.1 36 = .ok (.iconst 0, 1) := by decide +kernel
theorem dX11_tellAll_37 : decode MX11_tellAll.2.1 37 = .ok (.istore 5, 2) := by decide +kernel
theorem dX11_tellAll_39 : decode MX11_tellAll.2.1 39 = .ok (.iload 5, 2) := by decide +kernel
theorem dX11_tellAll_41 : decode MX11_tellAll.2.1 41 = .ok (.aload_n 3, 1) := by decide +kernel
theorem dX11_tellAll_42 : decode MX11_tellAll.2.1 42 = .ok (.getfield 237, 3) := by decide +kernel
theorem dX11_tellAll_45 : decode MX11_tellAll.2.1 45 = .ok (.if_icmp .ge 120, 3) := by decide +kernel
theorem dX11_tellAll_48 : decode MX11_tellAll.2.1 48 = .ok (.iconst 0, 1) := by decide +kernel
theorem dX11_tellAll_49 : decode MX11_tellAll.2.1 49 = .ok (.istore 6, 2) := by decide +kernel
theorem dX11_tellAll_51 : decode MX11_tellAll.2.1 51 = .ok (.iload 6, 2) := by decide +kernel
theorem dX11_tellAll_53 : decode MX11_tellAll.2.1 53 = .ok (.aload_n 3, 1) := by decide +kernel
theorem dX11_tellAll_54 : decode MX11_tellAll.2.1 54 = .ok (.iload 5, 2) := by decide +kernel
theorem dX11_tellAll_56 : decode MX11_tellAll.2.1 56 = .ok (.invokevirtual 240, 3) := by decide +kernel
theorem dX11_tellAll_59 : decode MX11_tellAll.2.1 59 = .ok (.if_icmp .ge 100, 3) := by decide +kernel
theorem dX11_tellAll_62 : decode MX11_tellAll.2.1 62 = .ok (.aload_n 0, 1) := by decide +kernel
theorem dX11_tellAll_63 : decode MX11_tellAll.2.1 63 = .ok (.getfield 41, 3) := by decide +kernel
theorem dX11_tellAll_66 : decode MX11_tellAll.2.1 66 = .ok (.aload_n 1, 1) := by decide +kernel
theorem dX11_tellAll_67 : decode MX11_tellAll.2.1 67 = .ok (.iload 4, 2) := by decide +kernel
theorem dX11_tellAll_69 : decode MX11_tellAll.2.1 69 = .ok (.invokevirtual 243, 3) := by decide +kernel
theorem dX11_tellAll_72 : decode MX11_tellAll.2.1 72 = .ok (.aload_n 3, 1) := by decide +kernel
theorem dX11_tellAll_73 : decode MX11_tellAll.2.1 73 = .ok (.iload 5, 2) := by decide +kernel
theorem dX11_tellAll_75 : decode MX11_tellAll.2.1 75 = .ok (.invokevirtual 247, 3) := by decide +kernel
theorem dX11_tellAll_78 : decode MX11_tellAll.2.1 78 = .ok (.istore 7, 2) := by decide +kernel
theorem dX11_tellAll_80 : decode MX11_tellAll.2.1 80 = .ok (.iload 7, 2) := by decide +kernel
theorem dX11_tellAll_82 : decode MX11_tellAll.2.1 82 = .ok (.iconst (-1), 1) := by decide +kernel
theorem dX11_tellAll_83 : decode MX11_tellAll.2.1 83 = .ok (.if_icmp .eq 23, 3) := by decide +kernel
theorem dX11_tellAll_86 : decode MX11_tellAll.2.1 86 = .ok (.aload_n 0, 1) := by decide +kernel
theorem dX11_tellAll_87 : decode MX11_tellAll.2.1 87 = .ok (.getfield 41, 3) := by decide +kernel
theorem dX11_tellAll_90 : decode MX11_tellAll.2.1 90 = .ok (.aload_n 3, 1) := by decide +kernel
theorem dX11_tellAll_91 : decode MX11_tellAll.2.1 91 = .ok (.getfield 250, 3) := by decide +kernel
theorem dX11_tellAll_94 : decode MX11_tellAll.2.1 94 = .ok (.iload 7, 2) := by decide +kernel
theorem dX11_tellAll_96 : decode MX11_tellAll.2.1 96 = .ok (.invokevirtual 253, 3) := by decide +kernel
theorem dX11_tellAll_99 : decode MX11_tellAll.2.1 99 = .ok (.iconst 1, 1) := by decide +kernel
theorem dX11_tellAll_100 : decode MX11_tellAll.2.1 100 = .ok (.if_icmp .eq 6, 3) := by decide +kernel
theorem dX11_tellAll_103 : decode MX11_tellAll.2.1 103 = .ok (.goto 50, 3) := by decide +kernel
theorem dX11_tellAll_106 : decode MX11_tellAll.2.1 106 = .ok (.aload_n 0, 1) := by decide +kernel
theorem dX11_tellAll_107 : decode MX11_tellAll.2.1 107 = .ok (.aload_n 1, 1) := by decide +kernel
theorem dX11_tellAll_108 : decode MX11_tellAll.2.1 108 = .ok (.iload 5, 2) := by decide +kernel
theorem dX11_tellAll_110 : decode MX11_tellAll.2.1 110 = .ok (.iload_n 2, 1) := by decide +kernel
theorem dX11_tellAll_111 : decode MX11_tellAll.2.1 111 = .ok (.invokevirtual 257, 3) := by decide +kernel
theorem dX11_tellAll_114 : decode MX11_tellAll.2.1 114 = .ok (.istore 8, 2) := by decide +kernel
theorem dX11_tellAll_116 : decode MX11_tellAll.2.1 116 = .ok (.iload 8, 2) := by decide +kernel
theorem dX11_tellAll_118 : decode MX11_tellAll.2.1 118 = .ok (.ifCond .ge 6, 3) := by decide +kernel
theorem dX11_tellAll_121 : decode MX11_tellAll.2.1 121 = .ok (.iload 5, 2) := by decide +kernel
theorem dX11_tellAll_123 : decode MX11_tellAll.2.1 123 = .ok (.ireturn, 1) := by decide +kernel
theorem dX11_tellAll_124 : decode MX11_tellAll.2.1 124 = .ok (.aload_n 0, 1) := by decide +kernel
theorem dX11_tellAll_125 : decode MX11_tellAll.2.1 125 = .ok (.getfield 41, 3) := by decide +kernel
theorem dX11_tellAll_128 : decode MX11_tellAll.2.1 128 = .ok (.getfield 231, 3) := by decide +kernel
theorem dX11_tellAll_131 : decode MX11_tellAll.2.1 131 = .ok (.bipush 24, 2) := by decide +kernel
theorem dX11_tellAll_133 : decode MX11_tellAll.2.1 133 = .ok (.dup2, 1) := by decide +kernel
theorem dX11_tellAll_134 : decode MX11_tellAll.2.1 134 = .ok (.iaload, 1) := by decide +kernel
theorem dX11_tellAll_135 : decode MX11_tellAll.2.1 135 = .ok (.iconst 1, 1) := by decide +kernel
theorem dX11_tellAll_136 : decode MX11_tellAll.2.1 136 = .ok (.iadd, 1) := by decide +kernel
theorem dX11_tellAll_137 : decode MX11_tellAll.2.1 137 = .ok (.iastore, 1) := by decide +kernel
theorem dX11_tellAll_138 : decode MX11_tellAll.2.1 138 = .ok (.aload_n 0, 1) := by decide +kernel
theorem dX11_tellAll_139 : decode MX11_tellAll.2.1 139 = .ok (.getfield 41, 3) := by decide +kernel
theorem dX11_tellAll_142 : decode MX11_tellAll.2.1 142 = .ok (.getfield 231, 3) := by decide +kernel
theorem dX11_tellAll_145 : decode MX11_tellAll.2.1 145 = .ok (.bipush 25, 2) := by decide +kernel
theorem dX11_tellAll_147 : decode MX11_tellAll.2.1 147 = .ok (.dup2, 1) := by decide +kernel
theorem dX11_tellAll_148 : decode MX11_tellAll.2.1 148 = .ok (.iaload, 1) := by decide +kernel
theorem dX11_tellAll_149 : decode MX11_tellAll.2.1 149 = .ok (.iload 8, 2) := by decide +kernel
theorem dX11_tellAll_151 : decode MX11_tellAll.2.1 151 = .ok (.iadd, 1) := by decide +kernel
theorem dX11_tellAll_152 : decode MX11_tellAll.2.1 152 = .ok (.iastore, 1) := by decide +kernel
theorem dX11_tellAll_153 : decode MX11_tellAll.2.1 153 = .ok (.iinc 6 1, 3) := by decide +kernel
theorem dX11_tellAll_156 : decode MX11_tellAll.2.1 156 = .ok (.goto (-105), 3) := by decide +kernel
theorem dX11_tellAll_159 : decode MX11_tellAll.2.1 159 = .ok (.iinc 5 1, 3) := by decide +kernel
theorem dX11_tellAll_162 : decode MX11_tellAll.2.1 162 = .ok (.goto (-123), 3) := by decide +kernel
theorem dX11_tellAll_165 : decode MX11_tellAll.2.1 165 = .ok (.iconst (-1), 1) := by decide +kernel
theorem dX11_tellAll_166 : decode MX11_tellAll.2.1 166 = .ok (.ireturn, 1) := by decide +kernel
theorem dX11_tellOnce_0 : decode MX11_tellOnce.2.1 0 = .ok (.aload_n 0, 1) := by decide +kernel
theorem dX11_tellOnce_1 : decode MX11_tellOnce.2.1 1 = .ok (.getfield 32, 3) := by decide +kernel
theorem dX11_tellOnce_4 : decode MX11_tellOnce.2.1 4 = .ok (.getfield 210, 3) := by decide +kernel
theorem dX11_tellOnce_7 : decode MX11_tellOnce.2.1 7 = .ok (.astore 4, 2) := by decide +kernel
theorem dX11_tellOnce_9 : decode MX11_tellOnce.2.1 9 = .ok (.aload 4, 2) := by decide +kernel
theorem dX11_tellOnce_11 : decode MX11_tellOnce.2.1 11 = .ok (.iload_n 2, 1) := by decide +kernel
theorem dX11_tellOnce_12 : decode MX11_tellOnce.2.1 12 = .ok (.invokevirtual 261, 3) := by decide +kernel
theorem dX11_tellOnce_15 : decode MX11_tellOnce.2.1 15 = .ok (.bipush 6, 2) := by decide +kernel
theorem dX11_tellOnce_17 : decode MX11_tellOnce.2.1 17 = .ok (.if_icmp .ne 35, 3) := by decide +kernel
theorem dX11_tellOnce_20 : decode MX11_tellOnce.2.1 20 = .ok (.aload_n 1, 1) := by decide +kernel
theorem dX11_tellOnce_21 : decode MX11_tellOnce.2.1 21 = .ok (.getfield 177, 3) := by decide +kernel
theorem dX11_tellOnce_24 : decode MX11_tellOnce.2.1 24 = .ok (.sipush 999, 3) := by decide +kernel
theorem dX11_tellOnce_27 : decode MX11_tellOnce.2.1 27 = .ok (.if_icmp .lt 6, 3) := by decide +kernel
theorem dX11_tellOnce_30 : decode MX11_tellOnce.2.1 30 = .ok (.bipush (-3), 2) := by decide +kernel
theorem dX11_tellOnce_32 : decode MX11_tellOnce.2.1 32 = .ok (.ireturn, 1) := by decide +kernel
theorem dX11_tellOnce_33 : decode MX11_tellOnce.2.1 33 = .ok (.iload_n 3, 1) := by decide +kernel
theorem dX11_tellOnce_34 : decode MX11_tellOnce.2.1 34 = .ok (.ifCond .eq 12, 3) := by decide +kernel
theorem dX11_tellOnce_37 : decode MX11_tellOnce.2.1 37 = .ok (.aload_n 0, 1) := by decide +kernel
theorem dX11_tellOnce_38 : decode MX11_tellOnce.2.1 38 = .ok (.getfield 25, 3) := by decide +kernel
theorem dX11_tellOnce_41 : decode MX11_tellOnce.2.1 41 = .ok (.aload_n 1, 1) := by decide +kernel
theorem dX11_tellOnce_42 : decode MX11_tellOnce.2.1 42 = .ok (.iconst 1, 1) := by decide +kernel
theorem dX11_tellOnce_43 : decode MX11_tellOnce.2.1 43 = .ok (.invokevirtual 264, 3) := by decide +kernel
theorem dX11_tellOnce_46 : decode MX11_tellOnce.2.1 46 = .ok (.aload_n 0, 1) := by decide +kernel
theorem dX11_tellOnce_47 : decode MX11_tellOnce.2.1 47 = .ok (.aload_n 1, 1) := by decide +kernel
theorem dX11_tellOnce_48 : decode MX11_tellOnce.2.1 48 = .ok (.invokevirtual 267, 3) := by decide +kernel
theorem dX11_tellOnce_51 : decode MX11_tellOnce.2.1 51 = .ok (.ireturn, 1) := by decide +kernel
theorem dX11_tellOnce_52 : decode MX11_tellOnce.2.1 52 = .ok (.aload_n 0, 1) := by decide +kernel
theorem dX11_tellOnce_53 : decode MX11_tellOnce.2.1 53 = .ok (.getfield 41, 3) := by decide +kernel
theorem dX11_tellOnce_56 : decode MX11_tellOnce.2.1 56 = .ok (.aload 4, 2) := by decide +kernel
theorem dX11_tellOnce_58 : decode MX11_tellOnce.2.1 58 = .ok (.getfield 250, 3) := by decide +kernel
theorem dX11_tellOnce_61 : decode MX11_tellOnce.2.1 61 = .ok (.aload 4, 2) := by decide +kernel
theorem dX11_tellOnce_63 : decode MX11_tellOnce.2.1 63 = .ok (.iload_n 2, 1) := by decide +kernel
theorem dX11_tellOnce_64 : decode MX11_tellOnce.2.1 64 = .ok (.iconst 0, 1) := by decide +kernel
theorem dX11_tellOnce_65 : decode MX11_tellOnce.2.1 65 = .ok (.invokevirtual 271, 3) := by decide +kernel
theorem dX11_tellOnce_68 : decode MX11_tellOnce.2.1 68 = .ok (.invokevirtual 253, 3) := by decide +kernel
theorem dX11_tellOnce_71 : decode MX11_tellOnce.2.1 71 = .ok (.istore 5, 2) := by decide +kernel
theorem dX11_tellOnce_73 : decode MX11_tellOnce.2.1 73 = .ok (.aload_n 0, 1) := by decide +kernel
theorem dX11_tellOnce_74 : decode MX11_tellOnce.2.1 74 = .ok (.getfield 41, 3) := by decide +kernel
theorem dX11_tellOnce_77 : decode MX11_tellOnce.2.1 77 = .ok (.aload 4, 2) := by decide +kernel
theorem dX11_tellOnce_79 : decode MX11_tellOnce.2.1 79 = .ok (.getfield 250, 3) := by decide +kernel
theorem dX11_tellOnce_82 : decode MX11_tellOnce.2.1 82 = .ok (.aload 4, 2) := by decide +kernel
theorem dX11_tellOnce_84 : decode MX11_tellOnce.2.1 84 = .ok (.iload_n 2, 1) := by decide +kernel
theorem dX11_tellOnce_85 : decode MX11_tellOnce.2.1 85 = .ok (.iconst 1, 1) := by decide +kernel
theorem dX11_tellOnce_86 : decode MX11_tellOnce.2.1 86 = .ok (.invokevirtual 271, 3) := by decide +kernel
theorem dX11_tellOnce_89 : decode MX11_tellOnce.2.1 89 = .ok (.invokevirtual 253, 3) := by decide +kernel
theorem dX11_tellOnce_92 : decode MX11_tellOnce.2.1 92 = .ok (.istore 6, 2) := by decide +kernel
theorem dX11_tellOnce_94 : decode MX11_tellOnce.2.1 94 = .ok (.aload_n 0, 1) := by decide +kernel
theorem dX11_tellOnce_95 : decode MX11_tellOnce.2.1 95 = .ok (.getfield 41, 3) := by decide +kernel
theorem dX11_tellOnce_98 : decode MX11_tellOnce.2.1 98 = .ok (.aload 4, 2) := by decide +kernel
theorem dX11_tellOnce_100 : decode MX11_tellOnce.2.1 100 = .ok (.getfield 250, 3) := by decide +kernel
theorem dX11_tellOnce_103 : decode MX11_tellOnce.2.1 103 = .ok (.aload 4, 2) := by decide +kernel
theorem dX11_tellOnce_105 : decode MX11_tellOnce.2.1 105 = .ok (.iload_n 2, 1) := by decide +kernel
theorem dX11_tellOnce_106 : decode MX11_tellOnce.2.1 106 = .ok (.iconst 2, 1) := by decide +kernel
theorem dX11_tellOnce_107 : decode MX11_tellOnce.2.1 107 = .ok (.invokevirtual 271, 3) := by decide +kernel
theorem dX11_tellOnce_110 : decode MX11_tellOnce.2.1 110 = .ok (.invokevirtual 253, 3) := by decide +kernel
theorem dX11_tellOnce_113 : decode MX11_tellOnce.2.1 113 = .ok (.istore 7, 2) := by decide +kernel
theorem dX11_tellOnce_115 : decode MX11_tellOnce.2.1 115 = .ok (.iload 6, 2) := by decide +kernel
theorem dX11_tellOnce_117 : decode MX11_tellOnce.2.1 117 = .ok (.invokestatic 274, 3) := by decide +kernel
theorem dX11_tellOnce_120 : decode MX11_tellOnce.2.1 120 = .ok (.ifCond .eq 40, 3) := by decide +kernel
theorem dX11_tellOnce_123 : decode MX11_tellOnce.2.1 123 = .ok (.iload 7, 2) := by decide +kernel
theorem dX11_tellOnce_125 : decode MX11_tellOnce.2.1 125 = .ok (.invokestatic 277, 3) := by decide +kernel
theorem dX11_tellOnce_128 : decode MX11_tellOnce.2.1 128 = .ok (.ifCond .eq 32, 3) := by decide +kernel
theorem dX11_tellOnce_131 : decode MX11_tellOnce.2.1 131 = .ok (.aload_n 0, 1) := by decide +kernel
theorem dX11_tellOnce_132 : decode MX11_tellOnce.2.1 132 = .ok (.getfield 14, 3) := by decide +kernel
theorem dX11_tellOnce_135 : decode MX11_tellOnce.2.1 135 = .ok (.getfield 150, 3) := by decide +kernel
theorem dX11_tellOnce_138 : decode MX11_tellOnce.2.1 138 = .ok (.iload 5, 2) := by decide +kernel
theorem dX11_tellOnce_140 : decode MX11_tellOnce.2.1 140 = .ok (.invokevirtual 162, 3) := by decide +kernel
theorem dX11_tellOnce_143 : decode MX11_tellOnce.2.1 143 = .ok (.ifCond .eq 17, 3) := by decide +kernel
theorem dX11_tellOnce_146 : decode MX11_tellOnce.2.1 146 = .ok (.aload_n 0, 1) := by decide +kernel
theorem dX11_tellOnce_147 : decode MX11_tellOnce.2.1 147 = .ok (.aload_n 1, 1) := by decide +kernel
theorem dX11_tellOnce_148 : decode MX11_tellOnce.2.1 148 = .ok (.iload 5, 2) := by decide +kernel
theorem dX11_tellOnce_150 : decode MX11_tellOnce.2.1 150 = .ok (.iload 6, 2) := by decide +kernel
theorem dX11_tellOnce_152 : decode MX11_tellOnce.2.1 152 = .ok (.iload 7, 2) := by decide +kernel
theorem dX11_tellOnce_154 : decode MX11_tellOnce.2.1 154 = .ok (.invokevirtual 280, 3) := by decide +kernel
theorem dX11_tellOnce_157 : decode MX11_tellOnce.2.1 157 = .ok (.ifCond .eq 6, 3) := by decide +kernel
theorem dX11_tellOnce_160 : decode MX11_tellOnce.2.1 160 = .ok (.bipush (-3), 2) := by decide +kernel
theorem dX11_tellOnce_162 : decode MX11_tellOnce.2.1 162 = .ok (.ireturn, 1) := by decide +kernel
theorem dX11_tellOnce_163 : decode MX11_tellOnce.2.1 163 = .ok (.iload_n 3, 1) := by decide +kernel
theorem dX11_tellOnce_164 : decode MX11_tellOnce.2.1 164 = .ok (.ifCond .eq 12, 3) := by decide +kernel
theorem dX11_tellOnce_167 : decode MX11_tellOnce.2.1 167 = .ok (.aload_n 0, 1) := by decide +kernel
theorem dX11_tellOnce_168 : decode MX11_tellOnce.2.1 168 = .ok (.getfield 25, 3) := by decide +kernel
theorem dX11_tellOnce_171 : decode MX11_tellOnce.2.1 171 = .ok (.aload_n 1, 1) := by decide +kernel
theorem dX11_tellOnce_172 : decode MX11_tellOnce.2.1 172 = .ok (.iconst 0, 1) := by decide +kernel
theorem dX11_tellOnce_173 : decode MX11_tellOnce.2.1 173 = .ok (.invokevirtual 264, 3) := by decide +kernel
theorem dX11_tellOnce_176 : decode MX11_tellOnce.2.1 176 = .ok (.aload_n 0, 1) := by decide +kernel
theorem dX11_tellOnce_177 : decode MX11_tellOnce.2.1 177 = .ok (.aload_n 1, 1) := by decide +kernel
theorem dX11_tellOnce_178 : decode MX11_tellOnce.2.1 178 = .ok (.iconst 0, 1) := by decide +kernel
theorem dX11_tellOnce_179 : decode MX11_tellOnce.2.1 179 = .ok (.iload 5, 2) := by decide +kernel
theorem dX11_tellOnce_181 : decode MX11_tellOnce.2.1 181 = .ok (.iload 6, 2) := by decide +kernel
theorem dX11_tellOnce_183 : decode MX11_tellOnce.2.1 183 = .ok (.iload 7, 2) := by decide +kernel
theorem dX11_tellOnce_185 : decode MX11_tellOnce.2.1 185 = .ok (.invokevirtual 284, 3) := by decide +kernel
theorem dX11_tellOnce_188 : decode MX11_tellOnce.2.1 188 = .ok (.ireturn, 1) := by decide +kernel
theorem dX11_fault_0 : decode MX11_fault.2.1 0 = .ok (.aload_n 0, 1) := by decide +kernel
theorem dX11_fault_1 : decode MX11_fault.2.1 1 = .ok (.getfield 32, 3) := by decide +kernel
theorem dX11_fault_4 : decode MX11_fault.2.1 4 = .ok (.getfield 288, 3) := by decide +kernel
theorem dX11_fault_7 : decode MX11_fault.2.1 7 = .ok (.ireturn, 1) := by decide +kernel
theorem dX11_stopped_0 : decode MX11_stopped.2.1 0 = .ok (.aload_n 0, 1) := by decide +kernel
theorem dX11_stopped_1 : decode MX11_stopped.2.1 1 = .ok (.getfield 92, 3) := by decide +kernel
theorem dX11_stopped_4 : decode MX11_stopped.2.1 4 = .ok (.ireturn, 1) := by decide +kernel
theorem dX11_force_0 : decode MX11_force.2.1 0 = .ok (.iload_n 1, 1) := by decide +kernel
theorem dX11_force_1 : decode MX11_force.2.1 1 = .ok (.iconst (-1), 1) := by decide +kernel
theorem dX11_force_2 : decode MX11_force.2.1 2 = .ok (.if_icmp .eq 27, 3) := by decide +kernel
theorem dX11_force_5 : decode MX11_force.2.1 5 = .ok (.iload_n 1, 1) := by decide +kernel
theorem dX11_force_6 : decode MX11_force.2.1 6 = .ok (.iconst 0, 1) := by decide +kernel
theorem dX11_force_7 : decode MX11_force.2.1 7 = .ok (.aload_n 0, 1) := by decide +kernel
theorem dX11_force_8 : decode MX11_force.2.1 8 = .ok (.getfield 14, 3) := by decide +kernel
theorem dX11_force_11 : decode MX11_force.2.1 11 = .ok (.getfield 199, 3) := by decide +kernel
theorem dX11_force_14 : decode MX11_force.2.1 14 = .ok (.iconst 1, 1) := by decide +kernel
theorem dX11_force_15 : decode MX11_force.2.1 15 = .ok (.isub, 1) := by decide +kernel
theorem dX11_force_16 : decode MX11_force.2.1 16 = .ok (.invokestatic 136, 3) := by decide +kernel
theorem dX11_force_19 : decode MX11_force.2.1 19 = .ok (.ifCond .ne 10, 3) := by decide +kernel
theorem dX11_force_22 : decode MX11_force.2.1 22 = .ok (.aload_n 0, 1) := by decide +kernel
theorem dX11_force_23 : decode MX11_force.2.1 23 = .ok (.bipush (-2), 2) := by decide +kernel
theorem dX11_force_25 : decode MX11_force.2.1 25 = .ok (.invokevirtual 104, 3) := by decide +kernel
theorem dX11_force_28 : decode MX11_force.2.1 28 = .ok (.ireturn, 1) := by decide +kernel
theorem dX11_force_29 : decode MX11_force.2.1 29 = .ok (.aload_n 0, 1) := by decide +kernel
theorem dX11_force_30 : decode MX11_force.2.1 30 = .ok (.getfield 14, 3) := by decide +kernel
theorem dX11_force_33 : decode MX11_force.2.1 33 = .ok (.getfield 291, 3) := by decide +kernel
theorem dX11_force_36 : decode MX11_force.2.1 36 = .ok (.istore_n 2, 1) := by decide +kernel
theorem dX11_force_37 : decode MX11_force.2.1 37 = .ok (.aload_n 0, 1) := by decide +kernel
theorem dX11_force_38 : decode MX11_force.2.1 38 = .ok (.getfield 14, 3) := by decide +kernel
theorem dX11_force_41 : decode MX11_force.2.1 41 = .ok (.iload_n 1, 1) := by decide +kernel
theorem dX11_force_42 : decode MX11_force.2.1 42 = .ok (.putfield 291, 3) := by decide +kernel
theorem dX11_force_45 : decode MX11_force.2.1 45 = .ok (.aload_n 0, 1) := by decide +kernel
theorem dX11_force_46 : decode MX11_force.2.1 46 = .ok (.iload_n 2, 1) := by decide +kernel
theorem dX11_force_47 : decode MX11_force.2.1 47 = .ok (.invokevirtual 133, 3) := by decide +kernel
theorem dX11_force_50 : decode MX11_force.2.1 50 = .ok (.ireturn, 1) := by decide +kernel
theorem dX11_asks_0 : decode MX11_asks.2.1 0 = .ok (.aload_n 0, 1) := by decide +kernel
theorem dX11_asks_1 : decode MX11_asks.2.1 1 = .ok (.getfield 14, 3) := by decide +kernel
theorem dX11_asks_4 : decode MX11_asks.2.1 4 = .ok (.getfield 150, 3) := by decide +kernel
theorem dX11_asks_7 : decode MX11_asks.2.1 7 = .ok (.iload_n 1, 1) := by decide +kernel
theorem dX11_asks_8 : decode MX11_asks.2.1 8 = .ok (.invokevirtual 162, 3) := by decide +kernel
theorem dX11_asks_11 : decode MX11_asks.2.1 11 = .ok (.ifCond .eq 27, 3) := by decide +kernel
theorem dX11_asks_14 : decode MX11_asks.2.1 14 = .ok (.iload_n 2, 1) := by decide +kernel
theorem dX11_asks_15 : decode MX11_asks.2.1 15 = .ok (.invokestatic 274, 3) := by decide +kernel
theorem dX11_asks_18 : decode MX11_asks.2.1 18 = .ok (.ifCond .eq 20, 3) := by decide +kernel
theorem dX11_asks_21 : decode MX11_asks.2.1 21 = .ok (.iload_n 3, 1) := by decide +kernel
theorem dX11_asks_22 : decode MX11_asks.2.1 22 = .ok (.invokestatic 277, 3) := by decide +kernel
theorem dX11_asks_25 : decode MX11_asks.2.1 25 = .ok (.ifCond .eq 13, 3) := by decide +kernel
theorem dX11_asks_28 : decode MX11_asks.2.1 28 = .ok (.iload 5, 2) := by decide +kernel
theorem dX11_asks_30 : decode MX11_asks.2.1 30 = .ok (.iconst 0, 1) := by decide +kernel
theorem dX11_asks_31 : decode MX11_asks.2.1 31 = .ok (.iconst 1, 1) := by decide +kernel
theorem dX11_asks_32 : decode MX11_asks.2.1 32 = .ok (.invokestatic 136, 3) := by decide +kernel
theorem dX11_asks_35 : decode MX11_asks.2.1 35 = .ok (.ifCond .ne 5, 3) := by decide +kernel
theorem dX11_asks_38 : decode MX11_asks.2.1 38 = .ok (.iconst (-1), 1) := by decide +kernel
theorem dX11_asks_39 : decode MX11_asks.2.1 39 = .ok (.ireturn, 1) := by decide +kernel
theorem dX11_asks_40 : decode MX11_asks.2.1 40 = .ok (.iload 5, 2) := by decide +kernel
theorem dX11_asks_42 : decode MX11_asks.2.1 42 = .ok (.iconst 1, 1) := by decide +kernel
theorem dX11_asks_43 : decode MX11_asks.2.1 43 = .ok (.if_icmp .ne 26, 3) := by decide +kernel
theorem dX11_asks_46 : decode MX11_asks.2.1 46 = .ok (.aload_n 0, 1) := by decide +kernel
theorem dX11_asks_47 : decode MX11_asks.2.1 47 = .ok (.aload_n 0, 1) := by decide +kernel
theorem dX11_asks_48 : decode MX11_asks.2.1 48 = .ok (.getfield 14, 3) := by decide +kernel
theorem dX11_asks_51 : decode MX11_asks.2.1 51 = .ok (.getfield 112, 3) := by decide +kernel
theorem dX11_asks_54 : decode MX11_asks.2.1 54 = .ok (.iload_n 1, 1) := by decide +kernel
theorem dX11_asks_55 : decode MX11_asks.2.1 55 = .ok (.iload_n 2, 1) := by decide +kernel
theorem dX11_asks_56 : decode MX11_asks.2.1 56 = .ok (.iload_n 3, 1) := by decide +kernel
theorem dX11_asks_57 : decode MX11_asks.2.1 57 = .ok (.invokevirtual 280, 3) := by decide +kernel
theorem dX11_asks_60 : decode MX11_asks.2.1 60 = .ok (.ifCond .eq 7, 3) := by decide +kernel
theorem dX11_asks_63 : decode MX11_asks.2.1 63 = .ok (.iconst 1, 1) := by decide +kernel
theorem dX11_asks_64 : decode MX11_asks.2.1 64 = .ok (.goto 4, 3) := by decide +kernel
theorem dX11_asks_67 : decode MX11_asks.2.1 67 = .ok (.iconst 0, 1) := by decide +kernel
theorem dX11_asks_68 : decode MX11_asks.2.1 68 = .ok (.ireturn, 1) := by decide +kernel
theorem dX11_asks_69 : decode MX11_asks.2.1 69 = .ok (.iload 4, 2) := by decide +kernel
theorem dX11_asks_71 : decode MX11_asks.2.1 71 = .ok (.invokestatic 96, 3) := by decide +kernel
theorem dX11_asks_74 : decode MX11_asks.2.1 74 = .ok (.ifCond .ne 5, 3) := by decide +kernel
theorem dX11_asks_77 : decode MX11_asks.2.1 77 = .ok (.iconst (-1), 1) := by decide +kernel
theorem dX11_asks_78 : decode MX11_asks.2.1 78 = .ok (.ireturn, 1) := by decide +kernel
theorem dX11_asks_79 : decode MX11_asks.2.1 79 = .ok (.aload_n 0, 1) := by decide +kernel
theorem dX11_asks_80 : decode MX11_asks.2.1 80 = .ok (.getfield 41, 3) := by decide +kernel
theorem dX11_asks_83 : decode MX11_asks.2.1 83 = .ok (.aload_n 0, 1) := by decide +kernel
theorem dX11_asks_84 : decode MX11_asks.2.1 84 = .ok (.getfield 14, 3) := by decide +kernel
theorem dX11_asks_87 : decode MX11_asks.2.1 87 = .ok (.getfield 112, 3) := by decide +kernel
theorem dX11_asks_90 : decode MX11_asks.2.1 90 = .ok (.getfield 177, 3) := by decide +kernel
theorem dX11_asks_93 : decode MX11_asks.2.1 93 = .ok (.invokevirtual 294, 3) := by decide +kernel
theorem dX11_asks_96 : decode MX11_asks.2.1 96 = .ok (.aload_n 0, 1) := by decide +kernel
theorem dX11_asks_97 : decode MX11_asks.2.1 97 = .ok (.getfield 41, 3) := by decide +kernel
theorem dX11_asks_100 : decode MX11_asks.2.1 100 = .ok (.iload_n 1, 1) := by decide +kernel
theorem dX11_asks_101 : decode MX11_asks.2.1 101 = .ok (.iload_n 2, 1) := by decide +kernel
theorem dX11_asks_102 : decode MX11_asks.2.1 102 = .ok (.iload_n 3, 1) := by decide +kernel
theorem dX11_asks_103 : decode MX11_asks.2.1 103 = .ok (.invokevirtual 297, 3) := by decide +kernel
theorem dX11_asks_106 : decode MX11_asks.2.1 106 = .ok (.aload_n 0, 1) := by decide +kernel
theorem dX11_asks_107 : decode MX11_asks.2.1 107 = .ok (.getfield 41, 3) := by decide +kernel
theorem dX11_asks_110 : decode MX11_asks.2.1 110 = .ok (.iload 4, 2) := by decide +kernel
theorem dX11_asks_112 : decode MX11_asks.2.1 112 = .ok (.aload_n 0, 1) := by decide +kernel
theorem dX11_asks_113 : decode MX11_asks.2.1 113 = .ok (.getfield 14, 3) := by decide +kernel
theorem dX11_asks_116 : decode MX11_asks.2.1 116 = .ok (.getfield 112, 3) := by decide +kernel
theorem dX11_asks_119 : decode MX11_asks.2.1 119 = .ok (.getfield 115, 3) := by decide +kernel
theorem dX11_asks_122 : decode MX11_asks.2.1 122 = .ok (.iload 4, 2) := by decide +kernel
theorem dX11_asks_124 : decode MX11_asks.2.1 124 = .ok (.iaload, 1) := by decide +kernel
theorem dX11_asks_125 : decode MX11_asks.2.1 125 = .ok (.invokevirtual 301, 3) := by decide +kernel
theorem dX11_asks_128 : decode MX11_asks.2.1 128 = .ok (.ireturn, 1) := by decide +kernel
theorem dX11_weather_0 : decode MX11_weather.2.1 0 = .ok (.iload_n 1, 1) := by decide +kernel
theorem dX11_weather_1 : decode MX11_weather.2.1 1 = .ok (.invokestatic 96, 3) := by decide +kernel
theorem dX11_weather_4 : decode MX11_weather.2.1 4 = .ok (.ifCond .eq 12, 3) := by decide +kernel
theorem dX11_weather_7 : decode MX11_weather.2.1 7 = .ok (.iload_n 2, 1) := by decide +kernel
theorem dX11_weather_8 : decode MX11_weather.2.1 8 = .ok (.iconst 0, 1) := by decide +kernel
theorem dX11_weather_9 : decode MX11_weather.2.1 9 = .ok (.iconst 1, 1) := by decide +kernel
theorem dX11_weather_10 : decode MX11_weather.2.1 10 = .ok (.invokestatic 136, 3) := by decide +kernel
theorem dX11_weather_13 : decode MX11_weather.2.1 13 = .ok (.ifCond .ne 5, 3) := by decide +kernel
theorem dX11_weather_16 : decode MX11_weather.2.1 16 = .ok (.iconst (-1), 1) := by decide +kernel
theorem dX11_weather_17 : decode MX11_weather.2.1 17 = .ok (.ireturn, 1) := by decide +kernel
theorem dX11_weather_18 : decode MX11_weather.2.1 18 = .ok (.aload_n 0, 1) := by decide +kernel
theorem dX11_weather_19 : decode MX11_weather.2.1 19 = .ok (.getfield 41, 3) := by decide +kernel
theorem dX11_weather_22 : decode MX11_weather.2.1 22 = .ok (.aload_n 0, 1) := by decide +kernel
theorem dX11_weather_23 : decode MX11_weather.2.1 23 = .ok (.getfield 14, 3) := by decide +kernel
theorem dX11_weather_26 : decode MX11_weather.2.1 26 = .ok (.getfield 112, 3) := by decide +kernel
theorem dX11_weather_29 : decode MX11_weather.2.1 29 = .ok (.getfield 177, 3) := by decide +kernel
theorem dX11_weather_32 : decode MX11_weather.2.1 32 = .ok (.invokevirtual 294, 3) := by decide +kernel
theorem dX11_weather_35 : decode MX11_weather.2.1 35 = .ok (.aload_n 0, 1) := by decide +kernel
theorem dX11_weather_36 : decode MX11_weather.2.1 36 = .ok (.getfield 41, 3) := by decide +kernel
theorem dX11_weather_39 : decode MX11_weather.2.1 39 = .ok (.iload_n 1, 1) := by decide +kernel
theorem dX11_weather_40 : decode MX11_weather.2.1 40 = .ok (.aload_n 0, 1) := by decide +kernel
theorem dX11_weather_41 : decode MX11_weather.2.1 41 = .ok (.getfield 14, 3) := by decide +kernel
theorem dX11_weather_44 : decode MX11_weather.2.1 44 = .ok (.getfield 112, 3) := by decide +kernel
theorem dX11_weather_47 : decode MX11_weather.2.1 47 = .ok (.getfield 115, 3) := by decide +kernel
theorem dX11_weather_50 : decode MX11_weather.2.1 50 = .ok (.iload_n 1, 1) := by decide +kernel
theorem dX11_weather_51 : decode MX11_weather.2.1 51 = .ok (.iaload, 1) := by decide +kernel
theorem dX11_weather_52 : decode MX11_weather.2.1 52 = .ok (.invokevirtual 304, 3) := by decide +kernel
theorem dX11_weather_55 : decode MX11_weather.2.1 55 = .ok (.iload_n 2, 1) := by decide +kernel
theorem dX11_weather_56 : decode MX11_weather.2.1 56 = .ok (.ifCond .ne 13, 3) := by decide +kernel
theorem dX11_weather_59 : decode MX11_weather.2.1 59 = .ok (.aload_n 0, 1) := by decide +kernel
theorem dX11_weather_60 : decode MX11_weather.2.1 60 = .ok (.getfield 41, 3) := by decide +kernel
theorem dX11_weather_63 : decode MX11_weather.2.1 63 = .ok (.invokevirtual 308, 3) := by decide +kernel
theorem dX11_weather_66 : decode MX11_weather.2.1 66 = .ok (.goto 10, 3) := by decide +kernel
theorem dX11_weather_69 : decode MX11_weather.2.1 69 = .ok (.aload_n 0, 1) := by decide +kernel
theorem dX11_weather_70 : decode MX11_weather.2.1 70 = .ok (.getfield 41, 3) := by decide +kernel
theorem dX11_weather_73 : decode MX11_weather.2.1 73 = .ok (.invokevirtual 312, 3) := by decide +kernel
theorem dX11_weather_76 : decode MX11_weather.2.1 76 = .ok (.ireturn, 1) := by decide +kernel
theorem dX11_say_0 : decode MX11_say.2.1 0 = .ok (.iload_n 1, 1) := by decide +kernel
theorem dX11_say_1 : decode MX11_say.2.1 1 = .ok (.iconst 0, 1) := by decide +kernel
theorem dX11_say_2 : decode MX11_say.2.1 2 = .ok (.iconst 5, 1) := by decide +kernel
theorem dX11_say_3 : decode MX11_say.2.1 3 = .ok (.invokestatic 136, 3) := by decide +kernel
theorem dX11_say_6 : decode MX11_say.2.1 6 = .ok (.ifCond .eq 18, 3) := by decide +kernel
theorem dX11_say_9 : decode MX11_say.2.1 9 = .ok (.iload_n 3, 1) := by decide +kernel
theorem dX11_say_10 : decode MX11_say.2.1 10 = .ok (.invokestatic 274, 3) := by decide +kernel
theorem dX11_say_13 : decode MX11_say.2.1 13 = .ok (.ifCond .eq 11, 3) := by decide +kernel
theorem dX11_say_16 : decode MX11_say.2.1 16 = .ok (.iload 4, 2) := by decide +kernel
theorem dX11_say_18 : decode MX11_say.2.1 18 = .ok (.invokestatic 277, 3) := by decide +kernel
theorem dX11_say_21 : decode MX11_say.2.1 21 = .ok (.ifCond .ne 9, 3) := by decide +kernel
theorem dX11_say_24 : decode MX11_say.2.1 24 = .ok (.aload_n 0, 1) := by decide +kernel
theorem dX11_say_25 : decode MX11_say.2.1 25 = .ok (.iconst (-1), 1) := by decide +kernel
theorem dX11_say_26 : decode MX11_say.2.1 26 = .ok (.invokevirtual 104, 3) := by decide +kernel
theorem dX11_say_29 : decode MX11_say.2.1 29 = .ok (.ireturn, 1) := by decide +kernel
theorem dX11_say_30 : decode MX11_say.2.1 30 = .ok (.aload_n 0, 1) := by decide +kernel
theorem dX11_say_31 : decode MX11_say.2.1 31 = .ok (.getfield 14, 3) := by decide +kernel
theorem dX11_say_34 : decode MX11_say.2.1 34 = .ok (.getfield 150, 3) := by decide +kernel
theorem dX11_say_37 : decode MX11_say.2.1 37 = .ok (.iload_n 2, 1) := by decide +kernel
theorem dX11_say_38 : decode MX11_say.2.1 38 = .ok (.invokevirtual 162, 3) := by decide +kernel
theorem dX11_say_41 : decode MX11_say.2.1 41 = .ok (.ifCond .ne 10, 3) := by decide +kernel
theorem dX11_say_44 : decode MX11_say.2.1 44 = .ok (.aload_n 0, 1) := by decide +kernel
theorem dX11_say_45 : decode MX11_say.2.1 45 = .ok (.bipush (-2), 2) := by decide +kernel
theorem dX11_say_47 : decode MX11_say.2.1 47 = .ok (.invokevirtual 104, 3) := by decide +kernel
theorem dX11_say_50 : decode MX11_say.2.1 50 = .ok (.ireturn, 1) := by decide +kernel
theorem dX11_say_51 : decode MX11_say.2.1 51 = .ok (.aload_n 0, 1) := by decide +kernel
theorem dX11_say_52 : decode MX11_say.2.1 52 = .ok (.aload_n 0, 1) := by decide +kernel
theorem dX11_say_53 : decode MX11_say.2.1 53 = .ok (.getfield 14, 3) := by decide +kernel
theorem dX11_say_56 : decode MX11_say.2.1 56 = .ok (.getfield 112, 3) := by decide +kernel
theorem dX11_say_59 : decode MX11_say.2.1 59 = .ok (.iload_n 2, 1) := by decide +kernel
theorem dX11_say_60 : decode MX11_say.2.1 60 = .ok (.iload_n 3, 1) := by decide +kernel
theorem dX11_say_61 : decode MX11_say.2.1 61 = .ok (.iload 4, 2) := by decide +kernel
theorem dX11_say_63 : decode MX11_say.2.1 63 = .ok (.invokevirtual 280, 3) := by decide +kernel
theorem dX11_say_66 : decode MX11_say.2.1 66 = .ok (.ifCond .eq 10, 3) := by decide +kernel
theorem dX11_say_69 : decode MX11_say.2.1 69 = .ok (.aload_n 0, 1) := by decide +kernel
theorem dX11_say_70 : decode MX11_say.2.1 70 = .ok (.bipush (-3), 2) := by decide +kernel
theorem dX11_say_72 : decode MX11_say.2.1 72 = .ok (.invokevirtual 104, 3) := by decide +kernel
theorem dX11_say_75 : decode MX11_say.2.1 75 = .ok (.ireturn, 1) := by decide +kernel
theorem dX11_say_76 : decode MX11_say.2.1 76 = .ok (.aload_n 0, 1) := by decide +kernel
theorem dX11_say_77 : decode MX11_say.2.1 77 = .ok (.getfield 25, 3) := by decide +kernel
theorem dX11_say_80 : decode MX11_say.2.1 80 = .ok (.aload_n 0, 1) := by decide +kernel
theorem dX11_say_81 : decode MX11_say.2.1 81 = .ok (.getfield 14, 3) := by decide +kernel
theorem dX11_say_84 : decode MX11_say.2.1 84 = .ok (.getfield 112, 3) := by decide +kernel
theorem dX11_say_87 : decode MX11_say.2.1 87 = .ok (.iconst 0, 1) := by decide +kernel
theorem dX11_say_88 : decode MX11_say.2.1 88 = .ok (.invokevirtual 264, 3) := by decide +kernel
theorem dX11_say_91 : decode MX11_say.2.1 91 = .ok (.aload_n 0, 1) := by decide +kernel
theorem dX11_say_92 : decode MX11_say.2.1 92 = .ok (.aload_n 0, 1) := by decide +kernel
theorem dX11_say_93 : decode MX11_say.2.1 93 = .ok (.aload_n 0, 1) := by decide +kernel
theorem dX11_say_94 : decode MX11_say.2.1 94 = .ok (.getfield 14, 3) := by decide +kernel
theorem dX11_say_97 : decode MX11_say.2.1 97 = .ok (.getfield 112, 3) := by decide +kernel
theorem dX11_say_100 : decode MX11_say.2.1 100 = .ok (.iload_n 1, 1) := by decide +kernel
theorem dX11_say_101 : decode MX11_say.2.1 101 = .ok (.iload_n 2, 1) := by decide +kernel
theorem dX11_say_102 : decode MX11_say.2.1 102 = .ok (.iload_n 3, 1) := by decide +kernel
theorem dX11_say_103 : decode MX11_say.2.1 103 = .ok (.iload 4, 2) := by decide +kernel
theorem dX11_say_105 : decode MX11_say.2.1 105 = .ok (.invokevirtual 284, 3) := by decide +kernel
theorem dX11_say_108 : decode MX11_say.2.1 108 = .ok (.invokevirtual 133, 3) := by decide +kernel
theorem dX11_say_111 : decode MX11_say.2.1 111 = .ok (.ireturn, 1) := by decide +kernel
theorem dX11_isBarred_0 : decode MX11_isBarred.2.1 0 = .ok (.aload_n 0, 1) := by decide +kernel
theorem dX11_isBarred_1 : decode MX11_isBarred.2.1 1 = .ok (.getfield 41, 3) := by decide +kernel
theorem dX11_isBarred_4 : decode MX11_isBarred.2.1 4 = .ok (.aload_n 1, 1) := by decide +kernel
theorem dX11_isBarred_5 : decode MX11_isBarred.2.1 5 = .ok (.getfield 177, 3) := by decide +kernel
theorem dX11_isBarred_8 : decode MX11_isBarred.2.1 8 = .ok (.invokevirtual 294, 3) := by decide +kernel
theorem dX11_isBarred_11 : decode MX11_isBarred.2.1 11 = .ok (.aload_n 0, 1) := by decide +kernel
theorem dX11_isBarred_12 : decode MX11_isBarred.2.1 12 = .ok (.getfield 41, 3) := by decide +kernel
theorem dX11_isBarred_15 : decode MX11_isBarred.2.1 15 = .ok (.iload_n 2, 1) := by decide +kernel
theorem dX11_isBarred_16 : decode MX11_isBarred.2.1 16 = .ok (.iload_n 3, 1) := by decide +kernel
theorem dX11_isBarred_17 : decode MX11_isBarred.2.1 17 = .ok (.iload 4, 2) := by decide +kernel
theorem dX11_isBarred_19 : decode MX11_isBarred.2.1 19 = .ok (.invokevirtual 297, 3) := by decide +kernel
theorem dX11_isBarred_22 : decode MX11_isBarred.2.1 22 = .ok (.aload_n 0, 1) := by decide +kernel
theorem dX11_isBarred_23 : decode MX11_isBarred.2.1 23 = .ok (.getfield 41, 3) := by decide +kernel
theorem dX11_isBarred_26 : decode MX11_isBarred.2.1 26 = .ok (.invokevirtual 315, 3) := by decide +kernel
theorem dX11_isBarred_29 : decode MX11_isBarred.2.1 29 = .ok (.ireturn, 1) := by decide +kernel
theorem dX11_utter_0 : decode MX11_utter.2.1 0 = .ok (.aload_n 0, 1) := by decide +kernel
theorem dX11_utter_1 : decode MX11_utter.2.1 1 = .ok (.getfield 41, 3) := by decide +kernel
theorem dX11_utter_4 : decode MX11_utter.2.1 4 = .ok (.aload_n 1, 1) := by decide +kernel
theorem dX11_utter_5 : decode MX11_utter.2.1 5 = .ok (.getfield 177, 3) := by decide +kernel
theorem dX11_utter_8 : decode MX11_utter.2.1 8 = .ok (.invokevirtual 294, 3) := by decide +kernel
theorem dX11_utter_11 : decode MX11_utter.2.1 11 = .ok (.aload_n 0, 1) := by decide +kernel
theorem dX11_utter_12 : decode MX11_utter.2.1 12 = .ok (.getfield 41, 3) := by decide +kernel
theorem dX11_utter_15 : decode MX11_utter.2.1 15 = .ok (.iload_n 3, 1) := by decide +kernel
theorem dX11_utter_16 : decode MX11_utter.2.1 16 = .ok (.iload 4, 2) := by decide +kernel
theorem dX11_utter_18 : decode MX11_utter.2.1 18 = .ok (.iload 5, 2) := by decide +kernel
theorem dX11_utter_20 : decode MX11_utter.2.1 20 = .ok (.invokevirtual 297, 3) := by decide +kernel
theorem dX11_utter_23 : decode MX11_utter.2.1 23 = .ok (.iconst 0, 1) := by decide +kernel
theorem dX11_utter_24 : decode MX11_utter.2.1 24 = .ok (.istore 6, 2) := by decide +kernel
theorem dX11_utter_26 : decode MX11_utter.2.1 26 = .ok (.iload 6, 2) := by decide +kernel
theorem dX11_utter_28 : decode MX11_utter.2.1 28 = .ok (.bipush 6, 2) := by decide +kernel
theorem dX11_utter_30 : decode MX11_utter.2.1 30 = .ok (.if_icmp .ge 32, 3) := by decide +kernel
theorem dX11_utter_33 : decode MX11_utter.2.1 33 = .ok (.aload_n 1, 1) := by decide +kernel
theorem dX11_utter_34 : decode MX11_utter.2.1 34 = .ok (.iload 6, 2) := by decide +kernel
theorem dX11_utter_36 : decode MX11_utter.2.1 36 = .ok (.iload_n 2, 1) := by decide +kernel
theorem dX11_utter_37 : decode MX11_utter.2.1 37 = .ok (.aload_n 0, 1) := by decide +kernel
theorem dX11_utter_38 : decode MX11_utter.2.1 38 = .ok (.getfield 41, 3) := by decide +kernel
theorem dX11_utter_41 : decode MX11_utter.2.1 41 = .ok (.iload 6, 2) := by decide +kernel
theorem dX11_utter_43 : decode MX11_utter.2.1 43 = .ok (.aload_n 1, 1) := by decide +kernel
theorem dX11_utter_44 : decode MX11_utter.2.1 44 = .ok (.getfield 115, 3) := by decide +kernel
theorem dX11_utter_47 : decode MX11_utter.2.1 47 = .ok (.iload 6, 2) := by decide +kernel
theorem dX11_utter_49 : decode MX11_utter.2.1 49 = .ok (.iaload, 1) := by decide +kernel
theorem dX11_utter_50 : decode MX11_utter.2.1 50 = .ok (.invokevirtual 301, 3) := by decide +kernel
theorem dX11_utter_53 : decode MX11_utter.2.1 53 = .ok (.invokevirtual 318, 3) := by decide +kernel
theorem dX11_utter_56 : decode MX11_utter.2.1 56 = .ok (.iinc 6 1, 3) := by decide +kernel
theorem dX11_utter_59 : decode MX11_utter.2.1 59 = .ok (.goto (-33), 3) := by decide +kernel
theorem dX11_utter_62 : decode MX11_utter.2.1 62 = .ok (.aload_n 1, 1) := by decide +kernel
theorem dX11_utter_63 : decode MX11_utter.2.1 63 = .ok (.aload_n 0, 1) := by decide +kernel
theorem dX11_utter_64 : decode MX11_utter.2.1 64 = .ok (.getfield 14, 3) := by decide +kernel
theorem dX11_utter_67 : decode MX11_utter.2.1 67 = .ok (.invokevirtual 321, 3) := by decide +kernel
theorem dX11_utter_70 : decode MX11_utter.2.1 70 = .ok (.ireturn, 1) := by decide +kernel
theorem dX11_dawn_0 : decode MX11_dawn.2.1 0 = .ok (.aload_n 0, 1) := by decide +kernel
theorem dX11_dawn_1 : decode MX11_dawn.2.1 1 = .ok (.getfield 14, 3) := by decide +kernel
theorem dX11_dawn_4 : decode MX11_dawn.2.1 4 = .ok (.getfield 112, 3) := by decide +kernel
theorem dX11_dawn_7 : decode MX11_dawn.2.1 7 = .ok (.getfield 177, 3) := by decide +kernel
theorem dX11_dawn_10 : decode MX11_dawn.2.1 10 = .ok (.sipush 999, 3) := by decide +kernel
theorem dX11_dawn_13 : decode MX11_dawn.2.1 13 = .ok (.if_icmp .lt 10, 3) := by decide +kernel
theorem dX11_dawn_16 : decode MX11_dawn.2.1 16 = .ok (.aload_n 0, 1) := by decide +kernel
theorem dX11_dawn_17 : decode MX11_dawn.2.1 17 = .ok (.bipush (-3), 2) := by decide +kernel
theorem dX11_dawn_19 : decode MX11_dawn.2.1 19 = .ok (.invokevirtual 104, 3) := by decide +kernel
theorem dX11_dawn_22 : decode MX11_dawn.2.1 22 = .ok (.ireturn, 1) := by decide +kernel
theorem dX11_dawn_23 : decode MX11_dawn.2.1 23 = .ok (.aload_n 0, 1) := by decide +kernel
theorem dX11_dawn_24 : decode MX11_dawn.2.1 24 = .ok (.getfield 25, 3) := by decide +kernel
theorem dX11_dawn_27 : decode MX11_dawn.2.1 27 = .ok (.aload_n 0, 1) := by decide +kernel
theorem dX11_dawn_28 : decode MX11_dawn.2.1 28 = .ok (.getfield 14, 3) := by decide +kernel
theorem dX11_dawn_31 : decode MX11_dawn.2.1 31 = .ok (.getfield 112, 3) := by decide +kernel
theorem dX11_dawn_34 : decode MX11_dawn.2.1 34 = .ok (.iconst 1, 1) := by decide +kernel
theorem dX11_dawn_35 : decode MX11_dawn.2.1 35 = .ok (.invokevirtual 264, 3) := by decide +kernel
theorem dX11_dawn_38 : decode MX11_dawn.2.1 38 = .ok (.aload_n 0, 1) := by decide +kernel
theorem dX11_dawn_39 : decode MX11_dawn.2.1 39 = .ok (.aload_n 0, 1) := by decide +kernel
theorem dX11_dawn_40 : decode MX11_dawn.2.1 40 = .ok (.aload_n 0, 1) := by decide +kernel
theorem dX11_dawn_41 : decode MX11_dawn.2.1 41 = .ok (.getfield 14, 3) := by decide +kernel
theorem dX11_dawn_44 : decode MX11_dawn.2.1 44 = .ok (.getfield 112, 3) := by decide +kernel
theorem dX11_dawn_47 : decode MX11_dawn.2.1 47 = .ok (.invokevirtual 267, 3) := by decide +kernel
theorem dX11_dawn_50 : decode MX11_dawn.2.1 50 = .ok (.invokevirtual 133, 3) := by decide +kernel
theorem dX11_dawn_53 : decode MX11_dawn.2.1 53 = .ok (.ireturn, 1) := by decide +kernel
theorem dX11_passNight_0 : decode MX11_passNight.2.1 0 = .ok (.aload_n 1, 1) := by decide +kernel
theorem dX11_passNight_1 : decode MX11_passNight.2.1 1 = .ok (.dup, 1) := by decide +kernel
theorem dX11_passNight_2 : decode MX11_passNight.2.1 2 = .ok (.getfield 177, 3) := by decide +kernel
theorem dX11_passNight_5 : decode MX11_passNight.2.1 5 = .ok (.iconst 1, 1) := by decide +kernel
theorem dX11_passNight_6 : decode MX11_passNight.2.1 6 = .ok (.iadd, 1) := by decide +kernel
theorem dX11_passNight_7 : decode MX11_passNight.2.1 7 = .ok (.putfield 177, 3) := by decide +kernel
theorem dX11_passNight_10 : decode MX11_passNight.2.1 10 = .ok (.aload_n 0, 1) := by decide +kernel
theorem dX11_passNight_11 : decode MX11_passNight.2.1 11 = .ok (.getfield 41, 3) := by decide +kernel
theorem dX11_passNight_14 : decode MX11_passNight.2.1 14 = .ok (.aload_n 1, 1) := by decide +kernel
theorem dX11_passNight_15 : decode MX11_passNight.2.1 15 = .ok (.getfield 177, 3) := by decide +kernel
theorem dX11_passNight_18 : decode MX11_passNight.2.1 18 = .ok (.invokevirtual 294, 3) := by decide +kernel
theorem dX11_passNight_21 : decode MX11_passNight.2.1 21 = .ok (.iconst 0, 1) := by decide +kernel
theorem dX11_passNight_22 : decode MX11_passNight.2.1 22 = .ok (.istore_n 2, 1) := by decide +kernel
theorem dX11_passNight_23 : decode MX11_passNight.2.1 23 = .ok (.iload_n 2, 1) := by decide +kernel
theorem dX11_passNight_24 : decode MX11_passNight.2.1 24 = .ok (.bipush 6, 2) := by decide +kernel
theorem dX11_passNight_26 : decode MX11_passNight.2.1 26 = .ok (.if_icmp .ge 60, 3) := by decide +kernel
theorem dX11_passNight_29 : decode MX11_passNight.2.1 29 = .ok (.aload_n 0, 1) := by decide +kernel
theorem dX11_passNight_30 : decode MX11_passNight.2.1 30 = .ok (.getfield 41, 3) := by decide +kernel
theorem dX11_passNight_33 : decode MX11_passNight.2.1 33 = .ok (.iload_n 2, 1) := by decide +kernel
theorem dX11_passNight_34 : decode MX11_passNight.2.1 34 = .ok (.aload_n 1, 1) := by decide +kernel
theorem dX11_passNight_35 : decode MX11_passNight.2.1 35 = .ok (.getfield 115, 3) := by decide +kernel
theorem dX11_passNight_38 : decode MX11_passNight.2.1 38 = .ok (.iload_n 2, 1) := by decide +kernel
theorem dX11_passNight_39 : decode MX11_passNight.2.1 39 = .ok (.iaload, 1) := by decide +kernel
theorem dX11_passNight_40 : decode MX11_passNight.2.1 40 = .ok (.invokevirtual 304, 3) := by decide +kernel
theorem dX11_passNight_43 : decode MX11_passNight.2.1 43 = .ok (.aload_n 1, 1) := by decide +kernel
theorem dX11_passNight_44 : decode MX11_passNight.2.1 44 = .ok (.getfield 115, 3) := by decide +kernel
theorem dX11_passNight_47 : decode MX11_passNight.2.1 47 = .ok (.iload_n 2, 1) := by decide +kernel
theorem dX11_passNight_48 : decode MX11_passNight.2.1 48 = .ok (.iaload, 1) := by decide +kernel
theorem dX11_passNight_49 : decode MX11_passNight.2.1 49 = .ok (.aload_n 0, 1) := by decide +kernel
theorem dX11_passNight_50 : decode MX11_passNight.2.1 50 = .ok (.getfield 41, 3) := by decide +kernel
theorem dX11_passNight_53 : decode MX11_passNight.2.1 53 = .ok (.invokevirtual 308, 3) := by decide +kernel
theorem dX11_passNight_56 : decode MX11_passNight.2.1 56 = .ok (.iadd, 1) := by decide +kernel
theorem dX11_passNight_57 : decode MX11_passNight.2.1 57 = .ok (.aload_n 0, 1) := by decide +kernel
theorem dX11_passNight_58 : decode MX11_passNight.2.1 58 = .ok (.getfield 41, 3) := by decide +kernel
theorem dX11_passNight_61 : decode MX11_passNight.2.1 61 = .ok (.invokevirtual 312, 3) := by decide +kernel
theorem dX11_passNight_64 : decode MX11_passNight.2.1 64 = .ok (.isub, 1) := by decide +kernel
theorem dX11_passNight_65 : decode MX11_passNight.2.1 65 = .ok (.istore_n 3, 1) := by decide +kernel
theorem dX11_passNight_66 : decode MX11_passNight.2.1 66 = .ok (.aload_n 1, 1) := by decide +kernel
theorem dX11_passNight_67 : decode MX11_passNight.2.1 67 = .ok (.getfield 115, 3) := by decide +kernel
theorem dX11_passNight_70 : decode MX11_passNight.2.1 70 = .ok (.iload_n 2, 1) := by decide +kernel
theorem dX11_passNight_71 : decode MX11_passNight.2.1 71 = .ok (.iload_n 3, 1) := by decide +kernel
theorem dX11_passNight_72 : decode MX11_passNight.2.1 72 = .ok (.iconst 0, 1) := by decide +kernel
theorem dX11_passNight_73 : decode MX11_passNight.2.1 73 = .ok (.sipush 9999, 3) := by decide +kernel
theorem dX11_passNight_76 : decode MX11_passNight.2.1 76 = .ok (.invokestatic 325, 3) := by decide +kernel
theorem dX11_passNight_79 : decode MX11_passNight.2.1 79 = .ok (.iastore, 1) := by decide +kernel
theorem dX11_passNight_80 : decode MX11_passNight.2.1 80 = .ok (.iinc 2 1, 3) := by decide +kernel
theorem dX11_passNight_83 : decode MX11_passNight.2.1 83 = .ok (.goto (-60), 3) := by decide +kernel
theorem dX11_passNight_86 : decode MX11_passNight.2.1 86 = .ok (.aload_n 1, 1) := by decide +kernel
theorem dX11_passNight_87 : decode MX11_passNight.2.1 87 = .ok (.invokevirtual 328, 3) := by decide +kernel
theorem dX11_passNight_90 : decode MX11_passNight.2.1 90 = .ok (.aload_n 1, 1) := by decide +kernel
theorem dX11_passNight_91 : decode MX11_passNight.2.1 91 = .ok (.aload_n 0, 1) := by decide +kernel
theorem dX11_passNight_92 : decode MX11_passNight.2.1 92 = .ok (.getfield 14, 3) := by decide +kernel
theorem dX11_passNight_95 : decode MX11_passNight.2.1 95 = .ok (.invokevirtual 321, 3) := by decide +kernel
theorem dX11_passNight_98 : decode MX11_passNight.2.1 98 = .ok (.ireturn, 1) := by decide +kernel
theorem dX11_undo_0 : decode MX11_undo.2.1 0 = .ok (.aload_n 0, 1) := by decide +kernel
theorem dX11_undo_1 : decode MX11_undo.2.1 1 = .ok (.getfield 25, 3) := by decide +kernel
theorem dX11_undo_4 : decode MX11_undo.2.1 4 = .ok (.getfield 331, 3) := by decide +kernel
theorem dX11_undo_7 : decode MX11_undo.2.1 7 = .ok (.ifCond .ne 10, 3) := by decide +kernel
theorem dX11_undo_10 : decode MX11_undo.2.1 10 = .ok (.aload_n 0, 1) := by decide +kernel
theorem dX11_undo_11 : decode MX11_undo.2.1 11 = .ok (.bipush (-3), 2) := by decide +kernel
theorem dX11_undo_13 : decode MX11_undo.2.1 13 = .ok (.invokevirtual 104, 3) := by decide +kernel
theorem dX11_undo_16 : decode MX11_undo.2.1 16 = .ok (.ireturn, 1) := by decide +kernel
theorem dX11_undo_17 : decode MX11_undo.2.1 17 = .ok (.aload_n 0, 1) := by decide +kernel
theorem dX11_undo_18 : decode MX11_undo.2.1 18 = .ok (.aload_n 0, 1) := by decide +kernel
theorem dX11_undo_19 : decode MX11_undo.2.1 19 = .ok (.getfield 25, 3) := by decide +kernel
theorem dX11_undo_22 : decode MX11_undo.2.1 22 = .ok (.aload_n 0, 1) := by decide +kernel
theorem dX11_undo_23 : decode MX11_undo.2.1 23 = .ok (.getfield 14, 3) := by decide +kernel
theorem dX11_undo_26 : decode MX11_undo.2.1 26 = .ok (.getfield 112, 3) := by decide +kernel
theorem dX11_undo_29 : decode MX11_undo.2.1 29 = .ok (.invokevirtual 334, 3) := by decide +kernel
theorem dX11_undo_32 : decode MX11_undo.2.1 32 = .ok (.invokevirtual 133, 3) := by decide +kernel
theorem dX11_undo_35 : decode MX11_undo.2.1 35 = .ok (.ireturn, 1) := by decide +kernel
theorem dX11_share_0 : decode MX11_share.2.1 0 = .ok (.iload_n 1, 1) := by decide +kernel
theorem dX11_share_1 : decode MX11_share.2.1 1 = .ok (.invokestatic 96, 3) := by decide +kernel
theorem dX11_share_4 : decode MX11_share.2.1 4 = .ok (.ifCond .eq 21, 3) := by decide +kernel
theorem dX11_share_7 : decode MX11_share.2.1 7 = .ok (.iload_n 2, 1) := by decide +kernel
theorem dX11_share_8 : decode MX11_share.2.1 8 = .ok (.iconst 0, 1) := by decide +kernel
theorem dX11_share_9 : decode MX11_share.2.1 9 = .ok (.iconst 5, 1) := by decide +kernel
theorem dX11_share_10 : decode MX11_share.2.1 10 = .ok (.invokestatic 136, 3) := by decide +kernel
theorem dX11_share_13 : decode MX11_share.2.1 13 = .ok (.ifCond .eq 12, 3) := by decide +kernel
theorem dX11_share_16 : decode MX11_share.2.1 16 = .ok (.iload_n 3, 1) := by decide +kernel
theorem dX11_share_17 : decode MX11_share.2.1 17 = .ok (.iconst 0, 1) := by decide +kernel
theorem dX11_share_18 : decode MX11_share.2.1 18 = .ok (.iconst 1, 1) := by decide +kernel
theorem dX11_share_19 : decode MX11_share.2.1 19 = .ok (.invokestatic 136, 3) := by decide +kernel
theorem dX11_share_22 : decode MX11_share.2.1 22 = .ok (.ifCond .ne 5, 3) := by decide +kernel
theorem dX11_share_25 : decode MX11_share.2.1 25 = .ok (.iconst (-1), 1) := by decide +kernel
theorem dX11_share_26 : decode MX11_share.2.1 26 = .ok (.ireturn, 1) := by decide +kernel
theorem dX11_share_27 : decode MX11_share.2.1 27 = .ok (.iconst 0, 1) := by decide +kernel
theorem dX11_share_28 : decode MX11_share.2.1 28 = .ok (.istore 4, 2) := by decide +kernel
theorem dX11_share_30 : decode MX11_share.2.1 30 = .ok (.iconst 0, 1) := by decide +kernel
theorem dX11_share_31 : decode MX11_share.2.1 31 = .ok (.istore 5, 2) := by decide +kernel
theorem dX11_share_33 : decode MX11_share.2.1 33 = .ok (.iload 5, 2) := by decide +kernel
theorem dX11_share_35 : decode MX11_share.2.1 35 = .ok (.bipush 6, 2) := by decide +kernel
theorem dX11_share_37 : decode MX11_share.2.1 37 = .ok (.if_icmp .ge 32, 3) := by decide +kernel
theorem dX11_share_40 : decode MX11_share.2.1 40 = .ok (.iload 4, 2) := by decide +kernel
theorem dX11_share_42 : decode MX11_share.2.1 42 = .ok (.aload_n 0, 1) := by decide +kernel
theorem dX11_share_43 : decode MX11_share.2.1 43 = .ok (.getfield 14, 3) := by decide +kernel
theorem dX11_share_46 : decode MX11_share.2.1 46 = .ok (.getfield 112, 3) := by decide +kernel
theorem dX11_share_49 : decode MX11_share.2.1 49 = .ok (.getfield 337, 3) := by decide +kernel
theorem dX11_share_52 : decode MX11_share.2.1 52 = .ok (.iload_n 1, 1) := by decide +kernel
theorem dX11_share_53 : decode MX11_share.2.1 53 = .ok (.bipush 6, 2) := by decide +kernel
theorem dX11_share_55 : decode MX11_share.2.1 55 = .ok (.imul, 1) := by decide +kernel
theorem dX11_share_56 : decode MX11_share.2.1 56 = .ok (.iload 5, 2) := by decide +kernel
theorem dX11_share_58 : decode MX11_share.2.1 58 = .ok (.iadd, 1) := by decide +kernel
theorem dX11_share_59 : decode MX11_share.2.1 59 = .ok (.iaload, 1) := by decide +kernel
theorem dX11_share_60 : decode MX11_share.2.1 60 = .ok (.iadd, 1) := by decide +kernel
theorem dX11_share_61 : decode MX11_share.2.1 61 = .ok (.istore 4, 2) := by decide +kernel
theorem dX11_share_63 : decode MX11_share.2.1 63 = .ok (.iinc 5 1, 3) := by decide +kernel
theorem dX11_share_66 : decode MX11_share.2.1 66 = .ok (.goto (-33), 3) := by decide +kernel
theorem dX11_share_69 : decode MX11_share.2.1 69 = .ok (.iload 4, 2) := by decide +kernel
theorem dX11_share_71 : decode MX11_share.2.1 71 = .ok (.ifCond .gt 5, 3) := by decide +kernel
theorem dX11_share_74 : decode MX11_share.2.1 74 = .ok (.iconst (-1), 1) := by decide +kernel
theorem dX11_share_75 : decode MX11_share.2.1 75 = .ok (.ireturn, 1) := by decide +kernel
theorem dX11_share_76 : decode MX11_share.2.1 76 = .ok (.aload_n 0, 1) := by decide +kernel
theorem dX11_share_77 : decode MX11_share.2.1 77 = .ok (.getfield 14, 3) := by decide +kernel
theorem dX11_share_80 : decode MX11_share.2.1 80 = .ok (.getfield 112, 3) := by decide +kernel
theorem dX11_share_83 : decode MX11_share.2.1 83 = .ok (.getfield 337, 3) := by decide +kernel
theorem dX11_share_86 : decode MX11_share.2.1 86 = .ok (.iload_n 1, 1) := by decide +kernel
theorem dX11_share_87 : decode MX11_share.2.1 87 = .ok (.bipush 6, 2) := by decide +kernel
theorem dX11_share_89 : decode MX11_share.2.1 89 = .ok (.imul, 1) := by decide +kernel
theorem dX11_share_90 : decode MX11_share.2.1 90 = .ok (.iload_n 2, 1) := by decide +kernel
theorem dX11_share_91 : decode MX11_share.2.1 91 = .ok (.iadd, 1) := by decide +kernel
theorem dX11_share_92 : decode MX11_share.2.1 92 = .ok (.iaload, 1) := by decide +kernel
theorem dX11_share_93 : decode MX11_share.2.1 93 = .ok (.istore 5, 2) := by decide +kernel
theorem dX11_share_95 : decode MX11_share.2.1 95 = .ok (.iload 4, 2) := by decide +kernel
theorem dX11_share_97 : decode MX11_share.2.1 97 = .ok (.iload 5, 2) := by decide +kernel
theorem dX11_share_99 : decode MX11_share.2.1 99 = .ok (.invokestatic 340, 3) := by decide +kernel
theorem dX11_share_102 : decode MX11_share.2.1 102 = .ok (.istore 6, 2) := by decide +kernel
theorem dX11_share_104 : decode MX11_share.2.1 104 = .ok (.iload_n 3, 1) := by decide +kernel
theorem dX11_share_105 : decode MX11_share.2.1 105 = .ok (.ifCond .ne 8, 3) := by decide +kernel
theorem dX11_share_108 : decode MX11_share.2.1 108 = .ok (.iload 5, 2) := by decide +kernel
theorem dX11_share_110 : decode MX11_share.2.1 110 = .ok (.goto 5, 3) := by decide +kernel
theorem dX11_share_113 : decode MX11_share.2.1 113 = .ok (.iload 4, 2) := by decide +kernel
theorem dX11_share_115 : decode MX11_share.2.1 115 = .ok (.iload 6, 2) := by decide +kernel
theorem dX11_share_117 : decode MX11_share.2.1 117 = .ok (.idiv, 1) := by decide +kernel
theorem dX11_share_118 : decode MX11_share.2.1 118 = .ok (.ireturn, 1) := by decide +kernel
theorem dX11_commonDivisor_0 : decode MX11_commonDivisor.2.1 0 = .ok (.iload_n 0, 1) := by decide +kernel
theorem dX11_commonDivisor_1 : decode MX11_commonDivisor.2.1 1 = .ok (.istore_n 2, 1) := by decide +kernel
theorem dX11_commonDivisor_2 : decode MX11_commonDivisor.2.1 2 = .ok (.iload_n 1, 1) := by decide +kernel
theorem dX11_commonDivisor_3 : decode MX11_commonDivisor.2.1 3 = .ok (.istore_n 3, 1) := by decide +kernel
theorem dX11_commonDivisor_4 : decode MX11_commonDivisor.2.1 4 = .ok (.iconst 0, 1) := by decide +kernel
theorem dX11_commonDivisor_5 : decode MX11_commonDivisor.2.1 5 = .ok (.istore 4, 2) := by decide +kernel
theorem dX11_commonDivisor_7 : decode MX11_commonDivisor.2.1 7 = .ok (.iload 4, 2) := by decide +kernel
theorem dX11_commonDivisor_9 : decode MX11_commonDivisor.2.1 9 = .ok (.bipush 64, 2) := by decide +kernel
theorem dX11_commonDivisor_11 : decode MX11_commonDivisor.2.1 11 = .ok (.if_icmp .ge 23, 3) := by decide +kernel
theorem dX11_commonDivisor_14 : decode MX11_commonDivisor.2.1 14 = .ok (.iload_n 3, 1) := by decide +kernel
theorem dX11_commonDivisor_15 : decode MX11_commonDivisor.2.1 15 = .ok (.ifCond .eq 19, 3) := by decide +kernel
theorem dX11_commonDivisor_18 : decode MX11_commonDivisor.2.1 18 = .ok (.iload_n 2, 1) := by decide +kernel
theorem dX11_commonDivisor_19 : decode MX11_commonDivisor.2.1 19 = .ok (.iload_n 3, 1) := by decide +kernel
theorem dX11_commonDivisor_20 : decode MX11_commonDivisor.2.1 20 = .ok (.irem, 1) := by decide +kernel
theorem dX11_commonDivisor_21 : decode MX11_commonDivisor.2.1 21 = .ok (.istore 5, 2) := by decide +kernel
theorem dX11_commonDivisor_23 : decode MX11_commonDivisor.2.1 23 = .ok (.iload_n 3, 1) := by decide +kernel
theorem dX11_commonDivisor_24 : decode MX11_commonDivisor.2.1 24 = .ok (.istore_n 2, 1) := by decide +kernel
theorem dX11_commonDivisor_25 : decode MX11_commonDivisor.2.1 25 = .ok (.iload 5, 2) := by decide +kernel
theorem dX11_commonDivisor_27 : decode MX11_commonDivisor.2.1 27 = .ok (.istore_n 3, 1) := by decide +kernel
theorem dX11_commonDivisor_28 : decode MX11_commonDivisor.2.1 28 = .ok (.iinc 4 1, 3) := by decide +kernel
theorem dX11_commonDivisor_31 : decode MX11_commonDivisor.2.1 31 = .ok (.goto (-24), 3) := by decide +kernel
theorem dX11_commonDivisor_34 : decode MX11_commonDivisor.2.1 34 = .ok (.iconst 1, 1) := by decide +kernel
theorem dX11_commonDivisor_35 : decode MX11_commonDivisor.2.1 35 = .ok (.iload_n 2, 1) := by decide +kernel
theorem dX11_commonDivisor_36 : decode MX11_commonDivisor.2.1 36 = .ok (.invokestatic 343, 3) := by decide +kernel
theorem dX11_commonDivisor_39 : decode MX11_commonDivisor.2.1 39 = .ok (.ireturn, 1) := by decide +kernel
theorem dX11_mean_0 : decode MX11_mean.2.1 0 = .ok (.iload_n 1, 1) := by decide +kernel
theorem dX11_mean_1 : decode MX11_mean.2.1 1 = .ok (.iconst 0, 1) := by decide +kernel
theorem dX11_mean_2 : decode MX11_mean.2.1 2 = .ok (.bipush 7, 2) := by decide +kernel
theorem dX11_mean_4 : decode MX11_mean.2.1 4 = .ok (.invokestatic 136, 3) := by decide +kernel
theorem dX11_mean_7 : decode MX11_mean.2.1 7 = .ok (.ifCond .ne 9, 3) := by decide +kernel
theorem dX11_mean_10 : decode MX11_mean.2.1 10 = .ok (.aload_n 0, 1) := by decide +kernel
theorem dX11_mean_11 : decode MX11_mean.2.1 11 = .ok (.iconst (-1), 1) := by decide +kernel
theorem dX11_mean_12 : decode MX11_mean.2.1 12 = .ok (.invokevirtual 104, 3) := by decide +kernel
theorem dX11_mean_15 : decode MX11_mean.2.1 15 = .ok (.ireturn, 1) := by decide +kernel
theorem dX11_mean_16 : decode MX11_mean.2.1 16 = .ok (.aload_n 0, 1) := by decide +kernel
theorem dX11_mean_17 : decode MX11_mean.2.1 17 = .ok (.getfield 14, 3) := by decide +kernel
theorem dX11_mean_20 : decode MX11_mean.2.1 20 = .ok (.getfield 348, 3) := by decide +kernel
theorem dX11_mean_23 : decode MX11_mean.2.1 23 = .ok (.iconst 5, 1) := by decide +kernel
theorem dX11_mean_24 : decode MX11_mean.2.1 24 = .ok (.if_icmp .lt 10, 3) := by decide +kernel
theorem dX11_mean_27 : decode MX11_mean.2.1 27 = .ok (.aload_n 0, 1) := by decide +kernel
theorem dX11_mean_28 : decode MX11_mean.2.1 28 = .ok (.bipush (-5), 2) := by decide +kernel
theorem dX11_mean_30 : decode MX11_mean.2.1 30 = .ok (.invokevirtual 104, 3) := by decide +kernel
theorem dX11_mean_33 : decode MX11_mean.2.1 33 = .ok (.ireturn, 1) := by decide +kernel
theorem dX11_mean_34 : decode MX11_mean.2.1 34 = .ok (.aload_n 0, 1) := by decide +kernel
theorem dX11_mean_35 : decode MX11_mean.2.1 35 = .ok (.getfield 14, 3) := by decide +kernel
theorem dX11_mean_38 : decode MX11_mean.2.1 38 = .ok (.getfield 351, 3) := by decide +kernel
theorem dX11_mean_41 : decode MX11_mean.2.1 41 = .ok (.aload_n 0, 1) := by decide +kernel
theorem dX11_mean_42 : decode MX11_mean.2.1 42 = .ok (.getfield 14, 3) := by decide +kernel
theorem dX11_mean_45 : decode MX11_mean.2.1 45 = .ok (.getfield 348, 3) := by decide +kernel
theorem dX11_mean_48 : decode MX11_mean.2.1 48 = .ok (.iload_n 1, 1) := by decide +kernel
theorem dX11_mean_49 : decode MX11_mean.2.1 49 = .ok (.iastore, 1) := by decide +kernel
theorem dX11_mean_50 : decode MX11_mean.2.1 50 = .ok (.aload_n 0, 1) := by decide +kernel
theorem dX11_mean_51 : decode MX11_mean.2.1 51 = .ok (.getfield 14, 3) := by decide +kernel
theorem dX11_mean_54 : decode MX11_mean.2.1 54 = .ok (.dup, 1) := by decide +kernel
theorem dX11_mean_55 : decode MX11_mean.2.1 55 = .ok (.getfield 348, 3) := by decide +kernel
theorem dX11_mean_58 : decode MX11_mean.2.1 58 = .ok (.iconst 1, 1) := by decide +kernel
theorem dX11_mean_59 : decode MX11_mean.2.1 59 = .ok (.iadd, 1) := by decide +kernel
theorem dX11_mean_60 : decode MX11_mean.2.1 60 = .ok (.putfield 348, 3) := by decide +kernel
theorem dX11_mean_63 : decode MX11_mean.2.1 63 = .ok (.aload_n 0, 1) := by decide +kernel
theorem dX11_mean_64 : decode MX11_mean.2.1 64 = .ok (.aload_n 0, 1) := by decide +kernel
theorem dX11_mean_65 : decode MX11_mean.2.1 65 = .ok (.getfield 14, 3) := by decide +kernel
theorem dX11_mean_68 : decode MX11_mean.2.1 68 = .ok (.getfield 348, 3) := by decide +kernel
theorem dX11_mean_71 : decode MX11_mean.2.1 71 = .ok (.invokevirtual 133, 3) := by decide +kernel
theorem dX11_mean_74 : decode MX11_mean.2.1 74 = .ok (.ireturn, 1) := by decide +kernel
theorem dX11_hush_0 : decode MX11_hush.2.1 0 = .ok (.aload_n 0, 1) := by decide +kernel
theorem dX11_hush_1 : decode MX11_hush.2.1 1 = .ok (.getfield 14, 3) := by decide +kernel
theorem dX11_hush_4 : decode MX11_hush.2.1 4 = .ok (.getfield 348, 3) := by decide +kernel
theorem dX11_hush_7 : decode MX11_hush.2.1 7 = .ok (.istore_n 1, 1) := by decide +kernel
theorem dX11_hush_8 : decode MX11_hush.2.1 8 = .ok (.aload_n 0, 1) := by decide +kernel
theorem dX11_hush_9 : decode MX11_hush.2.1 9 = .ok (.getfield 14, 3) := by decide +kernel
theorem dX11_hush_12 : decode MX11_hush.2.1 12 = .ok (.iconst 0, 1) := by decide +kernel
theorem dX11_hush_13 : decode MX11_hush.2.1 13 = .ok (.putfield 348, 3) := by decide +kernel
theorem dX11_hush_16 : decode MX11_hush.2.1 16 = .ok (.iload_n 1, 1) := by decide +kernel
theorem dX11_hush_17 : decode MX11_hush.2.1 17 = .ok (.ireturn, 1) := by decide +kernel
theorem dX11_saying_0 : decode MX11_saying.2.1 0 = .ok (.iload_n 1, 1) := by decide +kernel
theorem dX11_saying_1 : decode MX11_saying.2.1 1 = .ok (.invokestatic 274, 3) := by decide +kernel
theorem dX11_saying_4 : decode MX11_saying.2.1 4 = .ok (.ifCond .eq 27, 3) := by decide +kernel
theorem dX11_saying_7 : decode MX11_saying.2.1 7 = .ok (.iload_n 2, 1) := by decide +kernel
theorem dX11_saying_8 : decode MX11_saying.2.1 8 = .ok (.invokestatic 277, 3) := by decide +kernel
theorem dX11_saying_11 : decode MX11_saying.2.1 11 = .ok (.ifCond .eq 20, 3) := by decide +kernel
theorem dX11_saying_14 : decode MX11_saying.2.1 14 = .ok (.iload_n 3, 1) := by decide +kernel
theorem dX11_saying_15 : decode MX11_saying.2.1 15 = .ok (.iconst 0, 1) := by decide +kernel
theorem dX11_saying_16 : decode MX11_saying.2.1 16 = .ok (.aload_n 0, 1) := by decide +kernel
theorem dX11_saying_17 : decode MX11_saying.2.1 17 = .ok (.getfield 14, 3) := by decide +kernel
theorem dX11_saying_20 : decode MX11_saying.2.1 20 = .ok (.getfield 348, 3) := by decide +kernel
theorem dX11_saying_23 : decode MX11_saying.2.1 23 = .ok (.iconst 1, 1) := by decide +kernel
theorem dX11_saying_24 : decode MX11_saying.2.1 24 = .ok (.iadd, 1) := by decide +kernel
theorem dX11_saying_25 : decode MX11_saying.2.1 25 = .ok (.invokestatic 136, 3) := by decide +kernel
theorem dX11_saying_28 : decode MX11_saying.2.1 28 = .ok (.ifCond .ne 5, 3) := by decide +kernel
theorem dX11_saying_31 : decode MX11_saying.2.1 31 = .ok (.iconst (-1), 1) := by decide +kernel
theorem dX11_saying_32 : decode MX11_saying.2.1 32 = .ok (.ireturn, 1) := by decide +kernel
theorem dX11_saying_33 : decode MX11_saying.2.1 33 = .ok (.aload_n 0, 1) := by decide +kernel
theorem dX11_saying_34 : decode MX11_saying.2.1 34 = .ok (.getfield 50, 3) := by decide +kernel
theorem dX11_saying_37 : decode MX11_saying.2.1 37 = .ok (.iload_n 1, 1) := by decide +kernel
theorem dX11_saying_38 : decode MX11_saying.2.1 38 = .ok (.iload_n 2, 1) := by decide +kernel
theorem dX11_saying_39 : decode MX11_saying.2.1 39 = .ok (.invokevirtual 354, 3) := by decide +kernel
theorem dX11_saying_42 : decode MX11_saying.2.1 42 = .ok (.aload_n 0, 1) := by decide +kernel
theorem dX11_saying_43 : decode MX11_saying.2.1 43 = .ok (.getfield 50, 3) := by decide +kernel
theorem dX11_saying_46 : decode MX11_saying.2.1 46 = .ok (.iconst 0, 1) := by decide +kernel
theorem dX11_saying_47 : decode MX11_saying.2.1 47 = .ok (.iconst 0, 1) := by decide +kernel
theorem dX11_saying_48 : decode MX11_saying.2.1 48 = .ok (.iconst 1, 1) := by decide +kernel
theorem dX11_saying_49 : decode MX11_saying.2.1 49 = .ok (.invokevirtual 357, 3) := by decide +kernel
theorem dX11_saying_52 : decode MX11_saying.2.1 52 = .ok (.iload_n 3, 1) := by decide +kernel
theorem dX11_saying_53 : decode MX11_saying.2.1 53 = .ok (.iconst 1, 1) := by decide +kernel
theorem dX11_saying_54 : decode MX11_saying.2.1 54 = .ok (.if_icmp .ne 11, 3) := by decide +kernel
theorem dX11_saying_57 : decode MX11_saying.2.1 57 = .ok (.aload_n 0, 1) := by decide +kernel
theorem dX11_saying_58 : decode MX11_saying.2.1 58 = .ok (.getfield 50, 3) := by decide +kernel
theorem dX11_saying_61 : decode MX11_saying.2.1 61 = .ok (.getfield 360, 3) := by decide +kernel
theorem dX11_saying_64 : decode MX11_saying.2.1 64 = .ok (.ireturn, 1) := by decide +kernel
theorem dX11_saying_65 : decode MX11_saying.2.1 65 = .ok (.aload_n 0, 1) := by decide +kernel
theorem dX11_saying_66 : decode MX11_saying.2.1 66 = .ok (.getfield 50, 3) := by decide +kernel
theorem dX11_saying_69 : decode MX11_saying.2.1 69 = .ok (.getfield 360, 3) := by decide +kernel
theorem dX11_saying_72 : decode MX11_saying.2.1 72 = .ok (.ifCond .ne 5, 3) := by decide +kernel
theorem dX11_saying_75 : decode MX11_saying.2.1 75 = .ok (.iconst (-1), 1) := by decide +kernel
theorem dX11_saying_76 : decode MX11_saying.2.1 76 = .ok (.ireturn, 1) := by decide +kernel
theorem dX11_saying_77 : decode MX11_saying.2.1 77 = .ok (.iload_n 3, 1) := by decide +kernel
theorem dX11_saying_78 : decode MX11_saying.2.1 78 = .ok (.ifCond .ne 13, 3) := by decide +kernel
theorem dX11_saying_81 : decode MX11_saying.2.1 81 = .ok (.aload_n 0, 1) := by decide +kernel
theorem dX11_saying_82 : decode MX11_saying.2.1 82 = .ok (.getfield 50, 3) := by decide +kernel
theorem dX11_saying_85 : decode MX11_saying.2.1 85 = .ok (.getfield 363, 3) := by decide +kernel
theorem dX11_saying_88 : decode MX11_saying.2.1 88 = .ok (.goto 14, 3) := by decide +kernel
theorem dX11_saying_91 : decode MX11_saying.2.1 91 = .ok (.aload_n 0, 1) := by decide +kernel
theorem dX11_saying_92 : decode MX11_saying.2.1 92 = .ok (.getfield 50, 3) := by decide +kernel
theorem dX11_saying_95 : decode MX11_saying.2.1 95 = .ok (.getfield 366, 3) := by decide +kernel
theorem dX11_saying_98 : decode MX11_saying.2.1 98 = .ok (.iload_n 3, 1) := by decide +kernel
theorem dX11_saying_99 : decode MX11_saying.2.1 99 = .ok (.iconst 2, 1) := by decide +kernel
theorem dX11_saying_100 : decode MX11_saying.2.1 100 = .ok (.isub, 1) := by decide +kernel
theorem dX11_saying_101 : decode MX11_saying.2.1 101 = .ok (.iaload, 1) := by decide +kernel
theorem dX11_saying_102 : decode MX11_saying.2.1 102 = .ok (.ireturn, 1) := by decide +kernel
theorem dX11_talk_0 : decode MX11_talk.2.1 0 = .ok (.iload_n 2, 1) := by decide +kernel
theorem dX11_talk_1 : decode MX11_talk.2.1 1 = .ok (.invokestatic 274, 3) := by decide +kernel
theorem dX11_talk_4 : decode MX11_talk.2.1 4 = .ok (.ifCond .eq 10, 3) := by decide +kernel
theorem dX11_talk_7 : decode MX11_talk.2.1 7 = .ok (.iload_n 3, 1) := by decide +kernel
theorem dX11_talk_8 : decode MX11_talk.2.1 8 = .ok (.invokestatic 277, 3) := by decide +kernel
theorem dX11_talk_11 : decode MX11_talk.2.1 11 = .ok (.ifCond .ne 9, 3) := by decide +kernel
theorem dX11_talk_14 : decode MX11_talk.2.1 14 = .ok (.aload_n 0, 1) := by decide +kernel
theorem dX11_talk_15 : decode MX11_talk.2.1 15 = .ok (.iconst (-1), 1) := by decide +kernel
theorem dX11_talk_16 : decode MX11_talk.2.1 16 = .ok (.invokevirtual 104, 3) := by decide +kernel
theorem dX11_talk_19 : decode MX11_talk.2.1 19 = .ok (.ireturn, 1) := by decide +kernel
theorem dX11_talk_20 : decode MX11_talk.2.1 20 = .ok (.aload_n 0, 1) := by decide +kernel
theorem dX11_talk_21 : decode MX11_talk.2.1 21 = .ok (.getfield 14, 3) := by decide +kernel
theorem dX11_talk_24 : decode MX11_talk.2.1 24 = .ok (.getfield 150, 3) := by decide +kernel
theorem dX11_talk_27 : decode MX11_talk.2.1 27 = .ok (.iload_n 1, 1) := by decide +kernel
theorem dX11_talk_28 : decode MX11_talk.2.1 28 = .ok (.invokevirtual 162, 3) := by decide +kernel
theorem dX11_talk_31 : decode MX11_talk.2.1 31 = .ok (.ifCond .ne 10, 3) := by decide +kernel
theorem dX11_talk_34 : decode MX11_talk.2.1 34 = .ok (.aload_n 0, 1) := by decide +kernel
theorem dX11_talk_35 : decode MX11_talk.2.1 35 = .ok (.bipush (-2), 2) := by decide +kernel
theorem dX11_talk_37 : decode MX11_talk.2.1 37 = .ok (.invokevirtual 104, 3) := by decide +kernel
theorem dX11_talk_40 : decode MX11_talk.2.1 40 = .ok (.ireturn, 1) := by decide +kernel
theorem dX11_talk_41 : decode MX11_talk.2.1 41 = .ok (.aload_n 0, 1) := by decide +kernel
theorem dX11_talk_42 : decode MX11_talk.2.1 42 = .ok (.getfield 14, 3) := by decide +kernel
theorem dX11_talk_45 : decode MX11_talk.2.1 45 = .ok (.getfield 369, 3) := by decide +kernel
theorem dX11_talk_48 : decode MX11_talk.2.1 48 = .ok (.bipush 6, 2) := by decide +kernel
theorem dX11_talk_50 : decode MX11_talk.2.1 50 = .ok (.if_icmp .lt 10, 3) := by decide +kernel
theorem dX11_talk_53 : decode MX11_talk.2.1 53 = .ok (.aload_n 0, 1) := by decide +kernel
theorem dX11_talk_54 : decode MX11_talk.2.1 54 = .ok (.bipush (-5), 2) := by decide +kernel
theorem dX11_talk_56 : decode MX11_talk.2.1 56 = .ok (.invokevirtual 104, 3) := by decide +kernel
theorem dX11_talk_59 : decode MX11_talk.2.1 59 = .ok (.ireturn, 1) := by decide +kernel
theorem dX11_talk_60 : decode MX11_talk.2.1 60 = .ok (.aload_n 0, 1) := by decide +kernel
theorem dX11_talk_61 : decode MX11_talk.2.1 61 = .ok (.getfield 14, 3) := by decide +kernel
theorem dX11_talk_64 : decode MX11_talk.2.1 64 = .ok (.getfield 369, 3) := by decide +kernel
theorem dX11_talk_67 : decode MX11_talk.2.1 67 = .ok (.istore 4, 2) := by decide +kernel
theorem dX11_talk_69 : decode MX11_talk.2.1 69 = .ok (.aload_n 0, 1) := by decide +kernel
theorem dX11_talk_70 : decode MX11_talk.2.1 70 = .ok (.getfield 14, 3) := by decide +kernel
theorem dX11_talk_73 : decode MX11_talk.2.1 73 = .ok (.getfield 372, 3) := by decide +kernel
theorem dX11_talk_76 : decode MX11_talk.2.1 76 = .ok (.iload 4, 2) := by decide +kernel
theorem dX11_talk_78 : decode MX11_talk.2.1 78 = .ok (.iload_n 1, 1) := by decide +kernel
theorem dX11_talk_79 : decode MX11_talk.2.1 79 = .ok (.iastore, 1) := by decide +kernel
theorem dX11_talk_80 : decode MX11_talk.2.1 80 = .ok (.aload_n 0, 1) := by decide +kernel
theorem dX11_talk_81 : decode MX11_talk.2.1 81 = .ok (.getfield 14, 3) := by decide +kernel
theorem dX11_talk_84 : decode MX11_talk.2.1 84 = .ok (.getfield 375, 3) := by decide +kernel
theorem dX11_talk_87 : decode MX11_talk.2.1 87 = .ok (.iload 4, 2) := by decide +kernel
theorem dX11_talk_89 : decode MX11_talk.2.1 89 = .ok (.iload_n 2, 1) := by decide +kernel
theorem dX11_talk_90 : decode MX11_talk.2.1 90 = .ok (.iastore, 1) := by decide +kernel
theorem dX11_talk_91 : decode MX11_talk.2.1 91 = .ok (.aload_n 0, 1) := by decide +kernel
theorem dX11_talk_92 : decode MX11_talk.2.1 92 = .ok (.getfield 14, 3) := by decide +kernel
theorem dX11_talk_95 : decode MX11_talk.2.1 95 = .ok (.getfield 378, 3) := by decide +kernel
theorem dX11_talk_98 : decode MX11_talk.2.1 98 = .ok (.iload 4, 2) := by decide +kernel
theorem dX11_talk_100 : decode MX11_talk.2.1 100 = .ok (.iload_n 3, 1) := by decide +kernel
theorem dX11_talk_101 : decode MX11_talk.2.1 101 = .ok (.iastore, 1) := by decide +kernel
theorem dX11_talk_102 : decode MX11_talk.2.1 102 = .ok (.aload_n 0, 1) := by decide +kernel
theorem dX11_talk_103 : decode MX11_talk.2.1 103 = .ok (.getfield 14, 3) := by decide +kernel
theorem dX11_talk_106 : decode MX11_talk.2.1 106 = .ok (.dup, 1) := by decide +kernel
theorem dX11_talk_107 : decode MX11_talk.2.1 107 = .ok (.getfield 369, 3) := by decide +kernel
theorem dX11_talk_110 : decode MX11_talk.2.1 110 = .ok (.iconst 1, 1) := by decide +kernel
theorem dX11_talk_111 : decode MX11_talk.2.1 111 = .ok (.iadd, 1) := by decide +kernel
theorem dX11_talk_112 : decode MX11_talk.2.1 112 = .ok (.putfield 369, 3) := by decide +kernel
theorem dX11_talk_115 : decode MX11_talk.2.1 115 = .ok (.aload_n 0, 1) := by decide +kernel
theorem dX11_talk_116 : decode MX11_talk.2.1 116 = .ok (.iload 4, 2) := by decide +kernel
theorem dX11_talk_118 : decode MX11_talk.2.1 118 = .ok (.invokevirtual 133, 3) := by decide +kernel
theorem dX11_talk_121 : decode MX11_talk.2.1 121 = .ok (.ireturn, 1) := by decide +kernel
theorem dX11_cancel_0 : decode MX11_cancel.2.1 0 = .ok (.aload_n 0, 1) := by decide +kernel
theorem dX11_cancel_1 : decode MX11_cancel.2.1 1 = .ok (.getfield 14, 3) := by decide +kernel
theorem dX11_cancel_4 : decode MX11_cancel.2.1 4 = .ok (.getfield 369, 3) := by decide +kernel
theorem dX11_cancel_7 : decode MX11_cancel.2.1 7 = .ok (.istore_n 1, 1) := by decide +kernel
theorem dX11_cancel_8 : decode MX11_cancel.2.1 8 = .ok (.aload_n 0, 1) := by decide +kernel
theorem dX11_cancel_9 : decode MX11_cancel.2.1 9 = .ok (.getfield 14, 3) := by decide +kernel
theorem dX11_cancel_12 : decode MX11_cancel.2.1 12 = .ok (.iconst 0, 1) := by decide +kernel
theorem dX11_cancel_13 : decode MX11_cancel.2.1 13 = .ok (.putfield 369, 3) := by decide +kernel
theorem dX11_cancel_16 : decode MX11_cancel.2.1 16 = .ok (.iload_n 1, 1) := by decide +kernel
theorem dX11_cancel_17 : decode MX11_cancel.2.1 17 = .ok (.ireturn, 1) := by decide +kernel
theorem dX11_plan_0 : decode MX11_plan.2.1 0 = .ok (.iload_n 1, 1) := by decide +kernel
theorem dX11_plan_1 : decode MX11_plan.2.1 1 = .ok (.iconst 1, 1) := by decide +kernel
theorem dX11_plan_2 : decode MX11_plan.2.1 2 = .ok (.iconst 4, 1) := by decide +kernel
theorem dX11_plan_3 : decode MX11_plan.2.1 3 = .ok (.invokestatic 136, 3) := by decide +kernel
theorem dX11_plan_6 : decode MX11_plan.2.1 6 = .ok (.ifCond .eq 28, 3) := by decide +kernel
theorem dX11_plan_9 : decode MX11_plan.2.1 9 = .ok (.iload_n 2, 1) := by decide +kernel
theorem dX11_plan_10 : decode MX11_plan.2.1 10 = .ok (.iconst (-1), 1) := by decide +kernel
theorem dX11_plan_11 : decode MX11_plan.2.1 11 = .ok (.aload_n 0, 1) := by decide +kernel
theorem dX11_plan_12 : decode MX11_plan.2.1 12 = .ok (.getfield 14, 3) := by decide +kernel
theorem dX11_plan_15 : decode MX11_plan.2.1 15 = .ok (.getfield 369, 3) := by decide +kernel
theorem dX11_plan_18 : decode MX11_plan.2.1 18 = .ok (.iconst 1, 1) := by decide +kernel
theorem dX11_plan_19 : decode MX11_plan.2.1 19 = .ok (.isub, 1) := by decide +kernel
theorem dX11_plan_20 : decode MX11_plan.2.1 20 = .ok (.invokestatic 136, 3) := by decide +kernel
theorem dX11_plan_23 : decode MX11_plan.2.1 23 = .ok (.ifCond .eq 11, 3) := by decide +kernel
theorem dX11_plan_26 : decode MX11_plan.2.1 26 = .ok (.aload_n 0, 1) := by decide +kernel
theorem dX11_plan_27 : decode MX11_plan.2.1 27 = .ok (.iload_n 1, 1) := by decide +kernel
theorem dX11_plan_28 : decode MX11_plan.2.1 28 = .ok (.invokevirtual 381, 3) := by decide +kernel
theorem dX11_plan_31 : decode MX11_plan.2.1 31 = .ok (.ifCond .ne 5, 3) := by decide +kernel
theorem dX11_plan_34 : decode MX11_plan.2.1 34 = .ok (.iconst (-1), 1) := by decide +kernel
theorem dX11_plan_35 : decode MX11_plan.2.1 35 = .ok (.ireturn, 1) := by decide +kernel
theorem dX11_plan_36 : decode MX11_plan.2.1 36 = .ok (.aload_n 0, 1) := by decide +kernel
theorem dX11_plan_37 : decode MX11_plan.2.1 37 = .ok (.getfield 57, 3) := by decide +kernel
theorem dX11_plan_40 : decode MX11_plan.2.1 40 = .ok (.iload_n 1, 1) := by decide +kernel
theorem dX11_plan_41 : decode MX11_plan.2.1 41 = .ok (.invokevirtual 384, 3) := by decide +kernel
theorem dX11_plan_44 : decode MX11_plan.2.1 44 = .ok (.aload_n 0, 1) := by decide +kernel
theorem dX11_plan_45 : decode MX11_plan.2.1 45 = .ok (.getfield 57, 3) := by decide +kernel
theorem dX11_plan_48 : decode MX11_plan.2.1 48 = .ok (.iconst 0, 1) := by decide +kernel
theorem dX11_plan_49 : decode MX11_plan.2.1 49 = .ok (.invokevirtual 387, 3) := by decide +kernel
theorem dX11_plan_52 : decode MX11_plan.2.1 52 = .ok (.aload_n 0, 1) := by decide +kernel
theorem dX11_plan_53 : decode MX11_plan.2.1 53 = .ok (.getfield 57, 3) := by decide +kernel
theorem dX11_plan_56 : decode MX11_plan.2.1 56 = .ok (.getfield 389, 3) := by decide +kernel
theorem dX11_plan_59 : decode MX11_plan.2.1 59 = .ok (.ifCond .ne 5, 3) := by decide +kernel
theorem dX11_plan_62 : decode MX11_plan.2.1 62 = .ok (.iconst (-1), 1) := by decide +kernel
theorem dX11_plan_63 : decode MX11_plan.2.1 63 = .ok (.ireturn, 1) := by decide +kernel
theorem dX11_plan_64 : decode MX11_plan.2.1 64 = .ok (.iload_n 2, 1) := by decide +kernel
theorem dX11_plan_65 : decode MX11_plan.2.1 65 = .ok (.iconst (-1), 1) := by decide +kernel
theorem dX11_plan_66 : decode MX11_plan.2.1 66 = .ok (.if_icmp .ne 13, 3) := by decide +kernel
theorem dX11_plan_69 : decode MX11_plan.2.1 69 = .ok (.aload_n 0, 1) := by decide +kernel
theorem dX11_plan_70 : decode MX11_plan.2.1 70 = .ok (.getfield 57, 3) := by decide +kernel
theorem dX11_plan_73 : decode MX11_plan.2.1 73 = .ok (.getfield 389, 3) := by decide +kernel
theorem dX11_plan_76 : decode MX11_plan.2.1 76 = .ok (.goto 12, 3) := by decide +kernel
theorem dX11_plan_79 : decode MX11_plan.2.1 79 = .ok (.aload_n 0, 1) := by decide +kernel
theorem dX11_plan_80 : decode MX11_plan.2.1 80 = .ok (.getfield 57, 3) := by decide +kernel
theorem dX11_plan_83 : decode MX11_plan.2.1 83 = .ok (.getfield 390, 3) := by decide +kernel
theorem dX11_plan_86 : decode MX11_plan.2.1 86 = .ok (.iload_n 2, 1) := by decide +kernel
theorem dX11_plan_87 : decode MX11_plan.2.1 87 = .ok (.iaload, 1) := by decide +kernel
theorem dX11_plan_88 : decode MX11_plan.2.1 88 = .ok (.ireturn, 1) := by decide +kernel
theorem dX11_lookAhead_0 : decode MX11_lookAhead.2.1 0 = .ok (.aload_n 0, 1) := by decide +kernel
theorem dX11_lookAhead_1 : decode MX11_lookAhead.2.1 1 = .ok (.getfield 78, 3) := by decide +kernel
theorem dX11_lookAhead_4 : decode MX11_lookAhead.2.1 4 = .ok (.aload_n 0, 1) := by decide +kernel
theorem dX11_lookAhead_5 : decode MX11_lookAhead.2.1 5 = .ok (.getfield 14, 3) := by decide +kernel
theorem dX11_lookAhead_8 : decode MX11_lookAhead.2.1 8 = .ok (.getfield 112, 3) := by decide +kernel
theorem dX11_lookAhead_11 : decode MX11_lookAhead.2.1 11 = .ok (.invokevirtual 223, 3) := by decide +kernel
theorem dX11_lookAhead_14 : decode MX11_lookAhead.2.1 14 = .ok (.iconst 0, 1) := by decide +kernel
theorem dX11_lookAhead_15 : decode MX11_lookAhead.2.1 15 = .ok (.istore_n 2, 1) := by decide +kernel
theorem dX11_lookAhead_16 : decode MX11_lookAhead.2.1 16 = .ok (.iload_n 2, 1) := by decide +kernel
theorem dX11_lookAhead_17 : decode MX11_lookAhead.2.1 17 = .ok (.iload_n 1, 1) := by decide +kernel
theorem dX11_lookAhead_18 : decode MX11_lookAhead.2.1 18 = .ok (.if_icmp .ge 51, 3) := by decide +kernel
theorem dX11_lookAhead_21 : decode MX11_lookAhead.2.1 21 = .ok (.iload_n 2, 1) := by decide +kernel
theorem dX11_lookAhead_22 : decode MX11_lookAhead.2.1 22 = .ok (.ifCond .le 29, 3) := by decide +kernel
theorem dX11_lookAhead_25 : decode MX11_lookAhead.2.1 25 = .ok (.aload_n 0, 1) := by decide +kernel
theorem dX11_lookAhead_26 : decode MX11_lookAhead.2.1 26 = .ok (.getfield 78, 3) := by decide +kernel
theorem dX11_lookAhead_29 : decode MX11_lookAhead.2.1 29 = .ok (.getfield 177, 3) := by decide +kernel
theorem dX11_lookAhead_32 : decode MX11_lookAhead.2.1 32 = .ok (.sipush 999, 3) := by decide +kernel
theorem dX11_lookAhead_35 : decode MX11_lookAhead.2.1 35 = .ok (.if_icmp .ge 14, 3) := by decide +kernel
theorem dX11_lookAhead_38 : decode MX11_lookAhead.2.1 38 = .ok (.aload_n 0, 1) := by decide +kernel
theorem dX11_lookAhead_39 : decode MX11_lookAhead.2.1 39 = .ok (.aload_n 0, 1) := by decide +kernel
theorem dX11_lookAhead_40 : decode MX11_lookAhead.2.1 40 = .ok (.getfield 78, 3) := by decide +kernel
theorem dX11_lookAhead_43 : decode MX11_lookAhead.2.1 43 = .ok (.invokevirtual 267, 3) := by decide +kernel
theorem dX11_lookAhead_46 : decode MX11_lookAhead.2.1 46 = .ok (.ifCond .le 5, 3) := by decide +kernel
theorem dX11_lookAhead_49 : decode MX11_lookAhead.2.1 49 = .ok (.iconst 0, 1) := by decide +kernel
theorem dX11_lookAhead_50 : decode MX11_lookAhead.2.1 50 = .ok (.ireturn, 1) := by decide +kernel
theorem dX11_lookAhead_51 : decode MX11_lookAhead.2.1 51 = .ok (.aload_n 0, 1) := by decide +kernel
theorem dX11_lookAhead_52 : decode MX11_lookAhead.2.1 52 = .ok (.getfield 57, 3) := by decide +kernel
theorem dX11_lookAhead_55 : decode MX11_lookAhead.2.1 55 = .ok (.iload_n 2, 1) := by decide +kernel
theorem dX11_lookAhead_56 : decode MX11_lookAhead.2.1 56 = .ok (.aload_n 0, 1) := by decide +kernel
theorem dX11_lookAhead_57 : decode MX11_lookAhead.2.1 57 = .ok (.getfield 78, 3) := by decide +kernel
theorem dX11_lookAhead_60 : decode MX11_lookAhead.2.1 60 = .ok (.invokevirtual 391, 3) := by decide +kernel
theorem dX11_lookAhead_63 : decode MX11_lookAhead.2.1 63 = .ok (.iinc 2 1, 3) := by decide +kernel
theorem dX11_lookAhead_66 : decode MX11_lookAhead.2.1 66 = .ok (.goto (-50), 3) := by decide +kernel
theorem dX11_lookAhead_69 : decode MX11_lookAhead.2.1 69 = .ok (.iconst 1, 1) := by decide +kernel
theorem dX11_lookAhead_70 : decode MX11_lookAhead.2.1 70 = .ok (.ireturn, 1) := by decide +kernel
theorem dX11_bring_0 : decode MX11_bring.2.1 0 = .ok (.iload_n 1, 1) := by decide +kernel
theorem dX11_bring_1 : decode MX11_bring.2.1 1 = .ok (.invokestatic 96, 3) := by decide +kernel
theorem dX11_bring_4 : decode MX11_bring.2.1 4 = .ok (.ifCond .eq 19, 3) := by decide +kernel
theorem dX11_bring_7 : decode MX11_bring.2.1 7 = .ok (.iload_n 2, 1) := by decide +kernel
theorem dX11_bring_8 : decode MX11_bring.2.1 8 = .ok (.invokestatic 274, 3) := by decide +kernel
theorem dX11_bring_11 : decode MX11_bring.2.1 11 = .ok (.ifCond .eq 12, 3) := by decide +kernel
theorem dX11_bring_14 : decode MX11_bring.2.1 14 = .ok (.iload_n 3, 1) := by decide +kernel
theorem dX11_bring_15 : decode MX11_bring.2.1 15 = .ok (.iconst (-1), 1) := by decide +kernel
theorem dX11_bring_16 : decode MX11_bring.2.1 16 = .ok (.iconst 2, 1) := by decide +kernel
theorem dX11_bring_17 : decode MX11_bring.2.1 17 = .ok (.invokestatic 136, 3) := by decide +kernel
theorem dX11_bring_20 : decode MX11_bring.2.1 20 = .ok (.ifCond .ne 5, 3) := by decide +kernel
theorem dX11_bring_23 : decode MX11_bring.2.1 23 = .ok (.iconst (-1), 1) := by decide +kernel
theorem dX11_bring_24 : decode MX11_bring.2.1 24 = .ok (.ireturn, 1) := by decide +kernel
theorem dX11_bring_25 : decode MX11_bring.2.1 25 = .ok (.aload_n 0, 1) := by decide +kernel
theorem dX11_bring_26 : decode MX11_bring.2.1 26 = .ok (.getfield 14, 3) := by decide +kernel
theorem dX11_bring_29 : decode MX11_bring.2.1 29 = .ok (.getfield 121, 3) := by decide +kernel
theorem dX11_bring_32 : decode MX11_bring.2.1 32 = .ok (.iload_n 1, 1) := by decide +kernel
theorem dX11_bring_33 : decode MX11_bring.2.1 33 = .ok (.iaload, 1) := by decide +kernel
theorem dX11_bring_34 : decode MX11_bring.2.1 34 = .ok (.iconst (-1), 1) := by decide +kernel
theorem dX11_bring_35 : decode MX11_bring.2.1 35 = .ok (.if_icmp .ne 17, 3) := by decide +kernel
theorem dX11_bring_38 : decode MX11_bring.2.1 38 = .ok (.aload_n 0, 1) := by decide +kernel
theorem dX11_bring_39 : decode MX11_bring.2.1 39 = .ok (.getfield 14, 3) := by decide +kernel
theorem dX11_bring_42 : decode MX11_bring.2.1 42 = .ok (.getfield 124, 3) := by decide +kernel
theorem dX11_bring_45 : decode MX11_bring.2.1 45 = .ok (.iload_n 1, 1) := by decide +kernel
theorem dX11_bring_46 : decode MX11_bring.2.1 46 = .ok (.iaload, 1) := by decide +kernel
theorem dX11_bring_47 : decode MX11_bring.2.1 47 = .ok (.ifCond .ne 5, 3) := by decide +kernel
theorem dX11_bring_50 : decode MX11_bring.2.1 50 = .ok (.iconst (-1), 1) := by decide +kernel
theorem dX11_bring_51 : decode MX11_bring.2.1 51 = .ok (.ireturn, 1) := by decide +kernel
theorem dX11_bring_52 : decode MX11_bring.2.1 52 = .ok (.aload_n 0, 1) := by decide +kernel
theorem dX11_bring_53 : decode MX11_bring.2.1 53 = .ok (.getfield 64, 3) := by decide +kernel
theorem dX11_bring_56 : decode MX11_bring.2.1 56 = .ok (.iload_n 1, 1) := by decide +kernel
theorem dX11_bring_57 : decode MX11_bring.2.1 57 = .ok (.iload_n 2, 1) := by decide +kernel
theorem dX11_bring_58 : decode MX11_bring.2.1 58 = .ok (.invokevirtual 395, 3) := by decide +kernel
theorem dX11_bring_61 : decode MX11_bring.2.1 61 = .ok (.iconst 1, 1) := by decide +kernel
theorem dX11_bring_62 : decode MX11_bring.2.1 62 = .ok (.istore 4, 2) := by decide +kernel
theorem dX11_bring_64 : decode MX11_bring.2.1 64 = .ok (.iload 4, 2) := by decide +kernel
theorem dX11_bring_66 : decode MX11_bring.2.1 66 = .ok (.iconst 3, 1) := by decide +kernel
theorem dX11_bring_67 : decode MX11_bring.2.1 67 = .ok (.if_icmp .gt 53, 3) := by decide +kernel
theorem dX11_bring_70 : decode MX11_bring.2.1 70 = .ok (.aload_n 0, 1) := by decide +kernel
theorem dX11_bring_71 : decode MX11_bring.2.1 71 = .ok (.getfield 64, 3) := by decide +kernel
theorem dX11_bring_74 : decode MX11_bring.2.1 74 = .ok (.iconst 0, 1) := by decide +kernel
theorem dX11_bring_75 : decode MX11_bring.2.1 75 = .ok (.iload 4, 2) := by decide +kernel
theorem dX11_bring_77 : decode MX11_bring.2.1 77 = .ok (.iconst 0, 1) := by decide +kernel
theorem dX11_bring_78 : decode MX11_bring.2.1 78 = .ok (.invokevirtual 397, 3) := by decide +kernel
theorem dX11_bring_81 : decode MX11_bring.2.1 81 = .ok (.ifCond .eq 33, 3) := by decide +kernel
theorem dX11_bring_84 : decode MX11_bring.2.1 84 = .ok (.iload_n 3, 1) := by decide +kernel
theorem dX11_bring_85 : decode MX11_bring.2.1 85 = .ok (.iconst (-1), 1) := by decide +kernel
theorem dX11_bring_86 : decode MX11_bring.2.1 86 = .ok (.if_icmp .ne 8, 3) := by decide +kernel
theorem dX11_bring_89 : decode MX11_bring.2.1 89 = .ok (.iload 4, 2) := by decide +kernel
theorem dX11_bring_91 : decode MX11_bring.2.1 91 = .ok (.goto 22, 3) := by decide +kernel
theorem dX11_bring_94 : decode MX11_bring.2.1 94 = .ok (.iload_n 3, 1) := by decide +kernel
theorem dX11_bring_95 : decode MX11_bring.2.1 95 = .ok (.iload 4, 2) := by decide +kernel
theorem dX11_bring_97 : decode MX11_bring.2.1 97 = .ok (.if_icmp .ge 15, 3) := by decide +kernel
theorem dX11_bring_100 : decode MX11_bring.2.1 100 = .ok (.aload_n 0, 1) := by decide +kernel
theorem dX11_bring_101 : decode MX11_bring.2.1 101 = .ok (.getfield 64, 3) := by decide +kernel
theorem dX11_bring_104 : decode MX11_bring.2.1 104 = .ok (.getfield 399, 3) := by decide +kernel
theorem dX11_bring_107 : decode MX11_bring.2.1 107 = .ok (.iload_n 3, 1) := by decide +kernel
theorem dX11_bring_108 : decode MX11_bring.2.1 108 = .ok (.iaload, 1) := by decide +kernel
theorem dX11_bring_109 : decode MX11_bring.2.1 109 = .ok (.goto 4, 3) := by decide +kernel
theorem dX11_bring_112 : decode MX11_bring.2.1 112 = .ok (.iconst (-1), 1) := by decide +kernel
theorem dX11_bring_113 : decode MX11_bring.2.1 113 = .ok (.ireturn, 1) := by decide +kernel
theorem dX11_bring_114 : decode MX11_bring.2.1 114 = .ok (.iinc 4 1, 3) := by decide +kernel
theorem dX11_bring_117 : decode MX11_bring.2.1 117 = .ok (.goto (-53), 3) := by decide +kernel
theorem dX11_bring_120 : decode MX11_bring.2.1 120 = .ok (.iconst (-1), 1) := by decide +kernel
theorem dX11_bring_121 : decode MX11_bring.2.1 121 = .ok (.ireturn, 1) := by decide +kernel
theorem dX11_threat_0 : decode MX11_threat.2.1 0 = .ok (.iload_n 1, 1) := by decide +kernel
theorem dX11_threat_1 : decode MX11_threat.2.1 1 = .ok (.invokestatic 96, 3) := by decide +kernel
theorem dX11_threat_4 : decode MX11_threat.2.1 4 = .ok (.ifCond .eq 19, 3) := by decide +kernel
theorem dX11_threat_7 : decode MX11_threat.2.1 7 = .ok (.iload_n 2, 1) := by decide +kernel
theorem dX11_threat_8 : decode MX11_threat.2.1 8 = .ok (.invokestatic 274, 3) := by decide +kernel
theorem dX11_threat_11 : decode MX11_threat.2.1 11 = .ok (.ifCond .eq 12, 3) := by decide +kernel
theorem dX11_threat_14 : decode MX11_threat.2.1 14 = .ok (.iload_n 3, 1) := by decide +kernel
theorem dX11_threat_15 : decode MX11_threat.2.1 15 = .ok (.iconst 0, 1) := by decide +kernel
theorem dX11_threat_16 : decode MX11_threat.2.1 16 = .ok (.iconst 2, 1) := by decide +kernel
theorem dX11_threat_17 : decode MX11_threat.2.1 17 = .ok (.invokestatic 136, 3) := by decide +kernel
theorem dX11_threat_20 : decode MX11_threat.2.1 20 = .ok (.ifCond .ne 5, 3) := by decide +kernel
theorem dX11_threat_23 : decode MX11_threat.2.1 23 = .ok (.iconst (-1), 1) := by decide +kernel
theorem dX11_threat_24 : decode MX11_threat.2.1 24 = .ok (.ireturn, 1) := by decide +kernel
theorem dX11_threat_25 : decode MX11_threat.2.1 25 = .ok (.aload_n 0, 1) := by decide +kernel
theorem dX11_threat_26 : decode MX11_threat.2.1 26 = .ok (.getfield 14, 3) := by decide +kernel
theorem dX11_threat_29 : decode MX11_threat.2.1 29 = .ok (.getfield 112, 3) := by decide +kernel
theorem dX11_threat_32 : decode MX11_threat.2.1 32 = .ok (.getfield 115, 3) := by decide +kernel
theorem dX11_threat_35 : decode MX11_threat.2.1 35 = .ok (.iload_n 1, 1) := by decide +kernel
theorem dX11_threat_36 : decode MX11_threat.2.1 36 = .ok (.iaload, 1) := by decide +kernel
theorem dX11_threat_37 : decode MX11_threat.2.1 37 = .ok (.istore 4, 2) := by decide +kernel
theorem dX11_threat_39 : decode MX11_threat.2.1 39 = .ok (.aload_n 0, 1) := by decide +kernel
theorem dX11_threat_40 : decode MX11_threat.2.1 40 = .ok (.getfield 14, 3) := by decide +kernel
theorem dX11_threat_43 : decode MX11_threat.2.1 43 = .ok (.getfield 118, 3) := by decide +kernel
theorem dX11_threat_46 : decode MX11_threat.2.1 46 = .ok (.iload_n 1, 1) := by decide +kernel
theorem dX11_threat_47 : decode MX11_threat.2.1 47 = .ok (.iaload, 1) := by decide +kernel
theorem dX11_threat_48 : decode MX11_threat.2.1 48 = .ok (.iload 4, 2) := by decide +kernel
theorem dX11_threat_50 : decode MX11_threat.2.1 50 = .ok (.isub, 1) := by decide +kernel
theorem dX11_threat_51 : decode MX11_threat.2.1 51 = .ok (.aload_n 0, 1) := by decide +kernel
theorem dX11_threat_52 : decode MX11_threat.2.1 52 = .ok (.getfield 14, 3) := by decide +kernel
theorem dX11_threat_55 : decode MX11_threat.2.1 55 = .ok (.getfield 112, 3) := by decide +kernel
theorem dX11_threat_58 : decode MX11_threat.2.1 58 = .ok (.getfield 139, 3) := by decide +kernel
theorem dX11_threat_61 : decode MX11_threat.2.1 61 = .ok (.iload_n 1, 1) := by decide +kernel
theorem dX11_threat_62 : decode MX11_threat.2.1 62 = .ok (.iaload, 1) := by decide +kernel
theorem dX11_threat_63 : decode MX11_threat.2.1 63 = .ok (.isub, 1) := by decide +kernel
theorem dX11_threat_64 : decode MX11_threat.2.1 64 = .ok (.istore 5, 2) := by decide +kernel
theorem dX11_threat_66 : decode MX11_threat.2.1 66 = .ok (.iload 4, 2) := by decide +kernel
theorem dX11_threat_68 : decode MX11_threat.2.1 68 = .ok (.ifCond .eq 8, 3) := by decide +kernel
theorem dX11_threat_71 : decode MX11_threat.2.1 71 = .ok (.iload 5, 2) := by decide +kernel
theorem dX11_threat_73 : decode MX11_threat.2.1 73 = .ok (.ifCond .ge 5, 3) := by decide +kernel
theorem dX11_threat_76 : decode MX11_threat.2.1 76 = .ok (.iconst (-1), 1) := by decide +kernel
theorem dX11_threat_77 : decode MX11_threat.2.1 77 = .ok (.ireturn, 1) := by decide +kernel
theorem dX11_threat_78 : decode MX11_threat.2.1 78 = .ok (.aload_n 0, 1) := by decide +kernel
theorem dX11_threat_79 : decode MX11_threat.2.1 79 = .ok (.getfield 71, 3) := by decide +kernel
theorem dX11_threat_82 : decode MX11_threat.2.1 82 = .ok (.iload_n 1, 1) := by decide +kernel
theorem dX11_threat_83 : decode MX11_threat.2.1 83 = .ok (.iload_n 2, 1) := by decide +kernel
theorem dX11_threat_84 : decode MX11_threat.2.1 84 = .ok (.invokevirtual 402, 3) := by decide +kernel
theorem dX11_threat_87 : decode MX11_threat.2.1 87 = .ok (.aload_n 0, 1) := by decide +kernel
theorem dX11_threat_88 : decode MX11_threat.2.1 88 = .ok (.getfield 71, 3) := by decide +kernel
theorem dX11_threat_91 : decode MX11_threat.2.1 91 = .ok (.iload 5, 2) := by decide +kernel
theorem dX11_threat_93 : decode MX11_threat.2.1 93 = .ok (.invokevirtual 403, 3) := by decide +kernel
theorem dX11_threat_96 : decode MX11_threat.2.1 96 = .ok (.iload_n 3, 1) := by decide +kernel
theorem dX11_threat_97 : decode MX11_threat.2.1 97 = .ok (.ifCond .ne 19, 3) := by decide +kernel
theorem dX11_threat_100 : decode MX11_threat.2.1 100 = .ok (.aload_n 0, 1) := by decide +kernel
theorem dX11_threat_101 : decode MX11_threat.2.1 101 = .ok (.getfield 71, 3) := by decide +kernel
theorem dX11_threat_104 : decode MX11_threat.2.1 104 = .ok (.getfield 406, 3) := by decide +kernel
theorem dX11_threat_107 : decode MX11_threat.2.1 107 = .ok (.ifCond .le 7, 3) := by decide +kernel
theorem dX11_threat_110 : decode MX11_threat.2.1 110 = .ok (.iconst 1, 1) := by decide +kernel
theorem dX11_threat_111 : decode MX11_threat.2.1 111 = .ok (.goto 4, 3) := by decide +kernel
theorem dX11_threat_114 : decode MX11_threat.2.1 114 = .ok (.iconst 0, 1) := by decide +kernel
theorem dX11_threat_115 : decode MX11_threat.2.1 115 = .ok (.ireturn, 1) := by decide +kernel
theorem dX11_threat_116 : decode MX11_threat.2.1 116 = .ok (.iload_n 3, 1) := by decide +kernel
theorem dX11_threat_117 : decode MX11_threat.2.1 117 = .ok (.iconst 1, 1) := by decide +kernel
theorem dX11_threat_118 : decode MX11_threat.2.1 118 = .ok (.if_icmp .ne 13, 3) := by decide +kernel
theorem dX11_threat_121 : decode MX11_threat.2.1 121 = .ok (.aload_n 0, 1) := by decide +kernel
theorem dX11_threat_122 : decode MX11_threat.2.1 122 = .ok (.getfield 71, 3) := by decide +kernel
theorem dX11_threat_125 : decode MX11_threat.2.1 125 = .ok (.getfield 406, 3) := by decide +kernel
theorem dX11_threat_128 : decode MX11_threat.2.1 128 = .ok (.goto 10, 3) := by decide +kernel
theorem dX11_threat_131 : decode MX11_threat.2.1 131 = .ok (.aload_n 0, 1) := by decide +kernel
theorem dX11_threat_132 : decode MX11_threat.2.1 132 = .ok (.getfield 71, 3) := by decide +kernel
theorem dX11_threat_135 : decode MX11_threat.2.1 135 = .ok (.getfield 409, 3) := by decide +kernel
theorem dX11_threat_138 : decode MX11_threat.2.1 138 = .ok (.ireturn, 1) := by decide +kernel
theorem dX11_seen_0 : decode MX11_seen.2.1 0 = .ok (.iload_n 1, 1) := by decide +kernel
theorem dX11_seen_1 : decode MX11_seen.2.1 1 = .ok (.invokestatic 96, 3) := by decide +kernel
theorem dX11_seen_4 : decode MX11_seen.2.1 4 = .ok (.ifCond .eq 23, 3) := by decide +kernel
theorem dX11_seen_7 : decode MX11_seen.2.1 7 = .ok (.iload_n 2, 1) := by decide +kernel
theorem dX11_seen_8 : decode MX11_seen.2.1 8 = .ok (.iconst 1, 1) := by decide +kernel
theorem dX11_seen_9 : decode MX11_seen.2.1 9 = .ok (.sipush 9999, 3) := by decide +kernel
theorem dX11_seen_12 : decode MX11_seen.2.1 12 = .ok (.invokestatic 136, 3) := by decide +kernel
theorem dX11_seen_15 : decode MX11_seen.2.1 15 = .ok (.ifCond .eq 12, 3) := by decide +kernel
theorem dX11_seen_18 : decode MX11_seen.2.1 18 = .ok (.iload_n 3, 1) := by decide +kernel
theorem dX11_seen_19 : decode MX11_seen.2.1 19 = .ok (.iconst 0, 1) := by decide +kernel
theorem dX11_seen_20 : decode MX11_seen.2.1 20 = .ok (.iconst 1, 1) := by decide +kernel
theorem dX11_seen_21 : decode MX11_seen.2.1 21 = .ok (.invokestatic 136, 3) := by decide +kernel
theorem dX11_seen_24 : decode MX11_seen.2.1 24 = .ok (.ifCond .ne 9, 3) := by decide +kernel
theorem dX11_seen_27 : decode MX11_seen.2.1 27 = .ok (.aload_n 0, 1) := by decide +kernel
theorem dX11_seen_28 : decode MX11_seen.2.1 28 = .ok (.iconst (-1), 1) := by decide +kernel
theorem dX11_seen_29 : decode MX11_seen.2.1 29 = .ok (.invokevirtual 104, 3) := by decide +kernel
theorem dX11_seen_32 : decode MX11_seen.2.1 32 = .ok (.ireturn, 1) := by decide +kernel
theorem dX11_seen_33 : decode MX11_seen.2.1 33 = .ok (.aload_n 0, 1) := by decide +kernel
theorem dX11_seen_34 : decode MX11_seen.2.1 34 = .ok (.getfield 14, 3) := by decide +kernel
theorem dX11_seen_37 : decode MX11_seen.2.1 37 = .ok (.getfield 412, 3) := by decide +kernel
theorem dX11_seen_40 : decode MX11_seen.2.1 40 = .ok (.bipush 10, 2) := by decide +kernel
theorem dX11_seen_42 : decode MX11_seen.2.1 42 = .ok (.if_icmp .lt 10, 3) := by decide +kernel
theorem dX11_seen_45 : decode MX11_seen.2.1 45 = .ok (.aload_n 0, 1) := by decide +kernel
theorem dX11_seen_46 : decode MX11_seen.2.1 46 = .ok (.bipush (-5), 2) := by decide +kernel
theorem dX11_seen_48 : decode MX11_seen.2.1 48 = .ok (.invokevirtual 104, 3) := by decide +kernel
theorem dX11_seen_51 : decode MX11_seen.2.1 51 = .ok (.ireturn, 1) := by decide +kernel
theorem dX11_seen_52 : decode MX11_seen.2.1 52 = .ok (.aload_n 0, 1) := by decide +kernel
theorem dX11_seen_53 : decode MX11_seen.2.1 53 = .ok (.getfield 14, 3) := by decide +kernel
theorem dX11_seen_56 : decode MX11_seen.2.1 56 = .ok (.getfield 415, 3) := by decide +kernel
theorem dX11_seen_59 : decode MX11_seen.2.1 59 = .ok (.aload_n 0, 1) := by decide +kernel
theorem dX11_seen_60 : decode MX11_seen.2.1 60 = .ok (.getfield 14, 3) := by decide +kernel
theorem dX11_seen_63 : decode MX11_seen.2.1 63 = .ok (.getfield 412, 3) := by decide +kernel
theorem dX11_seen_66 : decode MX11_seen.2.1 66 = .ok (.iload_n 1, 1) := by decide +kernel
theorem dX11_seen_67 : decode MX11_seen.2.1 67 = .ok (.iastore, 1) := by decide +kernel
theorem dX11_seen_68 : decode MX11_seen.2.1 68 = .ok (.aload_n 0, 1) := by decide +kernel
theorem dX11_seen_69 : decode MX11_seen.2.1 69 = .ok (.getfield 14, 3) := by decide +kernel
theorem dX11_seen_72 : decode MX11_seen.2.1 72 = .ok (.getfield 418, 3) := by decide +kernel
theorem dX11_seen_75 : decode MX11_seen.2.1 75 = .ok (.aload_n 0, 1) := by decide +kernel
theorem dX11_seen_76 : decode MX11_seen.2.1 76 = .ok (.getfield 14, 3) := by decide +kernel
theorem dX11_seen_79 : decode MX11_seen.2.1 79 = .ok (.getfield 412, 3) := by decide +kernel
theorem dX11_seen_82 : decode MX11_seen.2.1 82 = .ok (.iload_n 2, 1) := by decide +kernel
theorem dX11_seen_83 : decode MX11_seen.2.1 83 = .ok (.iastore, 1) := by decide +kernel
theorem dX11_seen_84 : decode MX11_seen.2.1 84 = .ok (.aload_n 0, 1) := by decide +kernel
theorem dX11_seen_85 : decode MX11_seen.2.1 85 = .ok (.getfield 14, 3) := by decide +kernel
theorem dX11_seen_88 : decode MX11_seen.2.1 88 = .ok (.getfield 421, 3) := by decide +kernel
theorem dX11_seen_91 : decode MX11_seen.2.1 91 = .ok (.aload_n 0, 1) := by decide +kernel
theorem dX11_seen_92 : decode MX11_seen.2.1 92 = .ok (.getfield 14, 3) := by decide +kernel
theorem dX11_seen_95 : decode MX11_seen.2.1 95 = .ok (.getfield 412, 3) := by decide +kernel
theorem dX11_seen_98 : decode MX11_seen.2.1 98 = .ok (.iload_n 3, 1) := by decide +kernel
theorem dX11_seen_99 : decode MX11_seen.2.1 99 = .ok (.iastore, 1) := by decide +kernel
theorem dX11_seen_100 : decode MX11_seen.2.1 100 = .ok (.aload_n 0, 1) := by decide +kernel
theorem dX11_seen_101 : decode MX11_seen.2.1 101 = .ok (.getfield 14, 3) := by decide +kernel
theorem dX11_seen_104 : decode MX11_seen.2.1 104 = .ok (.dup, 1) := by decide +kernel
theorem dX11_seen_105 : decode MX11_seen.2.1 105 = .ok (.getfield 412, 3) := by decide +kernel
theorem dX11_seen_108 : decode MX11_seen.2.1 108 = .ok (.iconst 1, 1) := by decide +kernel
theorem dX11_seen_109 : decode MX11_seen.2.1 109 = .ok (.iadd, 1) := by decide +kernel
theorem dX11_seen_110 : decode MX11_seen.2.1 110 = .ok (.putfield 412, 3) := by decide +kernel
theorem dX11_seen_113 : decode MX11_seen.2.1 113 = .ok (.aload_n 0, 1) := by decide +kernel
theorem dX11_seen_114 : decode MX11_seen.2.1 114 = .ok (.aload_n 0, 1) := by decide +kernel
theorem dX11_seen_115 : decode MX11_seen.2.1 115 = .ok (.getfield 14, 3) := by decide +kernel
theorem dX11_seen_118 : decode MX11_seen.2.1 118 = .ok (.getfield 412, 3) := by decide +kernel
theorem dX11_seen_121 : decode MX11_seen.2.1 121 = .ok (.invokevirtual 133, 3) := by decide +kernel
theorem dX11_seen_124 : decode MX11_seen.2.1 124 = .ok (.ireturn, 1) := by decide +kernel
theorem dX11_forget_0 : decode MX11_forget.2.1 0 = .ok (.aload_n 0, 1) := by decide +kernel
theorem dX11_forget_1 : decode MX11_forget.2.1 1 = .ok (.getfield 14, 3) := by decide +kernel
theorem dX11_forget_4 : decode MX11_forget.2.1 4 = .ok (.getfield 412, 3) := by decide +kernel
theorem dX11_forget_7 : decode MX11_forget.2.1 7 = .ok (.istore_n 1, 1) := by decide +kernel
theorem dX11_forget_8 : decode MX11_forget.2.1 8 = .ok (.aload_n 0, 1) := by decide +kernel
theorem dX11_forget_9 : decode MX11_forget.2.1 9 = .ok (.getfield 14, 3) := by decide +kernel
theorem dX11_forget_12 : decode MX11_forget.2.1 12 = .ok (.iconst 0, 1) := by decide +kernel
theorem dX11_forget_13 : decode MX11_forget.2.1 13 = .ok (.putfield 412, 3) := by decide +kernel
theorem dX11_forget_16 : decode MX11_forget.2.1 16 = .ok (.iload_n 1, 1) := by decide +kernel
theorem dX11_forget_17 : decode MX11_forget.2.1 17 = .ok (.ireturn, 1) := by decide +kernel
theorem dX11_holds_0 : decode MX11_holds.2.1 0 = .ok (.iload_n 1, 1) := by decide +kernel
theorem dX11_holds_1 : decode MX11_holds.2.1 1 = .ok (.invokestatic 96, 3) := by decide +kernel
theorem dX11_holds_4 : decode MX11_holds.2.1 4 = .ok (.ifCond .eq 12, 3) := by decide +kernel
theorem dX11_holds_7 : decode MX11_holds.2.1 7 = .ok (.iload_n 2, 1) := by decide +kernel
theorem dX11_holds_8 : decode MX11_holds.2.1 8 = .ok (.iconst 0, 1) := by decide +kernel
theorem dX11_holds_9 : decode MX11_holds.2.1 9 = .ok (.iconst 3, 1) := by decide +kernel
theorem dX11_holds_10 : decode MX11_holds.2.1 10 = .ok (.invokestatic 136, 3) := by decide +kernel
theorem dX11_holds_13 : decode MX11_holds.2.1 13 = .ok (.ifCond .ne 5, 3) := by decide +kernel
theorem dX11_holds_16 : decode MX11_holds.2.1 16 = .ok (.iconst (-1), 1) := by decide +kernel
theorem dX11_holds_17 : decode MX11_holds.2.1 17 = .ok (.ireturn, 1) := by decide +kernel
theorem dX11_holds_18 : decode MX11_holds.2.1 18 = .ok (.iconst 1, 1) := by decide +kernel
theorem dX11_holds_19 : decode MX11_holds.2.1 19 = .ok (.istore_n 3, 1) := by decide +kernel
theorem dX11_holds_20 : decode MX11_holds.2.1 20 = .ok (.sipush 9999, 3) := by decide +kernel
theorem dX11_holds_23 : decode MX11_holds.2.1 23 = .ok (.istore 4, 2) := by decide +kernel
theorem dX11_holds_25 : decode MX11_holds.2.1 25 = .ok (.iconst 0, 1) := by decide +kernel
theorem dX11_holds_26 : decode MX11_holds.2.1 26 = .ok (.istore 5, 2) := by decide +kernel
theorem dX11_holds_28 : decode MX11_holds.2.1 28 = .ok (.iload 5, 2) := by decide +kernel
theorem dX11_holds_30 : decode MX11_holds.2.1 30 = .ok (.aload_n 0, 1) := by decide +kernel
theorem dX11_holds_31 : decode MX11_holds.2.1 31 = .ok (.getfield 14, 3) := by decide +kernel
theorem dX11_holds_34 : decode MX11_holds.2.1 34 = .ok (.getfield 412, 3) := by decide +kernel
theorem dX11_holds_37 : decode MX11_holds.2.1 37 = .ok (.if_icmp .ge 77, 3) := by decide +kernel
theorem dX11_holds_40 : decode MX11_holds.2.1 40 = .ok (.aload_n 0, 1) := by decide +kernel
theorem dX11_holds_41 : decode MX11_holds.2.1 41 = .ok (.getfield 14, 3) := by decide +kernel
theorem dX11_holds_44 : decode MX11_holds.2.1 44 = .ok (.getfield 415, 3) := by decide +kernel
theorem dX11_holds_47 : decode MX11_holds.2.1 47 = .ok (.iload 5, 2) := by decide +kernel
theorem dX11_holds_49 : decode MX11_holds.2.1 49 = .ok (.iaload, 1) := by decide +kernel
theorem dX11_holds_50 : decode MX11_holds.2.1 50 = .ok (.iload_n 1, 1) := by decide +kernel
theorem dX11_holds_51 : decode MX11_holds.2.1 51 = .ok (.if_icmp .eq 6, 3) := by decide +kernel
theorem dX11_holds_54 : decode MX11_holds.2.1 54 = .ok (.goto 54, 3) := by decide +kernel
theorem dX11_holds_57 : decode MX11_holds.2.1 57 = .ok (.aload_n 0, 1) := by decide +kernel
theorem dX11_holds_58 : decode MX11_holds.2.1 58 = .ok (.getfield 14, 3) := by decide +kernel
theorem dX11_holds_61 : decode MX11_holds.2.1 61 = .ok (.getfield 421, 3) := by decide +kernel
theorem dX11_holds_64 : decode MX11_holds.2.1 64 = .ok (.iload 5, 2) := by decide +kernel
theorem dX11_holds_66 : decode MX11_holds.2.1 66 = .ok (.iaload, 1) := by decide +kernel
theorem dX11_holds_67 : decode MX11_holds.2.1 67 = .ok (.iconst 1, 1) := by decide +kernel
theorem dX11_holds_68 : decode MX11_holds.2.1 68 = .ok (.if_icmp .ne 25, 3) := by decide +kernel
theorem dX11_holds_71 : decode MX11_holds.2.1 71 = .ok (.iload 4, 2) := by decide +kernel
theorem dX11_holds_73 : decode MX11_holds.2.1 73 = .ok (.aload_n 0, 1) := by decide +kernel
theorem dX11_holds_74 : decode MX11_holds.2.1 74 = .ok (.getfield 14, 3) := by decide +kernel
theorem dX11_holds_77 : decode MX11_holds.2.1 77 = .ok (.getfield 418, 3) := by decide +kernel
theorem dX11_holds_80 : decode MX11_holds.2.1 80 = .ok (.iload 5, 2) := by decide +kernel
theorem dX11_holds_82 : decode MX11_holds.2.1 82 = .ok (.iaload, 1) := by decide +kernel
theorem dX11_holds_83 : decode MX11_holds.2.1 83 = .ok (.iconst 1, 1) := by decide +kernel
theorem dX11_holds_84 : decode MX11_holds.2.1 84 = .ok (.isub, 1) := by decide +kernel
theorem dX11_holds_85 : decode MX11_holds.2.1 85 = .ok (.invokestatic 424, 3) := by decide +kernel
theorem dX11_holds_88 : decode MX11_holds.2.1 88 = .ok (.istore 4, 2) := by decide +kernel
theorem dX11_holds_90 : decode MX11_holds.2.1 90 = .ok (.goto 18, 3) := by decide +kernel
theorem dX11_holds_93 : decode MX11_holds.2.1 93 = .ok (.iload_n 3, 1) := by decide +kernel
theorem dX11_holds_94 : decode MX11_holds.2.1 94 = .ok (.aload_n 0, 1) := by decide +kernel
theorem dX11_holds_95 : decode MX11_holds.2.1 95 = .ok (.getfield 14, 3) := by decide +kernel
theorem dX11_holds_98 : decode MX11_holds.2.1 98 = .ok (.getfield 418, 3) := by decide +kernel
theorem dX11_holds_101 : decode MX11_holds.2.1 101 = .ok (.iload 5, 2) := by decide +kernel
theorem dX11_holds_103 : decode MX11_holds.2.1 103 = .ok (.iaload, 1) := by decide +kernel
theorem dX11_holds_104 : decode MX11_holds.2.1 104 = .ok (.invokestatic 343, 3) := by decide +kernel
theorem dX11_holds_107 : decode MX11_holds.2.1 107 = .ok (.istore_n 3, 1) := by decide +kernel
theorem dX11_holds_108 : decode MX11_holds.2.1 108 = .ok (.iinc 5 1, 3) := by decide +kernel
theorem dX11_holds_111 : decode MX11_holds.2.1 111 = .ok (.goto (-83), 3) := by decide +kernel
theorem dX11_holds_114 : decode MX11_holds.2.1 114 = .ok (.iconst 0, 1) := by decide +kernel
theorem dX11_holds_115 : decode MX11_holds.2.1 115 = .ok (.iload 4, 2) := by decide +kernel
theorem dX11_holds_117 : decode MX11_holds.2.1 117 = .ok (.iload_n 3, 1) := by decide +kernel
theorem dX11_holds_118 : decode MX11_holds.2.1 118 = .ok (.isub, 1) := by decide +kernel
theorem dX11_holds_119 : decode MX11_holds.2.1 119 = .ok (.iconst 1, 1) := by decide +kernel
theorem dX11_holds_120 : decode MX11_holds.2.1 120 = .ok (.iadd, 1) := by decide +kernel
theorem dX11_holds_121 : decode MX11_holds.2.1 121 = .ok (.invokestatic 343, 3) := by decide +kernel
theorem dX11_holds_124 : decode MX11_holds.2.1 124 = .ok (.istore 5, 2) := by decide +kernel
theorem dX11_holds_126 : decode MX11_holds.2.1 126 = .ok (.iload_n 2, 1) := by decide +kernel
theorem dX11_holds_127 : decode MX11_holds.2.1 127 = .ok (.iconst 2, 1) := by decide +kernel
theorem dX11_holds_128 : decode MX11_holds.2.1 128 = .ok (.if_icmp .ne 6, 3) := by decide +kernel
theorem dX11_holds_131 : decode MX11_holds.2.1 131 = .ok (.iload 5, 2) := by decide +kernel
theorem dX11_holds_133 : decode MX11_holds.2.1 133 = .ok (.ireturn, 1) := by decide +kernel
theorem dX11_holds_134 : decode MX11_holds.2.1 134 = .ok (.iload 5, 2) := by decide +kernel
theorem dX11_holds_136 : decode MX11_holds.2.1 136 = .ok (.ifCond .eq 14, 3) := by decide +kernel
theorem dX11_holds_139 : decode MX11_holds.2.1 139 = .ok (.iload_n 2, 1) := by decide +kernel
theorem dX11_holds_140 : decode MX11_holds.2.1 140 = .ok (.iconst 3, 1) := by decide +kernel
theorem dX11_holds_141 : decode MX11_holds.2.1 141 = .ok (.if_icmp .ne 11, 3) := by decide +kernel
theorem dX11_holds_144 : decode MX11_holds.2.1 144 = .ok (.iload 5, 2) := by decide +kernel
theorem dX11_holds_146 : decode MX11_holds.2.1 146 = .ok (.iconst 1, 1) := by decide +kernel
theorem dX11_holds_147 : decode MX11_holds.2.1 147 = .ok (.if_icmp .ne 5, 3) := by decide +kernel
theorem dX11_holds_150 : decode MX11_holds.2.1 150 = .ok (.iconst (-1), 1) := by decide +kernel
theorem dX11_holds_151 : decode MX11_holds.2.1 151 = .ok (.ireturn, 1) := by decide +kernel
theorem dX11_holds_152 : decode MX11_holds.2.1 152 = .ok (.iload_n 2, 1) := by decide +kernel
theorem dX11_holds_153 : decode MX11_holds.2.1 153 = .ok (.ifCond .ne 7, 3) := by decide +kernel
theorem dX11_holds_156 : decode MX11_holds.2.1 156 = .ok (.iload_n 3, 1) := by decide +kernel
theorem dX11_holds_157 : decode MX11_holds.2.1 157 = .ok (.goto 19, 3) := by decide +kernel
theorem dX11_holds_160 : decode MX11_holds.2.1 160 = .ok (.iload_n 2, 1) := by decide +kernel
theorem dX11_holds_161 : decode MX11_holds.2.1 161 = .ok (.iconst 1, 1) := by decide +kernel
theorem dX11_holds_162 : decode MX11_holds.2.1 162 = .ok (.if_icmp .ne 8, 3) := by decide +kernel
theorem dX11_holds_165 : decode MX11_holds.2.1 165 = .ok (.iload 4, 2) := by decide +kernel
theorem dX11_holds_167 : decode MX11_holds.2.1 167 = .ok (.goto 9, 3) := by decide +kernel
theorem dX11_holds_170 : decode MX11_holds.2.1 170 = .ok (.iload_n 3, 1) := by decide +kernel
theorem dX11_holds_171 : decode MX11_holds.2.1 171 = .ok (.iload 5, 2) := by decide +kernel
theorem dX11_holds_173 : decode MX11_holds.2.1 173 = .ok (.iconst 2, 1) := by decide +kernel
theorem dX11_holds_174 : decode MX11_holds.2.1 174 = .ok (.idiv, 1) := by decide +kernel
theorem dX11_holds_175 : decode MX11_holds.2.1 175 = .ok (.iadd, 1) := by decide +kernel
theorem dX11_holds_176 : decode MX11_holds.2.1 176 = .ok (.ireturn, 1) := by decide +kernel
theorem dX11_signs_0 : decode MX11_signs.2.1 0 = .ok (.iconst 0, 1) := by decide +kernel
theorem dX11_signs_1 : decode MX11_signs.2.1 1 = .ok (.istore_n 1, 1) := by decide +kernel
theorem dX11_signs_2 : decode MX11_signs.2.1 2 = .ok (.iconst 0, 1) := by decide +kernel
theorem dX11_signs_3 : decode MX11_signs.2.1 3 = .ok (.istore_n 2, 1) := by decide +kernel
theorem dX11_signs_4 : decode MX11_signs.2.1 4 = .ok (.iload_n 2, 1) := by decide +kernel
theorem dX11_signs_5 : decode MX11_signs.2.1 5 = .ok (.aload_n 0, 1) := by decide +kernel
theorem dX11_signs_6 : decode MX11_signs.2.1 6 = .ok (.getfield 14, 3) := by decide +kernel
theorem dX11_signs_9 : decode MX11_signs.2.1 9 = .ok (.getfield 150, 3) := by decide +kernel
theorem dX11_signs_12 : decode MX11_signs.2.1 12 = .ok (.getfield 427, 3) := by decide +kernel
theorem dX11_signs_15 : decode MX11_signs.2.1 15 = .ok (.if_icmp .ge 45, 3) := by decide +kernel
theorem dX11_signs_18 : decode MX11_signs.2.1 18 = .ok (.aload_n 0, 1) := by decide +kernel
theorem dX11_signs_19 : decode MX11_signs.2.1 19 = .ok (.getfield 14, 3) := by decide +kernel
theorem dX11_signs_22 : decode MX11_signs.2.1 22 = .ok (.getfield 150, 3) := by decide +kernel
theorem dX11_signs_25 : decode MX11_signs.2.1 25 = .ok (.getfield 174, 3) := by decide +kernel
theorem dX11_signs_28 : decode MX11_signs.2.1 28 = .ok (.iload_n 2, 1) := by decide +kernel
theorem dX11_signs_29 : decode MX11_signs.2.1 29 = .ok (.iaload, 1) := by decide +kernel
theorem dX11_signs_30 : decode MX11_signs.2.1 30 = .ok (.ifCond .le 24, 3) := by decide +kernel
theorem dX11_signs_33 : decode MX11_signs.2.1 33 = .ok (.aload_n 0, 1) := by decide +kernel
theorem dX11_signs_34 : decode MX11_signs.2.1 34 = .ok (.getfield 89, 3) := by decide +kernel
theorem dX11_signs_37 : decode MX11_signs.2.1 37 = .ok (.iload_n 1, 1) := by decide +kernel
theorem dX11_signs_38 : decode MX11_signs.2.1 38 = .ok (.aload_n 0, 1) := by decide +kernel
theorem dX11_signs_39 : decode MX11_signs.2.1 39 = .ok (.getfield 14, 3) := by decide +kernel
theorem dX11_signs_42 : decode MX11_signs.2.1 42 = .ok (.getfield 150, 3) := by decide +kernel
theorem dX11_signs_45 : decode MX11_signs.2.1 45 = .ok (.getfield 174, 3) := by decide +kernel
theorem dX11_signs_48 : decode MX11_signs.2.1 48 = .ok (.iload_n 2, 1) := by decide +kernel
theorem dX11_signs_49 : decode MX11_signs.2.1 49 = .ok (.iaload, 1) := by decide +kernel
theorem dX11_signs_50 : decode MX11_signs.2.1 50 = .ok (.iastore, 1) := by decide +kernel
theorem dX11_signs_51 : decode MX11_signs.2.1 51 = .ok (.iinc 1 1, 3) := by decide +kernel
theorem dX11_signs_54 : decode MX11_signs.2.1 54 = .ok (.iinc 2 1, 3) := by decide +kernel
theorem dX11_signs_57 : decode MX11_signs.2.1 57 = .ok (.goto (-53), 3) := by decide +kernel
theorem dX11_signs_60 : decode MX11_signs.2.1 60 = .ok (.iload_n 1, 1) := by decide +kernel
theorem dX11_signs_61 : decode MX11_signs.2.1 61 = .ok (.iconst 1, 1) := by decide +kernel
theorem dX11_signs_62 : decode MX11_signs.2.1 62 = .ok (.if_icmp .ne 10, 3) := by decide +kernel
theorem dX11_signs_65 : decode MX11_signs.2.1 65 = .ok (.aload_n 0, 1) := by decide +kernel
theorem dX11_signs_66 : decode MX11_signs.2.1 66 = .ok (.getfield 89, 3) := by decide +kernel
theorem dX11_signs_69 : decode MX11_signs.2.1 69 = .ok (.iconst 0, 1) := by decide +kernel
theorem dX11_signs_70 : decode MX11_signs.2.1 70 = .ok (.iaload, 1) := by decide +kernel
theorem dX11_signs_71 : decode MX11_signs.2.1 71 = .ok (.ireturn, 1) := by decide +kernel
theorem dX11_signs_72 : decode MX11_signs.2.1 72 = .ok (.iconst 0, 1) := by decide +kernel
theorem dX11_signs_73 : decode MX11_signs.2.1 73 = .ok (.istore_n 2, 1) := by decide +kernel
theorem dX11_signs_74 : decode MX11_signs.2.1 74 = .ok (.iload_n 1, 1) := by decide +kernel
theorem dX11_signs_75 : decode MX11_signs.2.1 75 = .ok (.iconst 1, 1) := by decide +kernel
theorem dX11_signs_76 : decode MX11_signs.2.1 76 = .ok (.if_icmp .le 51, 3) := by decide +kernel
theorem dX11_signs_79 : decode MX11_signs.2.1 79 = .ok (.aload_n 0, 1) := by decide +kernel
theorem dX11_signs_80 : decode MX11_signs.2.1 80 = .ok (.iload_n 1, 1) := by decide +kernel
theorem dX11_signs_81 : decode MX11_signs.2.1 81 = .ok (.invokevirtual 429, 3) := by decide +kernel
theorem dX11_signs_84 : decode MX11_signs.2.1 84 = .ok (.aload_n 0, 1) := by decide +kernel
theorem dX11_signs_85 : decode MX11_signs.2.1 85 = .ok (.iload_n 1, 1) := by decide +kernel
theorem dX11_signs_86 : decode MX11_signs.2.1 86 = .ok (.iconst 1, 1) := by decide +kernel
theorem dX11_signs_87 : decode MX11_signs.2.1 87 = .ok (.isub, 1) := by decide +kernel
theorem dX11_signs_88 : decode MX11_signs.2.1 88 = .ok (.invokevirtual 429, 3) := by decide +kernel
theorem dX11_signs_91 : decode MX11_signs.2.1 91 = .ok (.aload_n 0, 1) := by decide +kernel
theorem dX11_signs_92 : decode MX11_signs.2.1 92 = .ok (.getfield 89, 3) := by decide +kernel
theorem dX11_signs_95 : decode MX11_signs.2.1 95 = .ok (.iload_n 1, 1) := by decide +kernel
theorem dX11_signs_96 : decode MX11_signs.2.1 96 = .ok (.iconst 2, 1) := by decide +kernel
theorem dX11_signs_97 : decode MX11_signs.2.1 97 = .ok (.isub, 1) := by decide +kernel
theorem dX11_signs_98 : decode MX11_signs.2.1 98 = .ok (.dup2, 1) := by decide +kernel
theorem dX11_signs_99 : decode MX11_signs.2.1 99 = .ok (.iaload, 1) := by decide +kernel
theorem dX11_signs_100 : decode MX11_signs.2.1 100 = .ok (.aload_n 0, 1) := by decide +kernel
theorem dX11_signs_101 : decode MX11_signs.2.1 101 = .ok (.getfield 89, 3) := by decide +kernel
theorem dX11_signs_104 : decode MX11_signs.2.1 104 = .ok (.iload_n 1, 1) := by decide +kernel
theorem dX11_signs_105 : decode MX11_signs.2.1 105 = .ok (.iconst 1, 1) := by decide +kernel
theorem dX11_signs_106 : decode MX11_signs.2.1 106 = .ok (.isub, 1) := by decide +kernel
theorem dX11_signs_107 : decode MX11_signs.2.1 107 = .ok (.iaload, 1) := by decide +kernel
theorem dX11_signs_108 : decode MX11_signs.2.1 108 = .ok (.iadd, 1) := by decide +kernel
theorem dX11_signs_109 : decode MX11_signs.2.1 109 = .ok (.iastore, 1) := by decide +kernel
theorem dX11_signs_110 : decode MX11_signs.2.1 110 = .ok (.iload_n 2, 1) := by decide +kernel
theorem dX11_signs_111 : decode MX11_signs.2.1 111 = .ok (.aload_n 0, 1) := by decide +kernel
theorem dX11_signs_112 : decode MX11_signs.2.1 112 = .ok (.getfield 89, 3) := by decide +kernel
theorem dX11_signs_115 : decode MX11_signs.2.1 115 = .ok (.iload_n 1, 1) := by decide +kernel
theorem dX11_signs_116 : decode MX11_signs.2.1 116 = .ok (.iconst 2, 1) := by decide +kernel
theorem dX11_signs_117 : decode MX11_signs.2.1 117 = .ok (.isub, 1) := by decide +kernel
theorem dX11_signs_118 : decode MX11_signs.2.1 118 = .ok (.iaload, 1) := by decide +kernel
theorem dX11_signs_119 : decode MX11_signs.2.1 119 = .ok (.iadd, 1) := by decide +kernel
theorem dX11_signs_120 : decode MX11_signs.2.1 120 = .ok (.istore_n 2, 1) := by decide +kernel
theorem dX11_signs_121 : decode MX11_signs.2.1 121 = .ok (.iinc 1 (-1), 3) := by decide +kernel
theorem dX11_signs_124 : decode MX11_signs.2.1 124 = .ok (.goto (-50), 3) := by decide +kernel
theorem dX11_signs_127 : decode MX11_signs.2.1 127 = .ok (.iload_n 2, 1) := by decide +kernel
theorem dX11_signs_128 : decode MX11_signs.2.1 128 = .ok (.ireturn, 1) := by decide +kernel
theorem dX11_lightestLast_0 : decode MX11_lightestLast.2.1 0 = .ok (.iconst 0, 1) := by decide +kernel
theorem dX11_lightestLast_1 : decode MX11_lightestLast.2.1 1 = .ok (.istore_n 2, 1) := by decide +kernel
theorem dX11_lightestLast_2 : decode MX11_lightestLast.2.1 2 = .ok (.iload_n 2, 1) := by decide +kernel
theorem dX11_lightestLast_3 : decode MX11_lightestLast.2.1 3 = .ok (.iload_n 1, 1) := by decide +kernel
theorem dX11_lightestLast_4 : decode MX11_lightestLast.2.1 4 = .ok (.iconst 1, 1) := by decide +kernel
theorem dX11_lightestLast_5 : decode MX11_lightestLast.2.1 5 = .ok (.isub, 1) := by decide +kernel
theorem dX11_lightestLast_6 : decode MX11_lightestLast.2.1 6 = .ok (.if_icmp .ge 56, 3) := by decide +kernel
theorem dX11_lightestLast_9 : decode MX11_lightestLast.2.1 9 = .ok (.aload_n 0, 1) := by decide +kernel
theorem dX11_lightestLast_10 : decode MX11_lightestLast.2.1 10 = .ok (.getfield 89, 3) := by decide +kernel
theorem dX11_lightestLast_13 : decode MX11_lightestLast.2.1 13 = .ok (.iload_n 2, 1) := by decide +kernel
theorem dX11_lightestLast_14 : decode MX11_lightestLast.2.1 14 = .ok (.iaload, 1) := by decide +kernel
theorem dX11_lightestLast_15 : decode MX11_lightestLast.2.1 15 = .ok (.aload_n 0, 1) := by decide +kernel
theorem dX11_lightestLast_16 : decode MX11_lightestLast.2.1 16 = .ok (.getfield 89, 3) := by decide +kernel
theorem dX11_lightestLast_19 : decode MX11_lightestLast.2.1 19 = .ok (.iload_n 1, 1) := by decide +kernel
theorem dX11_lightestLast_20 : decode MX11_lightestLast.2.1 20 = .ok (.iconst 1, 1) := by decide +kernel
theorem dX11_lightestLast_21 : decode MX11_lightestLast.2.1 21 = .ok (.isub, 1) := by decide +kernel
theorem dX11_lightestLast_22 : decode MX11_lightestLast.2.1 22 = .ok (.iaload, 1) := by decide +kernel
theorem dX11_lightestLast_23 : decode MX11_lightestLast.2.1 23 = .ok (.if_icmp .ge 33, 3) := by decide +kernel
theorem dX11_lightestLast_26 : decode MX11_lightestLast.2.1 26 = .ok (.aload_n 0, 1) := by decide +kernel
theorem dX11_lightestLast_27 : decode MX11_lightestLast.2.1 27 = .ok (.getfield 89, 3) := by decide +kernel
theorem dX11_lightestLast_30 : decode MX11_lightestLast.2.1 30 = .ok (.iload_n 2, 1) := by decide +kernel
theorem dX11_lightestLast_31 : decode MX11_lightestLast.2.1 31 = .ok (.iaload, 1) := by decide +kernel
theorem dX11_lightestLast_32 : decode MX11_lightestLast.2.1 32 = .ok (.istore_n 3, 1) := by decide +kernel
theorem dX11_lightestLast_33 : decode MX11_lightestLast.2.1 33 = .ok (.aload_n 0, 1) := by decide +kernel
theorem dX11_lightestLast_34 : decode MX11_lightestLast.2.1 34 = .ok (.getfield 89, 3) := by decide +kernel
theorem dX11_lightestLast_37 : decode MX11_lightestLast.2.1 37 = .ok (.iload_n 2, 1) := by decide +kernel
theorem dX11_lightestLast_38 : decode MX11_lightestLast.2.1 38 = .ok (.aload_n 0, 1) := by decide +kernel
theorem dX11_lightestLast_39 : decode MX11_lightestLast.2.1 39 = .ok (.getfield 89, 3) := by decide +kernel
theorem dX11_lightestLast_42 : decode MX11_lightestLast.2.1 42 = .ok (.iload_n 1, 1) := by decide +kernel
theorem dX11_lightestLast_43 : decode MX11_lightestLast.2.1 43 = .ok (.iconst 1, 1) := by decide +kernel
theorem dX11_lightestLast_44 : decode MX11_lightestLast.2.1 44 = .ok (.isub, 1) := by decide +kernel
theorem dX11_lightestLast_45 : decode MX11_lightestLast.2.1 45 = .ok (.iaload, 1) := by decide +kernel
theorem dX11_lightestLast_46 : decode MX11_lightestLast.2.1 46 = .ok (.iastore, 1) := by decide +kernel
theorem dX11_lightestLast_47 : decode MX11_lightestLast.2.1 47 = .ok (.aload_n 0, 1) := by decide +kernel
theorem dX11_lightestLast_48 : decode MX11_lightestLast.2.1 48 = .ok (.getfield 89, 3) := by decide +kernel
theorem dX11_lightestLast_51 : decode MX11_lightestLast.2.1 51 = .ok (.iload_n 1, 1) := by decide +kernel
theorem dX11_lightestLast_52 : decode MX11_lightestLast.2.1 52 = .ok (.iconst 1, 1) := by decide +kernel
theorem dX11_lightestLast_53 : decode MX11_lightestLast.2.1 53 = .ok (.isub, 1) := by decide +kernel
theorem dX11_lightestLast_54 : decode MX11_lightestLast.2.1 54 = .ok (.iload_n 3, 1) := by decide +kernel
theorem dX11_lightestLast_55 : decode MX11_lightestLast.2.1 55 = .ok (.iastore, 1) := by decide +kernel
theorem dX11_lightestLast_56 : decode MX11_lightestLast.2.1 56 = .ok (.iinc 2 1, 3) := by decide +kernel
theorem dX11_lightestLast_59 : decode MX11_lightestLast.2.1 59 = .ok (.goto (-57), 3) := by decide +kernel
theorem dX11_lightestLast_62 : decode MX11_lightestLast.2.1 62 = .ok (.return_, 1) := by decide +kernel
theorem dX11_winter_0 : decode MX11_winter.2.1 0 = .ok (.iload_n 1, 1) := by decide +kernel
theorem dX11_winter_1 : decode MX11_winter.2.1 1 = .ok (.iconst 0, 1) := by decide +kernel
theorem dX11_winter_2 : decode MX11_winter.2.1 2 = .ok (.ldc_w 432, 3) := by decide +kernel
theorem dX11_winter_5 : decode MX11_winter.2.1 5 = .ok (.invokestatic 136, 3) := by decide +kernel
theorem dX11_winter_8 : decode MX11_winter.2.1 8 = .ok (.ifCond .eq 13, 3) := by decide +kernel
theorem dX11_winter_11 : decode MX11_winter.2.1 11 = .ok (.iload_n 2, 1) := by decide +kernel
theorem dX11_winter_12 : decode MX11_winter.2.1 12 = .ok (.iconst 1, 1) := by decide +kernel
theorem dX11_winter_13 : decode MX11_winter.2.1 13 = .ok (.bipush 100, 2) := by decide +kernel
theorem dX11_winter_15 : decode MX11_winter.2.1 15 = .ok (.invokestatic 136, 3) := by decide +kernel
theorem dX11_winter_18 : decode MX11_winter.2.1 18 = .ok (.ifCond .ne 9, 3) := by decide +kernel
theorem dX11_winter_21 : decode MX11_winter.2.1 21 = .ok (.aload_n 0, 1) := by decide +kernel
theorem dX11_winter_22 : decode MX11_winter.2.1 22 = .ok (.iconst (-1), 1) := by decide +kernel
theorem dX11_winter_23 : decode MX11_winter.2.1 23 = .ok (.invokevirtual 104, 3) := by decide +kernel
theorem dX11_winter_26 : decode MX11_winter.2.1 26 = .ok (.ireturn, 1) := by decide +kernel
theorem dX11_winter_27 : decode MX11_winter.2.1 27 = .ok (.aload_n 0, 1) := by decide +kernel
theorem dX11_winter_28 : decode MX11_winter.2.1 28 = .ok (.getfield 82, 3) := by decide +kernel
theorem dX11_winter_31 : decode MX11_winter.2.1 31 = .ok (.astore_n 3, 1) := by decide +kernel
theorem dX11_winter_32 : decode MX11_winter.2.1 32 = .ok (.aload_n 3, 1) := by decide +kernel
theorem dX11_winter_33 : decode MX11_winter.2.1 33 = .ok (.aload_n 0, 1) := by decide +kernel
theorem dX11_winter_34 : decode MX11_winter.2.1 34 = .ok (.getfield 14, 3) := by decide +kernel
theorem dX11_winter_37 : decode MX11_winter.2.1 37 = .ok (.getfield 112, 3) := by decide +kernel
theorem dX11_winter_40 : decode MX11_winter.2.1 40 = .ok (.invokevirtual 223, 3) := by decide +kernel
theorem dX11_winter_43 : decode MX11_winter.2.1 43 = .ok (.aload_n 3, 1) := by decide +kernel
theorem dX11_winter_44 : decode MX11_winter.2.1 44 = .ok (.getfield 142, 3) := by decide +kernel
theorem dX11_winter_47 : decode MX11_winter.2.1 47 = .ok (.iconst 0, 1) := by decide +kernel
theorem dX11_winter_48 : decode MX11_winter.2.1 48 = .ok (.invokestatic 433, 3) := by decide +kernel
theorem dX11_winter_51 : decode MX11_winter.2.1 51 = .ok (.aload_n 3, 1) := by decide +kernel
theorem dX11_winter_52 : decode MX11_winter.2.1 52 = .ok (.iconst 0, 1) := by decide +kernel
theorem dX11_winter_53 : decode MX11_winter.2.1 53 = .ok (.putfield 234, 3) := by decide +kernel
theorem dX11_winter_56 : decode MX11_winter.2.1 56 = .ok (.iload_n 1, 1) := by decide +kernel
theorem dX11_winter_57 : decode MX11_winter.2.1 57 = .ok (.istore 4, 2) := by decide +kernel
theorem dX11_winter_59 : decode MX11_winter.2.1 59 = .ok (.iconst 0, 1) := by decide +kernel
theorem dX11_winter_60 : decode MX11_winter.2.1 60 = .ok (.istore 5, 2) := by decide +kernel
theorem dX11_winter_62 : decode MX11_winter.2.1 62 = .ok (.iload 5, 2) := by decide +kernel
theorem dX11_winter_64 : decode MX11_winter.2.1 64 = .ok (.iload_n 2, 1) := by decide +kernel
theorem dX11_winter_65 : decode MX11_winter.2.1 65 = .ok (.if_icmp .ge 50, 3) := by decide +kernel
theorem dX11_winter_68 : decode MX11_winter.2.1 68 = .ok (.aload_n 0, 1) := by decide +kernel
theorem dX11_winter_69 : decode MX11_winter.2.1 69 = .ok (.getfield 14, 3) := by decide +kernel
theorem dX11_winter_72 : decode MX11_winter.2.1 72 = .ok (.getfield 150, 3) := by decide +kernel
theorem dX11_winter_75 : decode MX11_winter.2.1 75 = .ok (.getfield 427, 3) := by decide +kernel
theorem dX11_winter_78 : decode MX11_winter.2.1 78 = .ok (.ifCond .le 12, 3) := by decide +kernel
theorem dX11_winter_81 : decode MX11_winter.2.1 81 = .ok (.aload_n 0, 1) := by decide +kernel
theorem dX11_winter_82 : decode MX11_winter.2.1 82 = .ok (.aload_n 3, 1) := by decide +kernel
theorem dX11_winter_83 : decode MX11_winter.2.1 83 = .ok (.iload 4, 2) := by decide +kernel
theorem dX11_winter_85 : decode MX11_winter.2.1 85 = .ok (.invokevirtual 439, 3) := by decide +kernel
theorem dX11_winter_88 : decode MX11_winter.2.1 88 = .ok (.istore 4, 2) := by decide +kernel
theorem dX11_winter_90 : decode MX11_winter.2.1 90 = .ok (.aload_n 3, 1) := by decide +kernel
theorem dX11_winter_91 : decode MX11_winter.2.1 91 = .ok (.getfield 177, 3) := by decide +kernel
theorem dX11_winter_94 : decode MX11_winter.2.1 94 = .ok (.sipush 999, 3) := by decide +kernel
theorem dX11_winter_97 : decode MX11_winter.2.1 97 = .ok (.if_icmp .lt 6, 3) := by decide +kernel
theorem dX11_winter_100 : decode MX11_winter.2.1 100 = .ok (.goto 15, 3) := by decide +kernel
theorem dX11_winter_103 : decode MX11_winter.2.1 103 = .ok (.aload_n 0, 1) := by decide +kernel
theorem dX11_winter_104 : decode MX11_winter.2.1 104 = .ok (.aload_n 3, 1) := by decide +kernel
theorem dX11_winter_105 : decode MX11_winter.2.1 105 = .ok (.invokevirtual 267, 3) := by decide +kernel
theorem dX11_winter_108 : decode MX11_winter.2.1 108 = .ok (.pop, 1) := by decide +kernel
theorem dX11_winter_109 : decode MX11_winter.2.1 109 = .ok (.iinc 5 1, 3) := by decide +kernel
theorem dX11_winter_112 : decode MX11_winter.2.1 112 = .ok (.goto (-50), 3) := by decide +kernel
theorem dX11_winter_115 : decode MX11_winter.2.1 115 = .ok (.aload_n 0, 1) := by decide +kernel
theorem dX11_winter_116 : decode MX11_winter.2.1 116 = .ok (.iconst 1, 1) := by decide +kernel
theorem dX11_winter_117 : decode MX11_winter.2.1 117 = .ok (.putfield 443, 3) := by decide +kernel
theorem dX11_winter_120 : decode MX11_winter.2.1 120 = .ok (.aload_n 0, 1) := by decide +kernel
theorem dX11_winter_121 : decode MX11_winter.2.1 121 = .ok (.aload_n 3, 1) := by decide +kernel
theorem dX11_winter_122 : decode MX11_winter.2.1 122 = .ok (.getfield 234, 3) := by decide +kernel
theorem dX11_winter_125 : decode MX11_winter.2.1 125 = .ok (.invokevirtual 133, 3) := by decide +kernel
theorem dX11_winter_128 : decode MX11_winter.2.1 128 = .ok (.ireturn, 1) := by decide +kernel
theorem dX11_winterTalk_0 : decode MX11_winterTalk.2.1 0 = .ok (.iconst 1, 1) := by decide +kernel
theorem dX11_winterTalk_1 : decode MX11_winterTalk.2.1 1 = .ok (.aload_n 0, 1) := by decide +kernel
theorem dX11_winterTalk_2 : decode MX11_winterTalk.2.1 2 = .ok (.getfield 14, 3) := by decide +kernel
theorem dX11_winterTalk_5 : decode MX11_winterTalk.2.1 5 = .ok (.getfield 150, 3) := by decide +kernel
theorem dX11_winterTalk_8 : decode MX11_winterTalk.2.1 8 = .ok (.getfield 427, 3) := by decide +kernel
theorem dX11_winterTalk_11 : decode MX11_winterTalk.2.1 11 = .ok (.invokestatic 343, 3) := by decide +kernel
theorem dX11_winterTalk_14 : decode MX11_winterTalk.2.1 14 = .ok (.istore_n 3, 1) := by decide +kernel
theorem dX11_winterTalk_15 : decode MX11_winterTalk.2.1 15 = .ok (.iload_n 2, 1) := by decide +kernel
theorem dX11_winterTalk_16 : decode MX11_winterTalk.2.1 16 = .ok (.invokestatic 447, 3) := by decide +kernel
theorem dX11_winterTalk_19 : decode MX11_winterTalk.2.1 19 = .ok (.istore 4, 2) := by decide +kernel
theorem dX11_winterTalk_21 : decode MX11_winterTalk.2.1 21 = .ok (.iload 4, 2) := by decide +kernel
theorem dX11_winterTalk_23 : decode MX11_winterTalk.2.1 23 = .ok (.invokestatic 447, 3) := by decide +kernel
theorem dX11_winterTalk_26 : decode MX11_winterTalk.2.1 26 = .ok (.istore 5, 2) := by decide +kernel
theorem dX11_winterTalk_28 : decode MX11_winterTalk.2.1 28 = .ok (.iload 5, 2) := by decide +kernel
theorem dX11_winterTalk_30 : decode MX11_winterTalk.2.1 30 = .ok (.invokestatic 447, 3) := by decide +kernel
theorem dX11_winterTalk_33 : decode MX11_winterTalk.2.1 33 = .ok (.istore 6, 2) := by decide +kernel
theorem dX11_winterTalk_35 : decode MX11_winterTalk.2.1 35 = .ok (.iload 4, 2) := by decide +kernel
theorem dX11_winterTalk_37 : decode MX11_winterTalk.2.1 37 = .ok (.iload_n 3, 1) := by decide +kernel
theorem dX11_winterTalk_38 : decode MX11_winterTalk.2.1 38 = .ok (.irem, 1) := by decide +kernel
theorem dX11_winterTalk_39 : decode MX11_winterTalk.2.1 39 = .ok (.istore 7, 2) := by decide +kernel
theorem dX11_winterTalk_41 : decode MX11_winterTalk.2.1 41 = .ok (.iload 5, 2) := by decide +kernel
theorem dX11_winterTalk_43 : decode MX11_winterTalk.2.1 43 = .ok (.iconst 4, 1) := by decide +kernel
theorem dX11_winterTalk_44 : decode MX11_winterTalk.2.1 44 = .ok (.irem, 1) := by decide +kernel
theorem dX11_winterTalk_45 : decode MX11_winterTalk.2.1 45 = .ok (.istore 8, 2) := by decide +kernel
theorem dX11_winterTalk_47 : decode MX11_winterTalk.2.1 47 = .ok (.iload 6, 2) := by decide +kernel
theorem dX11_winterTalk_49 : decode MX11_winterTalk.2.1 49 = .ok (.iconst 3, 1) := by decide +kernel
theorem dX11_winterTalk_50 : decode MX11_winterTalk.2.1 50 = .ok (.irem, 1) := by decide +kernel
theorem dX11_winterTalk_51 : decode MX11_winterTalk.2.1 51 = .ok (.iconst 1, 1) := by decide +kernel
theorem dX11_winterTalk_52 : decode MX11_winterTalk.2.1 52 = .ok (.iadd, 1) := by decide +kernel
theorem dX11_winterTalk_53 : decode MX11_winterTalk.2.1 53 = .ok (.istore 9, 2) := by decide +kernel
theorem dX11_winterTalk_55 : decode MX11_winterTalk.2.1 55 = .ok (.aload_n 0, 1) := by decide +kernel
theorem dX11_winterTalk_56 : decode MX11_winterTalk.2.1 56 = .ok (.aload_n 1, 1) := by decide +kernel
theorem dX11_winterTalk_57 : decode MX11_winterTalk.2.1 57 = .ok (.iload 7, 2) := by decide +kernel
theorem dX11_winterTalk_59 : decode MX11_winterTalk.2.1 59 = .ok (.iload 8, 2) := by decide +kernel
theorem dX11_winterTalk_61 : decode MX11_winterTalk.2.1 61 = .ok (.iload 9, 2) := by decide +kernel
theorem dX11_winterTalk_63 : decode MX11_winterTalk.2.1 63 = .ok (.invokevirtual 280, 3) := by decide +kernel
theorem dX11_winterTalk_66 : decode MX11_winterTalk.2.1 66 = .ok (.ifCond .ne 16, 3) := by decide +kernel
theorem dX11_winterTalk_69 : decode MX11_winterTalk.2.1 69 = .ok (.aload_n 0, 1) := by decide +kernel
theorem dX11_winterTalk_70 : decode MX11_winterTalk.2.1 70 = .ok (.aload_n 1, 1) := by decide +kernel
theorem dX11_winterTalk_71 : decode MX11_winterTalk.2.1 71 = .ok (.iconst 0, 1) := by decide +kernel
theorem dX11_winterTalk_72 : decode MX11_winterTalk.2.1 72 = .ok (.iload 7, 2) := by decide +kernel
theorem dX11_winterTalk_74 : decode MX11_winterTalk.2.1 74 = .ok (.iload 8, 2) := by decide +kernel
theorem dX11_winterTalk_76 : decode MX11_winterTalk.2.1 76 = .ok (.iload 9, 2) := by decide +kernel
theorem dX11_winterTalk_78 : decode MX11_winterTalk.2.1 78 = .ok (.invokevirtual 284, 3) := by decide +kernel
theorem dX11_winterTalk_81 : decode MX11_winterTalk.2.1 81 = .ok (.pop, 1) := by decide +kernel
theorem dX11_winterTalk_82 : decode MX11_winterTalk.2.1 82 = .ok (.iload 6, 2) := by decide +kernel
theorem dX11_winterTalk_84 : decode MX11_winterTalk.2.1 84 = .ok (.ireturn, 1) := by decide +kernel
theorem dX11_nextDraw_0 : decode MX11_nextDraw.2.1 0 = .ok (.iload_n 0, 1) := by decide +kernel
theorem dX11_nextDraw_1 : decode MX11_nextDraw.2.1 1 = .ok (.sipush 1103, 3) := by decide +kernel
theorem dX11_nextDraw_4 : decode MX11_nextDraw.2.1 4 = .ok (.imul, 1) := by decide +kernel
theorem dX11_nextDraw_5 : decode MX11_nextDraw.2.1 5 = .ok (.sipush 12345, 3) := by decide +kernel
theorem dX11_nextDraw_8 : decode MX11_nextDraw.2.1 8 = .ok (.iadd, 1) := by decide +kernel
theorem dX11_nextDraw_9 : decode MX11_nextDraw.2.1 9 = .ok (.ldc_w 450, 3) := by decide +kernel
theorem dX11_nextDraw_12 : decode MX11_nextDraw.2.1 12 = .ok (.irem, 1) := by decide +kernel
theorem dX11_nextDraw_13 : decode MX11_nextDraw.2.1 13 = .ok (.ireturn, 1) := by decide +kernel
theorem dX11_drawn_0 : decode MX11_drawn.2.1 0 = .ok (.aload_n 0, 1) := by decide +kernel
theorem dX11_drawn_1 : decode MX11_drawn.2.1 1 = .ok (.getfield 443, 3) := by decide +kernel
theorem dX11_drawn_4 : decode MX11_drawn.2.1 4 = .ok (.ifCond .eq 19, 3) := by decide +kernel
theorem dX11_drawn_7 : decode MX11_drawn.2.1 7 = .ok (.iload_n 1, 1) := by decide +kernel
theorem dX11_drawn_8 : decode MX11_drawn.2.1 8 = .ok (.invokestatic 96, 3) := by decide +kernel
theorem dX11_drawn_11 : decode MX11_drawn.2.1 11 = .ok (.ifCond .eq 12, 3) := by decide +kernel
theorem dX11_drawn_14 : decode MX11_drawn.2.1 14 = .ok (.iload_n 2, 1) := by decide +kernel
theorem dX11_drawn_15 : decode MX11_drawn.2.1 15 = .ok (.iconst 0, 1) := by decide +kernel
theorem dX11_drawn_16 : decode MX11_drawn.2.1 16 = .ok (.iconst 1, 1) := by decide +kernel
theorem dX11_drawn_17 : decode MX11_drawn.2.1 17 = .ok (.invokestatic 136, 3) := by decide +kernel
theorem dX11_drawn_20 : decode MX11_drawn.2.1 20 = .ok (.ifCond .ne 5, 3) := by decide +kernel
theorem dX11_drawn_23 : decode MX11_drawn.2.1 23 = .ok (.iconst (-1), 1) := by decide +kernel
theorem dX11_drawn_24 : decode MX11_drawn.2.1 24 = .ok (.ireturn, 1) := by decide +kernel
theorem dX11_drawn_25 : decode MX11_drawn.2.1 25 = .ok (.iload_n 2, 1) := by decide +kernel
theorem dX11_drawn_26 : decode MX11_drawn.2.1 26 = .ok (.ifCond .ne 15, 3) := by decide +kernel
theorem dX11_drawn_29 : decode MX11_drawn.2.1 29 = .ok (.aload_n 0, 1) := by decide +kernel
theorem dX11_drawn_30 : decode MX11_drawn.2.1 30 = .ok (.getfield 82, 3) := by decide +kernel
theorem dX11_drawn_33 : decode MX11_drawn.2.1 33 = .ok (.getfield 115, 3) := by decide +kernel
theorem dX11_drawn_36 : decode MX11_drawn.2.1 36 = .ok (.iload_n 1, 1) := by decide +kernel
theorem dX11_drawn_37 : decode MX11_drawn.2.1 37 = .ok (.iaload, 1) := by decide +kernel
theorem dX11_drawn_38 : decode MX11_drawn.2.1 38 = .ok (.goto 12, 3) := by decide +kernel
theorem dX11_drawn_41 : decode MX11_drawn.2.1 41 = .ok (.aload_n 0, 1) := by decide +kernel
theorem dX11_drawn_42 : decode MX11_drawn.2.1 42 = .ok (.getfield 82, 3) := by decide +kernel
theorem dX11_drawn_45 : decode MX11_drawn.2.1 45 = .ok (.getfield 142, 3) := by decide +kernel
theorem dX11_drawn_48 : decode MX11_drawn.2.1 48 = .ok (.iload_n 1, 1) := by decide +kernel
theorem dX11_drawn_49 : decode MX11_drawn.2.1 49 = .ok (.iaload, 1) := by decide +kernel
theorem dX11_drawn_50 : decode MX11_drawn.2.1 50 = .ok (.ireturn, 1) := by decide +kernel
theorem dX11_image_0 : decode MX11_image.2.1 0 = .ok (.iload_n 1, 1) := by decide +kernel
theorem dX11_image_1 : decode MX11_image.2.1 1 = .ok (.iconst 0, 1) := by decide +kernel
