theorem dX11_image_2 : decode MX11_image.2.1 2 = .ok (.iconst 1, 1) := by decide +kernel
theorem dX11_image_3 : decode MX11_image.2.1 3 = .ok (.invokestatic 136, 3) := by decide +kernel
theorem dX11_image_6 : decode MX11_image.2.1 6 = .ok (.ifCond .ne 9, 3) := by decide +kernel
theorem dX11_image_9 : decode MX11_image.2.1 9 = .ok (.aload_n 0, 1) := by decide +kernel
theorem dX11_image_10 : decode MX11_image.2.1 10 = .ok (.iconst (-1), 1) := by decide +kernel
theorem dX11_image_11 : decode MX11_image.2.1 11 = .ok (.invokevirtual 104, 3) := by decide +kernel
theorem dX11_image_14 : decode MX11_image.2.1 14 = .ok (.ireturn, 1) := by decide +kernel
theorem dX11_image_15 : decode MX11_image.2.1 15 = .ok (.aload_n 0, 1) := by decide +kernel
theorem dX11_image_16 : decode MX11_image.2.1 16 = .ok (.getfield 18, 3) := by decide +kernel
theorem dX11_image_19 : decode MX11_image.2.1 19 = .ok (.iload_n 1, 1) := by decide +kernel
theorem dX11_image_20 : decode MX11_image.2.1 20 = .ok (.aaload, 1) := by decide +kernel
theorem dX11_image_21 : decode MX11_image.2.1 21 = .ok (.ifnonnull 16, 3) := by decide +kernel
theorem dX11_image_24 : decode MX11_image.2.1 24 = .ok (.aload_n 0, 1) := by decide +kernel
theorem dX11_image_25 : decode MX11_image.2.1 25 = .ok (.getfield 18, 3) := by decide +kernel
theorem dX11_image_28 : decode MX11_image.2.1 28 = .ok (.iload_n 1, 1) := by decide +kernel
theorem dX11_image_29 : decode MX11_image.2.1 29 = .ok (.new 11, 3) := by decide +kernel
theorem dX11_image_32 : decode MX11_image.2.1 32 = .ok (.dup, 1) := by decide +kernel
theorem dX11_image_33 : decode MX11_image.2.1 33 = .ok (.invokespecial 13, 3) := by decide +kernel
theorem dX11_image_36 : decode MX11_image.2.1 36 = .ok (.aastore, 1) := by decide +kernel
theorem dX11_image_37 : decode MX11_image.2.1 37 = .ok (.aload_n 0, 1) := by decide +kernel
theorem dX11_image_38 : decode MX11_image.2.1 38 = .ok (.getfield 18, 3) := by decide +kernel
theorem dX11_image_41 : decode MX11_image.2.1 41 = .ok (.iload_n 1, 1) := by decide +kernel
theorem dX11_image_42 : decode MX11_image.2.1 42 = .ok (.aaload, 1) := by decide +kernel
theorem dX11_image_43 : decode MX11_image.2.1 43 = .ok (.aload_n 0, 1) := by decide +kernel
theorem dX11_image_44 : decode MX11_image.2.1 44 = .ok (.getfield 14, 3) := by decide +kernel
theorem dX11_image_47 : decode MX11_image.2.1 47 = .ok (.invokevirtual 451, 3) := by decide +kernel
theorem dX11_image_50 : decode MX11_image.2.1 50 = .ok (.aload_n 0, 1) := by decide +kernel
theorem dX11_image_51 : decode MX11_image.2.1 51 = .ok (.iconst 0, 1) := by decide +kernel
theorem dX11_image_52 : decode MX11_image.2.1 52 = .ok (.invokevirtual 133, 3) := by decide +kernel
theorem dX11_image_55 : decode MX11_image.2.1 55 = .ok (.ireturn, 1) := by decide +kernel
theorem dX11_back_0 : decode MX11_back.2.1 0 = .ok (.iload_n 1, 1) := by decide +kernel
theorem dX11_back_1 : decode MX11_back.2.1 1 = .ok (.iconst 0, 1) := by decide +kernel
theorem dX11_back_2 : decode MX11_back.2.1 2 = .ok (.iconst 1, 1) := by decide +kernel
theorem dX11_back_3 : decode MX11_back.2.1 3 = .ok (.invokestatic 136, 3) := by decide +kernel
theorem dX11_back_6 : decode MX11_back.2.1 6 = .ok (.ifCond .ne 9, 3) := by decide +kernel
theorem dX11_back_9 : decode MX11_back.2.1 9 = .ok (.aload_n 0, 1) := by decide +kernel
theorem dX11_back_10 : decode MX11_back.2.1 10 = .ok (.iconst (-1), 1) := by decide +kernel
theorem dX11_back_11 : decode MX11_back.2.1 11 = .ok (.invokevirtual 104, 3) := by decide +kernel
theorem dX11_back_14 : decode MX11_back.2.1 14 = .ok (.ireturn, 1) := by decide +kernel
theorem dX11_back_15 : decode MX11_back.2.1 15 = .ok (.aload_n 0, 1) := by decide +kernel
theorem dX11_back_16 : decode MX11_back.2.1 16 = .ok (.getfield 18, 3) := by decide +kernel
theorem dX11_back_19 : decode MX11_back.2.1 19 = .ok (.iload_n 1, 1) := by decide +kernel
theorem dX11_back_20 : decode MX11_back.2.1 20 = .ok (.aaload, 1) := by decide +kernel
theorem dX11_back_21 : decode MX11_back.2.1 21 = .ok (.ifnonnull 10, 3) := by decide +kernel
theorem dX11_back_24 : decode MX11_back.2.1 24 = .ok (.aload_n 0, 1) := by decide +kernel
theorem dX11_back_25 : decode MX11_back.2.1 25 = .ok (.bipush (-2), 2) := by decide +kernel
theorem dX11_back_27 : decode MX11_back.2.1 27 = .ok (.invokevirtual 104, 3) := by decide +kernel
theorem dX11_back_30 : decode MX11_back.2.1 30 = .ok (.ireturn, 1) := by decide +kernel
theorem dX11_back_31 : decode MX11_back.2.1 31 = .ok (.aload_n 0, 1) := by decide +kernel
theorem dX11_back_32 : decode MX11_back.2.1 32 = .ok (.getfield 14, 3) := by decide +kernel
theorem dX11_back_35 : decode MX11_back.2.1 35 = .ok (.aload_n 0, 1) := by decide +kernel
theorem dX11_back_36 : decode MX11_back.2.1 36 = .ok (.getfield 18, 3) := by decide +kernel
theorem dX11_back_39 : decode MX11_back.2.1 39 = .ok (.iload_n 1, 1) := by decide +kernel
theorem dX11_back_40 : decode MX11_back.2.1 40 = .ok (.aaload, 1) := by decide +kernel
theorem dX11_back_41 : decode MX11_back.2.1 41 = .ok (.invokevirtual 451, 3) := by decide +kernel
theorem dX11_back_44 : decode MX11_back.2.1 44 = .ok (.aload_n 0, 1) := by decide +kernel
theorem dX11_back_45 : decode MX11_back.2.1 45 = .ok (.getfield 25, 3) := by decide +kernel
theorem dX11_back_48 : decode MX11_back.2.1 48 = .ok (.invokevirtual 130, 3) := by decide +kernel
theorem dX11_back_51 : decode MX11_back.2.1 51 = .ok (.aload_n 0, 1) := by decide +kernel
theorem dX11_back_52 : decode MX11_back.2.1 52 = .ok (.iconst 0, 1) := by decide +kernel
theorem dX11_back_53 : decode MX11_back.2.1 53 = .ok (.invokevirtual 133, 3) := by decide +kernel
theorem dX11_back_56 : decode MX11_back.2.1 56 = .ok (.ireturn, 1) := by decide +kernel
theorem dX11_count_0 : decode MX11_count.2.1 0 = .ok (.iload_n 1, 1) := by decide +kernel
theorem dX11_count_1 : decode MX11_count.2.1 1 = .ok (.tableswitch 227 0 16 #[83, 94, 102, 110, 118, 126, 134, 142, 149, 156, 163, 170, 178, 186, 197, 208, 219], 83) := by decide +kernel
theorem dX11_count_84 : decode MX11_count.2.1 84 = .ok (.aload_n 0, 1) := by decide +kernel
theorem dX11_count_85 : decode MX11_count.2.1 85 = .ok (.getfield 14, 3) := by decide +kernel
theorem dX11_count_88 : decode MX11_count.2.1 88 = .ok (.getfield 150, 3) := by decide +kernel
theorem dX11_count_91 : decode MX11_count.2.1 91 = .ok (.getfield 427, 3) := by decide +kernel
theorem dX11_count_94 : decode MX11_count.2.1 94 = .ok (.ireturn, 1) := by decide +kernel
theorem dX11_count_95 : decode MX11_count.2.1 95 = .ok (.aload_n 0, 1) := by decide +kernel
theorem dX11_count_96 : decode MX11_count.2.1 96 = .ok (.getfield 14, 3) := by decide +kernel
theorem dX11_count_99 : decode MX11_count.2.1 99 = .ok (.getfield 348, 3) := by decide +kernel
theorem dX11_count_102 : decode MX11_count.2.1 102 = .ok (.ireturn, 1) := by decide +kernel
theorem dX11_count_103 : decode MX11_count.2.1 103 = .ok (.aload_n 0, 1) := by decide +kernel
theorem dX11_count_104 : decode MX11_count.2.1 104 = .ok (.getfield 14, 3) := by decide +kernel
theorem dX11_count_107 : decode MX11_count.2.1 107 = .ok (.getfield 369, 3) := by decide +kernel
theorem dX11_count_110 : decode MX11_count.2.1 110 = .ok (.ireturn, 1) := by decide +kernel
theorem dX11_count_111 : decode MX11_count.2.1 111 = .ok (.aload_n 0, 1) := by decide +kernel
theorem dX11_count_112 : decode MX11_count.2.1 112 = .ok (.getfield 14, 3) := by decide +kernel
theorem dX11_count_115 : decode MX11_count.2.1 115 = .ok (.getfield 412, 3) := by decide +kernel
theorem dX11_count_118 : decode MX11_count.2.1 118 = .ok (.ireturn, 1) := by decide +kernel
theorem dX11_count_119 : decode MX11_count.2.1 119 = .ok (.aload_n 0, 1) := by decide +kernel
theorem dX11_count_120 : decode MX11_count.2.1 120 = .ok (.getfield 14, 3) := by decide +kernel
theorem dX11_count_123 : decode MX11_count.2.1 123 = .ok (.getfield 199, 3) := by decide +kernel
theorem dX11_count_126 : decode MX11_count.2.1 126 = .ok (.ireturn, 1) := by decide +kernel
theorem dX11_count_127 : decode MX11_count.2.1 127 = .ok (.aload_n 0, 1) := by decide +kernel
theorem dX11_count_128 : decode MX11_count.2.1 128 = .ok (.getfield 25, 3) := by decide +kernel
theorem dX11_count_131 : decode MX11_count.2.1 131 = .ok (.getfield 331, 3) := by decide +kernel
theorem dX11_count_134 : decode MX11_count.2.1 134 = .ok (.ireturn, 1) := by decide +kernel
theorem dX11_count_135 : decode MX11_count.2.1 135 = .ok (.aload_n 0, 1) := by decide +kernel
theorem dX11_count_136 : decode MX11_count.2.1 136 = .ok (.getfield 32, 3) := by decide +kernel
theorem dX11_count_139 : decode MX11_count.2.1 139 = .ok (.getfield 183, 3) := by decide +kernel
theorem dX11_count_142 : decode MX11_count.2.1 142 = .ok (.ireturn, 1) := by decide +kernel
theorem dX11_count_143 : decode MX11_count.2.1 143 = .ok (.aload_n 0, 1) := by decide +kernel
theorem dX11_count_144 : decode MX11_count.2.1 144 = .ok (.getfield 85, 3) := by decide +kernel
theorem dX11_count_147 : decode MX11_count.2.1 147 = .ok (.iconst 1, 1) := by decide +kernel
theorem dX11_count_148 : decode MX11_count.2.1 148 = .ok (.iaload, 1) := by decide +kernel
theorem dX11_count_149 : decode MX11_count.2.1 149 = .ok (.ireturn, 1) := by decide +kernel
theorem dX11_count_150 : decode MX11_count.2.1 150 = .ok (.aload_n 0, 1) := by decide +kernel
theorem dX11_count_151 : decode MX11_count.2.1 151 = .ok (.getfield 85, 3) := by decide +kernel
theorem dX11_count_154 : decode MX11_count.2.1 154 = .ok (.iconst 2, 1) := by decide +kernel
theorem dX11_count_155 : decode MX11_count.2.1 155 = .ok (.iaload, 1) := by decide +kernel
theorem dX11_count_156 : decode MX11_count.2.1 156 = .ok (.ireturn, 1) := by decide +kernel
theorem dX11_count_157 : decode MX11_count.2.1 157 = .ok (.aload_n 0, 1) := by decide +kernel
theorem dX11_count_158 : decode MX11_count.2.1 158 = .ok (.getfield 85, 3) := by decide +kernel
theorem dX11_count_161 : decode MX11_count.2.1 161 = .ok (.iconst 3, 1) := by decide +kernel
theorem dX11_count_162 : decode MX11_count.2.1 162 = .ok (.iaload, 1) := by decide +kernel
theorem dX11_count_163 : decode MX11_count.2.1 163 = .ok (.ireturn, 1) := by decide +kernel
theorem dX11_count_164 : decode MX11_count.2.1 164 = .ok (.aload_n 0, 1) := by decide +kernel
theorem dX11_count_165 : decode MX11_count.2.1 165 = .ok (.getfield 85, 3) := by decide +kernel
theorem dX11_count_168 : decode MX11_count.2.1 168 = .ok (.iconst 5, 1) := by decide +kernel
theorem dX11_count_169 : decode MX11_count.2.1 169 = .ok (.iaload, 1) := by decide +kernel
theorem dX11_count_170 : decode MX11_count.2.1 170 = .ok (.ireturn, 1) := by decide +kernel
theorem dX11_count_171 : decode MX11_count.2.1 171 = .ok (.aload_n 0, 1) := by decide +kernel
theorem dX11_count_172 : decode MX11_count.2.1 172 = .ok (.getfield 85, 3) := by decide +kernel
theorem dX11_count_175 : decode MX11_count.2.1 175 = .ok (.bipush 6, 2) := by decide +kernel
theorem dX11_count_177 : decode MX11_count.2.1 177 = .ok (.iaload, 1) := by decide +kernel
theorem dX11_count_178 : decode MX11_count.2.1 178 = .ok (.ireturn, 1) := by decide +kernel
theorem dX11_count_179 : decode MX11_count.2.1 179 = .ok (.aload_n 0, 1) := by decide +kernel
theorem dX11_count_180 : decode MX11_count.2.1 180 = .ok (.getfield 14, 3) := by decide +kernel
theorem dX11_count_183 : decode MX11_count.2.1 183 = .ok (.getfield 291, 3) := by decide +kernel
theorem dX11_count_186 : decode MX11_count.2.1 186 = .ok (.ireturn, 1) := by decide +kernel
theorem dX11_count_187 : decode MX11_count.2.1 187 = .ok (.aload_n 0, 1) := by decide +kernel
theorem dX11_count_188 : decode MX11_count.2.1 188 = .ok (.getfield 14, 3) := by decide +kernel
theorem dX11_count_191 : decode MX11_count.2.1 191 = .ok (.getfield 112, 3) := by decide +kernel
theorem dX11_count_194 : decode MX11_count.2.1 194 = .ok (.getfield 234, 3) := by decide +kernel
theorem dX11_count_197 : decode MX11_count.2.1 197 = .ok (.ireturn, 1) := by decide +kernel
theorem dX11_count_198 : decode MX11_count.2.1 198 = .ok (.aload_n 0, 1) := by decide +kernel
theorem dX11_count_199 : decode MX11_count.2.1 199 = .ok (.getfield 14, 3) := by decide +kernel
theorem dX11_count_202 : decode MX11_count.2.1 202 = .ok (.getfield 112, 3) := by decide +kernel
theorem dX11_count_205 : decode MX11_count.2.1 205 = .ok (.getfield 453, 3) := by decide +kernel
theorem dX11_count_208 : decode MX11_count.2.1 208 = .ok (.ireturn, 1) := by decide +kernel
theorem dX11_count_209 : decode MX11_count.2.1 209 = .ok (.aload_n 0, 1) := by decide +kernel
theorem dX11_count_210 : decode MX11_count.2.1 210 = .ok (.getfield 14, 3) := by decide +kernel
theorem dX11_count_213 : decode MX11_count.2.1 213 = .ok (.getfield 112, 3) := by decide +kernel
theorem dX11_count_216 : decode MX11_count.2.1 216 = .ok (.getfield 177, 3) := by decide +kernel
theorem dX11_count_219 : decode MX11_count.2.1 219 = .ok (.ireturn, 1) := by decide +kernel
theorem dX11_count_220 : decode MX11_count.2.1 220 = .ok (.aload_n 0, 1) := by decide +kernel
theorem dX11_count_221 : decode MX11_count.2.1 221 = .ok (.getfield 14, 3) := by decide +kernel
theorem dX11_count_224 : decode MX11_count.2.1 224 = .ok (.getfield 180, 3) := by decide +kernel
theorem dX11_count_227 : decode MX11_count.2.1 227 = .ok (.ireturn, 1) := by decide +kernel
theorem dX11_count_228 : decode MX11_count.2.1 228 = .ok (.iconst (-1), 1) := by decide +kernel
theorem dX11_count_229 : decode MX11_count.2.1 229 = .ok (.ireturn, 1) := by decide +kernel
theorem dX11_status_0 : decode MX11_status.2.1 0 = .ok (.aload_n 0, 1) := by decide +kernel
theorem dX11_status_1 : decode MX11_status.2.1 1 = .ok (.getfield 456, 3) := by decide +kernel
theorem dX11_status_4 : decode MX11_status.2.1 4 = .ok (.ireturn, 1) := by decide +kernel
theorem dX11_refused_0 : decode MX11_refused.2.1 0 = .ok (.aload_n 0, 1) := by decide +kernel
theorem dX11_refused_1 : decode MX11_refused.2.1 1 = .ok (.iload_n 1, 1) := by decide +kernel
theorem dX11_refused_2 : decode MX11_refused.2.1 2 = .ok (.putfield 456, 3) := by decide +kernel
theorem dX11_refused_5 : decode MX11_refused.2.1 5 = .ok (.aload_n 0, 1) := by decide +kernel
theorem dX11_refused_6 : decode MX11_refused.2.1 6 = .ok (.getfield 85, 3) := by decide +kernel
theorem dX11_refused_9 : decode MX11_refused.2.1 9 = .ok (.iload_n 1, 1) := by decide +kernel
theorem dX11_refused_10 : decode MX11_refused.2.1 10 = .ok (.ineg, 1) := by decide +kernel
theorem dX11_refused_11 : decode MX11_refused.2.1 11 = .ok (.dup2, 1) := by decide +kernel
theorem dX11_refused_12 : decode MX11_refused.2.1 12 = .ok (.iaload, 1) := by decide +kernel
theorem dX11_refused_13 : decode MX11_refused.2.1 13 = .ok (.iconst 1, 1) := by decide +kernel
theorem dX11_refused_14 : decode MX11_refused.2.1 14 = .ok (.iadd, 1) := by decide +kernel
theorem dX11_refused_15 : decode MX11_refused.2.1 15 = .ok (.iastore, 1) := by decide +kernel
theorem dX11_refused_16 : decode MX11_refused.2.1 16 = .ok (.iload_n 1, 1) := by decide +kernel
theorem dX11_refused_17 : decode MX11_refused.2.1 17 = .ok (.ireturn, 1) := by decide +kernel
theorem dX11_accepted_0 : decode MX11_accepted.2.1 0 = .ok (.aload_n 0, 1) := by decide +kernel
theorem dX11_accepted_1 : decode MX11_accepted.2.1 1 = .ok (.iconst 0, 1) := by decide +kernel
theorem dX11_accepted_2 : decode MX11_accepted.2.1 2 = .ok (.putfield 456, 3) := by decide +kernel
theorem dX11_accepted_5 : decode MX11_accepted.2.1 5 = .ok (.iload_n 1, 1) := by decide +kernel
theorem dX11_accepted_6 : decode MX11_accepted.2.1 6 = .ok (.ireturn, 1) := by decide +kernel
theorem dX11_within_0 : decode MX11_within.2.1 0 = .ok (.iload_n 0, 1) := by decide +kernel
theorem dX11_within_1 : decode MX11_within.2.1 1 = .ok (.iload_n 1, 1) := by decide +kernel
theorem dX11_within_2 : decode MX11_within.2.1 2 = .ok (.if_icmp .lt 12, 3) := by decide +kernel
theorem dX11_within_5 : decode MX11_within.2.1 5 = .ok (.iload_n 0, 1) := by decide +kernel
theorem dX11_within_6 : decode MX11_within.2.1 6 = .ok (.iload_n 2, 1) := by decide +kernel
theorem dX11_within_7 : decode MX11_within.2.1 7 = .ok (.if_icmp .gt 7, 3) := by decide +kernel
theorem dX11_within_10 : decode MX11_within.2.1 10 = .ok (.iconst 1, 1) := by decide +kernel
theorem dX11_within_11 : decode MX11_within.2.1 11 = .ok (.goto 4, 3) := by decide +kernel
theorem dX11_within_14 : decode MX11_within.2.1 14 = .ok (.iconst 0, 1) := by decide +kernel
theorem dX11_within_15 : decode MX11_within.2.1 15 = .ok (.ireturn, 1) := by decide +kernel
theorem dX11_nearest_0 : decode MX11_nearest.2.1 0 = .ok (.iload_n 1, 1) := by decide +kernel
theorem dX11_nearest_1 : decode MX11_nearest.2.1 1 = .ok (.iload_n 2, 1) := by decide +kernel
theorem dX11_nearest_2 : decode MX11_nearest.2.1 2 = .ok (.iload_n 0, 1) := by decide +kernel
theorem dX11_nearest_3 : decode MX11_nearest.2.1 3 = .ok (.invokestatic 424, 3) := by decide +kernel
theorem dX11_nearest_6 : decode MX11_nearest.2.1 6 = .ok (.invokestatic 343, 3) := by decide +kernel
theorem dX11_nearest_9 : decode MX11_nearest.2.1 9 = .ok (.ireturn, 1) := by decide +kernel
theorem dX11_isSlope_0 : decode MX11_isSlope.2.1 0 = .ok (.iload_n 0, 1) := by decide +kernel
theorem dX11_isSlope_1 : decode MX11_isSlope.2.1 1 = .ok (.iconst 0, 1) := by decide +kernel
theorem dX11_isSlope_2 : decode MX11_isSlope.2.1 2 = .ok (.iconst 5, 1) := by decide +kernel
theorem dX11_isSlope_3 : decode MX11_isSlope.2.1 3 = .ok (.invokestatic 136, 3) := by decide +kernel
theorem dX11_isSlope_6 : decode MX11_isSlope.2.1 6 = .ok (.ireturn, 1) := by decide +kernel
theorem dX11_isPlace_0 : decode MX11_isPlace.2.1 0 = .ok (.iload_n 0, 1) := by decide +kernel
theorem dX11_isPlace_1 : decode MX11_isPlace.2.1 1 = .ok (.iconst 0, 1) := by decide +kernel
theorem dX11_isPlace_2 : decode MX11_isPlace.2.1 2 = .ok (.iconst 3, 1) := by decide +kernel
theorem dX11_isPlace_3 : decode MX11_isPlace.2.1 3 = .ok (.invokestatic 136, 3) := by decide +kernel
theorem dX11_isPlace_6 : decode MX11_isPlace.2.1 6 = .ok (.ireturn, 1) := by decide +kernel
theorem dX11_isLoud_0 : decode MX11_isLoud.2.1 0 = .ok (.iload_n 0, 1) := by decide +kernel
theorem dX11_isLoud_1 : decode MX11_isLoud.2.1 1 = .ok (.iconst 1, 1) := by decide +kernel
theorem dX11_isLoud_2 : decode MX11_isLoud.2.1 2 = .ok (.iconst 3, 1) := by decide +kernel
theorem dX11_isLoud_3 : decode MX11_isLoud.2.1 3 = .ok (.invokestatic 136, 3) := by decide +kernel
theorem dX11_isLoud_6 : decode MX11_isLoud.2.1 6 = .ok (.ireturn, 1) := by decide +kernel
theorem dX12_init_0 : decode MX12_init.2.1 0 = .ok (.aload_n 0, 1) := by decide +kernel
theorem dX12_init_1 : decode MX12_init.2.1 1 = .ok (.invokespecial 1, 3) := by decide +kernel
theorem dX12_init_4 : decode MX12_init.2.1 4 = .ok (.aload_n 0, 1) := by decide +kernel
theorem dX12_init_5 : decode MX12_init.2.1 5 = .ok (.bipush 7, 2) := by decide +kernel
theorem dX12_init_7 : decode MX12_init.2.1 7 = .ok (.newarray .int, 2) := by decide +kernel
theorem dX12_init_9 : decode MX12_init.2.1 9 = .ok (.putfield 7, 3) := by decide +kernel
theorem dX12_init_12 : decode MX12_init.2.1 12 = .ok (.aload_n 0, 1) := by decide +kernel
theorem dX12_init_13 : decode MX12_init.2.1 13 = .ok (.sipush 5660, 3) := by decide +kernel
theorem dX12_init_16 : decode MX12_init.2.1 16 = .ok (.newarray .int, 2) := by decide +kernel
theorem dX12_init_18 : decode MX12_init.2.1 18 = .ok (.putfield 13, 3) := by decide +kernel
theorem dX12_init_21 : decode MX12_init.2.1 21 = .ok (.aload_n 0, 1) := by decide +kernel
theorem dX12_init_22 : decode MX12_init.2.1 22 = .ok (.sipush 11320, 3) := by decide +kernel
theorem dX12_init_25 : decode MX12_init.2.1 25 = .ok (.newarray .int, 2) := by decide +kernel
theorem dX12_init_27 : decode MX12_init.2.1 27 = .ok (.putfield 16, 3) := by decide +kernel
theorem dX12_init_30 : decode MX12_init.2.1 30 = .ok (.aload_n 0, 1) := by decide +kernel
theorem dX12_init_31 : decode MX12_init.2.1 31 = .ok (.iconst 2, 1) := by decide +kernel
theorem dX12_init_32 : decode MX12_init.2.1 32 = .ok (.newarray .boolean, 2) := by decide +kernel
theorem dX12_init_34 : decode MX12_init.2.1 34 = .ok (.putfield 19, 3) := by decide +kernel
theorem dX12_init_37 : decode MX12_init.2.1 37 = .ok (.aload_n 0, 1) := by decide +kernel
theorem dX12_init_38 : decode MX12_init.2.1 38 = .ok (.sipush 2856, 3) := by decide +kernel
theorem dX12_init_41 : decode MX12_init.2.1 41 = .ok (.newarray .int, 2) := by decide +kernel
theorem dX12_init_43 : decode MX12_init.2.1 43 = .ok (.putfield 23, 3) := by decide +kernel
theorem dX12_init_46 : decode MX12_init.2.1 46 = .ok (.aload_n 0, 1) := by decide +kernel
theorem dX12_init_47 : decode MX12_init.2.1 47 = .ok (.bipush 16, 2) := by decide +kernel
theorem dX12_init_49 : decode MX12_init.2.1 49 = .ok (.newarray .int, 2) := by decide +kernel
theorem dX12_init_51 : decode MX12_init.2.1 51 = .ok (.putfield 26, 3) := by decide +kernel
theorem dX12_init_54 : decode MX12_init.2.1 54 = .ok (.aload_n 0, 1) := by decide +kernel
theorem dX12_init_55 : decode MX12_init.2.1 55 = .ok (.sipush 2176, 3) := by decide +kernel
theorem dX12_init_58 : decode MX12_init.2.1 58 = .ok (.newarray .int, 2) := by decide +kernel
theorem dX12_init_60 : decode MX12_init.2.1 60 = .ok (.putfield 29, 3) := by decide +kernel
theorem dX12_init_63 : decode MX12_init.2.1 63 = .ok (.aload_n 0, 1) := by decide +kernel
theorem dX12_init_64 : decode MX12_init.2.1 64 = .ok (.bipush 16, 2) := by decide +kernel
theorem dX12_init_66 : decode MX12_init.2.1 66 = .ok (.newarray .int, 2) := by decide +kernel
theorem dX12_init_68 : decode MX12_init.2.1 68 = .ok (.putfield 32, 3) := by decide +kernel
theorem dX12_init_71 : decode MX12_init.2.1 71 = .ok (.aload_n 0, 1) := by decide +kernel
theorem dX12_init_72 : decode MX12_init.2.1 72 = .ok (.sipush 400, 3) := by decide +kernel
theorem dX12_init_75 : decode MX12_init.2.1 75 = .ok (.newarray .int, 2) := by decide +kernel
theorem dX12_init_77 : decode MX12_init.2.1 77 = .ok (.putfield 35, 3) := by decide +kernel
theorem dX12_init_80 : decode MX12_init.2.1 80 = .ok (.aload_n 0, 1) := by decide +kernel
theorem dX12_init_81 : decode MX12_init.2.1 81 = .ok (.iconst (-1), 1) := by decide +kernel
theorem dX12_init_82 : decode MX12_init.2.1 82 = .ok (.putfield 38, 3) := by decide +kernel
theorem dX12_init_85 : decode MX12_init.2.1 85 = .ok (.aload_n 0, 1) := by decide +kernel
theorem dX12_init_86 : decode MX12_init.2.1 86 = .ok (.bipush 96, 2) := by decide +kernel
theorem dX12_init_88 : decode MX12_init.2.1 88 = .ok (.newarray .int, 2) := by decide +kernel
theorem dX12_init_90 : decode MX12_init.2.1 90 = .ok (.putfield 42, 3) := by decide +kernel
theorem dX12_init_93 : decode MX12_init.2.1 93 = .ok (.aload_n 0, 1) := by decide +kernel
theorem dX12_init_94 : decode MX12_init.2.1 94 = .ok (.sipush 400, 3) := by decide +kernel
theorem dX12_init_97 : decode MX12_init.2.1 97 = .ok (.newarray .int, 2) := by decide +kernel
theorem dX12_init_99 : decode MX12_init.2.1 99 = .ok (.putfield 45, 3) := by decide +kernel
theorem dX12_init_102 : decode MX12_init.2.1 102 = .ok (.aload_n 0, 1) := by decide +kernel
theorem dX12_init_103 : decode MX12_init.2.1 103 = .ok (.sipush 400, 3) := by decide +kernel
theorem dX12_init_106 : decode MX12_init.2.1 106 = .ok (.newarray .int, 2) := by decide +kernel
theorem dX12_init_108 : decode MX12_init.2.1 108 = .ok (.putfield 48, 3) := by decide +kernel
theorem dX12_init_111 : decode MX12_init.2.1 111 = .ok (.aload_n 0, 1) := by decide +kernel
theorem dX12_init_112 : decode MX12_init.2.1 112 = .ok (.sipush 400, 3) := by decide +kernel
theorem dX12_init_115 : decode MX12_init.2.1 115 = .ok (.newarray .int, 2) := by decide +kernel
theorem dX12_init_117 : decode MX12_init.2.1 117 = .ok (.putfield 51, 3) := by decide +kernel
theorem dX12_init_120 : decode MX12_init.2.1 120 = .ok (.aload_n 0, 1) := by decide +kernel
theorem dX12_init_121 : decode MX12_init.2.1 121 = .ok (.sipush 400, 3) := by decide +kernel
theorem dX12_init_124 : decode MX12_init.2.1 124 = .ok (.newarray .int, 2) := by decide +kernel
theorem dX12_init_126 : decode MX12_init.2.1 126 = .ok (.putfield 54, 3) := by decide +kernel
theorem dX12_init_129 : decode MX12_init.2.1 129 = .ok (.aload_n 0, 1) := by decide +kernel
theorem dX12_init_130 : decode MX12_init.2.1 130 = .ok (.bipush 10, 2) := by decide +kernel
theorem dX12_init_132 : decode MX12_init.2.1 132 = .ok (.newarray .long, 2) := by decide +kernel
theorem dX12_init_134 : decode MX12_init.2.1 134 = .ok (.dup, 1) := by decide +kernel
theorem dX12_init_135 : decode MX12_init.2.1 135 = .ok (.iconst 0, 1) := by decide +kernel
theorem dX12_init_136 : decode MX12_init.2.1 136 = .ok (.ldc2_w 57, 3) := by decide +kernel
theorem dX12_init_139 : decode MX12_init.2.1 139 = .ok (.lastore, 1) := by decide +kernel
theorem dX12_init_140 : decode MX12_init.2.1 140 = .ok (.dup, 1) := by decide +kernel
theorem dX12_init_141 : decode MX12_init.2.1 141 = .ok (.iconst 1, 1) := by decide +kernel
theorem dX12_init_142 : decode MX12_init.2.1 142 = .ok (.ldc2_w 59, 3) := by decide +kernel
theorem dX12_init_145 : decode MX12_init.2.1 145 = .ok (.lastore, 1) := by decide +kernel
theorem dX12_init_146 : decode MX12_init.2.1 146 = .ok (.dup, 1) := by decide +kernel
theorem dX12_init_147 : decode MX12_init.2.1 147 = .ok (.iconst 2, 1) := by decide +kernel
theorem dX12_init_148 : decode MX12_init.2.1 148 = .ok (.ldc2_w 61, 3) := by decide +kernel
theorem dX12_init_151 : decode MX12_init.2.1 151 = .ok (.lastore, 1) := by decide +kernel
theorem dX12_init_152 : decode MX12_init.2.1 152 = .ok (.dup, 1) := by decide +kernel
theorem dX12_init_153 : decode MX12_init.2.1 153 = .ok (.iconst 3, 1) := by decide +kernel
theorem dX12_init_154 : decode MX12_init.2.1 154 = .ok (.ldc2_w 63, 3) := by decide +kernel
theorem dX12_init_157 : decode MX12_init.2.1 157 = .ok (.lastore, 1) := by decide +kernel
theorem dX12_init_158 : decode MX12_init.2.1 158 = .ok (.dup, 1) := by decide +kernel
theorem dX12_init_159 : decode MX12_init.2.1 159 = .ok (.iconst 4, 1) := by decide +kernel
theorem dX12_init_160 : decode MX12_init.2.1 160 = .ok (.ldc2_w 65, 3) := by decide +kernel
theorem dX12_init_163 : decode MX12_init.2.1 163 = .ok (.lastore, 1) := by decide +kernel
theorem dX12_init_164 : decode MX12_init.2.1 164 = .ok (.dup, 1) := by decide +kernel
theorem dX12_init_165 : decode MX12_init.2.1 165 = .ok (.iconst 5, 1) := by decide +kernel
theorem dX12_init_166 : decode MX12_init.2.1 166 = .ok (.ldc2_w 67, 3) := by decide +kernel
theorem dX12_init_169 : decode MX12_init.2.1 169 = .ok (.lastore, 1) := by decide +kernel
theorem dX12_init_170 : decode MX12_init.2.1 170 = .ok (.dup, 1) := by decide +kernel
theorem dX12_init_171 : decode MX12_init.2.1 171 = .ok (.bipush 6, 2) := by decide +kernel
theorem dX12_init_173 : decode MX12_init.2.1 173 = .ok (.ldc2_w 69, 3) := by decide +kernel
theorem dX12_init_176 : decode MX12_init.2.1 176 = .ok (.lastore, 1) := by decide +kernel
theorem dX12_init_177 : decode MX12_init.2.1 177 = .ok (.dup, 1) := by decide +kernel
theorem dX12_init_178 : decode MX12_init.2.1 178 = .ok (.bipush 7, 2) := by decide +kernel
theorem dX12_init_180 : decode MX12_init.2.1 180 = .ok (.ldc2_w 71, 3) := by decide +kernel
theorem dX12_init_183 : decode MX12_init.2.1 183 = .ok (.lastore, 1) := by decide +kernel
theorem dX12_init_184 : decode MX12_init.2.1 184 = .ok (.dup, 1) := by decide +kernel
theorem dX12_init_185 : decode MX12_init.2.1 185 = .ok (.bipush 8, 2) := by decide +kernel
theorem dX12_init_187 : decode MX12_init.2.1 187 = .ok (.ldc2_w 73, 3) := by decide +kernel
theorem dX12_init_190 : decode MX12_init.2.1 190 = .ok (.lastore, 1) := by decide +kernel
theorem dX12_init_191 : decode MX12_init.2.1 191 = .ok (.dup, 1) := by decide +kernel
theorem dX12_init_192 : decode MX12_init.2.1 192 = .ok (.bipush 9, 2) := by decide +kernel
theorem dX12_init_194 : decode MX12_init.2.1 194 = .ok (.ldc2_w 75, 3) := by decide +kernel
theorem dX12_init_197 : decode MX12_init.2.1 197 = .ok (.lastore, 1) := by decide +kernel
theorem dX12_init_198 : decode MX12_init.2.1 198 = .ok (.putfield 77, 3) := by decide +kernel
theorem dX12_init_201 : decode MX12_init.2.1 201 = .ok (.aload_n 0, 1) := by decide +kernel
theorem dX12_init_202 : decode MX12_init.2.1 202 = .ok (.bipush 7, 2) := by decide +kernel
theorem dX12_init_204 : decode MX12_init.2.1 204 = .ok (.newarray .long, 2) := by decide +kernel
theorem dX12_init_206 : decode MX12_init.2.1 206 = .ok (.dup, 1) := by decide +kernel
theorem dX12_init_207 : decode MX12_init.2.1 207 = .ok (.iconst 0, 1) := by decide +kernel
theorem dX12_init_208 : decode MX12_init.2.1 208 = .ok (.ldc2_w 73, 3) := by decide +kernel
theorem dX12_init_211 : decode MX12_init.2.1 211 = .ok (.lastore, 1) := by decide +kernel
theorem dX12_init_212 : decode MX12_init.2.1 212 = .ok (.dup, 1) := by decide +kernel
theorem dX12_init_213 : decode MX12_init.2.1 213 = .ok (.iconst 1, 1) := by decide +kernel
theorem dX12_init_214 : decode MX12_init.2.1 214 = .ok (.ldc2_w 81, 3) := by decide +kernel
theorem dX12_init_217 : decode MX12_init.2.1 217 = .ok (.lastore, 1) := by decide +kernel
theorem dX12_init_218 : decode MX12_init.2.1 218 = .ok (.dup, 1) := by decide +kernel
theorem dX12_init_219 : decode MX12_init.2.1 219 = .ok (.iconst 2, 1) := by decide +kernel
theorem dX12_init_220 : decode MX12_init.2.1 220 = .ok (.ldc2_w 83, 3) := by decide +kernel
theorem dX12_init_223 : decode MX12_init.2.1 223 = .ok (.lastore, 1) := by decide +kernel
theorem dX12_init_224 : decode MX12_init.2.1 224 = .ok (.dup, 1) := by decide +kernel
theorem dX12_init_225 : decode MX12_init.2.1 225 = .ok (.iconst 3, 1) := by decide +kernel
theorem dX12_init_226 : decode MX12_init.2.1 226 = .ok (.ldc2_w 85, 3) := by decide +kernel
theorem dX12_init_229 : decode MX12_init.2.1 229 = .ok (.lastore, 1) := by decide +kernel
theorem dX12_init_230 : decode MX12_init.2.1 230 = .ok (.dup, 1) := by decide +kernel
theorem dX12_init_231 : decode MX12_init.2.1 231 = .ok (.iconst 4, 1) := by decide +kernel
theorem dX12_init_232 : decode MX12_init.2.1 232 = .ok (.ldc2_w 87, 3) := by decide +kernel
theorem dX12_init_235 : decode MX12_init.2.1 235 = .ok (.lastore, 1) := by decide +kernel
theorem dX12_init_236 : decode MX12_init.2.1 236 = .ok (.dup, 1) := by decide +kernel
theorem dX12_init_237 : decode MX12_init.2.1 237 = .ok (.iconst 5, 1) := by decide +kernel
theorem dX12_init_238 : decode MX12_init.2.1 238 = .ok (.ldc2_w 71, 3) := by decide +kernel
theorem dX12_init_241 : decode MX12_init.2.1 241 = .ok (.lastore, 1) := by decide +kernel
theorem dX12_init_242 : decode MX12_init.2.1 242 = .ok (.dup, 1) := by decide +kernel
theorem dX12_init_243 : decode MX12_init.2.1 243 = .ok (.bipush 6, 2) := by decide +kernel
theorem dX12_init_245 : decode MX12_init.2.1 245 = .ok (.ldc2_w 89, 3) := by decide +kernel
theorem dX12_init_248 : decode MX12_init.2.1 248 = .ok (.lastore, 1) := by decide +kernel
theorem dX12_init_249 : decode MX12_init.2.1 249 = .ok (.putfield 91, 3) := by decide +kernel
theorem dX12_init_252 : decode MX12_init.2.1 252 = .ok (.aload_n 0, 1) := by decide +kernel
theorem dX12_init_253 : decode MX12_init.2.1 253 = .ok (.iconst 4, 1) := by decide +kernel
theorem dX12_init_254 : decode MX12_init.2.1 254 = .ok (.newarray .long, 2) := by decide +kernel
theorem dX12_init_256 : decode MX12_init.2.1 256 = .ok (.dup, 1) := by decide +kernel
theorem dX12_init_257 : decode MX12_init.2.1 257 = .ok (.iconst 0, 1) := by decide +kernel
theorem dX12_init_258 : decode MX12_init.2.1 258 = .ok (.ldc2_w 94, 3) := by decide +kernel
theorem dX12_init_261 : decode MX12_init.2.1 261 = .ok (.lastore, 1) := by decide +kernel
theorem dX12_init_262 : decode MX12_init.2.1 262 = .ok (.dup, 1) := by decide +kernel
theorem dX12_init_263 : decode MX12_init.2.1 263 = .ok (.iconst 1, 1) := by decide +kernel
theorem dX12_init_264 : decode MX12_init.2.1 264 = .ok (.ldc2_w 96, 3) := by decide +kernel
theorem dX12_init_267 : decode MX12_init.2.1 267 = .ok (.lastore, 1) := by decide +kernel
theorem dX12_init_268 : decode MX12_init.2.1 268 = .ok (.dup, 1) := by decide +kernel
theorem dX12_init_269 : decode MX12_init.2.1 269 = .ok (.iconst 2, 1) := by decide +kernel
theorem dX12_init_270 : decode MX12_init.2.1 270 = .ok (.ldc2_w 98, 3) := by decide +kernel
theorem dX12_init_273 : decode MX12_init.2.1 273 = .ok (.lastore, 1) := by decide +kernel
theorem dX12_init_274 : decode MX12_init.2.1 274 = .ok (.dup, 1) := by decide +kernel
theorem dX12_init_275 : decode MX12_init.2.1 275 = .ok (.iconst 3, 1) := by decide +kernel
theorem dX12_init_276 : decode MX12_init.2.1 276 = .ok (.ldc2_w 100, 3) := by decide +kernel
theorem dX12_init_279 : decode MX12_init.2.1 279 = .ok (.lastore, 1) := by decide +kernel
theorem dX12_init_280 : decode MX12_init.2.1 280 = .ok (.putfield 102, 3) := by decide +kernel
theorem dX12_init_283 : decode MX12_init.2.1 283 = .ok (.aload_n 0, 1) := by decide +kernel
theorem dX12_init_284 : decode MX12_init.2.1 284 = .ok (.bipush 13, 2) := by decide +kernel
theorem dX12_init_286 : decode MX12_init.2.1 286 = .ok (.newarray .long, 2) := by decide +kernel
theorem dX12_init_288 : decode MX12_init.2.1 288 = .ok (.putfield 105, 3) := by decide +kernel
theorem dX12_init_291 : decode MX12_init.2.1 291 = .ok (.aload_n 0, 1) := by decide +kernel
theorem dX12_init_292 : decode MX12_init.2.1 292 = .ok (.bipush 13, 2) := by decide +kernel
theorem dX12_init_294 : decode MX12_init.2.1 294 = .ok (.newarray .long, 2) := by decide +kernel
theorem dX12_init_296 : decode MX12_init.2.1 296 = .ok (.putfield 108, 3) := by decide +kernel
theorem dX12_init_299 : decode MX12_init.2.1 299 = .ok (.aload_n 0, 1) := by decide +kernel
theorem dX12_init_300 : decode MX12_init.2.1 300 = .ok (.sipush 400, 3) := by decide +kernel
theorem dX12_init_303 : decode MX12_init.2.1 303 = .ok (.newarray .long, 2) := by decide +kernel
theorem dX12_init_305 : decode MX12_init.2.1 305 = .ok (.putfield 111, 3) := by decide +kernel
theorem dX12_init_308 : decode MX12_init.2.1 308 = .ok (.aload_n 0, 1) := by decide +kernel
theorem dX12_init_309 : decode MX12_init.2.1 309 = .ok (.bipush 6, 2) := by decide +kernel
theorem dX12_init_311 : decode MX12_init.2.1 311 = .ok (.newarray .int, 2) := by decide +kernel
theorem dX12_init_313 : decode MX12_init.2.1 313 = .ok (.putfield 114, 3) := by decide +kernel
theorem dX12_init_316 : decode MX12_init.2.1 316 = .ok (.aload_n 0, 1) := by decide +kernel
theorem dX12_init_317 : decode MX12_init.2.1 317 = .ok (.bipush 6, 2) := by decide +kernel
theorem dX12_init_319 : decode MX12_init.2.1 319 = .ok (.newarray .int, 2) := by decide +kernel
theorem dX12_init_321 : decode MX12_init.2.1 321 = .ok (.putfield 117, 3) := by decide +kernel
theorem dX12_init_324 : decode MX12_init.2.1 324 = .ok (.aload_n 0, 1) := by decide +kernel
theorem dX12_init_325 : decode MX12_init.2.1 325 = .ok (.bipush 96, 2) := by decide +kernel
theorem dX12_init_327 : decode MX12_init.2.1 327 = .ok (.newarray .int, 2) := by decide +kernel
theorem dX12_init_329 : decode MX12_init.2.1 329 = .ok (.putfield 120, 3) := by decide +kernel
theorem dX12_init_332 : decode MX12_init.2.1 332 = .ok (.aload_n 0, 1) := by decide +kernel
theorem dX12_init_333 : decode MX12_init.2.1 333 = .ok (.bipush 16, 2) := by decide +kernel
theorem dX12_init_335 : decode MX12_init.2.1 335 = .ok (.newarray .boolean, 2) := by decide +kernel
theorem dX12_init_337 : decode MX12_init.2.1 337 = .ok (.putfield 123, 3) := by decide +kernel
theorem dX12_init_340 : decode MX12_init.2.1 340 = .ok (.aload_n 0, 1) := by decide +kernel
theorem dX12_init_341 : decode MX12_init.2.1 341 = .ok (.iconst 5, 1) := by decide +kernel
theorem dX12_init_342 : decode MX12_init.2.1 342 = .ok (.newarray .int, 2) := by decide +kernel
theorem dX12_init_344 : decode MX12_init.2.1 344 = .ok (.putfield 126, 3) := by decide +kernel
theorem dX12_init_347 : decode MX12_init.2.1 347 = .ok (.aload_n 0, 1) := by decide +kernel
theorem dX12_init_348 : decode MX12_init.2.1 348 = .ok (.iconst 5, 1) := by decide +kernel
theorem dX12_init_349 : decode MX12_init.2.1 349 = .ok (.newarray .int, 2) := by decide +kernel
theorem dX12_init_351 : decode MX12_init.2.1 351 = .ok (.putfield 129, 3) := by decide +kernel
theorem dX12_init_354 : decode MX12_init.2.1 354 = .ok (.aload_n 0, 1) := by decide +kernel
theorem dX12_init_355 : decode MX12_init.2.1 355 = .ok (.bipush 6, 2) := by decide +kernel
theorem dX12_init_357 : decode MX12_init.2.1 357 = .ok (.newarray .int, 2) := by decide +kernel
theorem dX12_init_359 : decode MX12_init.2.1 359 = .ok (.putfield 132, 3) := by decide +kernel
theorem dX12_init_362 : decode MX12_init.2.1 362 = .ok (.aload_n 0, 1) := by decide +kernel
theorem dX12_init_363 : decode MX12_init.2.1 363 = .ok (.bipush 6, 2) := by decide +kernel
theorem dX12_init_365 : decode MX12_init.2.1 365 = .ok (.newarray .int, 2) := by decide +kernel
theorem dX12_init_367 : decode MX12_init.2.1 367 = .ok (.putfield 135, 3) := by decide +kernel
theorem dX12_init_370 : decode MX12_init.2.1 370 = .ok (.aload_n 0, 1) := by decide +kernel
theorem dX12_init_371 : decode MX12_init.2.1 371 = .ok (.iconst 3, 1) := by decide +kernel
theorem dX12_init_372 : decode MX12_init.2.1 372 = .ok (.newarray .int, 2) := by decide +kernel
theorem dX12_init_374 : decode MX12_init.2.1 374 = .ok (.putfield 138, 3) := by decide +kernel
theorem dX12_init_377 : decode MX12_init.2.1 377 = .ok (.aload_n 0, 1) := by decide +kernel
theorem dX12_init_378 : decode MX12_init.2.1 378 = .ok (.sipush 10000, 3) := by decide +kernel
theorem dX12_init_381 : decode MX12_init.2.1 381 = .ok (.newarray .boolean, 2) := by decide +kernel
theorem dX12_init_383 : decode MX12_init.2.1 383 = .ok (.putfield 141, 3) := by decide +kernel
theorem dX12_init_386 : decode MX12_init.2.1 386 = .ok (.aload_n 0, 1) := by decide +kernel
theorem dX12_init_387 : decode MX12_init.2.1 387 = .ok (.bipush 16, 2) := by decide +kernel
theorem dX12_init_389 : decode MX12_init.2.1 389 = .ok (.newarray .int, 2) := by decide +kernel
theorem dX12_init_391 : decode MX12_init.2.1 391 = .ok (.putfield 144, 3) := by decide +kernel
theorem dX12_init_394 : decode MX12_init.2.1 394 = .ok (.aload_n 0, 1) := by decide +kernel
theorem dX12_init_395 : decode MX12_init.2.1 395 = .ok (.bipush 16, 2) := by decide +kernel
theorem dX12_init_397 : decode MX12_init.2.1 397 = .ok (.newarray .int, 2) := by decide +kernel
theorem dX12_init_399 : decode MX12_init.2.1 399 = .ok (.putfield 147, 3) := by decide +kernel
theorem dX12_init_402 : decode MX12_init.2.1 402 = .ok (.aload_n 0, 1) := by decide +kernel
theorem dX12_init_403 : decode MX12_init.2.1 403 = .ok (.bipush 120, 2) := by decide +kernel
theorem dX12_init_405 : decode MX12_init.2.1 405 = .ok (.newarray .int, 2) := by decide +kernel
theorem dX12_init_407 : decode MX12_init.2.1 407 = .ok (.putfield 150, 3) := by decide +kernel
theorem dX12_init_410 : decode MX12_init.2.1 410 = .ok (.aload_n 0, 1) := by decide +kernel
theorem dX12_init_411 : decode MX12_init.2.1 411 = .ok (.iconst (-1), 1) := by decide +kernel
theorem dX12_init_412 : decode MX12_init.2.1 412 = .ok (.putfield 153, 3) := by decide +kernel
theorem dX12_init_415 : decode MX12_init.2.1 415 = .ok (.aload_n 0, 1) := by decide +kernel
theorem dX12_init_416 : decode MX12_init.2.1 416 = .ok (.bipush 12, 2) := by decide +kernel
theorem dX12_init_418 : decode MX12_init.2.1 418 = .ok (.newarray .int, 2) := by decide +kernel
theorem dX12_init_420 : decode MX12_init.2.1 420 = .ok (.putfield 156, 3) := by decide +kernel
theorem dX12_init_423 : decode MX12_init.2.1 423 = .ok (.aload_n 0, 1) := by decide +kernel
theorem dX12_init_424 : decode MX12_init.2.1 424 = .ok (.getfield 13, 3) := by decide +kernel
theorem dX12_init_427 : decode MX12_init.2.1 427 = .ok (.iconst 5, 1) := by decide +kernel
theorem dX12_init_428 : decode MX12_init.2.1 428 = .ok (.iconst (-1), 1) := by decide +kernel
theorem dX12_init_429 : decode MX12_init.2.1 429 = .ok (.iastore, 1) := by decide +kernel
theorem dX12_init_430 : decode MX12_init.2.1 430 = .ok (.iconst 0, 1) := by decide +kernel
theorem dX12_init_431 : decode MX12_init.2.1 431 = .ok (.istore_n 1, 1) := by decide +kernel
theorem dX12_init_432 : decode MX12_init.2.1 432 = .ok (.iload_n 1, 1) := by decide +kernel
theorem dX12_init_433 : decode MX12_init.2.1 433 = .ok (.bipush 6, 2) := by decide +kernel
theorem dX12_init_435 : decode MX12_init.2.1 435 = .ok (.if_icmp .ge 59, 3) := by decide +kernel
theorem dX12_init_438 : decode MX12_init.2.1 438 = .ok (.aload_n 0, 1) := by decide +kernel
theorem dX12_init_439 : decode MX12_init.2.1 439 = .ok (.getfield 13, 3) := by decide +kernel
theorem dX12_init_442 : decode MX12_init.2.1 442 = .ok (.iload_n 1, 1) := by decide +kernel
theorem dX12_init_443 : decode MX12_init.2.1 443 = .ok (.iconst 1, 1) := by decide +kernel
theorem dX12_init_444 : decode MX12_init.2.1 444 = .ok (.invokestatic 159, 3) := by decide +kernel
theorem dX12_init_447 : decode MX12_init.2.1 447 = .ok (.sipush 500, 3) := by decide +kernel
theorem dX12_init_450 : decode MX12_init.2.1 450 = .ok (.iastore, 1) := by decide +kernel
theorem dX12_init_451 : decode MX12_init.2.1 451 = .ok (.aload_n 0, 1) := by decide +kernel
theorem dX12_init_452 : decode MX12_init.2.1 452 = .ok (.getfield 13, 3) := by decide +kernel
theorem dX12_init_455 : decode MX12_init.2.1 455 = .ok (.iload_n 1, 1) := by decide +kernel
theorem dX12_init_456 : decode MX12_init.2.1 456 = .ok (.iconst 2, 1) := by decide +kernel
theorem dX12_init_457 : decode MX12_init.2.1 457 = .ok (.invokestatic 159, 3) := by decide +kernel
theorem dX12_init_460 : decode MX12_init.2.1 460 = .ok (.iconst (-1), 1) := by decide +kernel
theorem dX12_init_461 : decode MX12_init.2.1 461 = .ok (.iastore, 1) := by decide +kernel
theorem dX12_init_462 : decode MX12_init.2.1 462 = .ok (.iconst 0, 1) := by decide +kernel
theorem dX12_init_463 : decode MX12_init.2.1 463 = .ok (.istore_n 2, 1) := by decide +kernel
theorem dX12_init_464 : decode MX12_init.2.1 464 = .ok (.iload_n 2, 1) := by decide +kernel
theorem dX12_init_465 : decode MX12_init.2.1 465 = .ok (.iconst 4, 1) := by decide +kernel
theorem dX12_init_466 : decode MX12_init.2.1 466 = .ok (.if_icmp .ge 22, 3) := by decide +kernel
theorem dX12_init_469 : decode MX12_init.2.1 469 = .ok (.aload_n 0, 1) := by decide +kernel
theorem dX12_init_470 : decode MX12_init.2.1 470 = .ok (.getfield 13, 3) := by decide +kernel
theorem dX12_init_473 : decode MX12_init.2.1 473 = .ok (.iload_n 1, 1) := by decide +kernel
theorem dX12_init_474 : decode MX12_init.2.1 474 = .ok (.iconst 4, 1) := by decide +kernel
theorem dX12_init_475 : decode MX12_init.2.1 475 = .ok (.iload_n 2, 1) := by decide +kernel
theorem dX12_init_476 : decode MX12_init.2.1 476 = .ok (.iadd, 1) := by decide +kernel
theorem dX12_init_477 : decode MX12_init.2.1 477 = .ok (.invokestatic 159, 3) := by decide +kernel
theorem dX12_init_480 : decode MX12_init.2.1 480 = .ok (.iconst 1, 1) := by decide +kernel
theorem dX12_init_481 : decode MX12_init.2.1 481 = .ok (.iastore, 1) := by decide +kernel
theorem dX12_init_482 : decode MX12_init.2.1 482 = .ok (.iinc 2 1, 3) := by decide +kernel
theorem dX12_init_485 : decode MX12_init.2.1 485 = .ok (.goto (-21), 3) := by decide +kernel
theorem dX12_init_488 : decode MX12_init.2.1 488 = .ok (.iinc 1 1, 3) := by decide +kernel
theorem dX12_init_491 : decode MX12_init.2.1 491 = .ok (.goto (-59), 3) := by decide +kernel
theorem dX12_init_494 : decode MX12_init.2.1 494 = .ok (.return_, 1) := by decide +kernel
theorem dX12_in_0 : decode MX12_in.2.1 0 = .ok (.lload_n 0, 1) := by decide +kernel
theorem dX12_in_1 : decode MX12_in.2.1 1 = .ok (.lload_n 2, 1) := by decide +kernel
theorem dX12_in_2 : decode MX12_in.2.1 2 = .ok (.lcmp, 1) := by decide +kernel
theorem dX12_in_3 : decode MX12_in.2.1 3 = .ok (.ifCond .lt 14, 3) := by decide +kernel
theorem dX12_in_6 : decode MX12_in.2.1 6 = .ok (.lload_n 0, 1) := by decide +kernel
theorem dX12_in_7 : decode MX12_in.2.1 7 = .ok (.lload 4, 2) := by decide +kernel
theorem dX12_in_9 : decode MX12_in.2.1 9 = .ok (.lcmp, 1) := by decide +kernel
theorem dX12_in_10 : decode MX12_in.2.1 10 = .ok (.ifCond .gt 7, 3) := by decide +kernel
theorem dX12_in_13 : decode MX12_in.2.1 13 = .ok (.iconst 1, 1) := by decide +kernel
theorem dX12_in_14 : decode MX12_in.2.1 14 = .ok (.goto 4, 3) := by decide +kernel
theorem dX12_in_17 : decode MX12_in.2.1 17 = .ok (.iconst 0, 1) := by decide +kernel
theorem dX12_in_18 : decode MX12_in.2.1 18 = .ok (.ireturn, 1) := by decide +kernel
theorem dX12_within_0 : decode MX12_within.2.1 0 = .ok (.lload_n 0, 1) := by decide +kernel
theorem dX12_within_1 : decode MX12_within.2.1 1 = .ok (.iload_n 2, 1) := by decide +kernel
theorem dX12_within_2 : decode MX12_within.2.1 2 = .ok (.i2l, 1) := by decide +kernel
theorem dX12_within_3 : decode MX12_within.2.1 3 = .ok (.lcmp, 1) := by decide +kernel
theorem dX12_within_4 : decode MX12_within.2.1 4 = .ok (.ifCond .ge 7, 3) := by decide +kernel
theorem dX12_within_7 : decode MX12_within.2.1 7 = .ok (.iload_n 2, 1) := by decide +kernel
theorem dX12_within_8 : decode MX12_within.2.1 8 = .ok (.goto 16, 3) := by decide +kernel
theorem dX12_within_11 : decode MX12_within.2.1 11 = .ok (.lload_n 0, 1) := by decide +kernel
theorem dX12_within_12 : decode MX12_within.2.1 12 = .ok (.iload_n 3, 1) := by decide +kernel
theorem dX12_within_13 : decode MX12_within.2.1 13 = .ok (.i2l, 1) := by decide +kernel
theorem dX12_within_14 : decode MX12_within.2.1 14 = .ok (.lcmp, 1) := by decide +kernel
theorem dX12_within_15 : decode MX12_within.2.1 15 = .ok (.ifCond .le 7, 3) := by decide +kernel
theorem dX12_within_18 : decode MX12_within.2.1 18 = .ok (.iload_n 3, 1) := by decide +kernel
theorem dX12_within_19 : decode MX12_within.2.1 19 = .ok (.goto 5, 3) := by decide +kernel
theorem dX12_within_22 : decode MX12_within.2.1 22 = .ok (.lload_n 0, 1) := by decide +kernel
theorem dX12_within_23 : decode MX12_within.2.1 23 = .ok (.l2i, 1) := by decide +kernel
theorem dX12_within_24 : decode MX12_within.2.1 24 = .ok (.ireturn, 1) := by decide +kernel
theorem dX12_tell_0 : decode MX12_tell.2.1 0 = .ok (.aload_n 0, 1) := by decide +kernel
theorem dX12_tell_1 : decode MX12_tell.2.1 1 = .ok (.iload_n 1, 1) := by decide +kernel
theorem dX12_tell_2 : decode MX12_tell.2.1 2 = .ok (.ifCond .ge 7, 3) := by decide +kernel
theorem dX12_tell_5 : decode MX12_tell.2.1 5 = .ok (.iload_n 1, 1) := by decide +kernel
theorem dX12_tell_6 : decode MX12_tell.2.1 6 = .ok (.goto 4, 3) := by decide +kernel
theorem dX12_tell_9 : decode MX12_tell.2.1 9 = .ok (.iconst 0, 1) := by decide +kernel
theorem dX12_tell_10 : decode MX12_tell.2.1 10 = .ok (.putfield 166, 3) := by decide +kernel
theorem dX12_tell_13 : decode MX12_tell.2.1 13 = .ok (.iload_n 1, 1) := by decide +kernel
theorem dX12_tell_14 : decode MX12_tell.2.1 14 = .ok (.ifCond .ge 14, 3) := by decide +kernel
theorem dX12_tell_17 : decode MX12_tell.2.1 17 = .ok (.aload_n 0, 1) := by decide +kernel
theorem dX12_tell_18 : decode MX12_tell.2.1 18 = .ok (.getfield 7, 3) := by decide +kernel
theorem dX12_tell_21 : decode MX12_tell.2.1 21 = .ok (.iload_n 1, 1) := by decide +kernel
theorem dX12_tell_22 : decode MX12_tell.2.1 22 = .ok (.ineg, 1) := by decide +kernel
theorem dX12_tell_23 : decode MX12_tell.2.1 23 = .ok (.dup2, 1) := by decide +kernel
theorem dX12_tell_24 : decode MX12_tell.2.1 24 = .ok (.iaload, 1) := by decide +kernel
theorem dX12_tell_25 : decode MX12_tell.2.1 25 = .ok (.iconst 1, 1) := by decide +kernel
theorem dX12_tell_26 : decode MX12_tell.2.1 26 = .ok (.iadd, 1) := by decide +kernel
theorem dX12_tell_27 : decode MX12_tell.2.1 27 = .ok (.iastore, 1) := by decide +kernel
theorem dX12_tell_28 : decode MX12_tell.2.1 28 = .ok (.iload_n 1, 1) := by decide +kernel
theorem dX12_tell_29 : decode MX12_tell.2.1 29 = .ok (.ireturn, 1) := by decide +kernel
theorem dX12_change_0 : decode MX12_change.2.1 0 = .ok (.aload_n 0, 1) := by decide +kernel
theorem dX12_change_1 : decode MX12_change.2.1 1 = .ok (.getfield 13, 3) := by decide +kernel
theorem dX12_change_4 : decode MX12_change.2.1 4 = .ok (.iload_n 1, 1) := by decide +kernel
theorem dX12_change_5 : decode MX12_change.2.1 5 = .ok (.iaload, 1) := by decide +kernel
theorem dX12_change_6 : decode MX12_change.2.1 6 = .ok (.istore_n 3, 1) := by decide +kernel
theorem dX12_change_7 : decode MX12_change.2.1 7 = .ok (.aload_n 0, 1) := by decide +kernel
theorem dX12_change_8 : decode MX12_change.2.1 8 = .ok (.getfield 13, 3) := by decide +kernel
theorem dX12_change_11 : decode MX12_change.2.1 11 = .ok (.iload_n 1, 1) := by decide +kernel
theorem dX12_change_12 : decode MX12_change.2.1 12 = .ok (.iload_n 2, 1) := by decide +kernel
theorem dX12_change_13 : decode MX12_change.2.1 13 = .ok (.iastore, 1) := by decide +kernel
theorem dX12_change_14 : decode MX12_change.2.1 14 = .ok (.aload_n 0, 1) := by decide +kernel
theorem dX12_change_15 : decode MX12_change.2.1 15 = .ok (.iconst 0, 1) := by decide +kernel
theorem dX12_change_16 : decode MX12_change.2.1 16 = .ok (.putfield 166, 3) := by decide +kernel
theorem dX12_change_19 : decode MX12_change.2.1 19 = .ok (.iload_n 3, 1) := by decide +kernel
theorem dX12_change_20 : decode MX12_change.2.1 20 = .ok (.ireturn, 1) := by decide +kernel
theorem dX12_slopeAt_0 : decode MX12_slopeAt.2.1 0 = .ok (.bipush 10, 2) := by decide +kernel
theorem dX12_slopeAt_2 : decode MX12_slopeAt.2.1 2 = .ok (.bipush 10, 2) := by decide +kernel
theorem dX12_slopeAt_4 : decode MX12_slopeAt.2.1 4 = .ok (.iload_n 0, 1) := by decide +kernel
theorem dX12_slopeAt_5 : decode MX12_slopeAt.2.1 5 = .ok (.imul, 1) := by decide +kernel
theorem dX12_slopeAt_6 : decode MX12_slopeAt.2.1 6 = .ok (.iadd, 1) := by decide +kernel
theorem dX12_slopeAt_7 : decode MX12_slopeAt.2.1 7 = .ok (.iload_n 1, 1) := by decide +kernel
theorem dX12_slopeAt_8 : decode MX12_slopeAt.2.1 8 = .ok (.iadd, 1) := by decide +kernel
theorem dX12_slopeAt_9 : decode MX12_slopeAt.2.1 9 = .ok (.ireturn, 1) := by decide +kernel
theorem dX12_ofSlope_0 : decode MX12_ofSlope.2.1 0 = .ok (.aload_n 0, 1) := by decide +kernel
theorem dX12_ofSlope_1 : decode MX12_ofSlope.2.1 1 = .ok (.getfield 13, 3) := by decide +kernel
theorem dX12_ofSlope_4 : decode MX12_ofSlope.2.1 4 = .ok (.iload_n 1, 1) := by decide +kernel
theorem dX12_ofSlope_5 : decode MX12_ofSlope.2.1 5 = .ok (.iload_n 2, 1) := by decide +kernel
theorem dX12_ofSlope_6 : decode MX12_ofSlope.2.1 6 = .ok (.invokestatic 159, 3) := by decide +kernel
theorem dX12_ofSlope_9 : decode MX12_ofSlope.2.1 9 = .ok (.iaload, 1) := by decide +kernel
theorem dX12_ofSlope_10 : decode MX12_ofSlope.2.1 10 = .ok (.ireturn, 1) := by decide +kernel
theorem dX12_keepAll_0 : decode MX12_keepAll.2.1 0 = .ok (.iconst 0, 1) := by decide +kernel
theorem dX12_keepAll_1 : decode MX12_keepAll.2.1 1 = .ok (.istore_n 2, 1) := by decide +kernel
theorem dX12_keepAll_2 : decode MX12_keepAll.2.1 2 = .ok (.iload_n 2, 1) := by decide +kernel
theorem dX12_keepAll_3 : decode MX12_keepAll.2.1 3 = .ok (.sipush 136, 3) := by decide +kernel
theorem dX12_keepAll_6 : decode MX12_keepAll.2.1 6 = .ok (.if_icmp .ge 30, 3) := by decide +kernel
theorem dX12_keepAll_9 : decode MX12_keepAll.2.1 9 = .ok (.aload_n 0, 1) := by decide +kernel
theorem dX12_keepAll_10 : decode MX12_keepAll.2.1 10 = .ok (.getfield 23, 3) := by decide +kernel
theorem dX12_keepAll_13 : decode MX12_keepAll.2.1 13 = .ok (.sipush 136, 3) := by decide +kernel
theorem dX12_keepAll_16 : decode MX12_keepAll.2.1 16 = .ok (.iload_n 1, 1) := by decide +kernel
theorem dX12_keepAll_17 : decode MX12_keepAll.2.1 17 = .ok (.imul, 1) := by decide +kernel
theorem dX12_keepAll_18 : decode MX12_keepAll.2.1 18 = .ok (.iload_n 2, 1) := by decide +kernel
theorem dX12_keepAll_19 : decode MX12_keepAll.2.1 19 = .ok (.iadd, 1) := by decide +kernel
theorem dX12_keepAll_20 : decode MX12_keepAll.2.1 20 = .ok (.aload_n 0, 1) := by decide +kernel
theorem dX12_keepAll_21 : decode MX12_keepAll.2.1 21 = .ok (.getfield 13, 3) := by decide +kernel
theorem dX12_keepAll_24 : decode MX12_keepAll.2.1 24 = .ok (.bipush 6, 2) := by decide +kernel
theorem dX12_keepAll_26 : decode MX12_keepAll.2.1 26 = .ok (.iload_n 2, 1) := by decide +kernel
theorem dX12_keepAll_27 : decode MX12_keepAll.2.1 27 = .ok (.iadd, 1) := by decide +kernel
theorem dX12_keepAll_28 : decode MX12_keepAll.2.1 28 = .ok (.iaload, 1) := by decide +kernel
theorem dX12_keepAll_29 : decode MX12_keepAll.2.1 29 = .ok (.iastore, 1) := by decide +kernel
theorem dX12_keepAll_30 : decode MX12_keepAll.2.1 30 = .ok (.iinc 2 1, 3) := by decide +kernel
theorem dX12_keepAll_33 : decode MX12_keepAll.2.1 33 = .ok (.goto (-31), 3) := by decide +kernel
theorem dX12_keepAll_36 : decode MX12_keepAll.2.1 36 = .ok (.return_, 1) := by decide +kernel
theorem dX12_putBack_0 : decode MX12_putBack.2.1 0 = .ok (.iconst 0, 1) := by decide +kernel
theorem dX12_putBack_1 : decode MX12_putBack.2.1 1 = .ok (.istore_n 2, 1) := by decide +kernel
theorem dX12_putBack_2 : decode MX12_putBack.2.1 2 = .ok (.iload_n 2, 1) := by decide +kernel
theorem dX12_putBack_3 : decode MX12_putBack.2.1 3 = .ok (.sipush 136, 3) := by decide +kernel
theorem dX12_putBack_6 : decode MX12_putBack.2.1 6 = .ok (.if_icmp .ge 30, 3) := by decide +kernel
theorem dX12_putBack_9 : decode MX12_putBack.2.1 9 = .ok (.aload_n 0, 1) := by decide +kernel
theorem dX12_putBack_10 : decode MX12_putBack.2.1 10 = .ok (.getfield 13, 3) := by decide +kernel
theorem dX12_putBack_13 : decode MX12_putBack.2.1 13 = .ok (.bipush 6, 2) := by decide +kernel
theorem dX12_putBack_15 : decode MX12_putBack.2.1 15 = .ok (.iload_n 2, 1) := by decide +kernel
theorem dX12_putBack_16 : decode MX12_putBack.2.1 16 = .ok (.iadd, 1) := by decide +kernel
theorem dX12_putBack_17 : decode MX12_putBack.2.1 17 = .ok (.aload_n 0, 1) := by decide +kernel
theorem dX12_putBack_18 : decode MX12_putBack.2.1 18 = .ok (.getfield 23, 3) := by decide +kernel
theorem dX12_putBack_21 : decode MX12_putBack.2.1 21 = .ok (.sipush 136, 3) := by decide +kernel
theorem dX12_putBack_24 : decode MX12_putBack.2.1 24 = .ok (.iload_n 1, 1) := by decide +kernel
theorem dX12_putBack_25 : decode MX12_putBack.2.1 25 = .ok (.imul, 1) := by decide +kernel
theorem dX12_putBack_26 : decode MX12_putBack.2.1 26 = .ok (.iload_n 2, 1) := by decide +kernel
theorem dX12_putBack_27 : decode MX12_putBack.2.1 27 = .ok (.iadd, 1) := by decide +kernel
theorem dX12_putBack_28 : decode MX12_putBack.2.1 28 = .ok (.iaload, 1) := by decide +kernel
theorem dX12_putBack_29 : decode MX12_putBack.2.1 29 = .ok (.iastore, 1) := by decide +kernel
theorem dX12_putBack_30 : decode MX12_putBack.2.1 30 = .ok (.iinc 2 1, 3) := by decide +kernel
theorem dX12_putBack_33 : decode MX12_putBack.2.1 33 = .ok (.goto (-31), 3) := by decide +kernel
theorem dX12_putBack_36 : decode MX12_putBack.2.1 36 = .ok (.return_, 1) := by decide +kernel
theorem dX12_remember_0 : decode MX12_remember.2.1 0 = .ok (.aload_n 0, 1) := by decide +kernel
theorem dX12_remember_1 : decode MX12_remember.2.1 1 = .ok (.getfield 169, 3) := by decide +kernel
theorem dX12_remember_4 : decode MX12_remember.2.1 4 = .ok (.bipush 16, 2) := by decide +kernel
theorem dX12_remember_6 : decode MX12_remember.2.1 6 = .ok (.if_icmp .ne 72, 3) := by decide +kernel
theorem dX12_remember_9 : decode MX12_remember.2.1 9 = .ok (.iconst 0, 1) := by decide +kernel
theorem dX12_remember_10 : decode MX12_remember.2.1 10 = .ok (.istore_n 2, 1) := by decide +kernel
theorem dX12_remember_11 : decode MX12_remember.2.1 11 = .ok (.iload_n 2, 1) := by decide +kernel
theorem dX12_remember_12 : decode MX12_remember.2.1 12 = .ok (.sipush 2040, 3) := by decide +kernel
theorem dX12_remember_15 : decode MX12_remember.2.1 15 = .ok (.if_icmp .ge 25, 3) := by decide +kernel
theorem dX12_remember_18 : decode MX12_remember.2.1 18 = .ok (.aload_n 0, 1) := by decide +kernel
theorem dX12_remember_19 : decode MX12_remember.2.1 19 = .ok (.getfield 23, 3) := by decide +kernel
theorem dX12_remember_22 : decode MX12_remember.2.1 22 = .ok (.iload_n 2, 1) := by decide +kernel
theorem dX12_remember_23 : decode MX12_remember.2.1 23 = .ok (.aload_n 0, 1) := by decide +kernel
theorem dX12_remember_24 : decode MX12_remember.2.1 24 = .ok (.getfield 23, 3) := by decide +kernel
theorem dX12_remember_27 : decode MX12_remember.2.1 27 = .ok (.iload_n 2, 1) := by decide +kernel
theorem dX12_remember_28 : decode MX12_remember.2.1 28 = .ok (.sipush 136, 3) := by decide +kernel
theorem dX12_remember_31 : decode MX12_remember.2.1 31 = .ok (.iadd, 1) := by decide +kernel
theorem dX12_remember_32 : decode MX12_remember.2.1 32 = .ok (.iaload, 1) := by decide +kernel
theorem dX12_remember_33 : decode MX12_remember.2.1 33 = .ok (.iastore, 1) := by decide +kernel
theorem dX12_remember_34 : decode MX12_remember.2.1 34 = .ok (.iinc 2 1, 3) := by decide +kernel
theorem dX12_remember_37 : decode MX12_remember.2.1 37 = .ok (.goto (-26), 3) := by decide +kernel
theorem dX12_remember_40 : decode MX12_remember.2.1 40 = .ok (.iconst 0, 1) := by decide +kernel
theorem dX12_remember_41 : decode MX12_remember.2.1 41 = .ok (.istore_n 2, 1) := by decide +kernel
theorem dX12_remember_42 : decode MX12_remember.2.1 42 = .ok (.iload_n 2, 1) := by decide +kernel
theorem dX12_remember_43 : decode MX12_remember.2.1 43 = .ok (.bipush 15, 2) := by decide +kernel
theorem dX12_remember_45 : decode MX12_remember.2.1 45 = .ok (.if_icmp .ge 23, 3) := by decide +kernel
theorem dX12_remember_48 : decode MX12_remember.2.1 48 = .ok (.aload_n 0, 1) := by decide +kernel
theorem dX12_remember_49 : decode MX12_remember.2.1 49 = .ok (.getfield 26, 3) := by decide +kernel
theorem dX12_remember_52 : decode MX12_remember.2.1 52 = .ok (.iload_n 2, 1) := by decide +kernel
theorem dX12_remember_53 : decode MX12_remember.2.1 53 = .ok (.aload_n 0, 1) := by decide +kernel
theorem dX12_remember_54 : decode MX12_remember.2.1 54 = .ok (.getfield 26, 3) := by decide +kernel
theorem dX12_remember_57 : decode MX12_remember.2.1 57 = .ok (.iload_n 2, 1) := by decide +kernel
theorem dX12_remember_58 : decode MX12_remember.2.1 58 = .ok (.iconst 1, 1) := by decide +kernel
theorem dX12_remember_59 : decode MX12_remember.2.1 59 = .ok (.iadd, 1) := by decide +kernel
theorem dX12_remember_60 : decode MX12_remember.2.1 60 = .ok (.iaload, 1) := by decide +kernel
theorem dX12_remember_61 : decode MX12_remember.2.1 61 = .ok (.iastore, 1) := by decide +kernel
theorem dX12_remember_62 : decode MX12_remember.2.1 62 = .ok (.iinc 2 1, 3) := by decide +kernel
theorem dX12_remember_65 : decode MX12_remember.2.1 65 = .ok (.goto (-23), 3) := by decide +kernel
theorem dX12_remember_68 : decode MX12_remember.2.1 68 = .ok (.aload_n 0, 1) := by decide +kernel
theorem dX12_remember_69 : decode MX12_remember.2.1 69 = .ok (.dup, 1) := by decide +kernel
theorem dX12_remember_70 : decode MX12_remember.2.1 70 = .ok (.getfield 169, 3) := by decide +kernel
theorem dX12_remember_73 : decode MX12_remember.2.1 73 = .ok (.iconst 1, 1) := by decide +kernel
theorem dX12_remember_74 : decode MX12_remember.2.1 74 = .ok (.isub, 1) := by decide +kernel
theorem dX12_remember_75 : decode MX12_remember.2.1 75 = .ok (.putfield 169, 3) := by decide +kernel
theorem dX12_remember_78 : decode MX12_remember.2.1 78 = .ok (.aload_n 0, 1) := by decide +kernel
theorem dX12_remember_79 : decode MX12_remember.2.1 79 = .ok (.aload_n 0, 1) := by decide +kernel
theorem dX12_remember_80 : decode MX12_remember.2.1 80 = .ok (.getfield 169, 3) := by decide +kernel
theorem dX12_remember_83 : decode MX12_remember.2.1 83 = .ok (.invokevirtual 172, 3) := by decide +kernel
theorem dX12_remember_86 : decode MX12_remember.2.1 86 = .ok (.aload_n 0, 1) := by decide +kernel
theorem dX12_remember_87 : decode MX12_remember.2.1 87 = .ok (.getfield 26, 3) := by decide +kernel
theorem dX12_remember_90 : decode MX12_remember.2.1 90 = .ok (.aload_n 0, 1) := by decide +kernel
theorem dX12_remember_91 : decode MX12_remember.2.1 91 = .ok (.getfield 169, 3) := by decide +kernel
theorem dX12_remember_94 : decode MX12_remember.2.1 94 = .ok (.iload_n 1, 1) := by decide +kernel
theorem dX12_remember_95 : decode MX12_remember.2.1 95 = .ok (.iastore, 1) := by decide +kernel
theorem dX12_remember_96 : decode MX12_remember.2.1 96 = .ok (.aload_n 0, 1) := by decide +kernel
theorem dX12_remember_97 : decode MX12_remember.2.1 97 = .ok (.dup, 1) := by decide +kernel
theorem dX12_remember_98 : decode MX12_remember.2.1 98 = .ok (.getfield 169, 3) := by decide +kernel
theorem dX12_remember_101 : decode MX12_remember.2.1 101 = .ok (.iconst 1, 1) := by decide +kernel
theorem dX12_remember_102 : decode MX12_remember.2.1 102 = .ok (.iadd, 1) := by decide +kernel
theorem dX12_remember_103 : decode MX12_remember.2.1 103 = .ok (.putfield 169, 3) := by decide +kernel
theorem dX12_remember_106 : decode MX12_remember.2.1 106 = .ok (.return_, 1) := by decide +kernel
theorem dX12_undo_0 : decode MX12_undo.2.1 0 = .ok (.aload_n 0, 1) := by decide +kernel
theorem dX12_undo_1 : decode MX12_undo.2.1 1 = .ok (.iconst 0, 1) := by decide +kernel
theorem dX12_undo_2 : decode MX12_undo.2.1 2 = .ok (.putfield 163, 3) := by decide +kernel
theorem dX12_undo_5 : decode MX12_undo.2.1 5 = .ok (.aload_n 0, 1) := by decide +kernel
theorem dX12_undo_6 : decode MX12_undo.2.1 6 = .ok (.getfield 169, 3) := by decide +kernel
theorem dX12_undo_9 : decode MX12_undo.2.1 9 = .ok (.ifCond .ne 10, 3) := by decide +kernel
theorem dX12_undo_12 : decode MX12_undo.2.1 12 = .ok (.aload_n 0, 1) := by decide +kernel
theorem dX12_undo_13 : decode MX12_undo.2.1 13 = .ok (.bipush (-3), 2) := by decide +kernel
theorem dX12_undo_15 : decode MX12_undo.2.1 15 = .ok (.invokevirtual 176, 3) := by decide +kernel
theorem dX12_undo_18 : decode MX12_undo.2.1 18 = .ok (.ireturn, 1) := by decide +kernel
theorem dX12_undo_19 : decode MX12_undo.2.1 19 = .ok (.aload_n 0, 1) := by decide +kernel
theorem dX12_undo_20 : decode MX12_undo.2.1 20 = .ok (.dup, 1) := by decide +kernel
theorem dX12_undo_21 : decode MX12_undo.2.1 21 = .ok (.getfield 169, 3) := by decide +kernel
theorem dX12_undo_24 : decode MX12_undo.2.1 24 = .ok (.iconst 1, 1) := by decide +kernel
theorem dX12_undo_25 : decode MX12_undo.2.1 25 = .ok (.isub, 1) := by decide +kernel
theorem dX12_undo_26 : decode MX12_undo.2.1 26 = .ok (.putfield 169, 3) := by decide +kernel
theorem dX12_undo_29 : decode MX12_undo.2.1 29 = .ok (.aload_n 0, 1) := by decide +kernel
theorem dX12_undo_30 : decode MX12_undo.2.1 30 = .ok (.aload_n 0, 1) := by decide +kernel
theorem dX12_undo_31 : decode MX12_undo.2.1 31 = .ok (.getfield 169, 3) := by decide +kernel
theorem dX12_undo_34 : decode MX12_undo.2.1 34 = .ok (.invokevirtual 180, 3) := by decide +kernel
theorem dX12_undo_37 : decode MX12_undo.2.1 37 = .ok (.aload_n 0, 1) := by decide +kernel
theorem dX12_undo_38 : decode MX12_undo.2.1 38 = .ok (.aload_n 0, 1) := by decide +kernel
theorem dX12_undo_39 : decode MX12_undo.2.1 39 = .ok (.getfield 26, 3) := by decide +kernel
theorem dX12_undo_42 : decode MX12_undo.2.1 42 = .ok (.aload_n 0, 1) := by decide +kernel
theorem dX12_undo_43 : decode MX12_undo.2.1 43 = .ok (.getfield 169, 3) := by decide +kernel
theorem dX12_undo_46 : decode MX12_undo.2.1 46 = .ok (.iaload, 1) := by decide +kernel
theorem dX12_undo_47 : decode MX12_undo.2.1 47 = .ok (.invokevirtual 176, 3) := by decide +kernel
theorem dX12_undo_50 : decode MX12_undo.2.1 50 = .ok (.ireturn, 1) := by decide +kernel
theorem dX12_image_0 : decode MX12_image.2.1 0 = .ok (.aload_n 0, 1) := by decide +kernel
theorem dX12_image_1 : decode MX12_image.2.1 1 = .ok (.iconst 0, 1) := by decide +kernel
theorem dX12_image_2 : decode MX12_image.2.1 2 = .ok (.putfield 163, 3) := by decide +kernel
theorem dX12_image_5 : decode MX12_image.2.1 5 = .ok (.iload_n 1, 1) := by decide +kernel
theorem dX12_image_6 : decode MX12_image.2.1 6 = .ok (.i2l, 1) := by decide +kernel
theorem dX12_image_7 : decode MX12_image.2.1 7 = .ok (.lconst 0, 1) := by decide +kernel
theorem dX12_image_8 : decode MX12_image.2.1 8 = .ok (.lconst 1, 1) := by decide +kernel
theorem dX12_image_9 : decode MX12_image.2.1 9 = .ok (.invokestatic 183, 3) := by decide +kernel
theorem dX12_image_12 : decode MX12_image.2.1 12 = .ok (.ifCond .ne 9, 3) := by decide +kernel
theorem dX12_image_15 : decode MX12_image.2.1 15 = .ok (.aload_n 0, 1) := by decide +kernel
theorem dX12_image_16 : decode MX12_image.2.1 16 = .ok (.iconst (-1), 1) := by decide +kernel
theorem dX12_image_17 : decode MX12_image.2.1 17 = .ok (.invokevirtual 176, 3) := by decide +kernel
theorem dX12_image_20 : decode MX12_image.2.1 20 = .ok (.ireturn, 1) := by decide +kernel
theorem dX12_image_21 : decode MX12_image.2.1 21 = .ok (.iconst 0, 1) := by decide +kernel
theorem dX12_image_22 : decode MX12_image.2.1 22 = .ok (.istore_n 2, 1) := by decide +kernel
theorem dX12_image_23 : decode MX12_image.2.1 23 = .ok (.iload_n 2, 1) := by decide +kernel
theorem dX12_image_24 : decode MX12_image.2.1 24 = .ok (.sipush 5660, 3) := by decide +kernel
theorem dX12_image_27 : decode MX12_image.2.1 27 = .ok (.if_icmp .ge 27, 3) := by decide +kernel
theorem dX12_image_30 : decode MX12_image.2.1 30 = .ok (.aload_n 0, 1) := by decide +kernel
theorem dX12_image_31 : decode MX12_image.2.1 31 = .ok (.getfield 16, 3) := by decide +kernel
theorem dX12_image_34 : decode MX12_image.2.1 34 = .ok (.sipush 5660, 3) := by decide +kernel
theorem dX12_image_37 : decode MX12_image.2.1 37 = .ok (.iload_n 1, 1) := by decide +kernel
theorem dX12_image_38 : decode MX12_image.2.1 38 = .ok (.imul, 1) := by decide +kernel
theorem dX12_image_39 : decode MX12_image.2.1 39 = .ok (.iload_n 2, 1) := by decide +kernel
theorem dX12_image_40 : decode MX12_image.2.1 40 = .ok (.iadd, 1) := by decide +kernel
theorem dX12_image_41 : decode MX12_image.2.1 41 = .ok (.aload_n 0, 1) := by decide +kernel
theorem dX12_image_42 : decode MX12_image.2.1 42 = .ok (.getfield 13, 3) := by decide +kernel
theorem dX12_image_45 : decode MX12_image.2.1 45 = .ok (.iload_n 2, 1) := by decide +kernel
theorem dX12_image_46 : decode MX12_image.2.1 46 = .ok (.iaload, 1) := by decide +kernel
theorem dX12_image_47 : decode MX12_image.2.1 47 = .ok (.iastore, 1) := by decide +kernel
theorem dX12_image_48 : decode MX12_image.2.1 48 = .ok (.iinc 2 1, 3) := by decide +kernel
theorem dX12_image_51 : decode MX12_image.2.1 51 = .ok (.goto (-28), 3) := by decide +kernel
theorem dX12_image_54 : decode MX12_image.2.1 54 = .ok (.aload_n 0, 1) := by decide +kernel
theorem dX12_image_55 : decode MX12_image.2.1 55 = .ok (.getfield 19, 3) := by decide +kernel
theorem dX12_image_58 : decode MX12_image.2.1 58 = .ok (.iload_n 1, 1) := by decide +kernel
theorem dX12_image_59 : decode MX12_image.2.1 59 = .ok (.iconst 1, 1) := by decide +kernel
theorem dX12_image_60 : decode MX12_image.2.1 60 = .ok (.bastore, 1) := by decide +kernel
theorem dX12_image_61 : decode MX12_image.2.1 61 = .ok (.aload_n 0, 1) := by decide +kernel
theorem dX12_image_62 : decode MX12_image.2.1 62 = .ok (.iconst 0, 1) := by decide +kernel
theorem dX12_image_63 : decode MX12_image.2.1 63 = .ok (.invokevirtual 176, 3) := by decide +kernel
theorem dX12_image_66 : decode MX12_image.2.1 66 = .ok (.ireturn, 1) := by decide +kernel
theorem dX12_back_0 : decode MX12_back.2.1 0 = .ok (.aload_n 0, 1) := by decide +kernel
theorem dX12_back_1 : decode MX12_back.2.1 1 = .ok (.iconst 0, 1) := by decide +kernel
theorem dX12_back_2 : decode MX12_back.2.1 2 = .ok (.putfield 163, 3) := by decide +kernel
theorem dX12_back_5 : decode MX12_back.2.1 5 = .ok (.iload_n 1, 1) := by decide +kernel
theorem dX12_back_6 : decode MX12_back.2.1 6 = .ok (.i2l, 1) := by decide +kernel
theorem dX12_back_7 : decode MX12_back.2.1 7 = .ok (.lconst 0, 1) := by decide +kernel
theorem dX12_back_8 : decode MX12_back.2.1 8 = .ok (.lconst 1, 1) := by decide +kernel
theorem dX12_back_9 : decode MX12_back.2.1 9 = .ok (.invokestatic 183, 3) := by decide +kernel
theorem dX12_back_12 : decode MX12_back.2.1 12 = .ok (.ifCond .ne 9, 3) := by decide +kernel
theorem dX12_back_15 : decode MX12_back.2.1 15 = .ok (.aload_n 0, 1) := by decide +kernel
theorem dX12_back_16 : decode MX12_back.2.1 16 = .ok (.iconst (-1), 1) := by decide +kernel
theorem dX12_back_17 : decode MX12_back.2.1 17 = .ok (.invokevirtual 176, 3) := by decide +kernel
theorem dX12_back_20 : decode MX12_back.2.1 20 = .ok (.ireturn, 1) := by decide +kernel
theorem dX12_back_21 : decode MX12_back.2.1 21 = .ok (.aload_n 0, 1) := by decide +kernel
theorem dX12_back_22 : decode MX12_back.2.1 22 = .ok (.getfield 19, 3) := by decide +kernel
theorem dX12_back_25 : decode MX12_back.2.1 25 = .ok (.iload_n 1, 1) := by decide +kernel
theorem dX12_back_26 : decode MX12_back.2.1 26 = .ok (.baload, 1) := by decide +kernel
theorem dX12_back_27 : decode MX12_back.2.1 27 = .ok (.ifCond .ne 10, 3) := by decide +kernel
theorem dX12_back_30 : decode MX12_back.2.1 30 = .ok (.aload_n 0, 1) := by decide +kernel
theorem dX12_back_31 : decode MX12_back.2.1 31 = .ok (.bipush (-2), 2) := by decide +kernel
theorem dX12_back_33 : decode MX12_back.2.1 33 = .ok (.invokevirtual 176, 3) := by decide +kernel
theorem dX12_back_36 : decode MX12_back.2.1 36 = .ok (.ireturn, 1) := by decide +kernel
theorem dX12_back_37 : decode MX12_back.2.1 37 = .ok (.iconst 0, 1) := by decide +kernel
theorem dX12_back_38 : decode MX12_back.2.1 38 = .ok (.istore_n 2, 1) := by decide +kernel
theorem dX12_back_39 : decode MX12_back.2.1 39 = .ok (.iload_n 2, 1) := by decide +kernel
theorem dX12_back_40 : decode MX12_back.2.1 40 = .ok (.sipush 5660, 3) := by decide +kernel
theorem dX12_back_43 : decode MX12_back.2.1 43 = .ok (.if_icmp .ge 27, 3) := by decide +kernel
theorem dX12_back_46 : decode MX12_back.2.1 46 = .ok (.aload_n 0, 1) := by decide +kernel
theorem dX12_back_47 : decode MX12_back.2.1 47 = .ok (.getfield 13, 3) := by decide +kernel
theorem dX12_back_50 : decode MX12_back.2.1 50 = .ok (.iload_n 2, 1) := by decide +kernel
theorem dX12_back_51 : decode MX12_back.2.1 51 = .ok (.aload_n 0, 1) := by decide +kernel
theorem dX12_back_52 : decode MX12_back.2.1 52 = .ok (.getfield 16, 3) := by decide +kernel
theorem dX12_back_55 : decode MX12_back.2.1 55 = .ok (.sipush 5660, 3) := by decide +kernel
theorem dX12_back_58 : decode MX12_back.2.1 58 = .ok (.iload_n 1, 1) := by decide +kernel
theorem dX12_back_59 : decode MX12_back.2.1 59 = .ok (.imul, 1) := by decide +kernel
theorem dX12_back_60 : decode MX12_back.2.1 60 = .ok (.iload_n 2, 1) := by decide +kernel
theorem dX12_back_61 : decode MX12_back.2.1 61 = .ok (.iadd, 1) := by decide +kernel
theorem dX12_back_62 : decode MX12_back.2.1 62 = .ok (.iaload, 1) := by decide +kernel
theorem dX12_back_63 : decode MX12_back.2.1 63 = .ok (.iastore, 1) := by decide +kernel
theorem dX12_back_64 : decode MX12_back.2.1 64 = .ok (.iinc 2 1, 3) := by decide +kernel
theorem dX12_back_67 : decode MX12_back.2.1 67 = .ok (.goto (-28), 3) := by decide +kernel
theorem dX12_back_70 : decode MX12_back.2.1 70 = .ok (.aload_n 0, 1) := by decide +kernel
theorem dX12_back_71 : decode MX12_back.2.1 71 = .ok (.iconst 0, 1) := by decide +kernel
theorem dX12_back_72 : decode MX12_back.2.1 72 = .ok (.putfield 169, 3) := by decide +kernel
theorem dX12_back_75 : decode MX12_back.2.1 75 = .ok (.aload_n 0, 1) := by decide +kernel
theorem dX12_back_76 : decode MX12_back.2.1 76 = .ok (.iconst 0, 1) := by decide +kernel
theorem dX12_back_77 : decode MX12_back.2.1 77 = .ok (.invokevirtual 176, 3) := by decide +kernel
theorem dX12_back_80 : decode MX12_back.2.1 80 = .ok (.ireturn, 1) := by decide +kernel
theorem dX12_isSlope_0 : decode MX12_isSlope.2.1 0 = .ok (.iload_n 0, 1) := by decide +kernel
theorem dX12_isSlope_1 : decode MX12_isSlope.2.1 1 = .ok (.i2l, 1) := by decide +kernel
theorem dX12_isSlope_2 : decode MX12_isSlope.2.1 2 = .ok (.lconst 0, 1) := by decide +kernel
theorem dX12_isSlope_3 : decode MX12_isSlope.2.1 3 = .ok (.ldc2_w 187, 3) := by decide +kernel
theorem dX12_isSlope_6 : decode MX12_isSlope.2.1 6 = .ok (.invokestatic 183, 3) := by decide +kernel
theorem dX12_isSlope_9 : decode MX12_isSlope.2.1 9 = .ok (.ireturn, 1) := by decide +kernel
theorem dX12_isPlace_0 : decode MX12_isPlace.2.1 0 = .ok (.iload_n 0, 1) := by decide +kernel
theorem dX12_isPlace_1 : decode MX12_isPlace.2.1 1 = .ok (.i2l, 1) := by decide +kernel
theorem dX12_isPlace_2 : decode MX12_isPlace.2.1 2 = .ok (.lconst 0, 1) := by decide +kernel
theorem dX12_isPlace_3 : decode MX12_isPlace.2.1 3 = .ok (.ldc2_w 189, 3) := by decide +kernel
theorem dX12_isPlace_6 : decode MX12_isPlace.2.1 6 = .ok (.invokestatic 183, 3) := by decide +kernel
theorem dX12_isPlace_9 : decode MX12_isPlace.2.1 9 = .ok (.ireturn, 1) := by decide +kernel
theorem dX12_isLoud_0 : decode MX12_isLoud.2.1 0 = .ok (.iload_n 0, 1) := by decide +kernel
theorem dX12_isLoud_1 : decode MX12_isLoud.2.1 1 = .ok (.i2l, 1) := by decide +kernel
theorem dX12_isLoud_2 : decode MX12_isLoud.2.1 2 = .ok (.lconst 1, 1) := by decide +kernel
theorem dX12_isLoud_3 : decode MX12_isLoud.2.1 3 = .ok (.ldc2_w 189, 3) := by decide +kernel
theorem dX12_isLoud_6 : decode MX12_isLoud.2.1 6 = .ok (.invokestatic 183, 3) := by decide +kernel
theorem dX12_isLoud_9 : decode MX12_isLoud.2.1 9 = .ok (.ireturn, 1) := by decide +kernel
theorem dX12_isWord1_0 : decode MX12_isWord1.2.1 0 = .ok (.iload_n 1, 1) := by decide +kernel
theorem dX12_isWord1_1 : decode MX12_isWord1.2.1 1 = .ok (.i2l, 1) := by decide +kernel
theorem dX12_isWord1_2 : decode MX12_isWord1.2.1 2 = .ok (.lconst 0, 1) := by decide +kernel
theorem dX12_isWord1_3 : decode MX12_isWord1.2.1 3 = .ok (.aload_n 0, 1) := by decide +kernel
theorem dX12_isWord1_4 : decode MX12_isWord1.2.1 4 = .ok (.getfield 13, 3) := by decide +kernel
theorem dX12_isWord1_7 : decode MX12_isWord1.2.1 7 = .ok (.iconst 0, 1) := by decide +kernel
theorem dX12_isWord1_8 : decode MX12_isWord1.2.1 8 = .ok (.iaload, 1) := by decide +kernel
theorem dX12_isWord1_9 : decode MX12_isWord1.2.1 9 = .ok (.i2l, 1) := by decide +kernel
theorem dX12_isWord1_10 : decode MX12_isWord1.2.1 10 = .ok (.lconst 1, 1) := by decide +kernel
theorem dX12_isWord1_11 : decode MX12_isWord1.2.1 11 = .ok (.lsub, 1) := by decide +kernel
theorem dX12_isWord1_12 : decode MX12_isWord1.2.1 12 = .ok (.invokestatic 183, 3) := by decide +kernel
theorem dX12_isWord1_15 : decode MX12_isWord1.2.1 15 = .ok (.ireturn, 1) := by decide +kernel
theorem dX12_ofWord_0 : decode MX12_ofWord.2.1 0 = .ok (.aload_n 0, 1) := by decide +kernel
theorem dX12_ofWord_1 : decode MX12_ofWord.2.1 1 = .ok (.getfield 13, 3) := by decide +kernel
theorem dX12_ofWord_4 : decode MX12_ofWord.2.1 4 = .ok (.sipush 142, 3) := by decide +kernel
theorem dX12_ofWord_7 : decode MX12_ofWord.2.1 7 = .ok (.iconst 4, 1) := by decide +kernel
theorem dX12_ofWord_8 : decode MX12_ofWord.2.1 8 = .ok (.iload_n 1, 1) := by decide +kernel
theorem dX12_ofWord_9 : decode MX12_ofWord.2.1 9 = .ok (.imul, 1) := by decide +kernel
theorem dX12_ofWord_10 : decode MX12_ofWord.2.1 10 = .ok (.iadd, 1) := by decide +kernel
theorem dX12_ofWord_11 : decode MX12_ofWord.2.1 11 = .ok (.iload_n 2, 1) := by decide +kernel
theorem dX12_ofWord_12 : decode MX12_ofWord.2.1 12 = .ok (.iadd, 1) := by decide +kernel
theorem dX12_ofWord_13 : decode MX12_ofWord.2.1 13 = .ok (.iaload, 1) := by decide +kernel
theorem dX12_ofWord_14 : decode MX12_ofWord.2.1 14 = .ok (.ireturn, 1) := by decide +kernel
theorem dX12_day_0 : decode MX12_day.2.1 0 = .ok (.aload_n 0, 1) := by decide +kernel
theorem dX12_day_1 : decode MX12_day.2.1 1 = .ok (.getfield 13, 3) := by decide +kernel
theorem dX12_day_4 : decode MX12_day.2.1 4 = .ok (.bipush 6, 2) := by decide +kernel
theorem dX12_day_6 : decode MX12_day.2.1 6 = .ok (.iaload, 1) := by decide +kernel
theorem dX12_day_7 : decode MX12_day.2.1 7 = .ok (.ireturn, 1) := by decide +kernel
theorem dX12_canBe_0 : decode MX12_canBe.2.1 0 = .ok (.iload_n 1, 1) := by decide +kernel
theorem dX12_canBe_1 : decode MX12_canBe.2.1 1 = .ok (.tableswitch 85 0 3 #[31, 41, 51, 77], 31) := by decide +kernel
theorem dX12_canBe_32 : decode MX12_canBe.2.1 32 = .ok (.iload_n 2, 1) := by decide +kernel
theorem dX12_canBe_33 : decode MX12_canBe.2.1 33 = .ok (.i2l, 1) := by decide +kernel
theorem dX12_canBe_34 : decode MX12_canBe.2.1 34 = .ok (.lconst 0, 1) := by decide +kernel
theorem dX12_canBe_35 : decode MX12_canBe.2.1 35 = .ok (.ldc2_w 191, 3) := by decide +kernel
theorem dX12_canBe_38 : decode MX12_canBe.2.1 38 = .ok (.invokestatic 183, 3) := by decide +kernel
theorem dX12_canBe_41 : decode MX12_canBe.2.1 41 = .ok (.ireturn, 1) := by decide +kernel
theorem dX12_canBe_42 : decode MX12_canBe.2.1 42 = .ok (.iload_n 2, 1) := by decide +kernel
theorem dX12_canBe_43 : decode MX12_canBe.2.1 43 = .ok (.i2l, 1) := by decide +kernel
theorem dX12_canBe_44 : decode MX12_canBe.2.1 44 = .ok (.lconst 1, 1) := by decide +kernel
theorem dX12_canBe_45 : decode MX12_canBe.2.1 45 = .ok (.ldc2_w 191, 3) := by decide +kernel
theorem dX12_canBe_48 : decode MX12_canBe.2.1 48 = .ok (.invokestatic 183, 3) := by decide +kernel
theorem dX12_canBe_51 : decode MX12_canBe.2.1 51 = .ok (.ireturn, 1) := by decide +kernel
theorem dX12_canBe_52 : decode MX12_canBe.2.1 52 = .ok (.iload_n 2, 1) := by decide +kernel
theorem dX12_canBe_53 : decode MX12_canBe.2.1 53 = .ok (.iconst (-1), 1) := by decide +kernel
theorem dX12_canBe_54 : decode MX12_canBe.2.1 54 = .ok (.if_icmp .eq 18, 3) := by decide +kernel
theorem dX12_canBe_57 : decode MX12_canBe.2.1 57 = .ok (.iload_n 2, 1) := by decide +kernel
theorem dX12_canBe_58 : decode MX12_canBe.2.1 58 = .ok (.i2l, 1) := by decide +kernel
theorem dX12_canBe_59 : decode MX12_canBe.2.1 59 = .ok (.iload_n 0, 1) := by decide +kernel
theorem dX12_canBe_60 : decode MX12_canBe.2.1 60 = .ok (.i2l, 1) := by decide +kernel
theorem dX12_canBe_61 : decode MX12_canBe.2.1 61 = .ok (.lconst 1, 1) := by decide +kernel
theorem dX12_canBe_62 : decode MX12_canBe.2.1 62 = .ok (.ladd, 1) := by decide +kernel
theorem dX12_canBe_63 : decode MX12_canBe.2.1 63 = .ok (.ldc2_w 187, 3) := by decide +kernel
theorem dX12_canBe_66 : decode MX12_canBe.2.1 66 = .ok (.invokestatic 183, 3) := by decide +kernel
theorem dX12_canBe_69 : decode MX12_canBe.2.1 69 = .ok (.ifCond .eq 7, 3) := by decide +kernel
theorem dX12_canBe_72 : decode MX12_canBe.2.1 72 = .ok (.iconst 1, 1) := by decide +kernel
theorem dX12_canBe_73 : decode MX12_canBe.2.1 73 = .ok (.goto 4, 3) := by decide +kernel
theorem dX12_canBe_76 : decode MX12_canBe.2.1 76 = .ok (.iconst 0, 1) := by decide +kernel
theorem dX12_canBe_77 : decode MX12_canBe.2.1 77 = .ok (.ireturn, 1) := by decide +kernel
theorem dX12_canBe_78 : decode MX12_canBe.2.1 78 = .ok (.iload_n 2, 1) := by decide +kernel
theorem dX12_canBe_79 : decode MX12_canBe.2.1 79 = .ok (.i2l, 1) := by decide +kernel
theorem dX12_canBe_80 : decode MX12_canBe.2.1 80 = .ok (.lconst 0, 1) := by decide +kernel
theorem dX12_canBe_81 : decode MX12_canBe.2.1 81 = .ok (.lconst 1, 1) := by decide +kernel
theorem dX12_canBe_82 : decode MX12_canBe.2.1 82 = .ok (.invokestatic 183, 3) := by decide +kernel
theorem dX12_canBe_85 : decode MX12_canBe.2.1 85 = .ok (.ireturn, 1) := by decide +kernel
theorem dX12_canBe_86 : decode MX12_canBe.2.1 86 = .ok (.iload_n 1, 1) := by decide +kernel
theorem dX12_canBe_87 : decode MX12_canBe.2.1 87 = .ok (.i2l, 1) := by decide +kernel
theorem dX12_canBe_88 : decode MX12_canBe.2.1 88 = .ok (.ldc2_w 193, 3) := by decide +kernel
theorem dX12_canBe_91 : decode MX12_canBe.2.1 91 = .ok (.ldc2_w 195, 3) := by decide +kernel
theorem dX12_canBe_94 : decode MX12_canBe.2.1 94 = .ok (.invokestatic 183, 3) := by decide +kernel
theorem dX12_canBe_97 : decode MX12_canBe.2.1 97 = .ok (.ifCond .eq 19, 3) := by decide +kernel
theorem dX12_canBe_100 : decode MX12_canBe.2.1 100 = .ok (.iload_n 2, 1) := by decide +kernel
theorem dX12_canBe_101 : decode MX12_canBe.2.1 101 = .ok (.i2l, 1) := by decide +kernel
theorem dX12_canBe_102 : decode MX12_canBe.2.1 102 = .ok (.lconst 0, 1) := by decide +kernel
theorem dX12_canBe_103 : decode MX12_canBe.2.1 103 = .ok (.ldc2_w 197, 3) := by decide +kernel
theorem dX12_canBe_106 : decode MX12_canBe.2.1 106 = .ok (.invokestatic 183, 3) := by decide +kernel
theorem dX12_canBe_109 : decode MX12_canBe.2.1 109 = .ok (.ifCond .eq 7, 3) := by decide +kernel
theorem dX12_canBe_112 : decode MX12_canBe.2.1 112 = .ok (.iconst 1, 1) := by decide +kernel
theorem dX12_canBe_113 : decode MX12_canBe.2.1 113 = .ok (.goto 4, 3) := by decide +kernel
theorem dX12_canBe_116 : decode MX12_canBe.2.1 116 = .ok (.iconst 0, 1) := by decide +kernel
theorem dX12_canBe_117 : decode MX12_canBe.2.1 117 = .ok (.ireturn, 1) := by decide +kernel
theorem dX12_put_0 : decode MX12_put.2.1 0 = .ok (.aload_n 0, 1) := by decide +kernel
theorem dX12_put_1 : decode MX12_put.2.1 1 = .ok (.iconst 0, 1) := by decide +kernel
theorem dX12_put_2 : decode MX12_put.2.1 2 = .ok (.putfield 163, 3) := by decide +kernel
theorem dX12_put_5 : decode MX12_put.2.1 5 = .ok (.iload_n 1, 1) := by decide +kernel
theorem dX12_put_6 : decode MX12_put.2.1 6 = .ok (.invokestatic 199, 3) := by decide +kernel
theorem dX12_put_9 : decode MX12_put.2.1 9 = .ok (.ifCond .eq 12, 3) := by decide +kernel
theorem dX12_put_12 : decode MX12_put.2.1 12 = .ok (.iload_n 1, 1) := by decide +kernel
theorem dX12_put_13 : decode MX12_put.2.1 13 = .ok (.iload_n 2, 1) := by decide +kernel
theorem dX12_put_14 : decode MX12_put.2.1 14 = .ok (.iload_n 3, 1) := by decide +kernel
theorem dX12_put_15 : decode MX12_put.2.1 15 = .ok (.invokestatic 203, 3) := by decide +kernel
theorem dX12_put_18 : decode MX12_put.2.1 18 = .ok (.ifCond .ne 9, 3) := by decide +kernel
theorem dX12_put_21 : decode MX12_put.2.1 21 = .ok (.aload_n 0, 1) := by decide +kernel
theorem dX12_put_22 : decode MX12_put.2.1 22 = .ok (.iconst (-1), 1) := by decide +kernel
theorem dX12_put_23 : decode MX12_put.2.1 23 = .ok (.invokevirtual 176, 3) := by decide +kernel
theorem dX12_put_26 : decode MX12_put.2.1 26 = .ok (.ireturn, 1) := by decide +kernel
theorem dX12_put_27 : decode MX12_put.2.1 27 = .ok (.aload_n 0, 1) := by decide +kernel
theorem dX12_put_28 : decode MX12_put.2.1 28 = .ok (.iconst 0, 1) := by decide +kernel
theorem dX12_put_29 : decode MX12_put.2.1 29 = .ok (.putfield 169, 3) := by decide +kernel
theorem dX12_put_32 : decode MX12_put.2.1 32 = .ok (.aload_n 0, 1) := by decide +kernel
theorem dX12_put_33 : decode MX12_put.2.1 33 = .ok (.iload_n 1, 1) := by decide +kernel
theorem dX12_put_34 : decode MX12_put.2.1 34 = .ok (.iload_n 2, 1) := by decide +kernel
theorem dX12_put_35 : decode MX12_put.2.1 35 = .ok (.invokestatic 159, 3) := by decide +kernel
theorem dX12_put_38 : decode MX12_put.2.1 38 = .ok (.iload_n 3, 1) := by decide +kernel
theorem dX12_put_39 : decode MX12_put.2.1 39 = .ok (.invokevirtual 207, 3) := by decide +kernel
theorem dX12_put_42 : decode MX12_put.2.1 42 = .ok (.ireturn, 1) := by decide +kernel
theorem dX12_of_0 : decode MX12_of.2.1 0 = .ok (.aload_n 0, 1) := by decide +kernel
theorem dX12_of_1 : decode MX12_of.2.1 1 = .ok (.iconst 0, 1) := by decide +kernel
theorem dX12_of_2 : decode MX12_of.2.1 2 = .ok (.putfield 163, 3) := by decide +kernel
theorem dX12_of_5 : decode MX12_of.2.1 5 = .ok (.iload_n 1, 1) := by decide +kernel
theorem dX12_of_6 : decode MX12_of.2.1 6 = .ok (.invokestatic 199, 3) := by decide +kernel
theorem dX12_of_9 : decode MX12_of.2.1 9 = .ok (.ifCond .eq 24, 3) := by decide +kernel
theorem dX12_of_12 : decode MX12_of.2.1 12 = .ok (.iload_n 2, 1) := by decide +kernel
theorem dX12_of_13 : decode MX12_of.2.1 13 = .ok (.i2l, 1) := by decide +kernel
theorem dX12_of_14 : decode MX12_of.2.1 14 = .ok (.lconst 0, 1) := by decide +kernel
theorem dX12_of_15 : decode MX12_of.2.1 15 = .ok (.ldc2_w 197, 3) := by decide +kernel
theorem dX12_of_18 : decode MX12_of.2.1 18 = .ok (.invokestatic 183, 3) := by decide +kernel
theorem dX12_of_21 : decode MX12_of.2.1 21 = .ok (.ifCond .eq 12, 3) := by decide +kernel
theorem dX12_of_24 : decode MX12_of.2.1 24 = .ok (.aload_n 0, 1) := by decide +kernel
theorem dX12_of_25 : decode MX12_of.2.1 25 = .ok (.iload_n 1, 1) := by decide +kernel
theorem dX12_of_26 : decode MX12_of.2.1 26 = .ok (.iload_n 2, 1) := by decide +kernel
theorem dX12_of_27 : decode MX12_of.2.1 27 = .ok (.invokevirtual 210, 3) := by decide +kernel
theorem dX12_of_30 : decode MX12_of.2.1 30 = .ok (.goto 4, 3) := by decide +kernel
theorem dX12_of_33 : decode MX12_of.2.1 33 = .ok (.iconst (-1), 1) := by decide +kernel
theorem dX12_of_34 : decode MX12_of.2.1 34 = .ok (.ireturn, 1) := by decide +kernel
theorem dX12_word1_0 : decode MX12_word1.2.1 0 = .ok (.iload_n 1, 1) := by decide +kernel
theorem dX12_word1_1 : decode MX12_word1.2.1 1 = .ok (.i2l, 1) := by decide +kernel
theorem dX12_word1_2 : decode MX12_word1.2.1 2 = .ok (.lconst 1, 1) := by decide +kernel
theorem dX12_word1_3 : decode MX12_word1.2.1 3 = .ok (.ldc2_w 197, 3) := by decide +kernel
theorem dX12_word1_6 : decode MX12_word1.2.1 6 = .ok (.invokestatic 183, 3) := by decide +kernel
theorem dX12_word1_9 : decode MX12_word1.2.1 9 = .ok (.ifCond .eq 27, 3) := by decide +kernel
theorem dX12_word1_12 : decode MX12_word1.2.1 12 = .ok (.iload_n 2, 1) := by decide +kernel
theorem dX12_word1_13 : decode MX12_word1.2.1 13 = .ok (.i2l, 1) := by decide +kernel
theorem dX12_word1_14 : decode MX12_word1.2.1 14 = .ok (.lconst 0, 1) := by decide +kernel
theorem dX12_word1_15 : decode MX12_word1.2.1 15 = .ok (.ldc2_w 197, 3) := by decide +kernel
theorem dX12_word1_18 : decode MX12_word1.2.1 18 = .ok (.invokestatic 183, 3) := by decide +kernel
theorem dX12_word1_21 : decode MX12_word1.2.1 21 = .ok (.ifCond .eq 15, 3) := by decide +kernel
theorem dX12_word1_24 : decode MX12_word1.2.1 24 = .ok (.iload_n 3, 1) := by decide +kernel
theorem dX12_word1_25 : decode MX12_word1.2.1 25 = .ok (.i2l, 1) := by decide +kernel
theorem dX12_word1_26 : decode MX12_word1.2.1 26 = .ok (.lconst 0, 1) := by decide +kernel
theorem dX12_word1_27 : decode MX12_word1.2.1 27 = .ok (.ldc2_w 195, 3) := by decide +kernel
theorem dX12_word1_30 : decode MX12_word1.2.1 30 = .ok (.invokestatic 183, 3) := by decide +kernel
theorem dX12_word1_33 : decode MX12_word1.2.1 33 = .ok (.ifCond .ne 5, 3) := by decide +kernel
theorem dX12_word1_36 : decode MX12_word1.2.1 36 = .ok (.iconst (-1), 1) := by decide +kernel
theorem dX12_word1_37 : decode MX12_word1.2.1 37 = .ok (.ireturn, 1) := by decide +kernel
theorem dX12_word1_38 : decode MX12_word1.2.1 38 = .ok (.aload_n 0, 1) := by decide +kernel
theorem dX12_word1_39 : decode MX12_word1.2.1 39 = .ok (.getfield 13, 3) := by decide +kernel
theorem dX12_word1_42 : decode MX12_word1.2.1 42 = .ok (.iconst 0, 1) := by decide +kernel
theorem dX12_word1_43 : decode MX12_word1.2.1 43 = .ok (.iaload, 1) := by decide +kernel
theorem dX12_word1_44 : decode MX12_word1.2.1 44 = .ok (.istore 4, 2) := by decide +kernel
theorem dX12_word1_46 : decode MX12_word1.2.1 46 = .ok (.iload 4, 2) := by decide +kernel
theorem dX12_word1_48 : decode MX12_word1.2.1 48 = .ok (.bipush 16, 2) := by decide +kernel
theorem dX12_word1_50 : decode MX12_word1.2.1 50 = .ok (.if_icmp .ne 6, 3) := by decide +kernel
theorem dX12_word1_53 : decode MX12_word1.2.1 53 = .ok (.bipush (-5), 2) := by decide +kernel
theorem dX12_word1_55 : decode MX12_word1.2.1 55 = .ok (.ireturn, 1) := by decide +kernel
theorem dX12_word1_56 : decode MX12_word1.2.1 56 = .ok (.sipush 142, 3) := by decide +kernel
theorem dX12_word1_59 : decode MX12_word1.2.1 59 = .ok (.iconst 4, 1) := by decide +kernel
theorem dX12_word1_60 : decode MX12_word1.2.1 60 = .ok (.iload 4, 2) := by decide +kernel
theorem dX12_word1_62 : decode MX12_word1.2.1 62 = .ok (.imul, 1) := by decide +kernel
theorem dX12_word1_63 : decode MX12_word1.2.1 63 = .ok (.iadd, 1) := by decide +kernel
theorem dX12_word1_64 : decode MX12_word1.2.1 64 = .ok (.istore 5, 2) := by decide +kernel
theorem dX12_word1_66 : decode MX12_word1.2.1 66 = .ok (.aload_n 0, 1) := by decide +kernel
theorem dX12_word1_67 : decode MX12_word1.2.1 67 = .ok (.getfield 13, 3) := by decide +kernel
theorem dX12_word1_70 : decode MX12_word1.2.1 70 = .ok (.iload 5, 2) := by decide +kernel
theorem dX12_word1_72 : decode MX12_word1.2.1 72 = .ok (.iload_n 1, 1) := by decide +kernel
theorem dX12_word1_73 : decode MX12_word1.2.1 73 = .ok (.iastore, 1) := by decide +kernel
theorem dX12_word1_74 : decode MX12_word1.2.1 74 = .ok (.aload_n 0, 1) := by decide +kernel
theorem dX12_word1_75 : decode MX12_word1.2.1 75 = .ok (.getfield 13, 3) := by decide +kernel
theorem dX12_word1_78 : decode MX12_word1.2.1 78 = .ok (.iload 5, 2) := by decide +kernel
theorem dX12_word1_80 : decode MX12_word1.2.1 80 = .ok (.iconst 1, 1) := by decide +kernel
theorem dX12_word1_81 : decode MX12_word1.2.1 81 = .ok (.iadd, 1) := by decide +kernel
theorem dX12_word1_82 : decode MX12_word1.2.1 82 = .ok (.iload_n 2, 1) := by decide +kernel
theorem dX12_word1_83 : decode MX12_word1.2.1 83 = .ok (.iastore, 1) := by decide +kernel
theorem dX12_word1_84 : decode MX12_word1.2.1 84 = .ok (.aload_n 0, 1) := by decide +kernel
theorem dX12_word1_85 : decode MX12_word1.2.1 85 = .ok (.getfield 13, 3) := by decide +kernel
theorem dX12_word1_88 : decode MX12_word1.2.1 88 = .ok (.iload 5, 2) := by decide +kernel
theorem dX12_word1_90 : decode MX12_word1.2.1 90 = .ok (.iconst 2, 1) := by decide +kernel
theorem dX12_word1_91 : decode MX12_word1.2.1 91 = .ok (.iadd, 1) := by decide +kernel
theorem dX12_word1_92 : decode MX12_word1.2.1 92 = .ok (.iload_n 3, 1) := by decide +kernel
theorem dX12_word1_93 : decode MX12_word1.2.1 93 = .ok (.iastore, 1) := by decide +kernel
theorem dX12_word1_94 : decode MX12_word1.2.1 94 = .ok (.aload_n 0, 1) := by decide +kernel
theorem dX12_word1_95 : decode MX12_word1.2.1 95 = .ok (.getfield 13, 3) := by decide +kernel
theorem dX12_word1_98 : decode MX12_word1.2.1 98 = .ok (.iload 5, 2) := by decide +kernel
theorem dX12_word1_100 : decode MX12_word1.2.1 100 = .ok (.iconst 3, 1) := by decide +kernel
theorem dX12_word1_101 : decode MX12_word1.2.1 101 = .ok (.iadd, 1) := by decide +kernel
theorem dX12_word1_102 : decode MX12_word1.2.1 102 = .ok (.iconst 0, 1) := by decide +kernel
theorem dX12_word1_103 : decode MX12_word1.2.1 103 = .ok (.iastore, 1) := by decide +kernel
theorem dX12_word1_104 : decode MX12_word1.2.1 104 = .ok (.aload_n 0, 1) := by decide +kernel
theorem dX12_word1_105 : decode MX12_word1.2.1 105 = .ok (.getfield 13, 3) := by decide +kernel
theorem dX12_word1_108 : decode MX12_word1.2.1 108 = .ok (.iconst 0, 1) := by decide +kernel
theorem dX12_word1_109 : decode MX12_word1.2.1 109 = .ok (.dup2, 1) := by decide +kernel
theorem dX12_word1_110 : decode MX12_word1.2.1 110 = .ok (.iaload, 1) := by decide +kernel
theorem dX12_word1_111 : decode MX12_word1.2.1 111 = .ok (.iconst 1, 1) := by decide +kernel
theorem dX12_word1_112 : decode MX12_word1.2.1 112 = .ok (.iadd, 1) := by decide +kernel
theorem dX12_word1_113 : decode MX12_word1.2.1 113 = .ok (.iastore, 1) := by decide +kernel
theorem dX12_word1_114 : decode MX12_word1.2.1 114 = .ok (.iload 4, 2) := by decide +kernel
theorem dX12_word1_116 : decode MX12_word1.2.1 116 = .ok (.ireturn, 1) := by decide +kernel
theorem dX12_word_0 : decode MX12_word.2.1 0 = .ok (.aload_n 0, 1) := by decide +kernel
theorem dX12_word_1 : decode MX12_word.2.1 1 = .ok (.iconst 0, 1) := by decide +kernel
theorem dX12_word_2 : decode MX12_word.2.1 2 = .ok (.putfield 163, 3) := by decide +kernel
theorem dX12_word_5 : decode MX12_word.2.1 5 = .ok (.aload_n 0, 1) := by decide +kernel
theorem dX12_word_6 : decode MX12_word.2.1 6 = .ok (.aload_n 0, 1) := by decide +kernel
theorem dX12_word_7 : decode MX12_word.2.1 7 = .ok (.iload_n 1, 1) := by decide +kernel
theorem dX12_word_8 : decode MX12_word.2.1 8 = .ok (.iload_n 2, 1) := by decide +kernel
theorem dX12_word_9 : decode MX12_word.2.1 9 = .ok (.iload_n 3, 1) := by decide +kernel
theorem dX12_word_10 : decode MX12_word.2.1 10 = .ok (.invokevirtual 213, 3) := by decide +kernel
theorem dX12_word_13 : decode MX12_word.2.1 13 = .ok (.invokevirtual 176, 3) := by decide +kernel
theorem dX12_word_16 : decode MX12_word.2.1 16 = .ok (.ireturn, 1) := by decide +kernel
theorem dX12_at_0 : decode MX12_at.2.1 0 = .ok (.aload_n 0, 1) := by decide +kernel
theorem dX12_at_1 : decode MX12_at.2.1 1 = .ok (.iconst 0, 1) := by decide +kernel
theorem dX12_at_2 : decode MX12_at.2.1 2 = .ok (.putfield 163, 3) := by decide +kernel
theorem dX12_at_5 : decode MX12_at.2.1 5 = .ok (.aload_n 0, 1) := by decide +kernel
theorem dX12_at_6 : decode MX12_at.2.1 6 = .ok (.iload_n 1, 1) := by decide +kernel
theorem dX12_at_7 : decode MX12_at.2.1 7 = .ok (.invokevirtual 217, 3) := by decide +kernel
theorem dX12_at_10 : decode MX12_at.2.1 10 = .ok (.ifCond .eq 24, 3) := by decide +kernel
theorem dX12_at_13 : decode MX12_at.2.1 13 = .ok (.iload_n 2, 1) := by decide +kernel
theorem dX12_at_14 : decode MX12_at.2.1 14 = .ok (.i2l, 1) := by decide +kernel
theorem dX12_at_15 : decode MX12_at.2.1 15 = .ok (.lconst 0, 1) := by decide +kernel
theorem dX12_at_16 : decode MX12_at.2.1 16 = .ok (.ldc2_w 189, 3) := by decide +kernel
theorem dX12_at_19 : decode MX12_at.2.1 19 = .ok (.invokestatic 183, 3) := by decide +kernel
theorem dX12_at_22 : decode MX12_at.2.1 22 = .ok (.ifCond .eq 12, 3) := by decide +kernel
theorem dX12_at_25 : decode MX12_at.2.1 25 = .ok (.aload_n 0, 1) := by decide +kernel
theorem dX12_at_26 : decode MX12_at.2.1 26 = .ok (.iload_n 1, 1) := by decide +kernel
theorem dX12_at_27 : decode MX12_at.2.1 27 = .ok (.iload_n 2, 1) := by decide +kernel
theorem dX12_at_28 : decode MX12_at.2.1 28 = .ok (.invokevirtual 220, 3) := by decide +kernel
theorem dX12_at_31 : decode MX12_at.2.1 31 = .ok (.goto 4, 3) := by decide +kernel
theorem dX12_at_34 : decode MX12_at.2.1 34 = .ok (.iconst (-1), 1) := by decide +kernel
theorem dX12_at_35 : decode MX12_at.2.1 35 = .ok (.ireturn, 1) := by decide +kernel
theorem dX12_often_0 : decode MX12_often.2.1 0 = .ok (.aload_n 0, 1) := by decide +kernel
theorem dX12_often_1 : decode MX12_often.2.1 1 = .ok (.iconst 0, 1) := by decide +kernel
theorem dX12_often_2 : decode MX12_often.2.1 2 = .ok (.putfield 163, 3) := by decide +kernel
theorem dX12_often_5 : decode MX12_often.2.1 5 = .ok (.iload_n 2, 1) := by decide +kernel
theorem dX12_often_6 : decode MX12_often.2.1 6 = .ok (.i2l, 1) := by decide +kernel
theorem dX12_often_7 : decode MX12_often.2.1 7 = .ok (.lconst 0, 1) := by decide +kernel
theorem dX12_often_8 : decode MX12_often.2.1 8 = .ok (.ldc2_w 223, 3) := by decide +kernel
theorem dX12_often_11 : decode MX12_often.2.1 11 = .ok (.invokestatic 183, 3) := by decide +kernel
theorem dX12_often_14 : decode MX12_often.2.1 14 = .ok (.ifCond .ne 9, 3) := by decide +kernel
theorem dX12_often_17 : decode MX12_often.2.1 17 = .ok (.aload_n 0, 1) := by decide +kernel
theorem dX12_often_18 : decode MX12_often.2.1 18 = .ok (.iconst (-1), 1) := by decide +kernel
theorem dX12_often_19 : decode MX12_often.2.1 19 = .ok (.invokevirtual 176, 3) := by decide +kernel
theorem dX12_often_22 : decode MX12_often.2.1 22 = .ok (.ireturn, 1) := by decide +kernel
theorem dX12_often_23 : decode MX12_often.2.1 23 = .ok (.aload_n 0, 1) := by decide +kernel
theorem dX12_often_24 : decode MX12_often.2.1 24 = .ok (.iload_n 1, 1) := by decide +kernel
theorem dX12_often_25 : decode MX12_often.2.1 25 = .ok (.invokevirtual 217, 3) := by decide +kernel
theorem dX12_often_28 : decode MX12_often.2.1 28 = .ok (.ifCond .eq 20, 3) := by decide +kernel
theorem dX12_often_31 : decode MX12_often.2.1 31 = .ok (.aload_n 0, 1) := by decide +kernel
theorem dX12_often_32 : decode MX12_often.2.1 32 = .ok (.sipush 142, 3) := by decide +kernel
theorem dX12_often_35 : decode MX12_often.2.1 35 = .ok (.iconst 4, 1) := by decide +kernel
theorem dX12_often_36 : decode MX12_often.2.1 36 = .ok (.iload_n 1, 1) := by decide +kernel
theorem dX12_often_37 : decode MX12_often.2.1 37 = .ok (.imul, 1) := by decide +kernel
theorem dX12_often_38 : decode MX12_often.2.1 38 = .ok (.iadd, 1) := by decide +kernel
theorem dX12_often_39 : decode MX12_often.2.1 39 = .ok (.iconst 3, 1) := by decide +kernel
theorem dX12_often_40 : decode MX12_often.2.1 40 = .ok (.iadd, 1) := by decide +kernel
theorem dX12_often_41 : decode MX12_often.2.1 41 = .ok (.iload_n 2, 1) := by decide +kernel
theorem dX12_often_42 : decode MX12_often.2.1 42 = .ok (.invokevirtual 207, 3) := by decide +kernel
theorem dX12_often_45 : decode MX12_often.2.1 45 = .ok (.goto 9, 3) := by decide +kernel
theorem dX12_often_48 : decode MX12_often.2.1 48 = .ok (.aload_n 0, 1) := by decide +kernel
theorem dX12_often_49 : decode MX12_often.2.1 49 = .ok (.bipush (-2), 2) := by decide +kernel
theorem dX12_often_51 : decode MX12_often.2.1 51 = .ok (.invokevirtual 176, 3) := by decide +kernel
theorem dX12_often_54 : decode MX12_often.2.1 54 = .ok (.ireturn, 1) := by decide +kernel
theorem dX12_terms_0 : decode MX12_terms.2.1 0 = .ok (.aload_n 0, 1) := by decide +kernel
theorem dX12_terms_1 : decode MX12_terms.2.1 1 = .ok (.iconst 0, 1) := by decide +kernel
theorem dX12_terms_2 : decode MX12_terms.2.1 2 = .ok (.putfield 163, 3) := by decide +kernel
theorem dX12_terms_5 : decode MX12_terms.2.1 5 = .ok (.iload_n 1, 1) := by decide +kernel
theorem dX12_terms_6 : decode MX12_terms.2.1 6 = .ok (.ifCond .ne 15, 3) := by decide +kernel
theorem dX12_terms_9 : decode MX12_terms.2.1 9 = .ok (.iload_n 2, 1) := by decide +kernel
theorem dX12_terms_10 : decode MX12_terms.2.1 10 = .ok (.i2l, 1) := by decide +kernel
theorem dX12_terms_11 : decode MX12_terms.2.1 11 = .ok (.lconst 0, 1) := by decide +kernel
theorem dX12_terms_12 : decode MX12_terms.2.1 12 = .ok (.ldc2_w 225, 3) := by decide +kernel
theorem dX12_terms_15 : decode MX12_terms.2.1 15 = .ok (.invokestatic 183, 3) := by decide +kernel
theorem dX12_terms_18 : decode MX12_terms.2.1 18 = .ok (.goto 25, 3) := by decide +kernel
theorem dX12_terms_21 : decode MX12_terms.2.1 21 = .ok (.iload_n 1, 1) := by decide +kernel
theorem dX12_terms_22 : decode MX12_terms.2.1 22 = .ok (.iconst 1, 1) := by decide +kernel
theorem dX12_terms_23 : decode MX12_terms.2.1 23 = .ok (.if_icmp .ne 19, 3) := by decide +kernel
theorem dX12_terms_26 : decode MX12_terms.2.1 26 = .ok (.iload_n 2, 1) := by decide +kernel
theorem dX12_terms_27 : decode MX12_terms.2.1 27 = .ok (.i2l, 1) := by decide +kernel
theorem dX12_terms_28 : decode MX12_terms.2.1 28 = .ok (.lconst 0, 1) := by decide +kernel
theorem dX12_terms_29 : decode MX12_terms.2.1 29 = .ok (.ldc2_w 197, 3) := by decide +kernel
theorem dX12_terms_32 : decode MX12_terms.2.1 32 = .ok (.invokestatic 183, 3) := by decide +kernel
theorem dX12_terms_35 : decode MX12_terms.2.1 35 = .ok (.ifCond .eq 7, 3) := by decide +kernel
theorem dX12_terms_38 : decode MX12_terms.2.1 38 = .ok (.iconst 1, 1) := by decide +kernel
theorem dX12_terms_39 : decode MX12_terms.2.1 39 = .ok (.goto 4, 3) := by decide +kernel
theorem dX12_terms_42 : decode MX12_terms.2.1 42 = .ok (.iconst 0, 1) := by decide +kernel
theorem dX12_terms_43 : decode MX12_terms.2.1 43 = .ok (.istore_n 3, 1) := by decide +kernel
theorem dX12_terms_44 : decode MX12_terms.2.1 44 = .ok (.iload_n 3, 1) := by decide +kernel
theorem dX12_terms_45 : decode MX12_terms.2.1 45 = .ok (.ifCond .ne 9, 3) := by decide +kernel
theorem dX12_terms_48 : decode MX12_terms.2.1 48 = .ok (.aload_n 0, 1) := by decide +kernel
theorem dX12_terms_49 : decode MX12_terms.2.1 49 = .ok (.iconst (-1), 1) := by decide +kernel
theorem dX12_terms_50 : decode MX12_terms.2.1 50 = .ok (.invokevirtual 176, 3) := by decide +kernel
theorem dX12_terms_53 : decode MX12_terms.2.1 53 = .ok (.ireturn, 1) := by decide +kernel
theorem dX12_terms_54 : decode MX12_terms.2.1 54 = .ok (.aload_n 0, 1) := by decide +kernel
theorem dX12_terms_55 : decode MX12_terms.2.1 55 = .ok (.iconst 0, 1) := by decide +kernel
theorem dX12_terms_56 : decode MX12_terms.2.1 56 = .ok (.putfield 169, 3) := by decide +kernel
theorem dX12_terms_59 : decode MX12_terms.2.1 59 = .ok (.aload_n 0, 1) := by decide +kernel
theorem dX12_terms_60 : decode MX12_terms.2.1 60 = .ok (.bipush 6, 2) := by decide +kernel
theorem dX12_terms_62 : decode MX12_terms.2.1 62 = .ok (.iload_n 1, 1) := by decide +kernel
theorem dX12_terms_63 : decode MX12_terms.2.1 63 = .ok (.iadd, 1) := by decide +kernel
theorem dX12_terms_64 : decode MX12_terms.2.1 64 = .ok (.iload_n 2, 1) := by decide +kernel
theorem dX12_terms_65 : decode MX12_terms.2.1 65 = .ok (.invokevirtual 207, 3) := by decide +kernel
theorem dX12_terms_68 : decode MX12_terms.2.1 68 = .ok (.ireturn, 1) := by decide +kernel
theorem dX12_row_0 : decode MX12_row.2.1 0 = .ok (.aload_n 0, 1) := by decide +kernel
theorem dX12_row_1 : decode MX12_row.2.1 1 = .ok (.iconst 0, 1) := by decide +kernel
theorem dX12_row_2 : decode MX12_row.2.1 2 = .ok (.putfield 163, 3) := by decide +kernel
theorem dX12_row_5 : decode MX12_row.2.1 5 = .ok (.aload_n 0, 1) := by decide +kernel
theorem dX12_row_6 : decode MX12_row.2.1 6 = .ok (.getfield 227, 3) := by decide +kernel
theorem dX12_row_9 : decode MX12_row.2.1 9 = .ok (.istore_n 1, 1) := by decide +kernel
theorem dX12_row_10 : decode MX12_row.2.1 10 = .ok (.aload_n 0, 1) := by decide +kernel
theorem dX12_row_11 : decode MX12_row.2.1 11 = .ok (.iconst 0, 1) := by decide +kernel
theorem dX12_row_12 : decode MX12_row.2.1 12 = .ok (.putfield 227, 3) := by decide +kernel
theorem dX12_row_15 : decode MX12_row.2.1 15 = .ok (.iload_n 1, 1) := by decide +kernel
theorem dX12_row_16 : decode MX12_row.2.1 16 = .ok (.ifCond .ne 10, 3) := by decide +kernel
theorem dX12_row_19 : decode MX12_row.2.1 19 = .ok (.aload_n 0, 1) := by decide +kernel
theorem dX12_row_20 : decode MX12_row.2.1 20 = .ok (.bipush (-6), 2) := by decide +kernel
theorem dX12_row_22 : decode MX12_row.2.1 22 = .ok (.invokevirtual 176, 3) := by decide +kernel
theorem dX12_row_25 : decode MX12_row.2.1 25 = .ok (.ireturn, 1) := by decide +kernel
theorem dX12_row_26 : decode MX12_row.2.1 26 = .ok (.aload_n 0, 1) := by decide +kernel
theorem dX12_row_27 : decode MX12_row.2.1 27 = .ok (.iconst 0, 1) := by decide +kernel
theorem dX12_row_28 : decode MX12_row.2.1 28 = .ok (.putfield 230, 3) := by decide +kernel
theorem dX12_row_31 : decode MX12_row.2.1 31 = .ok (.iconst 0, 1) := by decide +kernel
theorem dX12_row_32 : decode MX12_row.2.1 32 = .ok (.istore_n 2, 1) := by decide +kernel
theorem dX12_row_33 : decode MX12_row.2.1 33 = .ok (.iconst 0, 1) := by decide +kernel
theorem dX12_row_34 : decode MX12_row.2.1 34 = .ok (.istore_n 3, 1) := by decide +kernel
theorem dX12_row_35 : decode MX12_row.2.1 35 = .ok (.iload_n 3, 1) := by decide +kernel
theorem dX12_row_36 : decode MX12_row.2.1 36 = .ok (.iload_n 1, 1) := by decide +kernel
theorem dX12_row_37 : decode MX12_row.2.1 37 = .ok (.if_icmp .ge 61, 3) := by decide +kernel
theorem dX12_row_40 : decode MX12_row.2.1 40 = .ok (.iload_n 3, 1) := by decide +kernel
theorem dX12_row_41 : decode MX12_row.2.1 41 = .ok (.iconst 2, 1) := by decide +kernel
theorem dX12_row_42 : decode MX12_row.2.1 42 = .ok (.iadd, 1) := by decide +kernel
theorem dX12_row_43 : decode MX12_row.2.1 43 = .ok (.iload_n 1, 1) := by decide +kernel
theorem dX12_row_44 : decode MX12_row.2.1 44 = .ok (.if_icmp .ge 38, 3) := by decide +kernel
theorem dX12_row_47 : decode MX12_row.2.1 47 = .ok (.aload_n 0, 1) := by decide +kernel
theorem dX12_row_48 : decode MX12_row.2.1 48 = .ok (.aload_n 0, 1) := by decide +kernel
theorem dX12_row_49 : decode MX12_row.2.1 49 = .ok (.getfield 35, 3) := by decide +kernel
theorem dX12_row_52 : decode MX12_row.2.1 52 = .ok (.iload_n 3, 1) := by decide +kernel
theorem dX12_row_53 : decode MX12_row.2.1 53 = .ok (.iaload, 1) := by decide +kernel
theorem dX12_row_54 : decode MX12_row.2.1 54 = .ok (.aload_n 0, 1) := by decide +kernel
theorem dX12_row_55 : decode MX12_row.2.1 55 = .ok (.getfield 35, 3) := by decide +kernel
theorem dX12_row_58 : decode MX12_row.2.1 58 = .ok (.iload_n 3, 1) := by decide +kernel
theorem dX12_row_59 : decode MX12_row.2.1 59 = .ok (.iconst 1, 1) := by decide +kernel
theorem dX12_row_60 : decode MX12_row.2.1 60 = .ok (.iadd, 1) := by decide +kernel
theorem dX12_row_61 : decode MX12_row.2.1 61 = .ok (.iaload, 1) := by decide +kernel
theorem dX12_row_62 : decode MX12_row.2.1 62 = .ok (.aload_n 0, 1) := by decide +kernel
theorem dX12_row_63 : decode MX12_row.2.1 63 = .ok (.getfield 35, 3) := by decide +kernel
theorem dX12_row_66 : decode MX12_row.2.1 66 = .ok (.iload_n 3, 1) := by decide +kernel
theorem dX12_row_67 : decode MX12_row.2.1 67 = .ok (.iconst 2, 1) := by decide +kernel
theorem dX12_row_68 : decode MX12_row.2.1 68 = .ok (.iadd, 1) := by decide +kernel
theorem dX12_row_69 : decode MX12_row.2.1 69 = .ok (.iaload, 1) := by decide +kernel
theorem dX12_row_70 : decode MX12_row.2.1 70 = .ok (.invokevirtual 213, 3) := by decide +kernel
theorem dX12_row_73 : decode MX12_row.2.1 73 = .ok (.ifCond .lt 9, 3) := by decide +kernel
theorem dX12_row_76 : decode MX12_row.2.1 76 = .ok (.iinc 2 1, 3) := by decide +kernel
theorem dX12_row_79 : decode MX12_row.2.1 79 = .ok (.goto 13, 3) := by decide +kernel
theorem dX12_row_82 : decode MX12_row.2.1 82 = .ok (.aload_n 0, 1) := by decide +kernel
theorem dX12_row_83 : decode MX12_row.2.1 83 = .ok (.dup, 1) := by decide +kernel
theorem dX12_row_84 : decode MX12_row.2.1 84 = .ok (.getfield 230, 3) := by decide +kernel
theorem dX12_row_87 : decode MX12_row.2.1 87 = .ok (.iconst 1, 1) := by decide +kernel
theorem dX12_row_88 : decode MX12_row.2.1 88 = .ok (.iadd, 1) := by decide +kernel
theorem dX12_row_89 : decode MX12_row.2.1 89 = .ok (.putfield 230, 3) := by decide +kernel
theorem dX12_row_92 : decode MX12_row.2.1 92 = .ok (.iinc 3 3, 3) := by decide +kernel
theorem dX12_row_95 : decode MX12_row.2.1 95 = .ok (.goto (-60), 3) := by decide +kernel
theorem dX12_row_98 : decode MX12_row.2.1 98 = .ok (.aload_n 0, 1) := by decide +kernel
theorem dX12_row_99 : decode MX12_row.2.1 99 = .ok (.iload_n 2, 1) := by decide +kernel
theorem dX12_row_100 : decode MX12_row.2.1 100 = .ok (.invokevirtual 176, 3) := by decide +kernel
theorem dX12_row_103 : decode MX12_row.2.1 103 = .ok (.ireturn, 1) := by decide +kernel
theorem dX12_murmur_0 : decode MX12_murmur.2.1 0 = .ok (.aload_n 0, 1) := by decide +kernel
theorem dX12_murmur_1 : decode MX12_murmur.2.1 1 = .ok (.iconst 0, 1) := by decide +kernel
theorem dX12_murmur_2 : decode MX12_murmur.2.1 2 = .ok (.putfield 163, 3) := by decide +kernel
theorem dX12_murmur_5 : decode MX12_murmur.2.1 5 = .ok (.aload_n 0, 1) := by decide +kernel
theorem dX12_murmur_6 : decode MX12_murmur.2.1 6 = .ok (.getfield 230, 3) := by decide +kernel
theorem dX12_murmur_9 : decode MX12_murmur.2.1 9 = .ok (.ireturn, 1) := by decide +kernel
theorem dX12_four_0 : decode MX12_four.2.1 0 = .ok (.bipush 24, 2) := by decide +kernel
theorem dX12_four_2 : decode MX12_four.2.1 2 = .ok (.istore_n 2, 1) := by decide +kernel
theorem dX12_four_3 : decode MX12_four.2.1 3 = .ok (.iload_n 2, 1) := by decide +kernel
theorem dX12_four_4 : decode MX12_four.2.1 4 = .ok (.ifCond .lt 35, 3) := by decide +kernel
theorem dX12_four_7 : decode MX12_four.2.1 7 = .ok (.aload_n 0, 1) := by decide +kernel
theorem dX12_four_8 : decode MX12_four.2.1 8 = .ok (.getfield 35, 3) := by decide +kernel
theorem dX12_four_11 : decode MX12_four.2.1 11 = .ok (.aload_n 0, 1) := by decide +kernel
theorem dX12_four_12 : decode MX12_four.2.1 12 = .ok (.getfield 227, 3) := by decide +kernel
theorem dX12_four_15 : decode MX12_four.2.1 15 = .ok (.iload_n 1, 1) := by decide +kernel
theorem dX12_four_16 : decode MX12_four.2.1 16 = .ok (.iload_n 2, 1) := by decide +kernel
theorem dX12_four_17 : decode MX12_four.2.1 17 = .ok (.ishr, 1) := by decide +kernel
theorem dX12_four_18 : decode MX12_four.2.1 18 = .ok (.sipush 255, 3) := by decide +kernel
theorem dX12_four_21 : decode MX12_four.2.1 21 = .ok (.iand, 1) := by decide +kernel
theorem dX12_four_22 : decode MX12_four.2.1 22 = .ok (.iastore, 1) := by decide +kernel
theorem dX12_four_23 : decode MX12_four.2.1 23 = .ok (.aload_n 0, 1) := by decide +kernel
theorem dX12_four_24 : decode MX12_four.2.1 24 = .ok (.dup, 1) := by decide +kernel
theorem dX12_four_25 : decode MX12_four.2.1 25 = .ok (.getfield 227, 3) := by decide +kernel
theorem dX12_four_28 : decode MX12_four.2.1 28 = .ok (.iconst 1, 1) := by decide +kernel
theorem dX12_four_29 : decode MX12_four.2.1 29 = .ok (.iadd, 1) := by decide +kernel
theorem dX12_four_30 : decode MX12_four.2.1 30 = .ok (.putfield 227, 3) := by decide +kernel
theorem dX12_four_33 : decode MX12_four.2.1 33 = .ok (.iinc 2 (-8), 3) := by decide +kernel
theorem dX12_four_36 : decode MX12_four.2.1 36 = .ok (.goto (-33), 3) := by decide +kernel
theorem dX12_four_39 : decode MX12_four.2.1 39 = .ok (.return_, 1) := by decide +kernel
theorem dX12_feed_0 : decode MX12_feed.2.1 0 = .ok (.aload_n 0, 1) := by decide +kernel
theorem dX12_feed_1 : decode MX12_feed.2.1 1 = .ok (.iconst 0, 1) := by decide +kernel
theorem dX12_feed_2 : decode MX12_feed.2.1 2 = .ok (.putfield 163, 3) := by decide +kernel
theorem dX12_feed_5 : decode MX12_feed.2.1 5 = .ok (.aload_n 0, 1) := by decide +kernel
theorem dX12_feed_6 : decode MX12_feed.2.1 6 = .ok (.getfield 227, 3) := by decide +kernel
theorem dX12_feed_9 : decode MX12_feed.2.1 9 = .ok (.bipush 20, 2) := by decide +kernel
theorem dX12_feed_11 : decode MX12_feed.2.1 11 = .ok (.iadd, 1) := by decide +kernel
theorem dX12_feed_12 : decode MX12_feed.2.1 12 = .ok (.sipush 400, 3) := by decide +kernel
theorem dX12_feed_15 : decode MX12_feed.2.1 15 = .ok (.if_icmp .le 5, 3) := by decide +kernel
theorem dX12_feed_18 : decode MX12_feed.2.1 18 = .ok (.iconst (-1), 1) := by decide +kernel
theorem dX12_feed_19 : decode MX12_feed.2.1 19 = .ok (.ireturn, 1) := by decide +kernel
theorem dX12_feed_20 : decode MX12_feed.2.1 20 = .ok (.aload_n 0, 1) := by decide +kernel
theorem dX12_feed_21 : decode MX12_feed.2.1 21 = .ok (.iload_n 1, 1) := by decide +kernel
theorem dX12_feed_22 : decode MX12_feed.2.1 22 = .ok (.invokevirtual 233, 3) := by decide +kernel
theorem dX12_feed_25 : decode MX12_feed.2.1 25 = .ok (.aload_n 0, 1) := by decide +kernel
theorem dX12_feed_26 : decode MX12_feed.2.1 26 = .ok (.iload_n 2, 1) := by decide +kernel
theorem dX12_feed_27 : decode MX12_feed.2.1 27 = .ok (.invokevirtual 233, 3) := by decide +kernel
theorem dX12_feed_30 : decode MX12_feed.2.1 30 = .ok (.aload_n 0, 1) := by decide +kernel
theorem dX12_feed_31 : decode MX12_feed.2.1 31 = .ok (.iload_n 3, 1) := by decide +kernel
theorem dX12_feed_32 : decode MX12_feed.2.1 32 = .ok (.invokevirtual 233, 3) := by decide +kernel
theorem dX12_feed_35 : decode MX12_feed.2.1 35 = .ok (.aload_n 0, 1) := by decide +kernel
theorem dX12_feed_36 : decode MX12_feed.2.1 36 = .ok (.iload 4, 2) := by decide +kernel
theorem dX12_feed_38 : decode MX12_feed.2.1 38 = .ok (.invokevirtual 233, 3) := by decide +kernel
theorem dX12_feed_41 : decode MX12_feed.2.1 41 = .ok (.aload_n 0, 1) := by decide +kernel
theorem dX12_feed_42 : decode MX12_feed.2.1 42 = .ok (.iload 5, 2) := by decide +kernel
theorem dX12_feed_44 : decode MX12_feed.2.1 44 = .ok (.invokevirtual 233, 3) := by decide +kernel
theorem dX12_feed_47 : decode MX12_feed.2.1 47 = .ok (.aload_n 0, 1) := by decide +kernel
theorem dX12_feed_48 : decode MX12_feed.2.1 48 = .ok (.getfield 227, 3) := by decide +kernel
theorem dX12_feed_51 : decode MX12_feed.2.1 51 = .ok (.ireturn, 1) := by decide +kernel
theorem dX12_end_0 : decode MX12_end.2.1 0 = .ok (.aload_n 0, 1) := by decide +kernel
theorem dX12_end_1 : decode MX12_end.2.1 1 = .ok (.iconst 0, 1) := by decide +kernel
theorem dX12_end_2 : decode MX12_end.2.1 2 = .ok (.putfield 163, 3) := by decide +kernel
theorem dX12_end_5 : decode MX12_end.2.1 5 = .ok (.iload_n 1, 1) := by decide +kernel
theorem dX12_end_6 : decode MX12_end.2.1 6 = .ok (.ifCond .lt 11, 3) := by decide +kernel
theorem dX12_end_9 : decode MX12_end.2.1 9 = .ok (.iload_n 1, 1) := by decide +kernel
theorem dX12_end_10 : decode MX12_end.2.1 10 = .ok (.aload_n 0, 1) := by decide +kernel
theorem dX12_end_11 : decode MX12_end.2.1 11 = .ok (.getfield 227, 3) := by decide +kernel
theorem dX12_end_14 : decode MX12_end.2.1 14 = .ok (.if_icmp .le 5, 3) := by decide +kernel
theorem dX12_end_17 : decode MX12_end.2.1 17 = .ok (.iconst (-1), 1) := by decide +kernel
theorem dX12_end_18 : decode MX12_end.2.1 18 = .ok (.ireturn, 1) := by decide +kernel
theorem dX12_end_19 : decode MX12_end.2.1 19 = .ok (.aload_n 0, 1) := by decide +kernel
theorem dX12_end_20 : decode MX12_end.2.1 20 = .ok (.iload_n 1, 1) := by decide +kernel
theorem dX12_end_21 : decode MX12_end.2.1 21 = .ok (.putfield 227, 3) := by decide +kernel
theorem dX12_end_24 : decode MX12_end.2.1 24 = .ok (.iload_n 1, 1) := by decide +kernel
theorem dX12_end_25 : decode MX12_end.2.1 25 = .ok (.ireturn, 1) := by decide +kernel
theorem dX12_isSmall_0 : decode MX12_isSmall.2.1 0 = .ok (.iload_n 0, 1) := by decide +kernel
theorem dX12_isSmall_1 : decode MX12_isSmall.2.1 1 = .ok (.bipush 97, 2) := by decide +kernel
theorem dX12_isSmall_3 : decode MX12_isSmall.2.1 3 = .ok (.if_icmp .lt 13, 3) := by decide +kernel
theorem dX12_isSmall_6 : decode MX12_isSmall.2.1 6 = .ok (.iload_n 0, 1) := by decide +kernel
theorem dX12_isSmall_7 : decode MX12_isSmall.2.1 7 = .ok (.bipush 122, 2) := by decide +kernel
theorem dX12_isSmall_9 : decode MX12_isSmall.2.1 9 = .ok (.if_icmp .gt 7, 3) := by decide +kernel
theorem dX12_isSmall_12 : decode MX12_isSmall.2.1 12 = .ok (.iconst 1, 1) := by decide +kernel
theorem dX12_isSmall_13 : decode MX12_isSmall.2.1 13 = .ok (.goto 4, 3) := by decide +kernel
theorem dX12_isSmall_16 : decode MX12_isSmall.2.1 16 = .ok (.iconst 0, 1) := by decide +kernel
theorem dX12_isSmall_17 : decode MX12_isSmall.2.1 17 = .ok (.ireturn, 1) := by decide +kernel
theorem dX12_isDigit_0 : decode MX12_isDigit.2.1 0 = .ok (.iload_n 0, 1) := by decide +kernel
theorem dX12_isDigit_1 : decode MX12_isDigit.2.1 1 = .ok (.bipush 48, 2) := by decide +kernel
theorem dX12_isDigit_3 : decode MX12_isDigit.2.1 3 = .ok (.if_icmp .lt 13, 3) := by decide +kernel
theorem dX12_isDigit_6 : decode MX12_isDigit.2.1 6 = .ok (.iload_n 0, 1) := by decide +kernel
theorem dX12_isDigit_7 : decode MX12_isDigit.2.1 7 = .ok (.bipush 57, 2) := by decide +kernel
theorem dX12_isDigit_9 : decode MX12_isDigit.2.1 9 = .ok (.if_icmp .gt 7, 3) := by decide +kernel
theorem dX12_isDigit_12 : decode MX12_isDigit.2.1 12 = .ok (.iconst 1, 1) := by decide +kernel
theorem dX12_isDigit_13 : decode MX12_isDigit.2.1 13 = .ok (.goto 4, 3) := by decide +kernel
theorem dX12_isDigit_16 : decode MX12_isDigit.2.1 16 = .ok (.iconst 0, 1) := by decide +kernel
theorem dX12_isDigit_17 : decode MX12_isDigit.2.1 17 = .ok (.ireturn, 1) := by decide +kernel
theorem dX12_begin_0 : decode MX12_begin.2.1 0 = .ok (.aload_n 0, 1) := by decide +kernel
theorem dX12_begin_1 : decode MX12_begin.2.1 1 = .ok (.iconst 0, 1) := by decide +kernel
theorem dX12_begin_2 : decode MX12_begin.2.1 2 = .ok (.putfield 236, 3) := by decide +kernel
theorem dX12_begin_5 : decode MX12_begin.2.1 5 = .ok (.aload_n 0, 1) := by decide +kernel
theorem dX12_begin_6 : decode MX12_begin.2.1 6 = .ok (.iconst 0, 1) := by decide +kernel
theorem dX12_begin_7 : decode MX12_begin.2.1 7 = .ok (.putfield 239, 3) := by decide +kernel
theorem dX12_begin_10 : decode MX12_begin.2.1 10 = .ok (.aload_n 0, 1) := by decide +kernel
theorem dX12_begin_11 : decode MX12_begin.2.1 11 = .ok (.iconst (-1), 1) := by decide +kernel
theorem dX12_begin_12 : decode MX12_begin.2.1 12 = .ok (.putfield 38, 3) := by decide +kernel
theorem dX12_begin_15 : decode MX12_begin.2.1 15 = .ok (.aload_n 0, 1) := by decide +kernel
theorem dX12_begin_16 : decode MX12_begin.2.1 16 = .ok (.invokevirtual 243, 3) := by decide +kernel
theorem dX12_begin_19 : decode MX12_begin.2.1 19 = .ok (.return_, 1) := by decide +kernel
theorem dX12_next_0 : decode MX12_next.2.1 0 = .ok (.aload_n 0, 1) := by decide +kernel
theorem dX12_next_1 : decode MX12_next.2.1 1 = .ok (.aload_n 0, 1) := by decide +kernel
theorem dX12_next_2 : decode MX12_next.2.1 2 = .ok (.getfield 236, 3) := by decide +kernel
theorem dX12_next_5 : decode MX12_next.2.1 5 = .ok (.putfield 246, 3) := by decide +kernel
theorem dX12_next_8 : decode MX12_next.2.1 8 = .ok (.aload_n 0, 1) := by decide +kernel
theorem dX12_next_9 : decode MX12_next.2.1 9 = .ok (.getfield 246, 3) := by decide +kernel
theorem dX12_next_12 : decode MX12_next.2.1 12 = .ok (.aload_n 0, 1) := by decide +kernel
theorem dX12_next_13 : decode MX12_next.2.1 13 = .ok (.getfield 227, 3) := by decide +kernel
theorem dX12_next_16 : decode MX12_next.2.1 16 = .ok (.if_icmp .ge 30, 3) := by decide +kernel
theorem dX12_next_19 : decode MX12_next.2.1 19 = .ok (.aload_n 0, 1) := by decide +kernel
theorem dX12_next_20 : decode MX12_next.2.1 20 = .ok (.getfield 35, 3) := by decide +kernel
theorem dX12_next_23 : decode MX12_next.2.1 23 = .ok (.aload_n 0, 1) := by decide +kernel
theorem dX12_next_24 : decode MX12_next.2.1 24 = .ok (.getfield 246, 3) := by decide +kernel
theorem dX12_next_27 : decode MX12_next.2.1 27 = .ok (.iaload, 1) := by decide +kernel
theorem dX12_next_28 : decode MX12_next.2.1 28 = .ok (.bipush 32, 2) := by decide +kernel
theorem dX12_next_30 : decode MX12_next.2.1 30 = .ok (.if_icmp .ne 16, 3) := by decide +kernel
theorem dX12_next_33 : decode MX12_next.2.1 33 = .ok (.aload_n 0, 1) := by decide +kernel
theorem dX12_next_34 : decode MX12_next.2.1 34 = .ok (.dup, 1) := by decide +kernel
theorem dX12_next_35 : decode MX12_next.2.1 35 = .ok (.getfield 246, 3) := by decide +kernel
theorem dX12_next_38 : decode MX12_next.2.1 38 = .ok (.iconst 1, 1) := by decide +kernel
theorem dX12_next_39 : decode MX12_next.2.1 39 = .ok (.iadd, 1) := by decide +kernel
theorem dX12_next_40 : decode MX12_next.2.1 40 = .ok (.putfield 246, 3) := by decide +kernel
theorem dX12_next_43 : decode MX12_next.2.1 43 = .ok (.goto (-35), 3) := by decide +kernel
theorem dX12_next_46 : decode MX12_next.2.1 46 = .ok (.aload_n 0, 1) := by decide +kernel
theorem dX12_next_47 : decode MX12_next.2.1 47 = .ok (.aload_n 0, 1) := by decide +kernel
theorem dX12_next_48 : decode MX12_next.2.1 48 = .ok (.getfield 246, 3) := by decide +kernel
theorem dX12_next_51 : decode MX12_next.2.1 51 = .ok (.putfield 236, 3) := by decide +kernel
theorem dX12_next_54 : decode MX12_next.2.1 54 = .ok (.aload_n 0, 1) := by decide +kernel
theorem dX12_next_55 : decode MX12_next.2.1 55 = .ok (.lconst 0, 1) := by decide +kernel
theorem dX12_next_56 : decode MX12_next.2.1 56 = .ok (.putfield 249, 3) := by decide +kernel
theorem dX12_next_59 : decode MX12_next.2.1 59 = .ok (.aload_n 0, 1) := by decide +kernel
theorem dX12_next_60 : decode MX12_next.2.1 60 = .ok (.aload_n 0, 1) := by decide +kernel
theorem dX12_next_61 : decode MX12_next.2.1 61 = .ok (.getfield 246, 3) := by decide +kernel
theorem dX12_next_64 : decode MX12_next.2.1 64 = .ok (.aload_n 0, 1) := by decide +kernel
theorem dX12_next_65 : decode MX12_next.2.1 65 = .ok (.getfield 227, 3) := by decide +kernel
theorem dX12_next_68 : decode MX12_next.2.1 68 = .ok (.if_icmp .ne 7, 3) := by decide +kernel
theorem dX12_next_71 : decode MX12_next.2.1 71 = .ok (.iconst 0, 1) := by decide +kernel
theorem dX12_next_72 : decode MX12_next.2.1 72 = .ok (.goto 42, 3) := by decide +kernel
theorem dX12_next_75 : decode MX12_next.2.1 75 = .ok (.aload_n 0, 1) := by decide +kernel
theorem dX12_next_76 : decode MX12_next.2.1 76 = .ok (.getfield 35, 3) := by decide +kernel
theorem dX12_next_79 : decode MX12_next.2.1 79 = .ok (.aload_n 0, 1) := by decide +kernel
theorem dX12_next_80 : decode MX12_next.2.1 80 = .ok (.getfield 246, 3) := by decide +kernel
theorem dX12_next_83 : decode MX12_next.2.1 83 = .ok (.iaload, 1) := by decide +kernel
theorem dX12_next_84 : decode MX12_next.2.1 84 = .ok (.invokestatic 253, 3) := by decide +kernel
theorem dX12_next_87 : decode MX12_next.2.1 87 = .ok (.ifCond .eq 7, 3) := by decide +kernel
theorem dX12_next_90 : decode MX12_next.2.1 90 = .ok (.iconst 1, 1) := by decide +kernel
theorem dX12_next_91 : decode MX12_next.2.1 91 = .ok (.goto 23, 3) := by decide +kernel
theorem dX12_next_94 : decode MX12_next.2.1 94 = .ok (.aload_n 0, 1) := by decide +kernel
theorem dX12_next_95 : decode MX12_next.2.1 95 = .ok (.getfield 35, 3) := by decide +kernel
theorem dX12_next_98 : decode MX12_next.2.1 98 = .ok (.aload_n 0, 1) := by decide +kernel
theorem dX12_next_99 : decode MX12_next.2.1 99 = .ok (.getfield 246, 3) := by decide +kernel
theorem dX12_next_102 : decode MX12_next.2.1 102 = .ok (.iaload, 1) := by decide +kernel
theorem dX12_next_103 : decode MX12_next.2.1 103 = .ok (.invokestatic 256, 3) := by decide +kernel
theorem dX12_next_106 : decode MX12_next.2.1 106 = .ok (.ifCond .eq 7, 3) := by decide +kernel
theorem dX12_next_109 : decode MX12_next.2.1 109 = .ok (.iconst 2, 1) := by decide +kernel
theorem dX12_next_110 : decode MX12_next.2.1 110 = .ok (.goto 4, 3) := by decide +kernel
theorem dX12_next_113 : decode MX12_next.2.1 113 = .ok (.iconst 3, 1) := by decide +kernel
theorem dX12_next_114 : decode MX12_next.2.1 114 = .ok (.putfield 259, 3) := by decide +kernel
theorem dX12_next_117 : decode MX12_next.2.1 117 = .ok (.aload_n 0, 1) := by decide +kernel
theorem dX12_next_118 : decode MX12_next.2.1 118 = .ok (.getfield 259, 3) := by decide +kernel
theorem dX12_next_121 : decode MX12_next.2.1 121 = .ok (.iconst 3, 1) := by decide +kernel
theorem dX12_next_122 : decode MX12_next.2.1 122 = .ok (.if_icmp .ne 27, 3) := by decide +kernel
theorem dX12_next_125 : decode MX12_next.2.1 125 = .ok (.aload_n 0, 1) := by decide +kernel
theorem dX12_next_126 : decode MX12_next.2.1 126 = .ok (.aload_n 0, 1) := by decide +kernel
theorem dX12_next_127 : decode MX12_next.2.1 127 = .ok (.getfield 35, 3) := by decide +kernel
theorem dX12_next_130 : decode MX12_next.2.1 130 = .ok (.aload_n 0, 1) := by decide +kernel
theorem dX12_next_131 : decode MX12_next.2.1 131 = .ok (.getfield 246, 3) := by decide +kernel
theorem dX12_next_134 : decode MX12_next.2.1 134 = .ok (.iaload, 1) := by decide +kernel
theorem dX12_next_135 : decode MX12_next.2.1 135 = .ok (.i2l, 1) := by decide +kernel
theorem dX12_next_136 : decode MX12_next.2.1 136 = .ok (.putfield 249, 3) := by decide +kernel
theorem dX12_next_139 : decode MX12_next.2.1 139 = .ok (.aload_n 0, 1) := by decide +kernel
theorem dX12_next_140 : decode MX12_next.2.1 140 = .ok (.dup, 1) := by decide +kernel
theorem dX12_next_141 : decode MX12_next.2.1 141 = .ok (.getfield 236, 3) := by decide +kernel
theorem dX12_next_144 : decode MX12_next.2.1 144 = .ok (.iconst 1, 1) := by decide +kernel
theorem dX12_next_145 : decode MX12_next.2.1 145 = .ok (.iadd, 1) := by decide +kernel
theorem dX12_next_146 : decode MX12_next.2.1 146 = .ok (.putfield 236, 3) := by decide +kernel
theorem dX12_next_149 : decode MX12_next.2.1 149 = .ok (.aload_n 0, 1) := by decide +kernel
theorem dX12_next_150 : decode MX12_next.2.1 150 = .ok (.getfield 259, 3) := by decide +kernel
theorem dX12_next_153 : decode MX12_next.2.1 153 = .ok (.iconst 1, 1) := by decide +kernel
theorem dX12_next_154 : decode MX12_next.2.1 154 = .ok (.if_icmp .ne 89, 3) := by decide +kernel
theorem dX12_next_157 : decode MX12_next.2.1 157 = .ok (.aload_n 0, 1) := by decide +kernel
theorem dX12_next_158 : decode MX12_next.2.1 158 = .ok (.getfield 236, 3) := by decide +kernel
theorem dX12_next_161 : decode MX12_next.2.1 161 = .ok (.aload_n 0, 1) := by decide +kernel
theorem dX12_next_162 : decode MX12_next.2.1 162 = .ok (.getfield 227, 3) := by decide +kernel
theorem dX12_next_165 : decode MX12_next.2.1 165 = .ok (.if_icmp .ge 78, 3) := by decide +kernel
theorem dX12_next_168 : decode MX12_next.2.1 168 = .ok (.aload_n 0, 1) := by decide +kernel
theorem dX12_next_169 : decode MX12_next.2.1 169 = .ok (.getfield 35, 3) := by decide +kernel
theorem dX12_next_172 : decode MX12_next.2.1 172 = .ok (.aload_n 0, 1) := by decide +kernel
theorem dX12_next_173 : decode MX12_next.2.1 173 = .ok (.getfield 236, 3) := by decide +kernel
theorem dX12_next_176 : decode MX12_next.2.1 176 = .ok (.iaload, 1) := by decide +kernel
theorem dX12_next_177 : decode MX12_next.2.1 177 = .ok (.invokestatic 253, 3) := by decide +kernel
theorem dX12_next_180 : decode MX12_next.2.1 180 = .ok (.ifCond .eq 63, 3) := by decide +kernel
theorem dX12_next_183 : decode MX12_next.2.1 183 = .ok (.aload_n 0, 1) := by decide +kernel
theorem dX12_next_184 : decode MX12_next.2.1 184 = .ok (.aload_n 0, 1) := by decide +kernel
theorem dX12_next_185 : decode MX12_next.2.1 185 = .ok (.getfield 236, 3) := by decide +kernel
theorem dX12_next_188 : decode MX12_next.2.1 188 = .ok (.aload_n 0, 1) := by decide +kernel
theorem dX12_next_189 : decode MX12_next.2.1 189 = .ok (.getfield 246, 3) := by decide +kernel
theorem dX12_next_192 : decode MX12_next.2.1 192 = .ok (.isub, 1) := by decide +kernel
theorem dX12_next_193 : decode MX12_next.2.1 193 = .ok (.bipush 10, 2) := by decide +kernel
theorem dX12_next_195 : decode MX12_next.2.1 195 = .ok (.if_icmp .ge 29, 3) := by decide +kernel
theorem dX12_next_198 : decode MX12_next.2.1 198 = .ok (.aload_n 0, 1) := by decide +kernel
theorem dX12_next_199 : decode MX12_next.2.1 199 = .ok (.getfield 249, 3) := by decide +kernel
theorem dX12_next_202 : decode MX12_next.2.1 202 = .ok (.ldc2_w 262, 3) := by decide +kernel
theorem dX12_next_205 : decode MX12_next.2.1 205 = .ok (.lmul, 1) := by decide +kernel
theorem dX12_next_206 : decode MX12_next.2.1 206 = .ok (.aload_n 0, 1) := by decide +kernel
theorem dX12_next_207 : decode MX12_next.2.1 207 = .ok (.getfield 35, 3) := by decide +kernel
theorem dX12_next_210 : decode MX12_next.2.1 210 = .ok (.aload_n 0, 1) := by decide +kernel
theorem dX12_next_211 : decode MX12_next.2.1 211 = .ok (.getfield 236, 3) := by decide +kernel
theorem dX12_next_214 : decode MX12_next.2.1 214 = .ok (.iaload, 1) := by decide +kernel
theorem dX12_next_215 : decode MX12_next.2.1 215 = .ok (.i2l, 1) := by decide +kernel
theorem dX12_next_216 : decode MX12_next.2.1 216 = .ok (.ladd, 1) := by decide +kernel
theorem dX12_next_217 : decode MX12_next.2.1 217 = .ok (.ldc2_w 264, 3) := by decide +kernel
theorem dX12_next_220 : decode MX12_next.2.1 220 = .ok (.lsub, 1) := by decide +kernel
theorem dX12_next_221 : decode MX12_next.2.1 221 = .ok (.goto 6, 3) := by decide +kernel
theorem dX12_next_224 : decode MX12_next.2.1 224 = .ok (.ldc2_w 266, 3) := by decide +kernel
theorem dX12_next_227 : decode MX12_next.2.1 227 = .ok (.putfield 249, 3) := by decide +kernel
theorem dX12_next_230 : decode MX12_next.2.1 230 = .ok (.aload_n 0, 1) := by decide +kernel
theorem dX12_next_231 : decode MX12_next.2.1 231 = .ok (.dup, 1) := by decide +kernel
theorem dX12_next_232 : decode MX12_next.2.1 232 = .ok (.getfield 236, 3) := by decide +kernel
theorem dX12_next_235 : decode MX12_next.2.1 235 = .ok (.iconst 1, 1) := by decide +kernel
theorem dX12_next_236 : decode MX12_next.2.1 236 = .ok (.iadd, 1) := by decide +kernel
theorem dX12_next_237 : decode MX12_next.2.1 237 = .ok (.putfield 236, 3) := by decide +kernel
theorem dX12_next_240 : decode MX12_next.2.1 240 = .ok (.goto (-91), 3) := by decide +kernel
theorem dX12_next_243 : decode MX12_next.2.1 243 = .ok (.aload_n 0, 1) := by decide +kernel
theorem dX12_next_244 : decode MX12_next.2.1 244 = .ok (.getfield 259, 3) := by decide +kernel
theorem dX12_next_247 : decode MX12_next.2.1 247 = .ok (.iconst 2, 1) := by decide +kernel
theorem dX12_next_248 : decode MX12_next.2.1 248 = .ok (.if_icmp .ne 87, 3) := by decide +kernel
theorem dX12_next_251 : decode MX12_next.2.1 251 = .ok (.aload_n 0, 1) := by decide +kernel
theorem dX12_next_252 : decode MX12_next.2.1 252 = .ok (.getfield 236, 3) := by decide +kernel
theorem dX12_next_255 : decode MX12_next.2.1 255 = .ok (.aload_n 0, 1) := by decide +kernel
theorem dX12_next_256 : decode MX12_next.2.1 256 = .ok (.getfield 227, 3) := by decide +kernel
theorem dX12_next_259 : decode MX12_next.2.1 259 = .ok (.if_icmp .ge 76, 3) := by decide +kernel
theorem dX12_next_262 : decode MX12_next.2.1 262 = .ok (.aload_n 0, 1) := by decide +kernel
theorem dX12_next_263 : decode MX12_next.2.1 263 = .ok (.getfield 35, 3) := by decide +kernel
theorem dX12_next_266 : decode MX12_next.2.1 266 = .ok (.aload_n 0, 1) := by decide +kernel
theorem dX12_next_267 : decode MX12_next.2.1 267 = .ok (.getfield 236, 3) := by decide +kernel
theorem dX12_next_270 : decode MX12_next.2.1 270 = .ok (.iaload, 1) := by decide +kernel
theorem dX12_next_271 : decode MX12_next.2.1 271 = .ok (.invokestatic 256, 3) := by decide +kernel
theorem dX12_next_274 : decode MX12_next.2.1 274 = .ok (.ifCond .eq 61, 3) := by decide +kernel
theorem dX12_next_277 : decode MX12_next.2.1 277 = .ok (.aload_n 0, 1) := by decide +kernel
theorem dX12_next_278 : decode MX12_next.2.1 278 = .ok (.aload_n 0, 1) := by decide +kernel
theorem dX12_next_279 : decode MX12_next.2.1 279 = .ok (.getfield 249, 3) := by decide +kernel
theorem dX12_next_282 : decode MX12_next.2.1 282 = .ok (.ldc2_w 268, 3) := by decide +kernel
theorem dX12_next_285 : decode MX12_next.2.1 285 = .ok (.lcmp, 1) := by decide +kernel
theorem dX12_next_286 : decode MX12_next.2.1 286 = .ok (.ifCond .le 10, 3) := by decide +kernel
theorem dX12_next_289 : decode MX12_next.2.1 289 = .ok (.aload_n 0, 1) := by decide +kernel
theorem dX12_next_290 : decode MX12_next.2.1 290 = .ok (.getfield 249, 3) := by decide +kernel
theorem dX12_next_293 : decode MX12_next.2.1 293 = .ok (.goto 26, 3) := by decide +kernel
theorem dX12_next_296 : decode MX12_next.2.1 296 = .ok (.aload_n 0, 1) := by decide +kernel
theorem dX12_next_297 : decode MX12_next.2.1 297 = .ok (.getfield 249, 3) := by decide +kernel
theorem dX12_next_300 : decode MX12_next.2.1 300 = .ok (.ldc2_w 270, 3) := by decide +kernel
theorem dX12_next_303 : decode MX12_next.2.1 303 = .ok (.lmul, 1) := by decide +kernel
theorem dX12_next_304 : decode MX12_next.2.1 304 = .ok (.aload_n 0, 1) := by decide +kernel
theorem dX12_next_305 : decode MX12_next.2.1 305 = .ok (.getfield 35, 3) := by decide +kernel
theorem dX12_next_308 : decode MX12_next.2.1 308 = .ok (.aload_n 0, 1) := by decide +kernel
theorem dX12_next_309 : decode MX12_next.2.1 309 = .ok (.getfield 236, 3) := by decide +kernel
theorem dX12_next_312 : decode MX12_next.2.1 312 = .ok (.iaload, 1) := by decide +kernel
theorem dX12_next_313 : decode MX12_next.2.1 313 = .ok (.i2l, 1) := by decide +kernel
theorem dX12_next_314 : decode MX12_next.2.1 314 = .ok (.ladd, 1) := by decide +kernel
theorem dX12_next_315 : decode MX12_next.2.1 315 = .ok (.ldc2_w 272, 3) := by decide +kernel
theorem dX12_next_318 : decode MX12_next.2.1 318 = .ok (.lsub, 1) := by decide +kernel
theorem dX12_next_319 : decode MX12_next.2.1 319 = .ok (.putfield 249, 3) := by decide +kernel
theorem dX12_next_322 : decode MX12_next.2.1 322 = .ok (.aload_n 0, 1) := by decide +kernel
theorem dX12_next_323 : decode MX12_next.2.1 323 = .ok (.dup, 1) := by decide +kernel
theorem dX12_next_324 : decode MX12_next.2.1 324 = .ok (.getfield 236, 3) := by decide +kernel
theorem dX12_next_327 : decode MX12_next.2.1 327 = .ok (.iconst 1, 1) := by decide +kernel
theorem dX12_next_328 : decode MX12_next.2.1 328 = .ok (.iadd, 1) := by decide +kernel
theorem dX12_next_329 : decode MX12_next.2.1 329 = .ok (.putfield 236, 3) := by decide +kernel
theorem dX12_next_332 : decode MX12_next.2.1 332 = .ok (.goto (-89), 3) := by decide +kernel
theorem dX12_next_335 : decode MX12_next.2.1 335 = .ok (.return_, 1) := by decide +kernel
theorem dX12_isWord_0 : decode MX12_isWord.2.1 0 = .ok (.aload_n 0, 1) := by decide +kernel
theorem dX12_isWord_1 : decode MX12_isWord.2.1 1 = .ok (.getfield 259, 3) := by decide +kernel
theorem dX12_isWord_4 : decode MX12_isWord.2.1 4 = .ok (.iconst 1, 1) := by decide +kernel
theorem dX12_isWord_5 : decode MX12_isWord.2.1 5 = .ok (.if_icmp .ne 16, 3) := by decide +kernel
theorem dX12_isWord_8 : decode MX12_isWord.2.1 8 = .ok (.aload_n 0, 1) := by decide +kernel
theorem dX12_isWord_9 : decode MX12_isWord.2.1 9 = .ok (.getfield 249, 3) := by decide +kernel
theorem dX12_isWord_12 : decode MX12_isWord.2.1 12 = .ok (.lload_n 1, 1) := by decide +kernel
theorem dX12_isWord_13 : decode MX12_isWord.2.1 13 = .ok (.lcmp, 1) := by decide +kernel
theorem dX12_isWord_14 : decode MX12_isWord.2.1 14 = .ok (.ifCond .ne 7, 3) := by decide +kernel
theorem dX12_isWord_17 : decode MX12_isWord.2.1 17 = .ok (.iconst 1, 1) := by decide +kernel
theorem dX12_isWord_18 : decode MX12_isWord.2.1 18 = .ok (.goto 4, 3) := by decide +kernel
theorem dX12_isWord_21 : decode MX12_isWord.2.1 21 = .ok (.iconst 0, 1) := by decide +kernel
theorem dX12_isWord_22 : decode MX12_isWord.2.1 22 = .ok (.ireturn, 1) := by decide +kernel
theorem dX12_isSign_0 : decode MX12_isSign.2.1 0 = .ok (.aload_n 0, 1) := by decide +kernel
theorem dX12_isSign_1 : decode MX12_isSign.2.1 1 = .ok (.getfield 259, 3) := by decide +kernel
theorem dX12_isSign_4 : decode MX12_isSign.2.1 4 = .ok (.iconst 3, 1) := by decide +kernel
theorem dX12_isSign_5 : decode MX12_isSign.2.1 5 = .ok (.if_icmp .ne 17, 3) := by decide +kernel
theorem dX12_isSign_8 : decode MX12_isSign.2.1 8 = .ok (.aload_n 0, 1) := by decide +kernel
theorem dX12_isSign_9 : decode MX12_isSign.2.1 9 = .ok (.getfield 249, 3) := by decide +kernel
theorem dX12_isSign_12 : decode MX12_isSign.2.1 12 = .ok (.iload_n 1, 1) := by decide +kernel
theorem dX12_isSign_13 : decode MX12_isSign.2.1 13 = .ok (.i2l, 1) := by decide +kernel
theorem dX12_isSign_14 : decode MX12_isSign.2.1 14 = .ok (.lcmp, 1) := by decide +kernel
theorem dX12_isSign_15 : decode MX12_isSign.2.1 15 = .ok (.ifCond .ne 7, 3) := by decide +kernel
theorem dX12_isSign_18 : decode MX12_isSign.2.1 18 = .ok (.iconst 1, 1) := by decide +kernel
theorem dX12_isSign_19 : decode MX12_isSign.2.1 19 = .ok (.goto 4, 3) := by decide +kernel
theorem dX12_isSign_22 : decode MX12_isSign.2.1 22 = .ok (.iconst 0, 1) := by decide +kernel
theorem dX12_isSign_23 : decode MX12_isSign.2.1 23 = .ok (.ireturn, 1) := by decide +kernel
theorem dX12_must_0 : decode MX12_must.2.1 0 = .ok (.aload_n 0, 1) := by decide +kernel
theorem dX12_must_1 : decode MX12_must.2.1 1 = .ok (.getfield 239, 3) := by decide +kernel
theorem dX12_must_4 : decode MX12_must.2.1 4 = .ok (.ifCond .ne 20, 3) := by decide +kernel
theorem dX12_must_7 : decode MX12_must.2.1 7 = .ok (.iload_n 1, 1) := by decide +kernel
theorem dX12_must_8 : decode MX12_must.2.1 8 = .ok (.ifCond .ne 16, 3) := by decide +kernel
theorem dX12_must_11 : decode MX12_must.2.1 11 = .ok (.aload_n 0, 1) := by decide +kernel
theorem dX12_must_12 : decode MX12_must.2.1 12 = .ok (.iconst 1, 1) := by decide +kernel
theorem dX12_must_13 : decode MX12_must.2.1 13 = .ok (.putfield 239, 3) := by decide +kernel
theorem dX12_must_16 : decode MX12_must.2.1 16 = .ok (.aload_n 0, 1) := by decide +kernel
theorem dX12_must_17 : decode MX12_must.2.1 17 = .ok (.aload_n 0, 1) := by decide +kernel
theorem dX12_must_18 : decode MX12_must.2.1 18 = .ok (.getfield 246, 3) := by decide +kernel
theorem dX12_must_21 : decode MX12_must.2.1 21 = .ok (.putfield 38, 3) := by decide +kernel
theorem dX12_must_24 : decode MX12_must.2.1 24 = .ok (.aload_n 0, 1) := by decide +kernel
theorem dX12_must_25 : decode MX12_must.2.1 25 = .ok (.getfield 239, 3) := by decide +kernel
theorem dX12_must_28 : decode MX12_must.2.1 28 = .ok (.ifCond .ne 7, 3) := by decide +kernel
theorem dX12_must_31 : decode MX12_must.2.1 31 = .ok (.aload_n 0, 1) := by decide +kernel
theorem dX12_must_32 : decode MX12_must.2.1 32 = .ok (.invokevirtual 243, 3) := by decide +kernel
theorem dX12_must_35 : decode MX12_must.2.1 35 = .ok (.return_, 1) := by decide +kernel
theorem dX12_number_0 : decode MX12_number.2.1 0 = .ok (.aload_n 0, 1) := by decide +kernel
theorem dX12_number_1 : decode MX12_number.2.1 1 = .ok (.getfield 249, 3) := by decide +kernel
theorem dX12_number_4 : decode MX12_number.2.1 4 = .ok (.l2i, 1) := by decide +kernel
theorem dX12_number_5 : decode MX12_number.2.1 5 = .ok (.istore 5, 2) := by decide +kernel
theorem dX12_number_7 : decode MX12_number.2.1 7 = .ok (.aload_n 0, 1) := by decide +kernel
theorem dX12_number_8 : decode MX12_number.2.1 8 = .ok (.aload_n 0, 1) := by decide +kernel
theorem dX12_number_9 : decode MX12_number.2.1 9 = .ok (.getfield 259, 3) := by decide +kernel
theorem dX12_number_12 : decode MX12_number.2.1 12 = .ok (.iconst 2, 1) := by decide +kernel
theorem dX12_number_13 : decode MX12_number.2.1 13 = .ok (.if_icmp .ne 19, 3) := by decide +kernel
theorem dX12_number_16 : decode MX12_number.2.1 16 = .ok (.aload_n 0, 1) := by decide +kernel
theorem dX12_number_17 : decode MX12_number.2.1 17 = .ok (.getfield 249, 3) := by decide +kernel
theorem dX12_number_20 : decode MX12_number.2.1 20 = .ok (.lload_n 1, 1) := by decide +kernel
theorem dX12_number_21 : decode MX12_number.2.1 21 = .ok (.lload_n 3, 1) := by decide +kernel
theorem dX12_number_22 : decode MX12_number.2.1 22 = .ok (.invokestatic 183, 3) := by decide +kernel
theorem dX12_number_25 : decode MX12_number.2.1 25 = .ok (.ifCond .eq 7, 3) := by decide +kernel
theorem dX12_number_28 : decode MX12_number.2.1 28 = .ok (.iconst 1, 1) := by decide +kernel
theorem dX12_number_29 : decode MX12_number.2.1 29 = .ok (.goto 4, 3) := by decide +kernel
theorem dX12_number_32 : decode MX12_number.2.1 32 = .ok (.iconst 0, 1) := by decide +kernel
theorem dX12_number_33 : decode MX12_number.2.1 33 = .ok (.invokevirtual 274, 3) := by decide +kernel
theorem dX12_number_36 : decode MX12_number.2.1 36 = .ok (.iload 5, 2) := by decide +kernel
theorem dX12_number_38 : decode MX12_number.2.1 38 = .ok (.ireturn, 1) := by decide +kernel
theorem dX12_fault_0 : decode MX12_fault.2.1 0 = .ok (.aload_n 0, 1) := by decide +kernel
theorem dX12_fault_1 : decode MX12_fault.2.1 1 = .ok (.iconst 0, 1) := by decide +kernel
theorem dX12_fault_2 : decode MX12_fault.2.1 2 = .ok (.putfield 163, 3) := by decide +kernel
theorem dX12_fault_5 : decode MX12_fault.2.1 5 = .ok (.aload_n 0, 1) := by decide +kernel
theorem dX12_fault_6 : decode MX12_fault.2.1 6 = .ok (.getfield 38, 3) := by decide +kernel
theorem dX12_fault_9 : decode MX12_fault.2.1 9 = .ok (.ireturn, 1) := by decide +kernel
theorem dX12_emit_0 : decode MX12_emit.2.1 0 = .ok (.aload_n 0, 1) := by decide +kernel
theorem dX12_emit_1 : decode MX12_emit.2.1 1 = .ok (.getfield 45, 3) := by decide +kernel
theorem dX12_emit_4 : decode MX12_emit.2.1 4 = .ok (.aload_n 0, 1) := by decide +kernel
theorem dX12_emit_5 : decode MX12_emit.2.1 5 = .ok (.getfield 278, 3) := by decide +kernel
theorem dX12_emit_8 : decode MX12_emit.2.1 8 = .ok (.iload_n 1, 1) := by decide +kernel
theorem dX12_emit_9 : decode MX12_emit.2.1 9 = .ok (.iastore, 1) := by decide +kernel
theorem dX12_emit_10 : decode MX12_emit.2.1 10 = .ok (.aload_n 0, 1) := by decide +kernel
theorem dX12_emit_11 : decode MX12_emit.2.1 11 = .ok (.getfield 48, 3) := by decide +kernel
theorem dX12_emit_14 : decode MX12_emit.2.1 14 = .ok (.aload_n 0, 1) := by decide +kernel
theorem dX12_emit_15 : decode MX12_emit.2.1 15 = .ok (.getfield 278, 3) := by decide +kernel
theorem dX12_emit_18 : decode MX12_emit.2.1 18 = .ok (.iload_n 2, 1) := by decide +kernel
theorem dX12_emit_19 : decode MX12_emit.2.1 19 = .ok (.iastore, 1) := by decide +kernel
theorem dX12_emit_20 : decode MX12_emit.2.1 20 = .ok (.aload_n 0, 1) := by decide +kernel
theorem dX12_emit_21 : decode MX12_emit.2.1 21 = .ok (.dup, 1) := by decide +kernel
theorem dX12_emit_22 : decode MX12_emit.2.1 22 = .ok (.getfield 278, 3) := by decide +kernel
theorem dX12_emit_25 : decode MX12_emit.2.1 25 = .ok (.iconst 1, 1) := by decide +kernel
theorem dX12_emit_26 : decode MX12_emit.2.1 26 = .ok (.iadd, 1) := by decide +kernel
theorem dX12_emit_27 : decode MX12_emit.2.1 27 = .ok (.putfield 278, 3) := by decide +kernel
theorem dX12_emit_30 : decode MX12_emit.2.1 30 = .ok (.return_, 1) := by decide +kernel
theorem dX12_push_0 : decode MX12_push.2.1 0 = .ok (.aload_n 0, 1) := by decide +kernel
theorem dX12_push_1 : decode MX12_push.2.1 1 = .ok (.getfield 51, 3) := by decide +kernel
theorem dX12_push_4 : decode MX12_push.2.1 4 = .ok (.aload_n 0, 1) := by decide +kernel
theorem dX12_push_5 : decode MX12_push.2.1 5 = .ok (.getfield 281, 3) := by decide +kernel
theorem dX12_push_8 : decode MX12_push.2.1 8 = .ok (.iload_n 1, 1) := by decide +kernel
theorem dX12_push_9 : decode MX12_push.2.1 9 = .ok (.iastore, 1) := by decide +kernel
theorem dX12_push_10 : decode MX12_push.2.1 10 = .ok (.aload_n 0, 1) := by decide +kernel
theorem dX12_push_11 : decode MX12_push.2.1 11 = .ok (.getfield 54, 3) := by decide +kernel
theorem dX12_push_14 : decode MX12_push.2.1 14 = .ok (.aload_n 0, 1) := by decide +kernel
theorem dX12_push_15 : decode MX12_push.2.1 15 = .ok (.getfield 281, 3) := by decide +kernel
theorem dX12_push_18 : decode MX12_push.2.1 18 = .ok (.iload_n 2, 1) := by decide +kernel
theorem dX12_push_19 : decode MX12_push.2.1 19 = .ok (.iastore, 1) := by decide +kernel
theorem dX12_push_20 : decode MX12_push.2.1 20 = .ok (.aload_n 0, 1) := by decide +kernel
theorem dX12_push_21 : decode MX12_push.2.1 21 = .ok (.dup, 1) := by decide +kernel
theorem dX12_push_22 : decode MX12_push.2.1 22 = .ok (.getfield 281, 3) := by decide +kernel
theorem dX12_push_25 : decode MX12_push.2.1 25 = .ok (.iconst 1, 1) := by decide +kernel
theorem dX12_push_26 : decode MX12_push.2.1 26 = .ok (.iadd, 1) := by decide +kernel
theorem dX12_push_27 : decode MX12_push.2.1 27 = .ok (.putfield 281, 3) := by decide +kernel
theorem dX12_push_30 : decode MX12_push.2.1 30 = .ok (.return_, 1) := by decide +kernel
theorem dX12_binds_0 : decode MX12_binds.2.1 0 = .ok (.iload_n 0, 1) := by decide +kernel
theorem dX12_binds_1 : decode MX12_binds.2.1 1 = .ok (.bipush 31, 2) := by decide +kernel
theorem dX12_binds_3 : decode MX12_binds.2.1 3 = .ok (.if_icmp .lt 7, 3) := by decide +kernel
theorem dX12_binds_6 : decode MX12_binds.2.1 6 = .ok (.iconst 0, 1) := by decide +kernel
theorem dX12_binds_7 : decode MX12_binds.2.1 7 = .ok (.goto 55, 3) := by decide +kernel
theorem dX12_binds_10 : decode MX12_binds.2.1 10 = .ok (.iload_n 0, 1) := by decide +kernel
theorem dX12_binds_11 : decode MX12_binds.2.1 11 = .ok (.bipush 30, 2) := by decide +kernel
theorem dX12_binds_13 : decode MX12_binds.2.1 13 = .ok (.if_icmp .ne 7, 3) := by decide +kernel
theorem dX12_binds_16 : decode MX12_binds.2.1 16 = .ok (.iconst 1, 1) := by decide +kernel
theorem dX12_binds_17 : decode MX12_binds.2.1 17 = .ok (.goto 45, 3) := by decide +kernel
theorem dX12_binds_20 : decode MX12_binds.2.1 20 = .ok (.iload_n 0, 1) := by decide +kernel
theorem dX12_binds_21 : decode MX12_binds.2.1 21 = .ok (.bipush 29, 2) := by decide +kernel
theorem dX12_binds_23 : decode MX12_binds.2.1 23 = .ok (.if_icmp .ne 7, 3) := by decide +kernel
theorem dX12_binds_26 : decode MX12_binds.2.1 26 = .ok (.iconst 2, 1) := by decide +kernel
theorem dX12_binds_27 : decode MX12_binds.2.1 27 = .ok (.goto 35, 3) := by decide +kernel
theorem dX12_binds_30 : decode MX12_binds.2.1 30 = .ok (.iload_n 0, 1) := by decide +kernel
theorem dX12_binds_31 : decode MX12_binds.2.1 31 = .ok (.bipush 28, 2) := by decide +kernel
theorem dX12_binds_33 : decode MX12_binds.2.1 33 = .ok (.if_icmp .ne 7, 3) := by decide +kernel
theorem dX12_binds_36 : decode MX12_binds.2.1 36 = .ok (.iconst 3, 1) := by decide +kernel
theorem dX12_binds_37 : decode MX12_binds.2.1 37 = .ok (.goto 25, 3) := by decide +kernel
theorem dX12_binds_40 : decode MX12_binds.2.1 40 = .ok (.iload_n 0, 1) := by decide +kernel
theorem dX12_binds_41 : decode MX12_binds.2.1 41 = .ok (.bipush 25, 2) := by decide +kernel
theorem dX12_binds_43 : decode MX12_binds.2.1 43 = .ok (.if_icmp .lt 7, 3) := by decide +kernel
theorem dX12_binds_46 : decode MX12_binds.2.1 46 = .ok (.iconst 4, 1) := by decide +kernel
theorem dX12_binds_47 : decode MX12_binds.2.1 47 = .ok (.goto 15, 3) := by decide +kernel
theorem dX12_binds_50 : decode MX12_binds.2.1 50 = .ok (.iload_n 0, 1) := by decide +kernel
theorem dX12_binds_51 : decode MX12_binds.2.1 51 = .ok (.bipush 22, 2) := by decide +kernel
theorem dX12_binds_53 : decode MX12_binds.2.1 53 = .ok (.if_icmp .lt 8, 3) := by decide +kernel
theorem dX12_binds_56 : decode MX12_binds.2.1 56 = .ok (.bipush 6, 2) := by decide +kernel
theorem dX12_binds_58 : decode MX12_binds.2.1 58 = .ok (.goto 4, 3) := by decide +kernel
theorem dX12_binds_61 : decode MX12_binds.2.1 61 = .ok (.iconst 5, 1) := by decide +kernel
theorem dX12_binds_62 : decode MX12_binds.2.1 62 = .ok (.ireturn, 1) := by decide +kernel
theorem dX12_settle_0 : decode MX12_settle.2.1 0 = .ok (.aload_n 0, 1) := by decide +kernel
theorem dX12_settle_1 : decode MX12_settle.2.1 1 = .ok (.getfield 281, 3) := by decide +kernel
theorem dX12_settle_4 : decode MX12_settle.2.1 4 = .ok (.ifCond .le 97, 3) := by decide +kernel
theorem dX12_settle_7 : decode MX12_settle.2.1 7 = .ok (.aload_n 0, 1) := by decide +kernel
theorem dX12_settle_8 : decode MX12_settle.2.1 8 = .ok (.getfield 51, 3) := by decide +kernel
theorem dX12_settle_11 : decode MX12_settle.2.1 11 = .ok (.aload_n 0, 1) := by decide +kernel
theorem dX12_settle_12 : decode MX12_settle.2.1 12 = .ok (.getfield 281, 3) := by decide +kernel
theorem dX12_settle_15 : decode MX12_settle.2.1 15 = .ok (.iconst 1, 1) := by decide +kernel
theorem dX12_settle_16 : decode MX12_settle.2.1 16 = .ok (.isub, 1) := by decide +kernel
theorem dX12_settle_17 : decode MX12_settle.2.1 17 = .ok (.iaload, 1) := by decide +kernel
theorem dX12_settle_18 : decode MX12_settle.2.1 18 = .ok (.invokestatic 284, 3) := by decide +kernel
theorem dX12_settle_21 : decode MX12_settle.2.1 21 = .ok (.iload_n 1, 1) := by decide +kernel
theorem dX12_settle_22 : decode MX12_settle.2.1 22 = .ok (.if_icmp .lt 79, 3) := by decide +kernel
theorem dX12_settle_25 : decode MX12_settle.2.1 25 = .ok (.aload_n 0, 1) := by decide +kernel
theorem dX12_settle_26 : decode MX12_settle.2.1 26 = .ok (.dup, 1) := by decide +kernel
theorem dX12_settle_27 : decode MX12_settle.2.1 27 = .ok (.getfield 281, 3) := by decide +kernel
theorem dX12_settle_30 : decode MX12_settle.2.1 30 = .ok (.iconst 1, 1) := by decide +kernel
theorem dX12_settle_31 : decode MX12_settle.2.1 31 = .ok (.isub, 1) := by decide +kernel
theorem dX12_settle_32 : decode MX12_settle.2.1 32 = .ok (.putfield 281, 3) := by decide +kernel
theorem dX12_settle_35 : decode MX12_settle.2.1 35 = .ok (.aload_n 0, 1) := by decide +kernel
theorem dX12_settle_36 : decode MX12_settle.2.1 36 = .ok (.getfield 51, 3) := by decide +kernel
theorem dX12_settle_39 : decode MX12_settle.2.1 39 = .ok (.aload_n 0, 1) := by decide +kernel
theorem dX12_settle_40 : decode MX12_settle.2.1 40 = .ok (.getfield 281, 3) := by decide +kernel
theorem dX12_settle_43 : decode MX12_settle.2.1 43 = .ok (.iaload, 1) := by decide +kernel
theorem dX12_settle_44 : decode MX12_settle.2.1 44 = .ok (.bipush 29, 2) := by decide +kernel
theorem dX12_settle_46 : decode MX12_settle.2.1 46 = .ok (.if_icmp .eq 17, 3) := by decide +kernel
theorem dX12_settle_49 : decode MX12_settle.2.1 49 = .ok (.aload_n 0, 1) := by decide +kernel
theorem dX12_settle_50 : decode MX12_settle.2.1 50 = .ok (.getfield 51, 3) := by decide +kernel
theorem dX12_settle_53 : decode MX12_settle.2.1 53 = .ok (.aload_n 0, 1) := by decide +kernel
theorem dX12_settle_54 : decode MX12_settle.2.1 54 = .ok (.getfield 281, 3) := by decide +kernel
theorem dX12_settle_57 : decode MX12_settle.2.1 57 = .ok (.iaload, 1) := by decide +kernel
theorem dX12_settle_58 : decode MX12_settle.2.1 58 = .ok (.bipush 30, 2) := by decide +kernel
theorem dX12_settle_60 : decode MX12_settle.2.1 60 = .ok (.if_icmp .ne 24, 3) := by decide +kernel
theorem dX12_settle_63 : decode MX12_settle.2.1 63 = .ok (.aload_n 0, 1) := by decide +kernel
theorem dX12_settle_64 : decode MX12_settle.2.1 64 = .ok (.getfield 48, 3) := by decide +kernel
theorem dX12_settle_67 : decode MX12_settle.2.1 67 = .ok (.aload_n 0, 1) := by decide +kernel
theorem dX12_settle_68 : decode MX12_settle.2.1 68 = .ok (.getfield 54, 3) := by decide +kernel
theorem dX12_settle_71 : decode MX12_settle.2.1 71 = .ok (.aload_n 0, 1) := by decide +kernel
theorem dX12_settle_72 : decode MX12_settle.2.1 72 = .ok (.getfield 281, 3) := by decide +kernel
theorem dX12_settle_75 : decode MX12_settle.2.1 75 = .ok (.iaload, 1) := by decide +kernel
theorem dX12_settle_76 : decode MX12_settle.2.1 76 = .ok (.aload_n 0, 1) := by decide +kernel
theorem dX12_settle_77 : decode MX12_settle.2.1 77 = .ok (.getfield 278, 3) := by decide +kernel
theorem dX12_settle_80 : decode MX12_settle.2.1 80 = .ok (.iastore, 1) := by decide +kernel
theorem dX12_settle_81 : decode MX12_settle.2.1 81 = .ok (.goto (-81), 3) := by decide +kernel
theorem dX12_settle_84 : decode MX12_settle.2.1 84 = .ok (.aload_n 0, 1) := by decide +kernel
theorem dX12_settle_85 : decode MX12_settle.2.1 85 = .ok (.aload_n 0, 1) := by decide +kernel
theorem dX12_settle_86 : decode MX12_settle.2.1 86 = .ok (.getfield 51, 3) := by decide +kernel
theorem dX12_settle_89 : decode MX12_settle.2.1 89 = .ok (.aload_n 0, 1) := by decide +kernel
theorem dX12_settle_90 : decode MX12_settle.2.1 90 = .ok (.getfield 281, 3) := by decide +kernel
theorem dX12_settle_93 : decode MX12_settle.2.1 93 = .ok (.iaload, 1) := by decide +kernel
theorem dX12_settle_94 : decode MX12_settle.2.1 94 = .ok (.iconst 0, 1) := by decide +kernel
theorem dX12_settle_95 : decode MX12_settle.2.1 95 = .ok (.invokevirtual 287, 3) := by decide +kernel
theorem dX12_settle_98 : decode MX12_settle.2.1 98 = .ok (.goto (-98), 3) := by decide +kernel
theorem dX12_settle_101 : decode MX12_settle.2.1 101 = .ok (.return_, 1) := by decide +kernel
theorem dX12_inner_0 : decode MX12_inner.2.1 0 = .ok (.iconst (-1), 1) := by decide +kernel
theorem dX12_inner_1 : decode MX12_inner.2.1 1 = .ok (.istore_n 1, 1) := by decide +kernel
theorem dX12_inner_2 : decode MX12_inner.2.1 2 = .ok (.iconst 0, 1) := by decide +kernel
theorem dX12_inner_3 : decode MX12_inner.2.1 3 = .ok (.istore_n 2, 1) := by decide +kernel
theorem dX12_inner_4 : decode MX12_inner.2.1 4 = .ok (.iload_n 2, 1) := by decide +kernel
theorem dX12_inner_5 : decode MX12_inner.2.1 5 = .ok (.aload_n 0, 1) := by decide +kernel
theorem dX12_inner_6 : decode MX12_inner.2.1 6 = .ok (.getfield 281, 3) := by decide +kernel
theorem dX12_inner_9 : decode MX12_inner.2.1 9 = .ok (.if_icmp .ge 31, 3) := by decide +kernel
theorem dX12_inner_12 : decode MX12_inner.2.1 12 = .ok (.aload_n 0, 1) := by decide +kernel
theorem dX12_inner_13 : decode MX12_inner.2.1 13 = .ok (.getfield 51, 3) := by decide +kernel
theorem dX12_inner_16 : decode MX12_inner.2.1 16 = .ok (.iload_n 2, 1) := by decide +kernel
theorem dX12_inner_17 : decode MX12_inner.2.1 17 = .ok (.iaload, 1) := by decide +kernel
theorem dX12_inner_18 : decode MX12_inner.2.1 18 = .ok (.bipush 31, 2) := by decide +kernel
theorem dX12_inner_20 : decode MX12_inner.2.1 20 = .ok (.if_icmp .lt 12, 3) := by decide +kernel
theorem dX12_inner_23 : decode MX12_inner.2.1 23 = .ok (.aload_n 0, 1) := by decide +kernel
theorem dX12_inner_24 : decode MX12_inner.2.1 24 = .ok (.getfield 51, 3) := by decide +kernel
theorem dX12_inner_27 : decode MX12_inner.2.1 27 = .ok (.iload_n 2, 1) := by decide +kernel
theorem dX12_inner_28 : decode MX12_inner.2.1 28 = .ok (.iaload, 1) := by decide +kernel
theorem dX12_inner_29 : decode MX12_inner.2.1 29 = .ok (.goto 4, 3) := by decide +kernel
theorem dX12_inner_32 : decode MX12_inner.2.1 32 = .ok (.iload_n 1, 1) := by decide +kernel
theorem dX12_inner_33 : decode MX12_inner.2.1 33 = .ok (.istore_n 1, 1) := by decide +kernel
theorem dX12_inner_34 : decode MX12_inner.2.1 34 = .ok (.iinc 2 1, 3) := by decide +kernel
theorem dX12_inner_37 : decode MX12_inner.2.1 37 = .ok (.goto (-33), 3) := by decide +kernel
theorem dX12_inner_40 : decode MX12_inner.2.1 40 = .ok (.iload_n 1, 1) := by decide +kernel
theorem dX12_inner_41 : decode MX12_inner.2.1 41 = .ok (.ireturn, 1) := by decide +kernel
theorem dX12_isCompared_0 : decode MX12_isCompared.2.1 0 = .ok (.aload_n 0, 1) := by decide +kernel
theorem dX12_isCompared_1 : decode MX12_isCompared.2.1 1 = .ok (.getfield 281, 3) := by decide +kernel
theorem dX12_isCompared_4 : decode MX12_isCompared.2.1 4 = .ok (.iconst 1, 1) := by decide +kernel
theorem dX12_isCompared_5 : decode MX12_isCompared.2.1 5 = .ok (.isub, 1) := by decide +kernel
theorem dX12_isCompared_6 : decode MX12_isCompared.2.1 6 = .ok (.istore_n 1, 1) := by decide +kernel
theorem dX12_isCompared_7 : decode MX12_isCompared.2.1 7 = .ok (.iload_n 1, 1) := by decide +kernel
theorem dX12_isCompared_8 : decode MX12_isCompared.2.1 8 = .ok (.ifCond .lt 28, 3) := by decide +kernel
theorem dX12_isCompared_11 : decode MX12_isCompared.2.1 11 = .ok (.aload_n 0, 1) := by decide +kernel
theorem dX12_isCompared_12 : decode MX12_isCompared.2.1 12 = .ok (.getfield 51, 3) := by decide +kernel
theorem dX12_isCompared_15 : decode MX12_isCompared.2.1 15 = .ok (.iload_n 1, 1) := by decide +kernel
theorem dX12_isCompared_16 : decode MX12_isCompared.2.1 16 = .ok (.iaload, 1) := by decide +kernel
theorem dX12_isCompared_17 : decode MX12_isCompared.2.1 17 = .ok (.i2l, 1) := by decide +kernel
theorem dX12_isCompared_18 : decode MX12_isCompared.2.1 18 = .ok (.ldc2_w 291, 3) := by decide +kernel
theorem dX12_isCompared_21 : decode MX12_isCompared.2.1 21 = .ok (.ldc2_w 293, 3) := by decide +kernel
theorem dX12_isCompared_24 : decode MX12_isCompared.2.1 24 = .ok (.invokestatic 183, 3) := by decide +kernel
theorem dX12_isCompared_27 : decode MX12_isCompared.2.1 27 = .ok (.ifCond .eq 9, 3) := by decide +kernel
theorem dX12_isCompared_30 : decode MX12_isCompared.2.1 30 = .ok (.iinc 1 (-1), 3) := by decide +kernel
theorem dX12_isCompared_33 : decode MX12_isCompared.2.1 33 = .ok (.goto (-26), 3) := by decide +kernel
theorem dX12_isCompared_36 : decode MX12_isCompared.2.1 36 = .ok (.iload_n 1, 1) := by decide +kernel
theorem dX12_isCompared_37 : decode MX12_isCompared.2.1 37 = .ok (.ifCond .lt 26, 3) := by decide +kernel
theorem dX12_isCompared_40 : decode MX12_isCompared.2.1 40 = .ok (.aload_n 0, 1) := by decide +kernel
theorem dX12_isCompared_41 : decode MX12_isCompared.2.1 41 = .ok (.getfield 51, 3) := by decide +kernel
theorem dX12_isCompared_44 : decode MX12_isCompared.2.1 44 = .ok (.iload_n 1, 1) := by decide +kernel
theorem dX12_isCompared_45 : decode MX12_isCompared.2.1 45 = .ok (.iaload, 1) := by decide +kernel
theorem dX12_isCompared_46 : decode MX12_isCompared.2.1 46 = .ok (.i2l, 1) := by decide +kernel
theorem dX12_isCompared_47 : decode MX12_isCompared.2.1 47 = .ok (.ldc2_w 295, 3) := by decide +kernel
theorem dX12_isCompared_50 : decode MX12_isCompared.2.1 50 = .ok (.ldc2_w 297, 3) := by decide +kernel
theorem dX12_isCompared_53 : decode MX12_isCompared.2.1 53 = .ok (.invokestatic 183, 3) := by decide +kernel
theorem dX12_isCompared_56 : decode MX12_isCompared.2.1 56 = .ok (.ifCond .eq 7, 3) := by decide +kernel
theorem dX12_isCompared_59 : decode MX12_isCompared.2.1 59 = .ok (.iconst 1, 1) := by decide +kernel
theorem dX12_isCompared_60 : decode MX12_isCompared.2.1 60 = .ok (.goto 4, 3) := by decide +kernel
theorem dX12_isCompared_63 : decode MX12_isCompared.2.1 63 = .ok (.iconst 0, 1) := by decide +kernel
theorem dX12_isCompared_64 : decode MX12_isCompared.2.1 64 = .ok (.ireturn, 1) := by decide +kernel
theorem dX12_partAt_0 : decode MX12_partAt.2.1 0 = .ok (.iconst (-1), 1) := by decide +kernel
theorem dX12_partAt_1 : decode MX12_partAt.2.1 1 = .ok (.istore_n 1, 1) := by decide +kernel
theorem dX12_partAt_2 : decode MX12_partAt.2.1 2 = .ok (.iconst 0, 1) := by decide +kernel
theorem dX12_partAt_3 : decode MX12_partAt.2.1 3 = .ok (.istore_n 2, 1) := by decide +kernel
theorem dX12_partAt_4 : decode MX12_partAt.2.1 4 = .ok (.iload_n 2, 1) := by decide +kernel
theorem dX12_partAt_5 : decode MX12_partAt.2.1 5 = .ok (.bipush 10, 2) := by decide +kernel
theorem dX12_partAt_7 : decode MX12_partAt.2.1 7 = .ok (.if_icmp .ge 30, 3) := by decide +kernel
theorem dX12_partAt_10 : decode MX12_partAt.2.1 10 = .ok (.aload_n 0, 1) := by decide +kernel
theorem dX12_partAt_11 : decode MX12_partAt.2.1 11 = .ok (.aload_n 0, 1) := by decide +kernel
theorem dX12_partAt_12 : decode MX12_partAt.2.1 12 = .ok (.getfield 77, 3) := by decide +kernel
theorem dX12_partAt_15 : decode MX12_partAt.2.1 15 = .ok (.iload_n 2, 1) := by decide +kernel
theorem dX12_partAt_16 : decode MX12_partAt.2.1 16 = .ok (.laload, 1) := by decide +kernel
theorem dX12_partAt_17 : decode MX12_partAt.2.1 17 = .ok (.invokevirtual 299, 3) := by decide +kernel
theorem dX12_partAt_20 : decode MX12_partAt.2.1 20 = .ok (.ifCond .eq 9, 3) := by decide +kernel
theorem dX12_partAt_23 : decode MX12_partAt.2.1 23 = .ok (.iload_n 2, 1) := by decide +kernel
theorem dX12_partAt_24 : decode MX12_partAt.2.1 24 = .ok (.iconst 1, 1) := by decide +kernel
theorem dX12_partAt_25 : decode MX12_partAt.2.1 25 = .ok (.iadd, 1) := by decide +kernel
theorem dX12_partAt_26 : decode MX12_partAt.2.1 26 = .ok (.goto 4, 3) := by decide +kernel
theorem dX12_partAt_29 : decode MX12_partAt.2.1 29 = .ok (.iload_n 1, 1) := by decide +kernel
theorem dX12_partAt_30 : decode MX12_partAt.2.1 30 = .ok (.istore_n 1, 1) := by decide +kernel
theorem dX12_partAt_31 : decode MX12_partAt.2.1 31 = .ok (.iinc 2 1, 3) := by decide +kernel
theorem dX12_partAt_34 : decode MX12_partAt.2.1 34 = .ok (.goto (-30), 3) := by decide +kernel
theorem dX12_partAt_37 : decode MX12_partAt.2.1 37 = .ok (.iload_n 1, 1) := by decide +kernel
theorem dX12_partAt_38 : decode MX12_partAt.2.1 38 = .ok (.ireturn, 1) := by decide +kernel
theorem dX12_orderPartAt_0 : decode MX12_orderPartAt.2.1 0 = .ok (.iconst (-1), 1) := by decide +kernel
theorem dX12_orderPartAt_1 : decode MX12_orderPartAt.2.1 1 = .ok (.istore_n 1, 1) := by decide +kernel
theorem dX12_orderPartAt_2 : decode MX12_orderPartAt.2.1 2 = .ok (.iconst 0, 1) := by decide +kernel
theorem dX12_orderPartAt_3 : decode MX12_orderPartAt.2.1 3 = .ok (.istore_n 2, 1) := by decide +kernel
theorem dX12_orderPartAt_4 : decode MX12_orderPartAt.2.1 4 = .ok (.iload_n 2, 1) := by decide +kernel
theorem dX12_orderPartAt_5 : decode MX12_orderPartAt.2.1 5 = .ok (.bipush 7, 2) := by decide +kernel
theorem dX12_orderPartAt_7 : decode MX12_orderPartAt.2.1 7 = .ok (.if_icmp .ge 30, 3) := by decide +kernel
theorem dX12_orderPartAt_10 : decode MX12_orderPartAt.2.1 10 = .ok (.aload_n 0, 1) := by decide +kernel
theorem dX12_orderPartAt_11 : decode MX12_orderPartAt.2.1 11 = .ok (.aload_n 0, 1) := by decide +kernel
theorem dX12_orderPartAt_12 : decode MX12_orderPartAt.2.1 12 = .ok (.getfield 91, 3) := by decide +kernel
theorem dX12_orderPartAt_15 : decode MX12_orderPartAt.2.1 15 = .ok (.iload_n 2, 1) := by decide +kernel
theorem dX12_orderPartAt_16 : decode MX12_orderPartAt.2.1 16 = .ok (.laload, 1) := by decide +kernel
theorem dX12_orderPartAt_17 : decode MX12_orderPartAt.2.1 17 = .ok (.invokevirtual 299, 3) := by decide +kernel
theorem dX12_orderPartAt_20 : decode MX12_orderPartAt.2.1 20 = .ok (.ifCond .eq 9, 3) := by decide +kernel
theorem dX12_orderPartAt_23 : decode MX12_orderPartAt.2.1 23 = .ok (.iload_n 2, 1) := by decide +kernel
theorem dX12_orderPartAt_24 : decode MX12_orderPartAt.2.1 24 = .ok (.iconst 1, 1) := by decide +kernel
theorem dX12_orderPartAt_25 : decode MX12_orderPartAt.2.1 25 = .ok (.iadd, 1) := by decide +kernel
theorem dX12_orderPartAt_26 : decode MX12_orderPartAt.2.1 26 = .ok (.goto 4, 3) := by decide +kernel
theorem dX12_orderPartAt_29 : decode MX12_orderPartAt.2.1 29 = .ok (.iload_n 1, 1) := by decide +kernel
theorem dX12_orderPartAt_30 : decode MX12_orderPartAt.2.1 30 = .ok (.istore_n 1, 1) := by decide +kernel
theorem dX12_orderPartAt_31 : decode MX12_orderPartAt.2.1 31 = .ok (.iinc 2 1, 3) := by decide +kernel
theorem dX12_orderPartAt_34 : decode MX12_orderPartAt.2.1 34 = .ok (.goto (-30), 3) := by decide +kernel
theorem dX12_orderPartAt_37 : decode MX12_orderPartAt.2.1 37 = .ok (.iload_n 1, 1) := by decide +kernel
theorem dX12_orderPartAt_38 : decode MX12_orderPartAt.2.1 38 = .ok (.ireturn, 1) := by decide +kernel
theorem dX12_openBracket_0 : decode MX12_openBracket.2.1 0 = .ok (.aload_n 0, 1) := by decide +kernel
theorem dX12_openBracket_1 : decode MX12_openBracket.2.1 1 = .ok (.aload_n 0, 1) := by decide +kernel
theorem dX12_openBracket_2 : decode MX12_openBracket.2.1 2 = .ok (.getfield 303, 3) := by decide +kernel
theorem dX12_openBracket_5 : decode MX12_openBracket.2.1 5 = .ok (.bipush 8, 2) := by decide +kernel
theorem dX12_openBracket_7 : decode MX12_openBracket.2.1 7 = .ok (.if_icmp .ge 7, 3) := by decide +kernel
theorem dX12_openBracket_10 : decode MX12_openBracket.2.1 10 = .ok (.iconst 1, 1) := by decide +kernel
theorem dX12_openBracket_11 : decode MX12_openBracket.2.1 11 = .ok (.goto 4, 3) := by decide +kernel
theorem dX12_openBracket_14 : decode MX12_openBracket.2.1 14 = .ok (.iconst 0, 1) := by decide +kernel
theorem dX12_openBracket_15 : decode MX12_openBracket.2.1 15 = .ok (.invokevirtual 274, 3) := by decide +kernel
theorem dX12_openBracket_18 : decode MX12_openBracket.2.1 18 = .ok (.aload_n 0, 1) := by decide +kernel
theorem dX12_openBracket_19 : decode MX12_openBracket.2.1 19 = .ok (.getfield 239, 3) := by decide +kernel
theorem dX12_openBracket_22 : decode MX12_openBracket.2.1 22 = .ok (.ifCond .ne 19, 3) := by decide +kernel
theorem dX12_openBracket_25 : decode MX12_openBracket.2.1 25 = .ok (.aload_n 0, 1) := by decide +kernel
theorem dX12_openBracket_26 : decode MX12_openBracket.2.1 26 = .ok (.dup, 1) := by decide +kernel
theorem dX12_openBracket_27 : decode MX12_openBracket.2.1 27 = .ok (.getfield 303, 3) := by decide +kernel
theorem dX12_openBracket_30 : decode MX12_openBracket.2.1 30 = .ok (.iconst 1, 1) := by decide +kernel
theorem dX12_openBracket_31 : decode MX12_openBracket.2.1 31 = .ok (.iadd, 1) := by decide +kernel
theorem dX12_openBracket_32 : decode MX12_openBracket.2.1 32 = .ok (.putfield 303, 3) := by decide +kernel
theorem dX12_openBracket_35 : decode MX12_openBracket.2.1 35 = .ok (.aload_n 0, 1) := by decide +kernel
theorem dX12_openBracket_36 : decode MX12_openBracket.2.1 36 = .ok (.iload_n 1, 1) := by decide +kernel
theorem dX12_openBracket_37 : decode MX12_openBracket.2.1 37 = .ok (.iconst 0, 1) := by decide +kernel
theorem dX12_openBracket_38 : decode MX12_openBracket.2.1 38 = .ok (.invokevirtual 306, 3) := by decide +kernel
theorem dX12_openBracket_41 : decode MX12_openBracket.2.1 41 = .ok (.return_, 1) := by decide +kernel
theorem dX12_leaf_0 : decode MX12_leaf.2.1 0 = .ok (.aload_n 0, 1) := by decide +kernel
theorem dX12_leaf_1 : decode MX12_leaf.2.1 1 = .ok (.iload_n 1, 1) := by decide +kernel
theorem dX12_leaf_2 : decode MX12_leaf.2.1 2 = .ok (.ifCond .eq 16, 3) := by decide +kernel
theorem dX12_leaf_5 : decode MX12_leaf.2.1 5 = .ok (.aload_n 0, 1) := by decide +kernel
theorem dX12_leaf_6 : decode MX12_leaf.2.1 6 = .ok (.getfield 309, 3) := by decide +kernel
theorem dX12_leaf_9 : decode MX12_leaf.2.1 9 = .ok (.bipush 50, 2) := by decide +kernel
theorem dX12_leaf_11 : decode MX12_leaf.2.1 11 = .ok (.if_icmp .ge 7, 3) := by decide +kernel
theorem dX12_leaf_14 : decode MX12_leaf.2.1 14 = .ok (.iconst 1, 1) := by decide +kernel
theorem dX12_leaf_15 : decode MX12_leaf.2.1 15 = .ok (.goto 4, 3) := by decide +kernel
theorem dX12_leaf_18 : decode MX12_leaf.2.1 18 = .ok (.iconst 0, 1) := by decide +kernel
theorem dX12_leaf_19 : decode MX12_leaf.2.1 19 = .ok (.invokevirtual 274, 3) := by decide +kernel
theorem dX12_leaf_22 : decode MX12_leaf.2.1 22 = .ok (.aload_n 0, 1) := by decide +kernel
theorem dX12_leaf_23 : decode MX12_leaf.2.1 23 = .ok (.getfield 239, 3) := by decide +kernel
theorem dX12_leaf_26 : decode MX12_leaf.2.1 26 = .ok (.ifCond .ne 19, 3) := by decide +kernel
theorem dX12_leaf_29 : decode MX12_leaf.2.1 29 = .ok (.aload_n 0, 1) := by decide +kernel
theorem dX12_leaf_30 : decode MX12_leaf.2.1 30 = .ok (.iload_n 2, 1) := by decide +kernel
theorem dX12_leaf_31 : decode MX12_leaf.2.1 31 = .ok (.iload_n 3, 1) := by decide +kernel
theorem dX12_leaf_32 : decode MX12_leaf.2.1 32 = .ok (.invokevirtual 287, 3) := by decide +kernel
theorem dX12_leaf_35 : decode MX12_leaf.2.1 35 = .ok (.aload_n 0, 1) := by decide +kernel
theorem dX12_leaf_36 : decode MX12_leaf.2.1 36 = .ok (.dup, 1) := by decide +kernel
theorem dX12_leaf_37 : decode MX12_leaf.2.1 37 = .ok (.getfield 309, 3) := by decide +kernel
theorem dX12_leaf_40 : decode MX12_leaf.2.1 40 = .ok (.iconst 1, 1) := by decide +kernel
theorem dX12_leaf_41 : decode MX12_leaf.2.1 41 = .ok (.iadd, 1) := by decide +kernel
theorem dX12_leaf_42 : decode MX12_leaf.2.1 42 = .ok (.putfield 309, 3) := by decide +kernel
theorem dX12_leaf_45 : decode MX12_leaf.2.1 45 = .ok (.return_, 1) := by decide +kernel
theorem dX12_readPart_0 : decode MX12_readPart.2.1 0 = .ok (.aload_n 0, 1) := by decide +kernel
theorem dX12_readPart_1 : decode MX12_readPart.2.1 1 = .ok (.bipush 91, 2) := by decide +kernel
theorem dX12_readPart_3 : decode MX12_readPart.2.1 3 = .ok (.invokevirtual 312, 3) := by decide +kernel
theorem dX12_readPart_6 : decode MX12_readPart.2.1 6 = .ok (.ifCond .eq 11, 3) := by decide +kernel
theorem dX12_readPart_9 : decode MX12_readPart.2.1 9 = .ok (.aload_n 0, 1) := by decide +kernel
theorem dX12_readPart_10 : decode MX12_readPart.2.1 10 = .ok (.bipush 32, 2) := by decide +kernel
theorem dX12_readPart_12 : decode MX12_readPart.2.1 12 = .ok (.invokevirtual 315, 3) := by decide +kernel
theorem dX12_readPart_15 : decode MX12_readPart.2.1 15 = .ok (.iconst 1, 1) := by decide +kernel
theorem dX12_readPart_16 : decode MX12_readPart.2.1 16 = .ok (.ireturn, 1) := by decide +kernel
theorem dX12_readPart_17 : decode MX12_readPart.2.1 17 = .ok (.aload_n 0, 1) := by decide +kernel
theorem dX12_readPart_18 : decode MX12_readPart.2.1 18 = .ok (.getfield 318, 3) := by decide +kernel
theorem dX12_readPart_21 : decode MX12_readPart.2.1 21 = .ok (.ifCond .eq 10, 3) := by decide +kernel
theorem dX12_readPart_24 : decode MX12_readPart.2.1 24 = .ok (.aload_n 0, 1) := by decide +kernel
theorem dX12_readPart_25 : decode MX12_readPart.2.1 25 = .ok (.invokevirtual 321, 3) := by decide +kernel
theorem dX12_readPart_28 : decode MX12_readPart.2.1 28 = .ok (.goto 7, 3) := by decide +kernel
theorem dX12_readPart_31 : decode MX12_readPart.2.1 31 = .ok (.aload_n 0, 1) := by decide +kernel
theorem dX12_readPart_32 : decode MX12_readPart.2.1 32 = .ok (.invokevirtual 325, 3) := by decide +kernel
theorem dX12_readPart_35 : decode MX12_readPart.2.1 35 = .ok (.istore_n 1, 1) := by decide +kernel
theorem dX12_readPart_36 : decode MX12_readPart.2.1 36 = .ok (.aload_n 0, 1) := by decide +kernel
theorem dX12_readPart_37 : decode MX12_readPart.2.1 37 = .ok (.getfield 259, 3) := by decide +kernel
theorem dX12_readPart_40 : decode MX12_readPart.2.1 40 = .ok (.iconst 2, 1) := by decide +kernel
theorem dX12_readPart_41 : decode MX12_readPart.2.1 41 = .ok (.if_icmp .ne 18, 3) := by decide +kernel
theorem dX12_readPart_44 : decode MX12_readPart.2.1 44 = .ok (.aload_n 0, 1) := by decide +kernel
theorem dX12_readPart_45 : decode MX12_readPart.2.1 45 = .ok (.getfield 249, 3) := by decide +kernel
theorem dX12_readPart_48 : decode MX12_readPart.2.1 48 = .ok (.ldc2_w 328, 3) := by decide +kernel
theorem dX12_readPart_51 : decode MX12_readPart.2.1 51 = .ok (.lcmp, 1) := by decide +kernel
theorem dX12_readPart_52 : decode MX12_readPart.2.1 52 = .ok (.ifCond .gt 7, 3) := by decide +kernel
theorem dX12_readPart_55 : decode MX12_readPart.2.1 55 = .ok (.iconst 1, 1) := by decide +kernel
theorem dX12_readPart_56 : decode MX12_readPart.2.1 56 = .ok (.goto 4, 3) := by decide +kernel
theorem dX12_readPart_59 : decode MX12_readPart.2.1 59 = .ok (.iconst 0, 1) := by decide +kernel
theorem dX12_readPart_60 : decode MX12_readPart.2.1 60 = .ok (.istore_n 2, 1) := by decide +kernel
theorem dX12_readPart_61 : decode MX12_readPart.2.1 61 = .ok (.aload_n 0, 1) := by decide +kernel
theorem dX12_readPart_62 : decode MX12_readPart.2.1 62 = .ok (.iload_n 1, 1) := by decide +kernel
theorem dX12_readPart_63 : decode MX12_readPart.2.1 63 = .ok (.iconst (-1), 1) := by decide +kernel
theorem dX12_readPart_64 : decode MX12_readPart.2.1 64 = .ok (.if_icmp .ne 7, 3) := by decide +kernel
theorem dX12_readPart_67 : decode MX12_readPart.2.1 67 = .ok (.iload_n 2, 1) := by decide +kernel
theorem dX12_readPart_68 : decode MX12_readPart.2.1 68 = .ok (.ifCond .eq 7, 3) := by decide +kernel
theorem dX12_readPart_71 : decode MX12_readPart.2.1 71 = .ok (.iconst 1, 1) := by decide +kernel
theorem dX12_readPart_72 : decode MX12_readPart.2.1 72 = .ok (.goto 4, 3) := by decide +kernel
theorem dX12_readPart_75 : decode MX12_readPart.2.1 75 = .ok (.iconst 0, 1) := by decide +kernel
theorem dX12_readPart_76 : decode MX12_readPart.2.1 76 = .ok (.iload_n 1, 1) := by decide +kernel
theorem dX12_readPart_77 : decode MX12_readPart.2.1 77 = .ok (.iconst (-1), 1) := by decide +kernel
theorem dX12_readPart_78 : decode MX12_readPart.2.1 78 = .ok (.if_icmp .ne 7, 3) := by decide +kernel
theorem dX12_readPart_81 : decode MX12_readPart.2.1 81 = .ok (.iconst 0, 1) := by decide +kernel
theorem dX12_readPart_82 : decode MX12_readPart.2.1 82 = .ok (.goto 4, 3) := by decide +kernel
theorem dX12_readPart_85 : decode MX12_readPart.2.1 85 = .ok (.iload_n 1, 1) := by decide +kernel
theorem dX12_readPart_86 : decode MX12_readPart.2.1 86 = .ok (.iload_n 2, 1) := by decide +kernel
theorem dX12_readPart_87 : decode MX12_readPart.2.1 87 = .ok (.ifCond .eq 11, 3) := by decide +kernel
theorem dX12_readPart_90 : decode MX12_readPart.2.1 90 = .ok (.aload_n 0, 1) := by decide +kernel
theorem dX12_readPart_91 : decode MX12_readPart.2.1 91 = .ok (.getfield 249, 3) := by decide +kernel
theorem dX12_readPart_94 : decode MX12_readPart.2.1 94 = .ok (.l2i, 1) := by decide +kernel
theorem dX12_readPart_95 : decode MX12_readPart.2.1 95 = .ok (.goto 4, 3) := by decide +kernel
theorem dX12_readPart_98 : decode MX12_readPart.2.1 98 = .ok (.iconst 0, 1) := by decide +kernel
theorem dX12_readPart_99 : decode MX12_readPart.2.1 99 = .ok (.invokevirtual 330, 3) := by decide +kernel
theorem dX12_readPart_102 : decode MX12_readPart.2.1 102 = .ok (.aload_n 0, 1) := by decide +kernel
theorem dX12_readPart_103 : decode MX12_readPart.2.1 103 = .ok (.getfield 318, 3) := by decide +kernel
theorem dX12_readPart_106 : decode MX12_readPart.2.1 106 = .ok (.ifCond .eq 37, 3) := by decide +kernel
theorem dX12_readPart_109 : decode MX12_readPart.2.1 109 = .ok (.iload_n 1, 1) := by decide +kernel
theorem dX12_readPart_110 : decode MX12_readPart.2.1 110 = .ok (.bipush 6, 2) := by decide +kernel
theorem dX12_readPart_112 : decode MX12_readPart.2.1 112 = .ok (.if_icmp .lt 31, 3) := by decide +kernel
theorem dX12_readPart_115 : decode MX12_readPart.2.1 115 = .ok (.aload_n 0, 1) := by decide +kernel
theorem dX12_readPart_116 : decode MX12_readPart.2.1 116 = .ok (.getfield 239, 3) := by decide +kernel
theorem dX12_readPart_119 : decode MX12_readPart.2.1 119 = .ok (.ifCond .ne 24, 3) := by decide +kernel
theorem dX12_readPart_122 : decode MX12_readPart.2.1 122 = .ok (.aload_n 0, 1) := by decide +kernel
theorem dX12_readPart_123 : decode MX12_readPart.2.1 123 = .ok (.getfield 278, 3) := by decide +kernel
theorem dX12_readPart_126 : decode MX12_readPart.2.1 126 = .ok (.iconst 1, 1) := by decide +kernel
theorem dX12_readPart_127 : decode MX12_readPart.2.1 127 = .ok (.isub, 1) := by decide +kernel
theorem dX12_readPart_128 : decode MX12_readPart.2.1 128 = .ok (.istore_n 3, 1) := by decide +kernel
theorem dX12_readPart_129 : decode MX12_readPart.2.1 129 = .ok (.aload_n 0, 1) := by decide +kernel
theorem dX12_readPart_130 : decode MX12_readPart.2.1 130 = .ok (.getfield 48, 3) := by decide +kernel
theorem dX12_readPart_133 : decode MX12_readPart.2.1 133 = .ok (.iload_n 3, 1) := by decide +kernel
theorem dX12_readPart_134 : decode MX12_readPart.2.1 134 = .ok (.aload_n 0, 1) := by decide +kernel
theorem dX12_readPart_135 : decode MX12_readPart.2.1 135 = .ok (.lconst 0, 1) := by decide +kernel
theorem dX12_readPart_136 : decode MX12_readPart.2.1 136 = .ok (.ldc2_w 187, 3) := by decide +kernel
theorem dX12_readPart_139 : decode MX12_readPart.2.1 139 = .ok (.invokevirtual 334, 3) := by decide +kernel
theorem dX12_readPart_142 : decode MX12_readPart.2.1 142 = .ok (.iastore, 1) := by decide +kernel
theorem dX12_readPart_143 : decode MX12_readPart.2.1 143 = .ok (.iconst 3, 1) := by decide +kernel
theorem dX12_readPart_144 : decode MX12_readPart.2.1 144 = .ok (.ireturn, 1) := by decide +kernel
theorem dX12_readPlain_0 : decode MX12_readPlain.2.1 0 = .ok (.aload_n 0, 1) := by decide +kernel
theorem dX12_readPlain_1 : decode MX12_readPlain.2.1 1 = .ok (.ldc2_w 338, 3) := by decide +kernel
theorem dX12_readPlain_4 : decode MX12_readPlain.2.1 4 = .ok (.invokevirtual 299, 3) := by decide +kernel
theorem dX12_readPlain_7 : decode MX12_readPlain.2.1 7 = .ok (.ifCond .eq 16, 3) := by decide +kernel
theorem dX12_readPlain_10 : decode MX12_readPlain.2.1 10 = .ok (.aload_n 0, 1) := by decide +kernel
theorem dX12_readPlain_11 : decode MX12_readPlain.2.1 11 = .ok (.bipush 28, 2) := by decide +kernel
theorem dX12_readPlain_13 : decode MX12_readPlain.2.1 13 = .ok (.iconst 0, 1) := by decide +kernel
theorem dX12_readPlain_14 : decode MX12_readPlain.2.1 14 = .ok (.invokevirtual 306, 3) := by decide +kernel
theorem dX12_readPlain_17 : decode MX12_readPlain.2.1 17 = .ok (.aload_n 0, 1) := by decide +kernel
theorem dX12_readPlain_18 : decode MX12_readPlain.2.1 18 = .ok (.invokevirtual 243, 3) := by decide +kernel
theorem dX12_readPlain_21 : decode MX12_readPlain.2.1 21 = .ok (.iconst 0, 1) := by decide +kernel
theorem dX12_readPlain_22 : decode MX12_readPlain.2.1 22 = .ok (.ireturn, 1) := by decide +kernel
theorem dX12_readPlain_23 : decode MX12_readPlain.2.1 23 = .ok (.aload_n 0, 1) := by decide +kernel
theorem dX12_readPlain_24 : decode MX12_readPlain.2.1 24 = .ok (.bipush 40, 2) := by decide +kernel
theorem dX12_readPlain_26 : decode MX12_readPlain.2.1 26 = .ok (.invokevirtual 312, 3) := by decide +kernel
theorem dX12_readPlain_29 : decode MX12_readPlain.2.1 29 = .ok (.ifCond .eq 11, 3) := by decide +kernel
theorem dX12_readPlain_32 : decode MX12_readPlain.2.1 32 = .ok (.aload_n 0, 1) := by decide +kernel
theorem dX12_readPlain_33 : decode MX12_readPlain.2.1 33 = .ok (.bipush 31, 2) := by decide +kernel
theorem dX12_readPlain_35 : decode MX12_readPlain.2.1 35 = .ok (.invokevirtual 315, 3) := by decide +kernel
theorem dX12_readPlain_38 : decode MX12_readPlain.2.1 38 = .ok (.iconst 0, 1) := by decide +kernel
theorem dX12_readPlain_39 : decode MX12_readPlain.2.1 39 = .ok (.ireturn, 1) := by decide +kernel
theorem dX12_readPlain_40 : decode MX12_readPlain.2.1 40 = .ok (.aload_n 0, 1) := by decide +kernel
theorem dX12_readPlain_41 : decode MX12_readPlain.2.1 41 = .ok (.invokevirtual 340, 3) := by decide +kernel
theorem dX12_readPlain_44 : decode MX12_readPlain.2.1 44 = .ok (.ireturn, 1) := by decide +kernel
theorem dX12_behindSum_0 : decode MX12_behindSum.2.1 0 = .ok (.aload_n 0, 1) := by decide +kernel
theorem dX12_behindSum_1 : decode MX12_behindSum.2.1 1 = .ok (.bipush 43, 2) := by decide +kernel
theorem dX12_behindSum_3 : decode MX12_behindSum.2.1 3 = .ok (.invokevirtual 312, 3) := by decide +kernel
theorem dX12_behindSum_6 : decode MX12_behindSum.2.1 6 = .ok (.ifCond .eq 8, 3) := by decide +kernel
theorem dX12_behindSum_9 : decode MX12_behindSum.2.1 9 = .ok (.bipush 20, 2) := by decide +kernel
theorem dX12_behindSum_11 : decode MX12_behindSum.2.1 11 = .ok (.goto 60, 3) := by decide +kernel
theorem dX12_behindSum_14 : decode MX12_behindSum.2.1 14 = .ok (.aload_n 0, 1) := by decide +kernel
theorem dX12_behindSum_15 : decode MX12_behindSum.2.1 15 = .ok (.bipush 45, 2) := by decide +kernel
theorem dX12_behindSum_17 : decode MX12_behindSum.2.1 17 = .ok (.invokevirtual 312, 3) := by decide +kernel
theorem dX12_behindSum_20 : decode MX12_behindSum.2.1 20 = .ok (.ifCond .eq 8, 3) := by decide +kernel
theorem dX12_behindSum_23 : decode MX12_behindSum.2.1 23 = .ok (.bipush 21, 2) := by decide +kernel
theorem dX12_behindSum_25 : decode MX12_behindSum.2.1 25 = .ok (.goto 46, 3) := by decide +kernel
theorem dX12_behindSum_28 : decode MX12_behindSum.2.1 28 = .ok (.aload_n 0, 1) := by decide +kernel
theorem dX12_behindSum_29 : decode MX12_behindSum.2.1 29 = .ok (.bipush 42, 2) := by decide +kernel
theorem dX12_behindSum_31 : decode MX12_behindSum.2.1 31 = .ok (.invokevirtual 312, 3) := by decide +kernel
theorem dX12_behindSum_34 : decode MX12_behindSum.2.1 34 = .ok (.ifCond .eq 8, 3) := by decide +kernel
theorem dX12_behindSum_37 : decode MX12_behindSum.2.1 37 = .ok (.bipush 22, 2) := by decide +kernel
theorem dX12_behindSum_39 : decode MX12_behindSum.2.1 39 = .ok (.goto 32, 3) := by decide +kernel
theorem dX12_behindSum_42 : decode MX12_behindSum.2.1 42 = .ok (.aload_n 0, 1) := by decide +kernel
theorem dX12_behindSum_43 : decode MX12_behindSum.2.1 43 = .ok (.bipush 47, 2) := by decide +kernel
theorem dX12_behindSum_45 : decode MX12_behindSum.2.1 45 = .ok (.invokevirtual 312, 3) := by decide +kernel
theorem dX12_behindSum_48 : decode MX12_behindSum.2.1 48 = .ok (.ifCond .eq 8, 3) := by decide +kernel
theorem dX12_behindSum_51 : decode MX12_behindSum.2.1 51 = .ok (.bipush 23, 2) := by decide +kernel
theorem dX12_behindSum_53 : decode MX12_behindSum.2.1 53 = .ok (.goto 18, 3) := by decide +kernel
theorem dX12_behindSum_56 : decode MX12_behindSum.2.1 56 = .ok (.aload_n 0, 1) := by decide +kernel
theorem dX12_behindSum_57 : decode MX12_behindSum.2.1 57 = .ok (.bipush 37, 2) := by decide +kernel
theorem dX12_behindSum_59 : decode MX12_behindSum.2.1 59 = .ok (.invokevirtual 312, 3) := by decide +kernel
theorem dX12_behindSum_62 : decode MX12_behindSum.2.1 62 = .ok (.ifCond .eq 8, 3) := by decide +kernel
theorem dX12_behindSum_65 : decode MX12_behindSum.2.1 65 = .ok (.bipush 24, 2) := by decide +kernel
theorem dX12_behindSum_67 : decode MX12_behindSum.2.1 67 = .ok (.goto 4, 3) := by decide +kernel
theorem dX12_behindSum_70 : decode MX12_behindSum.2.1 70 = .ok (.iconst (-1), 1) := by decide +kernel
theorem dX12_behindSum_71 : decode MX12_behindSum.2.1 71 = .ok (.istore_n 2, 1) := by decide +kernel
theorem dX12_behindSum_72 : decode MX12_behindSum.2.1 72 = .ok (.iload_n 2, 1) := by decide +kernel
theorem dX12_behindSum_73 : decode MX12_behindSum.2.1 73 = .ok (.iconst (-1), 1) := by decide +kernel
theorem dX12_behindSum_74 : decode MX12_behindSum.2.1 74 = .ok (.if_icmp .eq 23, 3) := by decide +kernel
theorem dX12_behindSum_77 : decode MX12_behindSum.2.1 77 = .ok (.aload_n 0, 1) := by decide +kernel
theorem dX12_behindSum_78 : decode MX12_behindSum.2.1 78 = .ok (.iload_n 2, 1) := by decide +kernel
theorem dX12_behindSum_79 : decode MX12_behindSum.2.1 79 = .ok (.invokestatic 284, 3) := by decide +kernel
theorem dX12_behindSum_82 : decode MX12_behindSum.2.1 82 = .ok (.invokevirtual 343, 3) := by decide +kernel
theorem dX12_behindSum_85 : decode MX12_behindSum.2.1 85 = .ok (.aload_n 0, 1) := by decide +kernel
theorem dX12_behindSum_86 : decode MX12_behindSum.2.1 86 = .ok (.iload_n 2, 1) := by decide +kernel
theorem dX12_behindSum_87 : decode MX12_behindSum.2.1 87 = .ok (.iconst 0, 1) := by decide +kernel
theorem dX12_behindSum_88 : decode MX12_behindSum.2.1 88 = .ok (.invokevirtual 306, 3) := by decide +kernel
theorem dX12_behindSum_91 : decode MX12_behindSum.2.1 91 = .ok (.aload_n 0, 1) := by decide +kernel
theorem dX12_behindSum_92 : decode MX12_behindSum.2.1 92 = .ok (.invokevirtual 243, 3) := by decide +kernel
theorem dX12_behindSum_95 : decode MX12_behindSum.2.1 95 = .ok (.iconst 1, 1) := by decide +kernel
theorem dX12_behindSum_96 : decode MX12_behindSum.2.1 96 = .ok (.ireturn, 1) := by decide +kernel
theorem dX12_behindSum_97 : decode MX12_behindSum.2.1 97 = .ok (.aload_n 0, 1) := by decide +kernel
theorem dX12_behindSum_98 : decode MX12_behindSum.2.1 98 = .ok (.invokevirtual 346, 3) := by decide +kernel
theorem dX12_behindSum_101 : decode MX12_behindSum.2.1 101 = .ok (.istore_n 3, 1) := by decide +kernel
theorem dX12_behindSum_102 : decode MX12_behindSum.2.1 102 = .ok (.iload_n 3, 1) := by decide +kernel
theorem dX12_behindSum_103 : decode MX12_behindSum.2.1 103 = .ok (.bipush 32, 2) := by decide +kernel
theorem dX12_behindSum_105 : decode MX12_behindSum.2.1 105 = .ok (.if_icmp .ne 47, 3) := by decide +kernel
theorem dX12_behindSum_108 : decode MX12_behindSum.2.1 108 = .ok (.aload_n 0, 1) := by decide +kernel
theorem dX12_behindSum_109 : decode MX12_behindSum.2.1 109 = .ok (.aload_n 0, 1) := by decide +kernel
theorem dX12_behindSum_110 : decode MX12_behindSum.2.1 110 = .ok (.bipush 93, 2) := by decide +kernel
theorem dX12_behindSum_112 : decode MX12_behindSum.2.1 112 = .ok (.invokevirtual 312, 3) := by decide +kernel
theorem dX12_behindSum_115 : decode MX12_behindSum.2.1 115 = .ok (.invokevirtual 274, 3) := by decide +kernel
theorem dX12_behindSum_118 : decode MX12_behindSum.2.1 118 = .ok (.aload_n 0, 1) := by decide +kernel
theorem dX12_behindSum_119 : decode MX12_behindSum.2.1 119 = .ok (.getfield 239, 3) := by decide +kernel
theorem dX12_behindSum_122 : decode MX12_behindSum.2.1 122 = .ok (.ifCond .ne 28, 3) := by decide +kernel
theorem dX12_behindSum_125 : decode MX12_behindSum.2.1 125 = .ok (.aload_n 0, 1) := by decide +kernel
theorem dX12_behindSum_126 : decode MX12_behindSum.2.1 126 = .ok (.iconst 5, 1) := by decide +kernel
theorem dX12_behindSum_127 : decode MX12_behindSum.2.1 127 = .ok (.invokevirtual 343, 3) := by decide +kernel
theorem dX12_behindSum_130 : decode MX12_behindSum.2.1 130 = .ok (.aload_n 0, 1) := by decide +kernel
theorem dX12_behindSum_131 : decode MX12_behindSum.2.1 131 = .ok (.dup, 1) := by decide +kernel
theorem dX12_behindSum_132 : decode MX12_behindSum.2.1 132 = .ok (.getfield 281, 3) := by decide +kernel
theorem dX12_behindSum_135 : decode MX12_behindSum.2.1 135 = .ok (.iconst 1, 1) := by decide +kernel
theorem dX12_behindSum_136 : decode MX12_behindSum.2.1 136 = .ok (.isub, 1) := by decide +kernel
theorem dX12_behindSum_137 : decode MX12_behindSum.2.1 137 = .ok (.putfield 281, 3) := by decide +kernel
theorem dX12_behindSum_140 : decode MX12_behindSum.2.1 140 = .ok (.aload_n 0, 1) := by decide +kernel
theorem dX12_behindSum_141 : decode MX12_behindSum.2.1 141 = .ok (.dup, 1) := by decide +kernel
theorem dX12_behindSum_142 : decode MX12_behindSum.2.1 142 = .ok (.getfield 303, 3) := by decide +kernel
theorem dX12_behindSum_145 : decode MX12_behindSum.2.1 145 = .ok (.iconst 1, 1) := by decide +kernel
theorem dX12_behindSum_146 : decode MX12_behindSum.2.1 146 = .ok (.isub, 1) := by decide +kernel
theorem dX12_behindSum_147 : decode MX12_behindSum.2.1 147 = .ok (.putfield 303, 3) := by decide +kernel
theorem dX12_behindSum_150 : decode MX12_behindSum.2.1 150 = .ok (.iconst 3, 1) := by decide +kernel
theorem dX12_behindSum_151 : decode MX12_behindSum.2.1 151 = .ok (.ireturn, 1) := by decide +kernel
theorem dX12_behindSum_152 : decode MX12_behindSum.2.1 152 = .ok (.iload_n 3, 1) := by decide +kernel
theorem dX12_behindSum_153 : decode MX12_behindSum.2.1 153 = .ok (.iconst (-1), 1) := by decide +kernel
theorem dX12_behindSum_154 : decode MX12_behindSum.2.1 154 = .ok (.if_icmp .ne 9, 3) := by decide +kernel
theorem dX12_behindSum_157 : decode MX12_behindSum.2.1 157 = .ok (.iload_n 1, 1) := by decide +kernel
theorem dX12_behindSum_158 : decode MX12_behindSum.2.1 158 = .ok (.ifCond .ne 5, 3) := by decide +kernel
theorem dX12_behindSum_161 : decode MX12_behindSum.2.1 161 = .ok (.iconst 4, 1) := by decide +kernel
theorem dX12_behindSum_162 : decode MX12_behindSum.2.1 162 = .ok (.ireturn, 1) := by decide +kernel
theorem dX12_behindSum_163 : decode MX12_behindSum.2.1 163 = .ok (.aload_n 0, 1) := by decide +kernel
theorem dX12_behindSum_164 : decode MX12_behindSum.2.1 164 = .ok (.invokevirtual 349, 3) := by decide +kernel
theorem dX12_behindSum_167 : decode MX12_behindSum.2.1 167 = .ok (.ifCond .eq 5, 3) := by decide +kernel
theorem dX12_behindSum_170 : decode MX12_behindSum.2.1 170 = .ok (.iconst 2, 1) := by decide +kernel
theorem dX12_behindSum_171 : decode MX12_behindSum.2.1 171 = .ok (.ireturn, 1) := by decide +kernel
theorem dX12_behindSum_172 : decode MX12_behindSum.2.1 172 = .ok (.aload_n 0, 1) := by decide +kernel
theorem dX12_behindSum_173 : decode MX12_behindSum.2.1 173 = .ok (.bipush 60, 2) := by decide +kernel
theorem dX12_behindSum_175 : decode MX12_behindSum.2.1 175 = .ok (.invokevirtual 312, 3) := by decide +kernel
theorem dX12_behindSum_178 : decode MX12_behindSum.2.1 178 = .ok (.ifCond .eq 8, 3) := by decide +kernel
theorem dX12_behindSum_181 : decode MX12_behindSum.2.1 181 = .ok (.bipush 25, 2) := by decide +kernel
theorem dX12_behindSum_183 : decode MX12_behindSum.2.1 183 = .ok (.goto 19, 3) := by decide +kernel
theorem dX12_behindSum_186 : decode MX12_behindSum.2.1 186 = .ok (.aload_n 0, 1) := by decide +kernel
theorem dX12_behindSum_187 : decode MX12_behindSum.2.1 187 = .ok (.bipush 62, 2) := by decide +kernel
theorem dX12_behindSum_189 : decode MX12_behindSum.2.1 189 = .ok (.invokevirtual 312, 3) := by decide +kernel
theorem dX12_behindSum_192 : decode MX12_behindSum.2.1 192 = .ok (.ifCond .eq 8, 3) := by decide +kernel
theorem dX12_behindSum_195 : decode MX12_behindSum.2.1 195 = .ok (.bipush 26, 2) := by decide +kernel
theorem dX12_behindSum_197 : decode MX12_behindSum.2.1 197 = .ok (.goto 5, 3) := by decide +kernel
theorem dX12_behindSum_200 : decode MX12_behindSum.2.1 200 = .ok (.bipush 27, 2) := by decide +kernel
theorem dX12_behindSum_202 : decode MX12_behindSum.2.1 202 = .ok (.istore_n 2, 1) := by decide +kernel
theorem dX12_behindSum_203 : decode MX12_behindSum.2.1 203 = .ok (.aload_n 0, 1) := by decide +kernel
theorem dX12_behindSum_204 : decode MX12_behindSum.2.1 204 = .ok (.iload_n 2, 1) := by decide +kernel
theorem dX12_behindSum_205 : decode MX12_behindSum.2.1 205 = .ok (.bipush 27, 2) := by decide +kernel
theorem dX12_behindSum_207 : decode MX12_behindSum.2.1 207 = .ok (.if_icmp .ne 12, 3) := by decide +kernel
theorem dX12_behindSum_210 : decode MX12_behindSum.2.1 210 = .ok (.aload_n 0, 1) := by decide +kernel
theorem dX12_behindSum_211 : decode MX12_behindSum.2.1 211 = .ok (.bipush 61, 2) := by decide +kernel
theorem dX12_behindSum_213 : decode MX12_behindSum.2.1 213 = .ok (.invokevirtual 312, 3) := by decide +kernel
theorem dX12_behindSum_216 : decode MX12_behindSum.2.1 216 = .ok (.ifCond .eq 7, 3) := by decide +kernel
theorem dX12_behindSum_219 : decode MX12_behindSum.2.1 219 = .ok (.iconst 1, 1) := by decide +kernel
theorem dX12_behindSum_220 : decode MX12_behindSum.2.1 220 = .ok (.goto 4, 3) := by decide +kernel
theorem dX12_behindSum_223 : decode MX12_behindSum.2.1 223 = .ok (.iconst 0, 1) := by decide +kernel
theorem dX12_behindSum_224 : decode MX12_behindSum.2.1 224 = .ok (.invokevirtual 274, 3) := by decide +kernel
theorem dX12_behindSum_227 : decode MX12_behindSum.2.1 227 = .ok (.aload_n 0, 1) := by decide +kernel
theorem dX12_behindSum_228 : decode MX12_behindSum.2.1 228 = .ok (.getfield 239, 3) := by decide +kernel
theorem dX12_behindSum_231 : decode MX12_behindSum.2.1 231 = .ok (.ifCond .ne 14, 3) := by decide +kernel
theorem dX12_behindSum_234 : decode MX12_behindSum.2.1 234 = .ok (.aload_n 0, 1) := by decide +kernel
theorem dX12_behindSum_235 : decode MX12_behindSum.2.1 235 = .ok (.iconst 5, 1) := by decide +kernel
theorem dX12_behindSum_236 : decode MX12_behindSum.2.1 236 = .ok (.invokevirtual 343, 3) := by decide +kernel
theorem dX12_behindSum_239 : decode MX12_behindSum.2.1 239 = .ok (.aload_n 0, 1) := by decide +kernel
theorem dX12_behindSum_240 : decode MX12_behindSum.2.1 240 = .ok (.iload_n 2, 1) := by decide +kernel
theorem dX12_behindSum_241 : decode MX12_behindSum.2.1 241 = .ok (.iconst 0, 1) := by decide +kernel
theorem dX12_behindSum_242 : decode MX12_behindSum.2.1 242 = .ok (.invokevirtual 306, 3) := by decide +kernel
theorem dX12_behindSum_245 : decode MX12_behindSum.2.1 245 = .ok (.iconst 1, 1) := by decide +kernel
theorem dX12_behindSum_246 : decode MX12_behindSum.2.1 246 = .ok (.ireturn, 1) := by decide +kernel
theorem dX12_behindTest_0 : decode MX12_behindTest.2.1 0 = .ok (.aload_n 0, 1) := by decide +kernel
theorem dX12_behindTest_1 : decode MX12_behindTest.2.1 1 = .ok (.ldc2_w 353, 3) := by decide +kernel
theorem dX12_behindTest_4 : decode MX12_behindTest.2.1 4 = .ok (.invokevirtual 299, 3) := by decide +kernel
theorem dX12_behindTest_7 : decode MX12_behindTest.2.1 7 = .ok (.istore_n 1, 1) := by decide +kernel
theorem dX12_behindTest_8 : decode MX12_behindTest.2.1 8 = .ok (.iload_n 1, 1) := by decide +kernel
theorem dX12_behindTest_9 : decode MX12_behindTest.2.1 9 = .ok (.ifCond .ne 13, 3) := by decide +kernel
theorem dX12_behindTest_12 : decode MX12_behindTest.2.1 12 = .ok (.aload_n 0, 1) := by decide +kernel
theorem dX12_behindTest_13 : decode MX12_behindTest.2.1 13 = .ok (.ldc2_w 355, 3) := by decide +kernel
theorem dX12_behindTest_16 : decode MX12_behindTest.2.1 16 = .ok (.invokevirtual 299, 3) := by decide +kernel
theorem dX12_behindTest_19 : decode MX12_behindTest.2.1 19 = .ok (.ifCond .eq 57, 3) := by decide +kernel
theorem dX12_behindTest_22 : decode MX12_behindTest.2.1 22 = .ok (.aload_n 0, 1) := by decide +kernel
theorem dX12_behindTest_23 : decode MX12_behindTest.2.1 23 = .ok (.iload_n 1, 1) := by decide +kernel
theorem dX12_behindTest_24 : decode MX12_behindTest.2.1 24 = .ok (.ifCond .eq 7, 3) := by decide +kernel
theorem dX12_behindTest_27 : decode MX12_behindTest.2.1 27 = .ok (.iconst 2, 1) := by decide +kernel
theorem dX12_behindTest_28 : decode MX12_behindTest.2.1 28 = .ok (.goto 4, 3) := by decide +kernel
theorem dX12_behindTest_31 : decode MX12_behindTest.2.1 31 = .ok (.iconst 1, 1) := by decide +kernel
theorem dX12_behindTest_32 : decode MX12_behindTest.2.1 32 = .ok (.invokevirtual 343, 3) := by decide +kernel
theorem dX12_behindTest_35 : decode MX12_behindTest.2.1 35 = .ok (.aload_n 0, 1) := by decide +kernel
theorem dX12_behindTest_36 : decode MX12_behindTest.2.1 36 = .ok (.iload_n 1, 1) := by decide +kernel
theorem dX12_behindTest_37 : decode MX12_behindTest.2.1 37 = .ok (.ifCond .eq 8, 3) := by decide +kernel
theorem dX12_behindTest_40 : decode MX12_behindTest.2.1 40 = .ok (.bipush 29, 2) := by decide +kernel
theorem dX12_behindTest_42 : decode MX12_behindTest.2.1 42 = .ok (.goto 5, 3) := by decide +kernel
theorem dX12_behindTest_45 : decode MX12_behindTest.2.1 45 = .ok (.bipush 30, 2) := by decide +kernel
theorem dX12_behindTest_47 : decode MX12_behindTest.2.1 47 = .ok (.aload_n 0, 1) := by decide +kernel
theorem dX12_behindTest_48 : decode MX12_behindTest.2.1 48 = .ok (.getfield 278, 3) := by decide +kernel
theorem dX12_behindTest_51 : decode MX12_behindTest.2.1 51 = .ok (.invokevirtual 306, 3) := by decide +kernel
theorem dX12_behindTest_54 : decode MX12_behindTest.2.1 54 = .ok (.aload_n 0, 1) := by decide +kernel
theorem dX12_behindTest_55 : decode MX12_behindTest.2.1 55 = .ok (.iload_n 1, 1) := by decide +kernel
theorem dX12_behindTest_56 : decode MX12_behindTest.2.1 56 = .ok (.ifCond .eq 8, 3) := by decide +kernel
theorem dX12_behindTest_59 : decode MX12_behindTest.2.1 59 = .ok (.bipush 29, 2) := by decide +kernel
theorem dX12_behindTest_61 : decode MX12_behindTest.2.1 61 = .ok (.goto 5, 3) := by decide +kernel
theorem dX12_behindTest_64 : decode MX12_behindTest.2.1 64 = .ok (.bipush 30, 2) := by decide +kernel
theorem dX12_behindTest_66 : decode MX12_behindTest.2.1 66 = .ok (.iconst 0, 1) := by decide +kernel
theorem dX12_behindTest_67 : decode MX12_behindTest.2.1 67 = .ok (.invokevirtual 287, 3) := by decide +kernel
theorem dX12_behindTest_70 : decode MX12_behindTest.2.1 70 = .ok (.aload_n 0, 1) := by decide +kernel
theorem dX12_behindTest_71 : decode MX12_behindTest.2.1 71 = .ok (.invokevirtual 243, 3) := by decide +kernel
theorem dX12_behindTest_74 : decode MX12_behindTest.2.1 74 = .ok (.iconst 0, 1) := by decide +kernel
theorem dX12_behindTest_75 : decode MX12_behindTest.2.1 75 = .ok (.ireturn, 1) := by decide +kernel
theorem dX12_behindTest_76 : decode MX12_behindTest.2.1 76 = .ok (.aload_n 0, 1) := by decide +kernel
theorem dX12_behindTest_77 : decode MX12_behindTest.2.1 77 = .ok (.invokevirtual 346, 3) := by decide +kernel
theorem dX12_behindTest_80 : decode MX12_behindTest.2.1 80 = .ok (.iconst (-1), 1) := by decide +kernel
theorem dX12_behindTest_81 : decode MX12_behindTest.2.1 81 = .ok (.if_icmp .ne 5, 3) := by decide +kernel
theorem dX12_behindTest_84 : decode MX12_behindTest.2.1 84 = .ok (.iconst 4, 1) := by decide +kernel
theorem dX12_behindTest_85 : decode MX12_behindTest.2.1 85 = .ok (.ireturn, 1) := by decide +kernel
theorem dX12_behindTest_86 : decode MX12_behindTest.2.1 86 = .ok (.aload_n 0, 1) := by decide +kernel
theorem dX12_behindTest_87 : decode MX12_behindTest.2.1 87 = .ok (.aload_n 0, 1) := by decide +kernel
theorem dX12_behindTest_88 : decode MX12_behindTest.2.1 88 = .ok (.bipush 41, 2) := by decide +kernel
theorem dX12_behindTest_90 : decode MX12_behindTest.2.1 90 = .ok (.invokevirtual 312, 3) := by decide +kernel
theorem dX12_behindTest_93 : decode MX12_behindTest.2.1 93 = .ok (.invokevirtual 274, 3) := by decide +kernel
theorem dX12_behindTest_96 : decode MX12_behindTest.2.1 96 = .ok (.aload_n 0, 1) := by decide +kernel
theorem dX12_behindTest_97 : decode MX12_behindTest.2.1 97 = .ok (.getfield 239, 3) := by decide +kernel
theorem dX12_behindTest_100 : decode MX12_behindTest.2.1 100 = .ok (.ifCond .ne 28, 3) := by decide +kernel
theorem dX12_behindTest_103 : decode MX12_behindTest.2.1 103 = .ok (.aload_n 0, 1) := by decide +kernel
theorem dX12_behindTest_104 : decode MX12_behindTest.2.1 104 = .ok (.iconst 1, 1) := by decide +kernel
theorem dX12_behindTest_105 : decode MX12_behindTest.2.1 105 = .ok (.invokevirtual 343, 3) := by decide +kernel
theorem dX12_behindTest_108 : decode MX12_behindTest.2.1 108 = .ok (.aload_n 0, 1) := by decide +kernel
theorem dX12_behindTest_109 : decode MX12_behindTest.2.1 109 = .ok (.dup, 1) := by decide +kernel
theorem dX12_behindTest_110 : decode MX12_behindTest.2.1 110 = .ok (.getfield 281, 3) := by decide +kernel
theorem dX12_behindTest_113 : decode MX12_behindTest.2.1 113 = .ok (.iconst 1, 1) := by decide +kernel
theorem dX12_behindTest_114 : decode MX12_behindTest.2.1 114 = .ok (.isub, 1) := by decide +kernel
theorem dX12_behindTest_115 : decode MX12_behindTest.2.1 115 = .ok (.putfield 281, 3) := by decide +kernel
theorem dX12_behindTest_118 : decode MX12_behindTest.2.1 118 = .ok (.aload_n 0, 1) := by decide +kernel
theorem dX12_behindTest_119 : decode MX12_behindTest.2.1 119 = .ok (.dup, 1) := by decide +kernel
theorem dX12_behindTest_120 : decode MX12_behindTest.2.1 120 = .ok (.getfield 303, 3) := by decide +kernel
theorem dX12_behindTest_123 : decode MX12_behindTest.2.1 123 = .ok (.iconst 1, 1) := by decide +kernel
theorem dX12_behindTest_124 : decode MX12_behindTest.2.1 124 = .ok (.isub, 1) := by decide +kernel
theorem dX12_behindTest_125 : decode MX12_behindTest.2.1 125 = .ok (.putfield 303, 3) := by decide +kernel
theorem dX12_behindTest_128 : decode MX12_behindTest.2.1 128 = .ok (.iconst 2, 1) := by decide +kernel
theorem dX12_behindTest_129 : decode MX12_behindTest.2.1 129 = .ok (.ireturn, 1) := by decide +kernel
theorem dX12_readExpression_0 : decode MX12_readExpression.2.1 0 = .ok (.aload_n 0, 1) := by decide +kernel
theorem dX12_readExpression_1 : decode MX12_readExpression.2.1 1 = .ok (.iconst 0, 1) := by decide +kernel
theorem dX12_readExpression_2 : decode MX12_readExpression.2.1 2 = .ok (.putfield 281, 3) := by decide +kernel
theorem dX12_readExpression_5 : decode MX12_readExpression.2.1 5 = .ok (.aload_n 0, 1) := by decide +kernel
theorem dX12_readExpression_6 : decode MX12_readExpression.2.1 6 = .ok (.iconst 0, 1) := by decide +kernel
theorem dX12_readExpression_7 : decode MX12_readExpression.2.1 7 = .ok (.putfield 303, 3) := by decide +kernel
theorem dX12_readExpression_10 : decode MX12_readExpression.2.1 10 = .ok (.iload_n 1, 1) := by decide +kernel
theorem dX12_readExpression_11 : decode MX12_readExpression.2.1 11 = .ok (.ifCond .eq 7, 3) := by decide +kernel
theorem dX12_readExpression_14 : decode MX12_readExpression.2.1 14 = .ok (.iconst 0, 1) := by decide +kernel
theorem dX12_readExpression_15 : decode MX12_readExpression.2.1 15 = .ok (.goto 4, 3) := by decide +kernel
theorem dX12_readExpression_18 : decode MX12_readExpression.2.1 18 = .ok (.iconst 1, 1) := by decide +kernel
theorem dX12_readExpression_19 : decode MX12_readExpression.2.1 19 = .ok (.istore_n 2, 1) := by decide +kernel
theorem dX12_readExpression_20 : decode MX12_readExpression.2.1 20 = .ok (.aload_n 0, 1) := by decide +kernel
theorem dX12_readExpression_21 : decode MX12_readExpression.2.1 21 = .ok (.getfield 239, 3) := by decide +kernel
theorem dX12_readExpression_24 : decode MX12_readExpression.2.1 24 = .ok (.ifCond .ne 52, 3) := by decide +kernel
theorem dX12_readExpression_27 : decode MX12_readExpression.2.1 27 = .ok (.iload_n 2, 1) := by decide +kernel
theorem dX12_readExpression_28 : decode MX12_readExpression.2.1 28 = .ok (.iconst 4, 1) := by decide +kernel
theorem dX12_readExpression_29 : decode MX12_readExpression.2.1 29 = .ok (.if_icmp .eq 47, 3) := by decide +kernel
theorem dX12_readExpression_32 : decode MX12_readExpression.2.1 32 = .ok (.iload_n 2, 1) := by decide +kernel
theorem dX12_readExpression_33 : decode MX12_readExpression.2.1 33 = .ok (.ifCond .ne 10, 3) := by decide +kernel
theorem dX12_readExpression_36 : decode MX12_readExpression.2.1 36 = .ok (.aload_n 0, 1) := by decide +kernel
theorem dX12_readExpression_37 : decode MX12_readExpression.2.1 37 = .ok (.invokevirtual 357, 3) := by decide +kernel
theorem dX12_readExpression_40 : decode MX12_readExpression.2.1 40 = .ok (.goto 32, 3) := by decide +kernel
theorem dX12_readExpression_43 : decode MX12_readExpression.2.1 43 = .ok (.iload_n 2, 1) := by decide +kernel
theorem dX12_readExpression_44 : decode MX12_readExpression.2.1 44 = .ok (.iconst 1, 1) := by decide +kernel
theorem dX12_readExpression_45 : decode MX12_readExpression.2.1 45 = .ok (.if_icmp .ne 10, 3) := by decide +kernel
theorem dX12_readExpression_48 : decode MX12_readExpression.2.1 48 = .ok (.aload_n 0, 1) := by decide +kernel
theorem dX12_readExpression_49 : decode MX12_readExpression.2.1 49 = .ok (.invokevirtual 340, 3) := by decide +kernel
theorem dX12_readExpression_52 : decode MX12_readExpression.2.1 52 = .ok (.goto 20, 3) := by decide +kernel
theorem dX12_readExpression_55 : decode MX12_readExpression.2.1 55 = .ok (.iload_n 2, 1) := by decide +kernel
theorem dX12_readExpression_56 : decode MX12_readExpression.2.1 56 = .ok (.iconst 3, 1) := by decide +kernel
theorem dX12_readExpression_57 : decode MX12_readExpression.2.1 57 = .ok (.if_icmp .ne 11, 3) := by decide +kernel
theorem dX12_readExpression_60 : decode MX12_readExpression.2.1 60 = .ok (.aload_n 0, 1) := by decide +kernel
theorem dX12_readExpression_61 : decode MX12_readExpression.2.1 61 = .ok (.iload_n 1, 1) := by decide +kernel
theorem dX12_readExpression_62 : decode MX12_readExpression.2.1 62 = .ok (.invokevirtual 360, 3) := by decide +kernel
theorem dX12_readExpression_65 : decode MX12_readExpression.2.1 65 = .ok (.goto 7, 3) := by decide +kernel
theorem dX12_readExpression_68 : decode MX12_readExpression.2.1 68 = .ok (.aload_n 0, 1) := by decide +kernel
theorem dX12_readExpression_69 : decode MX12_readExpression.2.1 69 = .ok (.invokevirtual 364, 3) := by decide +kernel
theorem dX12_readExpression_72 : decode MX12_readExpression.2.1 72 = .ok (.istore_n 2, 1) := by decide +kernel
theorem dX12_readExpression_73 : decode MX12_readExpression.2.1 73 = .ok (.goto (-53), 3) := by decide +kernel
theorem dX12_readExpression_76 : decode MX12_readExpression.2.1 76 = .ok (.aload_n 0, 1) := by decide +kernel
theorem dX12_readExpression_77 : decode MX12_readExpression.2.1 77 = .ok (.iconst 1, 1) := by decide +kernel
theorem dX12_readExpression_78 : decode MX12_readExpression.2.1 78 = .ok (.invokevirtual 343, 3) := by decide +kernel
theorem dX12_readExpression_81 : decode MX12_readExpression.2.1 81 = .ok (.return_, 1) := by decide +kernel
theorem dX12_beginText_0 : decode MX12_beginText.2.1 0 = .ok (.aload_n 0, 1) := by decide +kernel
theorem dX12_beginText_1 : decode MX12_beginText.2.1 1 = .ok (.iload_n 1, 1) := by decide +kernel
theorem dX12_beginText_2 : decode MX12_beginText.2.1 2 = .ok (.putfield 318, 3) := by decide +kernel
theorem dX12_beginText_5 : decode MX12_beginText.2.1 5 = .ok (.aload_n 0, 1) := by decide +kernel
theorem dX12_beginText_6 : decode MX12_beginText.2.1 6 = .ok (.invokevirtual 367, 3) := by decide +kernel
theorem dX12_beginText_9 : decode MX12_beginText.2.1 9 = .ok (.aload_n 0, 1) := by decide +kernel
theorem dX12_beginText_10 : decode MX12_beginText.2.1 10 = .ok (.iconst 0, 1) := by decide +kernel
theorem dX12_beginText_11 : decode MX12_beginText.2.1 11 = .ok (.putfield 370, 3) := by decide +kernel
theorem dX12_beginText_14 : decode MX12_beginText.2.1 14 = .ok (.aload_n 0, 1) := by decide +kernel
theorem dX12_beginText_15 : decode MX12_beginText.2.1 15 = .ok (.iconst 0, 1) := by decide +kernel
theorem dX12_beginText_16 : decode MX12_beginText.2.1 16 = .ok (.putfield 278, 3) := by decide +kernel
theorem dX12_beginText_19 : decode MX12_beginText.2.1 19 = .ok (.aload_n 0, 1) := by decide +kernel
theorem dX12_beginText_20 : decode MX12_beginText.2.1 20 = .ok (.iconst 0, 1) := by decide +kernel
theorem dX12_beginText_21 : decode MX12_beginText.2.1 21 = .ok (.putfield 309, 3) := by decide +kernel
theorem dX12_beginText_24 : decode MX12_beginText.2.1 24 = .ok (.return_, 1) := by decide +kernel
theorem dX12_endText_0 : decode MX12_endText.2.1 0 = .ok (.aload_n 0, 1) := by decide +kernel
theorem dX12_endText_1 : decode MX12_endText.2.1 1 = .ok (.getfield 239, 3) := by decide +kernel
theorem dX12_endText_4 : decode MX12_endText.2.1 4 = .ok (.ifCond .ne 15, 3) := by decide +kernel
theorem dX12_endText_7 : decode MX12_endText.2.1 7 = .ok (.aload_n 0, 1) := by decide +kernel
theorem dX12_endText_8 : decode MX12_endText.2.1 8 = .ok (.getfield 259, 3) := by decide +kernel
theorem dX12_endText_11 : decode MX12_endText.2.1 11 = .ok (.ifCond .eq 8, 3) := by decide +kernel
theorem dX12_endText_14 : decode MX12_endText.2.1 14 = .ok (.aload_n 0, 1) := by decide +kernel
theorem dX12_endText_15 : decode MX12_endText.2.1 15 = .ok (.iconst 0, 1) := by decide +kernel
theorem dX12_endText_16 : decode MX12_endText.2.1 16 = .ok (.invokevirtual 274, 3) := by decide +kernel
theorem dX12_endText_19 : decode MX12_endText.2.1 19 = .ok (.aload_n 0, 1) := by decide +kernel
theorem dX12_endText_20 : decode MX12_endText.2.1 20 = .ok (.iconst 0, 1) := by decide +kernel
theorem dX12_endText_21 : decode MX12_endText.2.1 21 = .ok (.putfield 318, 3) := by decide +kernel
theorem dX12_endText_24 : decode MX12_endText.2.1 24 = .ok (.aload_n 0, 1) := by decide +kernel
theorem dX12_endText_25 : decode MX12_endText.2.1 25 = .ok (.iconst 0, 1) := by decide +kernel
theorem dX12_endText_26 : decode MX12_endText.2.1 26 = .ok (.putfield 227, 3) := by decide +kernel
theorem dX12_endText_29 : decode MX12_endText.2.1 29 = .ok (.return_, 1) := by decide +kernel
theorem dX12_readLaw_0 : decode MX12_readLaw.2.1 0 = .ok (.iconst (-1), 1) := by decide +kernel
theorem dX12_readLaw_1 : decode MX12_readLaw.2.1 1 = .ok (.istore_n 1, 1) := by decide +kernel
theorem dX12_readLaw_2 : decode MX12_readLaw.2.1 2 = .ok (.iconst 0, 1) := by decide +kernel
theorem dX12_readLaw_3 : decode MX12_readLaw.2.1 3 = .ok (.istore_n 2, 1) := by decide +kernel
theorem dX12_readLaw_4 : decode MX12_readLaw.2.1 4 = .ok (.iload_n 2, 1) := by decide +kernel
theorem dX12_readLaw_5 : decode MX12_readLaw.2.1 5 = .ok (.iconst 4, 1) := by decide +kernel
theorem dX12_readLaw_6 : decode MX12_readLaw.2.1 6 = .ok (.if_icmp .ge 28, 3) := by decide +kernel
theorem dX12_readLaw_9 : decode MX12_readLaw.2.1 9 = .ok (.aload_n 0, 1) := by decide +kernel
theorem dX12_readLaw_10 : decode MX12_readLaw.2.1 10 = .ok (.aload_n 0, 1) := by decide +kernel
theorem dX12_readLaw_11 : decode MX12_readLaw.2.1 11 = .ok (.getfield 102, 3) := by decide +kernel
theorem dX12_readLaw_14 : decode MX12_readLaw.2.1 14 = .ok (.iload_n 2, 1) := by decide +kernel
theorem dX12_readLaw_15 : decode MX12_readLaw.2.1 15 = .ok (.laload, 1) := by decide +kernel
theorem dX12_readLaw_16 : decode MX12_readLaw.2.1 16 = .ok (.invokevirtual 299, 3) := by decide +kernel
theorem dX12_readLaw_19 : decode MX12_readLaw.2.1 19 = .ok (.ifCond .eq 7, 3) := by decide +kernel
theorem dX12_readLaw_22 : decode MX12_readLaw.2.1 22 = .ok (.iload_n 2, 1) := by decide +kernel
theorem dX12_readLaw_23 : decode MX12_readLaw.2.1 23 = .ok (.goto 4, 3) := by decide +kernel
theorem dX12_readLaw_26 : decode MX12_readLaw.2.1 26 = .ok (.iload_n 1, 1) := by decide +kernel
theorem dX12_readLaw_27 : decode MX12_readLaw.2.1 27 = .ok (.istore_n 1, 1) := by decide +kernel
theorem dX12_readLaw_28 : decode MX12_readLaw.2.1 28 = .ok (.iinc 2 1, 3) := by decide +kernel
theorem dX12_readLaw_31 : decode MX12_readLaw.2.1 31 = .ok (.goto (-27), 3) := by decide +kernel
theorem dX12_readLaw_34 : decode MX12_readLaw.2.1 34 = .ok (.aload_n 0, 1) := by decide +kernel
theorem dX12_readLaw_35 : decode MX12_readLaw.2.1 35 = .ok (.iload_n 1, 1) := by decide +kernel
theorem dX12_readLaw_36 : decode MX12_readLaw.2.1 36 = .ok (.iconst (-1), 1) := by decide +kernel
theorem dX12_readLaw_37 : decode MX12_readLaw.2.1 37 = .ok (.if_icmp .eq 16, 3) := by decide +kernel
theorem dX12_readLaw_40 : decode MX12_readLaw.2.1 40 = .ok (.aload_n 0, 1) := by decide +kernel
theorem dX12_readLaw_41 : decode MX12_readLaw.2.1 41 = .ok (.getfield 370, 3) := by decide +kernel
theorem dX12_readLaw_44 : decode MX12_readLaw.2.1 44 = .ok (.bipush 12, 2) := by decide +kernel
theorem dX12_readLaw_46 : decode MX12_readLaw.2.1 46 = .ok (.if_icmp .ge 7, 3) := by decide +kernel
theorem dX12_readLaw_49 : decode MX12_readLaw.2.1 49 = .ok (.iconst 1, 1) := by decide +kernel
theorem dX12_readLaw_50 : decode MX12_readLaw.2.1 50 = .ok (.goto 4, 3) := by decide +kernel
theorem dX12_readLaw_53 : decode MX12_readLaw.2.1 53 = .ok (.iconst 0, 1) := by decide +kernel
theorem dX12_readLaw_54 : decode MX12_readLaw.2.1 54 = .ok (.invokevirtual 274, 3) := by decide +kernel
theorem dX12_readLaw_57 : decode MX12_readLaw.2.1 57 = .ok (.aload_n 0, 1) := by decide +kernel
theorem dX12_readLaw_58 : decode MX12_readLaw.2.1 58 = .ok (.getfield 239, 3) := by decide +kernel
theorem dX12_readLaw_61 : decode MX12_readLaw.2.1 61 = .ok (.ifCond .eq 4, 3) := by decide +kernel
theorem dX12_readLaw_64 : decode MX12_readLaw.2.1 64 = .ok (.return_, 1) := by decide +kernel
theorem dX12_readLaw_65 : decode MX12_readLaw.2.1 65 = .ok (.bipush 8, 2) := by decide +kernel
theorem dX12_readLaw_67 : decode MX12_readLaw.2.1 67 = .ok (.aload_n 0, 1) := by decide +kernel
theorem dX12_readLaw_68 : decode MX12_readLaw.2.1 68 = .ok (.getfield 370, 3) := by decide +kernel
theorem dX12_readLaw_71 : decode MX12_readLaw.2.1 71 = .ok (.imul, 1) := by decide +kernel
theorem dX12_readLaw_72 : decode MX12_readLaw.2.1 72 = .ok (.istore_n 2, 1) := by decide +kernel
theorem dX12_readLaw_73 : decode MX12_readLaw.2.1 73 = .ok (.iconst 0, 1) := by decide +kernel
theorem dX12_readLaw_74 : decode MX12_readLaw.2.1 74 = .ok (.istore_n 3, 1) := by decide +kernel
theorem dX12_readLaw_75 : decode MX12_readLaw.2.1 75 = .ok (.iload_n 3, 1) := by decide +kernel
theorem dX12_readLaw_76 : decode MX12_readLaw.2.1 76 = .ok (.bipush 8, 2) := by decide +kernel
theorem dX12_readLaw_78 : decode MX12_readLaw.2.1 78 = .ok (.if_icmp .ge 18, 3) := by decide +kernel
theorem dX12_readLaw_81 : decode MX12_readLaw.2.1 81 = .ok (.aload_n 0, 1) := by decide +kernel
theorem dX12_readLaw_82 : decode MX12_readLaw.2.1 82 = .ok (.getfield 42, 3) := by decide +kernel
theorem dX12_readLaw_85 : decode MX12_readLaw.2.1 85 = .ok (.iload_n 2, 1) := by decide +kernel
theorem dX12_readLaw_86 : decode MX12_readLaw.2.1 86 = .ok (.iload_n 3, 1) := by decide +kernel
theorem dX12_readLaw_87 : decode MX12_readLaw.2.1 87 = .ok (.iadd, 1) := by decide +kernel
theorem dX12_readLaw_88 : decode MX12_readLaw.2.1 88 = .ok (.iconst 0, 1) := by decide +kernel
theorem dX12_readLaw_89 : decode MX12_readLaw.2.1 89 = .ok (.iastore, 1) := by decide +kernel
theorem dX12_readLaw_90 : decode MX12_readLaw.2.1 90 = .ok (.iinc 3 1, 3) := by decide +kernel
theorem dX12_readLaw_93 : decode MX12_readLaw.2.1 93 = .ok (.goto (-18), 3) := by decide +kernel
theorem dX12_readLaw_96 : decode MX12_readLaw.2.1 96 = .ok (.aload_n 0, 1) := by decide +kernel
theorem dX12_readLaw_97 : decode MX12_readLaw.2.1 97 = .ok (.getfield 42, 3) := by decide +kernel
theorem dX12_readLaw_100 : decode MX12_readLaw.2.1 100 = .ok (.iload_n 2, 1) := by decide +kernel
theorem dX12_readLaw_101 : decode MX12_readLaw.2.1 101 = .ok (.iload_n 1, 1) := by decide +kernel
theorem dX12_readLaw_102 : decode MX12_readLaw.2.1 102 = .ok (.iastore, 1) := by decide +kernel
theorem dX12_readLaw_103 : decode MX12_readLaw.2.1 103 = .ok (.aload_n 0, 1) := by decide +kernel
theorem dX12_readLaw_104 : decode MX12_readLaw.2.1 104 = .ok (.dup, 1) := by decide +kernel
theorem dX12_readLaw_105 : decode MX12_readLaw.2.1 105 = .ok (.getfield 370, 3) := by decide +kernel
theorem dX12_readLaw_108 : decode MX12_readLaw.2.1 108 = .ok (.iconst 1, 1) := by decide +kernel
theorem dX12_readLaw_109 : decode MX12_readLaw.2.1 109 = .ok (.iadd, 1) := by decide +kernel
theorem dX12_readLaw_110 : decode MX12_readLaw.2.1 110 = .ok (.putfield 370, 3) := by decide +kernel
theorem dX12_readLaw_113 : decode MX12_readLaw.2.1 113 = .ok (.aload_n 0, 1) := by decide +kernel
theorem dX12_readLaw_114 : decode MX12_readLaw.2.1 114 = .ok (.getfield 42, 3) := by decide +kernel
theorem dX12_readLaw_117 : decode MX12_readLaw.2.1 117 = .ok (.iload_n 2, 1) := by decide +kernel
theorem dX12_readLaw_118 : decode MX12_readLaw.2.1 118 = .ok (.iconst 3, 1) := by decide +kernel
theorem dX12_readLaw_119 : decode MX12_readLaw.2.1 119 = .ok (.iadd, 1) := by decide +kernel
theorem dX12_readLaw_120 : decode MX12_readLaw.2.1 120 = .ok (.aload_n 0, 1) := by decide +kernel
theorem dX12_readLaw_121 : decode MX12_readLaw.2.1 121 = .ok (.getfield 278, 3) := by decide +kernel
theorem dX12_readLaw_124 : decode MX12_readLaw.2.1 124 = .ok (.iastore, 1) := by decide +kernel
theorem dX12_readLaw_125 : decode MX12_readLaw.2.1 125 = .ok (.iload_n 1, 1) := by decide +kernel
theorem dX12_readLaw_126 : decode MX12_readLaw.2.1 126 = .ok (.iconst 3, 1) := by decide +kernel
theorem dX12_readLaw_127 : decode MX12_readLaw.2.1 127 = .ok (.if_icmp .eq 8, 3) := by decide +kernel
theorem dX12_readLaw_130 : decode MX12_readLaw.2.1 130 = .ok (.aload_n 0, 1) := by decide +kernel
theorem dX12_readLaw_131 : decode MX12_readLaw.2.1 131 = .ok (.iconst 0, 1) := by decide +kernel
theorem dX12_readLaw_132 : decode MX12_readLaw.2.1 132 = .ok (.invokevirtual 373, 3) := by decide +kernel
theorem dX12_readLaw_135 : decode MX12_readLaw.2.1 135 = .ok (.aload_n 0, 1) := by decide +kernel
theorem dX12_readLaw_136 : decode MX12_readLaw.2.1 136 = .ok (.getfield 42, 3) := by decide +kernel
theorem dX12_readLaw_139 : decode MX12_readLaw.2.1 139 = .ok (.iload_n 2, 1) := by decide +kernel
theorem dX12_readLaw_140 : decode MX12_readLaw.2.1 140 = .ok (.iconst 4, 1) := by decide +kernel
theorem dX12_readLaw_141 : decode MX12_readLaw.2.1 141 = .ok (.iadd, 1) := by decide +kernel
theorem dX12_readLaw_142 : decode MX12_readLaw.2.1 142 = .ok (.aload_n 0, 1) := by decide +kernel
theorem dX12_readLaw_143 : decode MX12_readLaw.2.1 143 = .ok (.getfield 278, 3) := by decide +kernel
theorem dX12_readLaw_146 : decode MX12_readLaw.2.1 146 = .ok (.iastore, 1) := by decide +kernel
theorem dX12_readLaw_147 : decode MX12_readLaw.2.1 147 = .ok (.aload_n 0, 1) := by decide +kernel
theorem dX12_readLaw_148 : decode MX12_readLaw.2.1 148 = .ok (.getfield 42, 3) := by decide +kernel
theorem dX12_readLaw_151 : decode MX12_readLaw.2.1 151 = .ok (.iload_n 2, 1) := by decide +kernel
theorem dX12_readLaw_152 : decode MX12_readLaw.2.1 152 = .ok (.iconst 5, 1) := by decide +kernel
theorem dX12_readLaw_153 : decode MX12_readLaw.2.1 153 = .ok (.iadd, 1) := by decide +kernel
theorem dX12_readLaw_154 : decode MX12_readLaw.2.1 154 = .ok (.aload_n 0, 1) := by decide +kernel
theorem dX12_readLaw_155 : decode MX12_readLaw.2.1 155 = .ok (.getfield 278, 3) := by decide +kernel
theorem dX12_readLaw_158 : decode MX12_readLaw.2.1 158 = .ok (.iastore, 1) := by decide +kernel
theorem dX12_readLaw_159 : decode MX12_readLaw.2.1 159 = .ok (.aload_n 0, 1) := by decide +kernel
theorem dX12_readLaw_160 : decode MX12_readLaw.2.1 160 = .ok (.getfield 239, 3) := by decide +kernel
theorem dX12_readLaw_163 : decode MX12_readLaw.2.1 163 = .ok (.ifCond .ne 22, 3) := by decide +kernel
theorem dX12_readLaw_166 : decode MX12_readLaw.2.1 166 = .ok (.aload_n 0, 1) := by decide +kernel
theorem dX12_readLaw_167 : decode MX12_readLaw.2.1 167 = .ok (.ldc2_w 376, 3) := by decide +kernel
theorem dX12_readLaw_170 : decode MX12_readLaw.2.1 170 = .ok (.invokevirtual 299, 3) := by decide +kernel
theorem dX12_readLaw_173 : decode MX12_readLaw.2.1 173 = .ok (.ifCond .eq 12, 3) := by decide +kernel
theorem dX12_readLaw_176 : decode MX12_readLaw.2.1 176 = .ok (.aload_n 0, 1) := by decide +kernel
theorem dX12_readLaw_177 : decode MX12_readLaw.2.1 177 = .ok (.invokevirtual 243, 3) := by decide +kernel
theorem dX12_readLaw_180 : decode MX12_readLaw.2.1 180 = .ok (.aload_n 0, 1) := by decide +kernel
theorem dX12_readLaw_181 : decode MX12_readLaw.2.1 181 = .ok (.iconst 1, 1) := by decide +kernel
theorem dX12_readLaw_182 : decode MX12_readLaw.2.1 182 = .ok (.invokevirtual 373, 3) := by decide +kernel
theorem dX12_readLaw_185 : decode MX12_readLaw.2.1 185 = .ok (.aload_n 0, 1) := by decide +kernel
theorem dX12_readLaw_186 : decode MX12_readLaw.2.1 186 = .ok (.getfield 42, 3) := by decide +kernel
theorem dX12_readLaw_189 : decode MX12_readLaw.2.1 189 = .ok (.iload_n 2, 1) := by decide +kernel
theorem dX12_readLaw_190 : decode MX12_readLaw.2.1 190 = .ok (.bipush 6, 2) := by decide +kernel
theorem dX12_readLaw_192 : decode MX12_readLaw.2.1 192 = .ok (.iadd, 1) := by decide +kernel
theorem dX12_readLaw_193 : decode MX12_readLaw.2.1 193 = .ok (.aload_n 0, 1) := by decide +kernel
theorem dX12_readLaw_194 : decode MX12_readLaw.2.1 194 = .ok (.getfield 278, 3) := by decide +kernel
theorem dX12_readLaw_197 : decode MX12_readLaw.2.1 197 = .ok (.iastore, 1) := by decide +kernel
theorem dX12_readLaw_198 : decode MX12_readLaw.2.1 198 = .ok (.return_, 1) := by decide +kernel
theorem dX12_law_0 : decode MX12_law.2.1 0 = .ok (.aload_n 0, 1) := by decide +kernel
theorem dX12_law_1 : decode MX12_law.2.1 1 = .ok (.iconst 0, 1) := by decide +kernel
theorem dX12_law_2 : decode MX12_law.2.1 2 = .ok (.putfield 163, 3) := by decide +kernel
theorem dX12_law_5 : decode MX12_law.2.1 5 = .ok (.aload_n 0, 1) := by decide +kernel
theorem dX12_law_6 : decode MX12_law.2.1 6 = .ok (.getfield 13, 3) := by decide +kernel
theorem dX12_law_9 : decode MX12_law.2.1 9 = .ok (.iconst 4, 1) := by decide +kernel
theorem dX12_law_10 : decode MX12_law.2.1 10 = .ok (.iaload, 1) := by decide +kernel
theorem dX12_law_11 : decode MX12_law.2.1 11 = .ok (.bipush 6, 2) := by decide +kernel
theorem dX12_law_13 : decode MX12_law.2.1 13 = .ok (.if_icmp .ne 15, 3) := by decide +kernel
theorem dX12_law_16 : decode MX12_law.2.1 16 = .ok (.aload_n 0, 1) := by decide +kernel
theorem dX12_law_17 : decode MX12_law.2.1 17 = .ok (.iconst 0, 1) := by decide +kernel
theorem dX12_law_18 : decode MX12_law.2.1 18 = .ok (.putfield 227, 3) := by decide +kernel
theorem dX12_law_21 : decode MX12_law.2.1 21 = .ok (.aload_n 0, 1) := by decide +kernel
theorem dX12_law_22 : decode MX12_law.2.1 22 = .ok (.bipush (-5), 2) := by decide +kernel
theorem dX12_law_24 : decode MX12_law.2.1 24 = .ok (.invokevirtual 176, 3) := by decide +kernel
theorem dX12_law_27 : decode MX12_law.2.1 27 = .ok (.ireturn, 1) := by decide +kernel
theorem dX12_law_28 : decode MX12_law.2.1 28 = .ok (.aload_n 0, 1) := by decide +kernel
theorem dX12_law_29 : decode MX12_law.2.1 29 = .ok (.iconst 0, 1) := by decide +kernel
theorem dX12_law_30 : decode MX12_law.2.1 30 = .ok (.invokevirtual 378, 3) := by decide +kernel
theorem dX12_law_33 : decode MX12_law.2.1 33 = .ok (.aload_n 0, 1) := by decide +kernel
theorem dX12_law_34 : decode MX12_law.2.1 34 = .ok (.invokevirtual 381, 3) := by decide +kernel
theorem dX12_law_37 : decode MX12_law.2.1 37 = .ok (.aload_n 0, 1) := by decide +kernel
theorem dX12_law_38 : decode MX12_law.2.1 38 = .ok (.getfield 239, 3) := by decide +kernel
theorem dX12_law_41 : decode MX12_law.2.1 41 = .ok (.ifCond .ne 23, 3) := by decide +kernel
theorem dX12_law_44 : decode MX12_law.2.1 44 = .ok (.aload_n 0, 1) := by decide +kernel
theorem dX12_law_45 : decode MX12_law.2.1 45 = .ok (.bipush 59, 2) := by decide +kernel
theorem dX12_law_47 : decode MX12_law.2.1 47 = .ok (.invokevirtual 312, 3) := by decide +kernel
theorem dX12_law_50 : decode MX12_law.2.1 50 = .ok (.ifCond .eq 14, 3) := by decide +kernel
theorem dX12_law_53 : decode MX12_law.2.1 53 = .ok (.aload_n 0, 1) := by decide +kernel
theorem dX12_law_54 : decode MX12_law.2.1 54 = .ok (.invokevirtual 243, 3) := by decide +kernel
theorem dX12_law_57 : decode MX12_law.2.1 57 = .ok (.aload_n 0, 1) := by decide +kernel
theorem dX12_law_58 : decode MX12_law.2.1 58 = .ok (.invokevirtual 381, 3) := by decide +kernel
theorem dX12_law_61 : decode MX12_law.2.1 61 = .ok (.goto (-24), 3) := by decide +kernel
theorem dX12_law_64 : decode MX12_law.2.1 64 = .ok (.aload_n 0, 1) := by decide +kernel
theorem dX12_law_65 : decode MX12_law.2.1 65 = .ok (.invokevirtual 384, 3) := by decide +kernel
theorem dX12_law_68 : decode MX12_law.2.1 68 = .ok (.aload_n 0, 1) := by decide +kernel
theorem dX12_law_69 : decode MX12_law.2.1 69 = .ok (.getfield 239, 3) := by decide +kernel
theorem dX12_law_72 : decode MX12_law.2.1 72 = .ok (.ifCond .eq 10, 3) := by decide +kernel
theorem dX12_law_75 : decode MX12_law.2.1 75 = .ok (.aload_n 0, 1) := by decide +kernel
theorem dX12_law_76 : decode MX12_law.2.1 76 = .ok (.bipush (-6), 2) := by decide +kernel
theorem dX12_law_78 : decode MX12_law.2.1 78 = .ok (.invokevirtual 176, 3) := by decide +kernel
theorem dX12_law_81 : decode MX12_law.2.1 81 = .ok (.ireturn, 1) := by decide +kernel
theorem dX12_law_82 : decode MX12_law.2.1 82 = .ok (.sipush 260, 3) := by decide +kernel
theorem dX12_law_85 : decode MX12_law.2.1 85 = .ok (.sipush 900, 3) := by decide +kernel
theorem dX12_law_88 : decode MX12_law.2.1 88 = .ok (.aload_n 0, 1) := by decide +kernel
theorem dX12_law_89 : decode MX12_law.2.1 89 = .ok (.getfield 13, 3) := by decide +kernel
theorem dX12_law_92 : decode MX12_law.2.1 92 = .ok (.iconst 4, 1) := by decide +kernel
theorem dX12_law_93 : decode MX12_law.2.1 93 = .ok (.iaload, 1) := by decide +kernel
theorem dX12_law_94 : decode MX12_law.2.1 94 = .ok (.imul, 1) := by decide +kernel
theorem dX12_law_95 : decode MX12_law.2.1 95 = .ok (.iadd, 1) := by decide +kernel
theorem dX12_law_96 : decode MX12_law.2.1 96 = .ok (.istore_n 1, 1) := by decide +kernel
theorem dX12_law_97 : decode MX12_law.2.1 97 = .ok (.aload_n 0, 1) := by decide +kernel
theorem dX12_law_98 : decode MX12_law.2.1 98 = .ok (.getfield 13, 3) := by decide +kernel
theorem dX12_law_101 : decode MX12_law.2.1 101 = .ok (.iload_n 1, 1) := by decide +kernel
theorem dX12_law_102 : decode MX12_law.2.1 102 = .ok (.iconst 1, 1) := by decide +kernel
theorem dX12_law_103 : decode MX12_law.2.1 103 = .ok (.iadd, 1) := by decide +kernel
theorem dX12_law_104 : decode MX12_law.2.1 104 = .ok (.aload_n 0, 1) := by decide +kernel
theorem dX12_law_105 : decode MX12_law.2.1 105 = .ok (.getfield 370, 3) := by decide +kernel
theorem dX12_law_108 : decode MX12_law.2.1 108 = .ok (.iastore, 1) := by decide +kernel
theorem dX12_law_109 : decode MX12_law.2.1 109 = .ok (.iconst 0, 1) := by decide +kernel
theorem dX12_law_110 : decode MX12_law.2.1 110 = .ok (.istore_n 2, 1) := by decide +kernel
theorem dX12_law_111 : decode MX12_law.2.1 111 = .ok (.iload_n 2, 1) := by decide +kernel
theorem dX12_law_112 : decode MX12_law.2.1 112 = .ok (.bipush 8, 2) := by decide +kernel
theorem dX12_law_114 : decode MX12_law.2.1 114 = .ok (.aload_n 0, 1) := by decide +kernel
theorem dX12_law_115 : decode MX12_law.2.1 115 = .ok (.getfield 370, 3) := by decide +kernel
theorem dX12_law_118 : decode MX12_law.2.1 118 = .ok (.imul, 1) := by decide +kernel
theorem dX12_law_119 : decode MX12_law.2.1 119 = .ok (.if_icmp .ge 25, 3) := by decide +kernel
theorem dX12_law_122 : decode MX12_law.2.1 122 = .ok (.aload_n 0, 1) := by decide +kernel
theorem dX12_law_123 : decode MX12_law.2.1 123 = .ok (.getfield 13, 3) := by decide +kernel
theorem dX12_law_126 : decode MX12_law.2.1 126 = .ok (.iload_n 1, 1) := by decide +kernel
theorem dX12_law_127 : decode MX12_law.2.1 127 = .ok (.iconst 2, 1) := by decide +kernel
theorem dX12_law_128 : decode MX12_law.2.1 128 = .ok (.iadd, 1) := by decide +kernel
theorem dX12_law_129 : decode MX12_law.2.1 129 = .ok (.iload_n 2, 1) := by decide +kernel
theorem dX12_law_130 : decode MX12_law.2.1 130 = .ok (.iadd, 1) := by decide +kernel
theorem dX12_law_131 : decode MX12_law.2.1 131 = .ok (.aload_n 0, 1) := by decide +kernel
theorem dX12_law_132 : decode MX12_law.2.1 132 = .ok (.getfield 42, 3) := by decide +kernel
theorem dX12_law_135 : decode MX12_law.2.1 135 = .ok (.iload_n 2, 1) := by decide +kernel
theorem dX12_law_136 : decode MX12_law.2.1 136 = .ok (.iaload, 1) := by decide +kernel
theorem dX12_law_137 : decode MX12_law.2.1 137 = .ok (.iastore, 1) := by decide +kernel
theorem dX12_law_138 : decode MX12_law.2.1 138 = .ok (.iinc 2 1, 3) := by decide +kernel
theorem dX12_law_141 : decode MX12_law.2.1 141 = .ok (.goto (-30), 3) := by decide +kernel
theorem dX12_law_144 : decode MX12_law.2.1 144 = .ok (.iconst 0, 1) := by decide +kernel
theorem dX12_law_145 : decode MX12_law.2.1 145 = .ok (.istore_n 2, 1) := by decide +kernel
theorem dX12_law_146 : decode MX12_law.2.1 146 = .ok (.iload_n 2, 1) := by decide +kernel
theorem dX12_law_147 : decode MX12_law.2.1 147 = .ok (.aload_n 0, 1) := by decide +kernel
theorem dX12_law_148 : decode MX12_law.2.1 148 = .ok (.getfield 278, 3) := by decide +kernel
theorem dX12_law_151 : decode MX12_law.2.1 151 = .ok (.if_icmp .ge 49, 3) := by decide +kernel
theorem dX12_law_154 : decode MX12_law.2.1 154 = .ok (.aload_n 0, 1) := by decide +kernel
theorem dX12_law_155 : decode MX12_law.2.1 155 = .ok (.getfield 13, 3) := by decide +kernel
theorem dX12_law_158 : decode MX12_law.2.1 158 = .ok (.iload_n 1, 1) := by decide +kernel
theorem dX12_law_159 : decode MX12_law.2.1 159 = .ok (.bipush 98, 2) := by decide +kernel
theorem dX12_law_161 : decode MX12_law.2.1 161 = .ok (.iadd, 1) := by decide +kernel
theorem dX12_law_162 : decode MX12_law.2.1 162 = .ok (.iconst 2, 1) := by decide +kernel
theorem dX12_law_163 : decode MX12_law.2.1 163 = .ok (.iload_n 2, 1) := by decide +kernel
theorem dX12_law_164 : decode MX12_law.2.1 164 = .ok (.imul, 1) := by decide +kernel
theorem dX12_law_165 : decode MX12_law.2.1 165 = .ok (.iadd, 1) := by decide +kernel
theorem dX12_law_166 : decode MX12_law.2.1 166 = .ok (.aload_n 0, 1) := by decide +kernel
theorem dX12_law_167 : decode MX12_law.2.1 167 = .ok (.getfield 45, 3) := by decide +kernel
theorem dX12_law_170 : decode MX12_law.2.1 170 = .ok (.iload_n 2, 1) := by decide +kernel
theorem dX12_law_171 : decode MX12_law.2.1 171 = .ok (.iaload, 1) := by decide +kernel
theorem dX12_law_172 : decode MX12_law.2.1 172 = .ok (.iastore, 1) := by decide +kernel
theorem dX12_law_173 : decode MX12_law.2.1 173 = .ok (.aload_n 0, 1) := by decide +kernel
theorem dX12_law_174 : decode MX12_law.2.1 174 = .ok (.getfield 13, 3) := by decide +kernel
theorem dX12_law_177 : decode MX12_law.2.1 177 = .ok (.iload_n 1, 1) := by decide +kernel
theorem dX12_law_178 : decode MX12_law.2.1 178 = .ok (.bipush 98, 2) := by decide +kernel
theorem dX12_law_180 : decode MX12_law.2.1 180 = .ok (.iadd, 1) := by decide +kernel
theorem dX12_law_181 : decode MX12_law.2.1 181 = .ok (.iconst 2, 1) := by decide +kernel
theorem dX12_law_182 : decode MX12_law.2.1 182 = .ok (.iload_n 2, 1) := by decide +kernel
theorem dX12_law_183 : decode MX12_law.2.1 183 = .ok (.imul, 1) := by decide +kernel
theorem dX12_law_184 : decode MX12_law.2.1 184 = .ok (.iadd, 1) := by decide +kernel
theorem dX12_law_185 : decode MX12_law.2.1 185 = .ok (.iconst 1, 1) := by decide +kernel
theorem dX12_law_186 : decode MX12_law.2.1 186 = .ok (.iadd, 1) := by decide +kernel
theorem dX12_law_187 : decode MX12_law.2.1 187 = .ok (.aload_n 0, 1) := by decide +kernel
theorem dX12_law_188 : decode MX12_law.2.1 188 = .ok (.getfield 48, 3) := by decide +kernel
theorem dX12_law_191 : decode MX12_law.2.1 191 = .ok (.iload_n 2, 1) := by decide +kernel
theorem dX12_law_192 : decode MX12_law.2.1 192 = .ok (.iaload, 1) := by decide +kernel
theorem dX12_law_193 : decode MX12_law.2.1 193 = .ok (.iastore, 1) := by decide +kernel
theorem dX12_law_194 : decode MX12_law.2.1 194 = .ok (.iinc 2 1, 3) := by decide +kernel
theorem dX12_law_197 : decode MX12_law.2.1 197 = .ok (.goto (-51), 3) := by decide +kernel
theorem dX12_law_200 : decode MX12_law.2.1 200 = .ok (.aload_n 0, 1) := by decide +kernel
theorem dX12_law_201 : decode MX12_law.2.1 201 = .ok (.getfield 13, 3) := by decide +kernel
theorem dX12_law_204 : decode MX12_law.2.1 204 = .ok (.iconst 4, 1) := by decide +kernel
theorem dX12_law_205 : decode MX12_law.2.1 205 = .ok (.dup2, 1) := by decide +kernel
theorem dX12_law_206 : decode MX12_law.2.1 206 = .ok (.iaload, 1) := by decide +kernel
theorem dX12_law_207 : decode MX12_law.2.1 207 = .ok (.iconst 1, 1) := by decide +kernel
theorem dX12_law_208 : decode MX12_law.2.1 208 = .ok (.iadd, 1) := by decide +kernel
theorem dX12_law_209 : decode MX12_law.2.1 209 = .ok (.iastore, 1) := by decide +kernel
theorem dX12_law_210 : decode MX12_law.2.1 210 = .ok (.aload_n 0, 1) := by decide +kernel
theorem dX12_law_211 : decode MX12_law.2.1 211 = .ok (.aload_n 0, 1) := by decide +kernel
theorem dX12_law_212 : decode MX12_law.2.1 212 = .ok (.getfield 13, 3) := by decide +kernel
theorem dX12_law_215 : decode MX12_law.2.1 215 = .ok (.iconst 4, 1) := by decide +kernel
theorem dX12_law_216 : decode MX12_law.2.1 216 = .ok (.iaload, 1) := by decide +kernel
theorem dX12_law_217 : decode MX12_law.2.1 217 = .ok (.iconst 1, 1) := by decide +kernel
theorem dX12_law_218 : decode MX12_law.2.1 218 = .ok (.isub, 1) := by decide +kernel
theorem dX12_law_219 : decode MX12_law.2.1 219 = .ok (.invokevirtual 176, 3) := by decide +kernel
theorem dX12_law_222 : decode MX12_law.2.1 222 = .ok (.ireturn, 1) := by decide +kernel
theorem dX12_force_0 : decode MX12_force.2.1 0 = .ok (.aload_n 0, 1) := by decide +kernel
theorem dX12_force_1 : decode MX12_force.2.1 1 = .ok (.iconst 0, 1) := by decide +kernel
theorem dX12_force_2 : decode MX12_force.2.1 2 = .ok (.putfield 163, 3) := by decide +kernel
theorem dX12_force_5 : decode MX12_force.2.1 5 = .ok (.iload_n 1, 1) := by decide +kernel
theorem dX12_force_6 : decode MX12_force.2.1 6 = .ok (.iconst (-1), 1) := by decide +kernel
theorem dX12_force_7 : decode MX12_force.2.1 7 = .ok (.if_icmp .eq 21, 3) := by decide +kernel
theorem dX12_force_10 : decode MX12_force.2.1 10 = .ok (.iload_n 1, 1) := by decide +kernel
theorem dX12_force_11 : decode MX12_force.2.1 11 = .ok (.i2l, 1) := by decide +kernel
theorem dX12_force_12 : decode MX12_force.2.1 12 = .ok (.lconst 0, 1) := by decide +kernel
theorem dX12_force_13 : decode MX12_force.2.1 13 = .ok (.aload_n 0, 1) := by decide +kernel
theorem dX12_force_14 : decode MX12_force.2.1 14 = .ok (.getfield 13, 3) := by decide +kernel
theorem dX12_force_17 : decode MX12_force.2.1 17 = .ok (.iconst 4, 1) := by decide +kernel
theorem dX12_force_18 : decode MX12_force.2.1 18 = .ok (.iaload, 1) := by decide +kernel
theorem dX12_force_19 : decode MX12_force.2.1 19 = .ok (.i2l, 1) := by decide +kernel
theorem dX12_force_20 : decode MX12_force.2.1 20 = .ok (.lconst 1, 1) := by decide +kernel
theorem dX12_force_21 : decode MX12_force.2.1 21 = .ok (.lsub, 1) := by decide +kernel
theorem dX12_force_22 : decode MX12_force.2.1 22 = .ok (.invokestatic 183, 3) := by decide +kernel
theorem dX12_force_25 : decode MX12_force.2.1 25 = .ok (.ifCond .eq 12, 3) := by decide +kernel
theorem dX12_force_28 : decode MX12_force.2.1 28 = .ok (.aload_n 0, 1) := by decide +kernel
theorem dX12_force_29 : decode MX12_force.2.1 29 = .ok (.iconst 5, 1) := by decide +kernel
theorem dX12_force_30 : decode MX12_force.2.1 30 = .ok (.iload_n 1, 1) := by decide +kernel
theorem dX12_force_31 : decode MX12_force.2.1 31 = .ok (.invokevirtual 207, 3) := by decide +kernel
theorem dX12_force_34 : decode MX12_force.2.1 34 = .ok (.goto 9, 3) := by decide +kernel
theorem dX12_force_37 : decode MX12_force.2.1 37 = .ok (.aload_n 0, 1) := by decide +kernel
theorem dX12_force_38 : decode MX12_force.2.1 38 = .ok (.bipush (-2), 2) := by decide +kernel
theorem dX12_force_40 : decode MX12_force.2.1 40 = .ok (.invokevirtual 176, 3) := by decide +kernel
theorem dX12_force_43 : decode MX12_force.2.1 43 = .ok (.ireturn, 1) := by decide +kernel
theorem dX12_reckon_0 : decode MX12_reckon.2.1 0 = .ok (.iload_n 1, 1) := by decide +kernel
theorem dX12_reckon_1 : decode MX12_reckon.2.1 1 = .ok (.tableswitch 148 20 26 #[43, 48, 53, 58, 90, 122, 135], 43) := by decide +kernel
theorem dX12_reckon_44 : decode MX12_reckon.2.1 44 = .ok (.lload_n 2, 1) := by decide +kernel
theorem dX12_reckon_45 : decode MX12_reckon.2.1 45 = .ok (.lload 4, 2) := by decide +kernel
theorem dX12_reckon_47 : decode MX12_reckon.2.1 47 = .ok (.ladd, 1) := by decide +kernel
theorem dX12_reckon_48 : decode MX12_reckon.2.1 48 = .ok (.lreturn, 1) := by decide +kernel
theorem dX12_reckon_49 : decode MX12_reckon.2.1 49 = .ok (.lload_n 2, 1) := by decide +kernel
theorem dX12_reckon_50 : decode MX12_reckon.2.1 50 = .ok (.lload 4, 2) := by decide +kernel
theorem dX12_reckon_52 : decode MX12_reckon.2.1 52 = .ok (.lsub, 1) := by decide +kernel
theorem dX12_reckon_53 : decode MX12_reckon.2.1 53 = .ok (.lreturn, 1) := by decide +kernel
theorem dX12_reckon_54 : decode MX12_reckon.2.1 54 = .ok (.lload_n 2, 1) := by decide +kernel
theorem dX12_reckon_55 : decode MX12_reckon.2.1 55 = .ok (.lload 4, 2) := by decide +kernel
theorem dX12_reckon_57 : decode MX12_reckon.2.1 57 = .ok (.lmul, 1) := by decide +kernel
theorem dX12_reckon_58 : decode MX12_reckon.2.1 58 = .ok (.lreturn, 1) := by decide +kernel
theorem dX12_reckon_59 : decode MX12_reckon.2.1 59 = .ok (.aload_n 0, 1) := by decide +kernel
theorem dX12_reckon_60 : decode MX12_reckon.2.1 60 = .ok (.lload 4, 2) := by decide +kernel
theorem dX12_reckon_62 : decode MX12_reckon.2.1 62 = .ok (.lconst 0, 1) := by decide +kernel
theorem dX12_reckon_63 : decode MX12_reckon.2.1 63 = .ok (.lcmp, 1) := by decide +kernel
theorem dX12_reckon_64 : decode MX12_reckon.2.1 64 = .ok (.ifCond .ne 7, 3) := by decide +kernel
theorem dX12_reckon_67 : decode MX12_reckon.2.1 67 = .ok (.iconst 1, 1) := by decide +kernel
theorem dX12_reckon_68 : decode MX12_reckon.2.1 68 = .ok (.goto 4, 3) := by decide +kernel
theorem dX12_reckon_71 : decode MX12_reckon.2.1 71 = .ok (.iconst 0, 1) := by decide +kernel
theorem dX12_reckon_72 : decode MX12_reckon.2.1 72 = .ok (.putfield 387, 3) := by decide +kernel
theorem dX12_reckon_75 : decode MX12_reckon.2.1 75 = .ok (.aload_n 0, 1) := by decide +kernel
theorem dX12_reckon_76 : decode MX12_reckon.2.1 76 = .ok (.getfield 387, 3) := by decide +kernel
theorem dX12_reckon_79 : decode MX12_reckon.2.1 79 = .ok (.ifCond .eq 7, 3) := by decide +kernel
theorem dX12_reckon_82 : decode MX12_reckon.2.1 82 = .ok (.lconst 0, 1) := by decide +kernel
theorem dX12_reckon_83 : decode MX12_reckon.2.1 83 = .ok (.goto 7, 3) := by decide +kernel
theorem dX12_reckon_86 : decode MX12_reckon.2.1 86 = .ok (.lload_n 2, 1) := by decide +kernel
theorem dX12_reckon_87 : decode MX12_reckon.2.1 87 = .ok (.lload 4, 2) := by decide +kernel
theorem dX12_reckon_89 : decode MX12_reckon.2.1 89 = .ok (.ldiv, 1) := by decide +kernel
theorem dX12_reckon_90 : decode MX12_reckon.2.1 90 = .ok (.lreturn, 1) := by decide +kernel
theorem dX12_reckon_91 : decode MX12_reckon.2.1 91 = .ok (.aload_n 0, 1) := by decide +kernel
theorem dX12_reckon_92 : decode MX12_reckon.2.1 92 = .ok (.lload 4, 2) := by decide +kernel
theorem dX12_reckon_94 : decode MX12_reckon.2.1 94 = .ok (.lconst 0, 1) := by decide +kernel
theorem dX12_reckon_95 : decode MX12_reckon.2.1 95 = .ok (.lcmp, 1) := by decide +kernel
theorem dX12_reckon_96 : decode MX12_reckon.2.1 96 = .ok (.ifCond .ne 7, 3) := by decide +kernel
theorem dX12_reckon_99 : decode MX12_reckon.2.1 99 = .ok (.iconst 1, 1) := by decide +kernel
theorem dX12_reckon_100 : decode MX12_reckon.2.1 100 = .ok (.goto 4, 3) := by decide +kernel
theorem dX12_reckon_103 : decode MX12_reckon.2.1 103 = .ok (.iconst 0, 1) := by decide +kernel
theorem dX12_reckon_104 : decode MX12_reckon.2.1 104 = .ok (.putfield 387, 3) := by decide +kernel
theorem dX12_reckon_107 : decode MX12_reckon.2.1 107 = .ok (.aload_n 0, 1) := by decide +kernel
theorem dX12_reckon_108 : decode MX12_reckon.2.1 108 = .ok (.getfield 387, 3) := by decide +kernel
theorem dX12_reckon_111 : decode MX12_reckon.2.1 111 = .ok (.ifCond .eq 7, 3) := by decide +kernel
theorem dX12_reckon_114 : decode MX12_reckon.2.1 114 = .ok (.lconst 0, 1) := by decide +kernel
theorem dX12_reckon_115 : decode MX12_reckon.2.1 115 = .ok (.goto 7, 3) := by decide +kernel
theorem dX12_reckon_118 : decode MX12_reckon.2.1 118 = .ok (.lload_n 2, 1) := by decide +kernel
theorem dX12_reckon_119 : decode MX12_reckon.2.1 119 = .ok (.lload 4, 2) := by decide +kernel
theorem dX12_reckon_121 : decode MX12_reckon.2.1 121 = .ok (.lrem, 1) := by decide +kernel
theorem dX12_reckon_122 : decode MX12_reckon.2.1 122 = .ok (.lreturn, 1) := by decide +kernel
theorem dX12_reckon_123 : decode MX12_reckon.2.1 123 = .ok (.lload_n 2, 1) := by decide +kernel
theorem dX12_reckon_124 : decode MX12_reckon.2.1 124 = .ok (.lload 4, 2) := by decide +kernel
theorem dX12_reckon_126 : decode MX12_reckon.2.1 126 = .ok (.lcmp, 1) := by decide +kernel
theorem dX12_reckon_127 : decode MX12_reckon.2.1 127 = .ok (.ifCond .ge 7, 3) := by decide +kernel
theorem dX12_reckon_130 : decode MX12_reckon.2.1 130 = .ok (.lconst 1, 1) := by decide +kernel
theorem dX12_reckon_131 : decode MX12_reckon.2.1 131 = .ok (.goto 4, 3) := by decide +kernel
theorem dX12_reckon_134 : decode MX12_reckon.2.1 134 = .ok (.lconst 0, 1) := by decide +kernel
theorem dX12_reckon_135 : decode MX12_reckon.2.1 135 = .ok (.lreturn, 1) := by decide +kernel
theorem dX12_reckon_136 : decode MX12_reckon.2.1 136 = .ok (.lload_n 2, 1) := by decide +kernel
theorem dX12_reckon_137 : decode MX12_reckon.2.1 137 = .ok (.lload 4, 2) := by decide +kernel
theorem dX12_reckon_139 : decode MX12_reckon.2.1 139 = .ok (.lcmp, 1) := by decide +kernel
theorem dX12_reckon_140 : decode MX12_reckon.2.1 140 = .ok (.ifCond .le 7, 3) := by decide +kernel
theorem dX12_reckon_143 : decode MX12_reckon.2.1 143 = .ok (.lconst 1, 1) := by decide +kernel
theorem dX12_reckon_144 : decode MX12_reckon.2.1 144 = .ok (.goto 4, 3) := by decide +kernel
theorem dX12_reckon_147 : decode MX12_reckon.2.1 147 = .ok (.lconst 0, 1) := by decide +kernel
theorem dX12_reckon_148 : decode MX12_reckon.2.1 148 = .ok (.lreturn, 1) := by decide +kernel
theorem dX12_reckon_149 : decode MX12_reckon.2.1 149 = .ok (.lload_n 2, 1) := by decide +kernel
theorem dX12_reckon_150 : decode MX12_reckon.2.1 150 = .ok (.lload 4, 2) := by decide +kernel
theorem dX12_reckon_152 : decode MX12_reckon.2.1 152 = .ok (.lcmp, 1) := by decide +kernel
theorem dX12_reckon_153 : decode MX12_reckon.2.1 153 = .ok (.ifCond .ne 7, 3) := by decide +kernel
theorem dX12_reckon_156 : decode MX12_reckon.2.1 156 = .ok (.lconst 1, 1) := by decide +kernel
theorem dX12_reckon_157 : decode MX12_reckon.2.1 157 = .ok (.goto 4, 3) := by decide +kernel
theorem dX12_reckon_160 : decode MX12_reckon.2.1 160 = .ok (.lconst 0, 1) := by decide +kernel
theorem dX12_reckon_161 : decode MX12_reckon.2.1 161 = .ok (.lreturn, 1) := by decide +kernel
theorem dX12_reckonAll_0 : decode MX12_reckonAll.2.1 0 = .ok (.aload_n 0, 1) := by decide +kernel
theorem dX12_reckonAll_1 : decode MX12_reckonAll.2.1 1 = .ok (.iconst 0, 1) := by decide +kernel
theorem dX12_reckonAll_2 : decode MX12_reckonAll.2.1 2 = .ok (.putfield 387, 3) := by decide +kernel
theorem dX12_reckonAll_5 : decode MX12_reckonAll.2.1 5 = .ok (.iconst 0, 1) := by decide +kernel
theorem dX12_reckonAll_6 : decode MX12_reckonAll.2.1 6 = .ok (.istore_n 3, 1) := by decide +kernel
theorem dX12_reckonAll_7 : decode MX12_reckonAll.2.1 7 = .ok (.iload_n 1, 1) := by decide +kernel
theorem dX12_reckonAll_8 : decode MX12_reckonAll.2.1 8 = .ok (.istore 4, 2) := by decide +kernel
theorem dX12_reckonAll_10 : decode MX12_reckonAll.2.1 10 = .ok (.iload 4, 2) := by decide +kernel
theorem dX12_reckonAll_12 : decode MX12_reckonAll.2.1 12 = .ok (.iload_n 2, 1) := by decide +kernel
theorem dX12_reckonAll_13 : decode MX12_reckonAll.2.1 13 = .ok (.if_icmp .ge 313, 3) := by decide +kernel
theorem dX12_reckonAll_16 : decode MX12_reckonAll.2.1 16 = .ok (.aload_n 0, 1) := by decide +kernel
theorem dX12_reckonAll_17 : decode MX12_reckonAll.2.1 17 = .ok (.getfield 387, 3) := by decide +kernel
theorem dX12_reckonAll_20 : decode MX12_reckonAll.2.1 20 = .ok (.ifCond .ne 306, 3) := by decide +kernel
theorem dX12_reckonAll_23 : decode MX12_reckonAll.2.1 23 = .ok (.aload_n 0, 1) := by decide +kernel
theorem dX12_reckonAll_24 : decode MX12_reckonAll.2.1 24 = .ok (.getfield 318, 3) := by decide +kernel
theorem dX12_reckonAll_27 : decode MX12_reckonAll.2.1 27 = .ok (.ifCond .eq 13, 3) := by decide +kernel
theorem dX12_reckonAll_30 : decode MX12_reckonAll.2.1 30 = .ok (.aload_n 0, 1) := by decide +kernel
theorem dX12_reckonAll_31 : decode MX12_reckonAll.2.1 31 = .ok (.getfield 45, 3) := by decide +kernel
theorem dX12_reckonAll_34 : decode MX12_reckonAll.2.1 34 = .ok (.iload 4, 2) := by decide +kernel
theorem dX12_reckonAll_36 : decode MX12_reckonAll.2.1 36 = .ok (.iaload, 1) := by decide +kernel
theorem dX12_reckonAll_37 : decode MX12_reckonAll.2.1 37 = .ok (.goto 20, 3) := by decide +kernel
theorem dX12_reckonAll_40 : decode MX12_reckonAll.2.1 40 = .ok (.aload_n 0, 1) := by decide +kernel
theorem dX12_reckonAll_41 : decode MX12_reckonAll.2.1 41 = .ok (.getfield 13, 3) := by decide +kernel
theorem dX12_reckonAll_44 : decode MX12_reckonAll.2.1 44 = .ok (.aload_n 0, 1) := by decide +kernel
theorem dX12_reckonAll_45 : decode MX12_reckonAll.2.1 45 = .ok (.getfield 390, 3) := by decide +kernel
theorem dX12_reckonAll_48 : decode MX12_reckonAll.2.1 48 = .ok (.bipush 98, 2) := by decide +kernel
theorem dX12_reckonAll_50 : decode MX12_reckonAll.2.1 50 = .ok (.iadd, 1) := by decide +kernel
theorem dX12_reckonAll_51 : decode MX12_reckonAll.2.1 51 = .ok (.iconst 2, 1) := by decide +kernel
theorem dX12_reckonAll_52 : decode MX12_reckonAll.2.1 52 = .ok (.iload 4, 2) := by decide +kernel
theorem dX12_reckonAll_54 : decode MX12_reckonAll.2.1 54 = .ok (.imul, 1) := by decide +kernel
theorem dX12_reckonAll_55 : decode MX12_reckonAll.2.1 55 = .ok (.iadd, 1) := by decide +kernel
theorem dX12_reckonAll_56 : decode MX12_reckonAll.2.1 56 = .ok (.iaload, 1) := by decide +kernel
theorem dX12_reckonAll_57 : decode MX12_reckonAll.2.1 57 = .ok (.istore 5, 2) := by decide +kernel
theorem dX12_reckonAll_59 : decode MX12_reckonAll.2.1 59 = .ok (.aload_n 0, 1) := by decide +kernel
theorem dX12_reckonAll_60 : decode MX12_reckonAll.2.1 60 = .ok (.getfield 318, 3) := by decide +kernel
theorem dX12_reckonAll_63 : decode MX12_reckonAll.2.1 63 = .ok (.ifCond .eq 13, 3) := by decide +kernel
theorem dX12_reckonAll_66 : decode MX12_reckonAll.2.1 66 = .ok (.aload_n 0, 1) := by decide +kernel
theorem dX12_reckonAll_67 : decode MX12_reckonAll.2.1 67 = .ok (.getfield 48, 3) := by decide +kernel
theorem dX12_reckonAll_70 : decode MX12_reckonAll.2.1 70 = .ok (.iload 4, 2) := by decide +kernel
theorem dX12_reckonAll_72 : decode MX12_reckonAll.2.1 72 = .ok (.iaload, 1) := by decide +kernel
theorem dX12_reckonAll_73 : decode MX12_reckonAll.2.1 73 = .ok (.goto 22, 3) := by decide +kernel
theorem dX12_reckonAll_76 : decode MX12_reckonAll.2.1 76 = .ok (.aload_n 0, 1) := by decide +kernel
theorem dX12_reckonAll_77 : decode MX12_reckonAll.2.1 77 = .ok (.getfield 13, 3) := by decide +kernel
theorem dX12_reckonAll_80 : decode MX12_reckonAll.2.1 80 = .ok (.aload_n 0, 1) := by decide +kernel
theorem dX12_reckonAll_81 : decode MX12_reckonAll.2.1 81 = .ok (.getfield 390, 3) := by decide +kernel
theorem dX12_reckonAll_84 : decode MX12_reckonAll.2.1 84 = .ok (.bipush 98, 2) := by decide +kernel
theorem dX12_reckonAll_86 : decode MX12_reckonAll.2.1 86 = .ok (.iadd, 1) := by decide +kernel
theorem dX12_reckonAll_87 : decode MX12_reckonAll.2.1 87 = .ok (.iconst 2, 1) := by decide +kernel
theorem dX12_reckonAll_88 : decode MX12_reckonAll.2.1 88 = .ok (.iload 4, 2) := by decide +kernel
theorem dX12_reckonAll_90 : decode MX12_reckonAll.2.1 90 = .ok (.imul, 1) := by decide +kernel
theorem dX12_reckonAll_91 : decode MX12_reckonAll.2.1 91 = .ok (.iadd, 1) := by decide +kernel
theorem dX12_reckonAll_92 : decode MX12_reckonAll.2.1 92 = .ok (.iconst 1, 1) := by decide +kernel
theorem dX12_reckonAll_93 : decode MX12_reckonAll.2.1 93 = .ok (.iadd, 1) := by decide +kernel
theorem dX12_reckonAll_94 : decode MX12_reckonAll.2.1 94 = .ok (.iaload, 1) := by decide +kernel
theorem dX12_reckonAll_95 : decode MX12_reckonAll.2.1 95 = .ok (.istore 6, 2) := by decide +kernel
theorem dX12_reckonAll_97 : decode MX12_reckonAll.2.1 97 = .ok (.iinc 4 1, 3) := by decide +kernel
theorem dX12_reckonAll_100 : decode MX12_reckonAll.2.1 100 = .ok (.iload 5, 2) := by decide +kernel
theorem dX12_reckonAll_102 : decode MX12_reckonAll.2.1 102 = .ok (.bipush 20, 2) := by decide +kernel
theorem dX12_reckonAll_104 : decode MX12_reckonAll.2.1 104 = .ok (.if_icmp .ge 80, 3) := by decide +kernel
theorem dX12_reckonAll_107 : decode MX12_reckonAll.2.1 107 = .ok (.aload_n 0, 1) := by decide +kernel
theorem dX12_reckonAll_108 : decode MX12_reckonAll.2.1 108 = .ok (.getfield 111, 3) := by decide +kernel
theorem dX12_reckonAll_111 : decode MX12_reckonAll.2.1 111 = .ok (.iload_n 3, 1) := by decide +kernel
theorem dX12_reckonAll_112 : decode MX12_reckonAll.2.1 112 = .ok (.iload 5, 2) := by decide +kernel
theorem dX12_reckonAll_114 : decode MX12_reckonAll.2.1 114 = .ok (.ifCond .ne 9, 3) := by decide +kernel
theorem dX12_reckonAll_117 : decode MX12_reckonAll.2.1 117 = .ok (.iload 6, 2) := by decide +kernel
theorem dX12_reckonAll_119 : decode MX12_reckonAll.2.1 119 = .ok (.i2l, 1) := by decide +kernel
theorem dX12_reckonAll_120 : decode MX12_reckonAll.2.1 120 = .ok (.goto 57, 3) := by decide +kernel
theorem dX12_reckonAll_123 : decode MX12_reckonAll.2.1 123 = .ok (.aload_n 0, 1) := by decide +kernel
theorem dX12_reckonAll_124 : decode MX12_reckonAll.2.1 124 = .ok (.getfield 318, 3) := by decide +kernel
theorem dX12_reckonAll_127 : decode MX12_reckonAll.2.1 127 = .ok (.ifCond .ne 13, 3) := by decide +kernel
theorem dX12_reckonAll_130 : decode MX12_reckonAll.2.1 130 = .ok (.aload_n 0, 1) := by decide +kernel
theorem dX12_reckonAll_131 : decode MX12_reckonAll.2.1 131 = .ok (.getfield 105, 3) := by decide +kernel
theorem dX12_reckonAll_134 : decode MX12_reckonAll.2.1 134 = .ok (.iload 5, 2) := by decide +kernel
theorem dX12_reckonAll_136 : decode MX12_reckonAll.2.1 136 = .ok (.laload, 1) := by decide +kernel
theorem dX12_reckonAll_137 : decode MX12_reckonAll.2.1 137 = .ok (.goto 40, 3) := by decide +kernel
theorem dX12_reckonAll_140 : decode MX12_reckonAll.2.1 140 = .ok (.iload 5, 2) := by decide +kernel
theorem dX12_reckonAll_142 : decode MX12_reckonAll.2.1 142 = .ok (.bipush 6, 2) := by decide +kernel
theorem dX12_reckonAll_144 : decode MX12_reckonAll.2.1 144 = .ok (.if_icmp .ge 13, 3) := by decide +kernel
theorem dX12_reckonAll_147 : decode MX12_reckonAll.2.1 147 = .ok (.aload_n 0, 1) := by decide +kernel
theorem dX12_reckonAll_148 : decode MX12_reckonAll.2.1 148 = .ok (.getfield 108, 3) := by decide +kernel
theorem dX12_reckonAll_151 : decode MX12_reckonAll.2.1 151 = .ok (.iload 5, 2) := by decide +kernel
theorem dX12_reckonAll_153 : decode MX12_reckonAll.2.1 153 = .ok (.laload, 1) := by decide +kernel
theorem dX12_reckonAll_154 : decode MX12_reckonAll.2.1 154 = .ok (.goto 23, 3) := by decide +kernel
theorem dX12_reckonAll_157 : decode MX12_reckonAll.2.1 157 = .ok (.aload_n 0, 1) := by decide +kernel
theorem dX12_reckonAll_158 : decode MX12_reckonAll.2.1 158 = .ok (.iload 6, 2) := by decide +kernel
theorem dX12_reckonAll_160 : decode MX12_reckonAll.2.1 160 = .ok (.iload 5, 2) := by decide +kernel
theorem dX12_reckonAll_162 : decode MX12_reckonAll.2.1 162 = .ok (.bipush 6, 2) := by decide +kernel
theorem dX12_reckonAll_164 : decode MX12_reckonAll.2.1 164 = .ok (.if_icmp .ne 7, 3) := by decide +kernel
theorem dX12_reckonAll_167 : decode MX12_reckonAll.2.1 167 = .ok (.iconst 0, 1) := by decide +kernel
theorem dX12_reckonAll_168 : decode MX12_reckonAll.2.1 168 = .ok (.goto 5, 3) := by decide +kernel
theorem dX12_reckonAll_171 : decode MX12_reckonAll.2.1 171 = .ok (.bipush 8, 2) := by decide +kernel
theorem dX12_reckonAll_173 : decode MX12_reckonAll.2.1 173 = .ok (.invokevirtual 210, 3) := by decide +kernel
theorem dX12_reckonAll_176 : decode MX12_reckonAll.2.1 176 = .ok (.i2l, 1) := by decide +kernel
theorem dX12_reckonAll_177 : decode MX12_reckonAll.2.1 177 = .ok (.lastore, 1) := by decide +kernel
theorem dX12_reckonAll_178 : decode MX12_reckonAll.2.1 178 = .ok (.iinc 3 1, 3) := by decide +kernel
theorem dX12_reckonAll_181 : decode MX12_reckonAll.2.1 181 = .ok (.goto 142, 3) := by decide +kernel
theorem dX12_reckonAll_184 : decode MX12_reckonAll.2.1 184 = .ok (.iload 5, 2) := by decide +kernel
theorem dX12_reckonAll_186 : decode MX12_reckonAll.2.1 186 = .ok (.bipush 28, 2) := by decide +kernel
theorem dX12_reckonAll_188 : decode MX12_reckonAll.2.1 188 = .ok (.if_icmp .ge 73, 3) := by decide +kernel
theorem dX12_reckonAll_191 : decode MX12_reckonAll.2.1 191 = .ok (.iinc 3 (-1), 3) := by decide +kernel
theorem dX12_reckonAll_194 : decode MX12_reckonAll.2.1 194 = .ok (.aload_n 0, 1) := by decide +kernel
theorem dX12_reckonAll_195 : decode MX12_reckonAll.2.1 195 = .ok (.getfield 111, 3) := by decide +kernel
theorem dX12_reckonAll_198 : decode MX12_reckonAll.2.1 198 = .ok (.iload_n 3, 1) := by decide +kernel
theorem dX12_reckonAll_199 : decode MX12_reckonAll.2.1 199 = .ok (.iconst 1, 1) := by decide +kernel
theorem dX12_reckonAll_200 : decode MX12_reckonAll.2.1 200 = .ok (.isub, 1) := by decide +kernel
theorem dX12_reckonAll_201 : decode MX12_reckonAll.2.1 201 = .ok (.aload_n 0, 1) := by decide +kernel
theorem dX12_reckonAll_202 : decode MX12_reckonAll.2.1 202 = .ok (.iload 5, 2) := by decide +kernel
theorem dX12_reckonAll_204 : decode MX12_reckonAll.2.1 204 = .ok (.aload_n 0, 1) := by decide +kernel
theorem dX12_reckonAll_205 : decode MX12_reckonAll.2.1 205 = .ok (.getfield 111, 3) := by decide +kernel
theorem dX12_reckonAll_208 : decode MX12_reckonAll.2.1 208 = .ok (.iload_n 3, 1) := by decide +kernel
theorem dX12_reckonAll_209 : decode MX12_reckonAll.2.1 209 = .ok (.iconst 1, 1) := by decide +kernel
theorem dX12_reckonAll_210 : decode MX12_reckonAll.2.1 210 = .ok (.isub, 1) := by decide +kernel
theorem dX12_reckonAll_211 : decode MX12_reckonAll.2.1 211 = .ok (.laload, 1) := by decide +kernel
theorem dX12_reckonAll_212 : decode MX12_reckonAll.2.1 212 = .ok (.aload_n 0, 1) := by decide +kernel
theorem dX12_reckonAll_213 : decode MX12_reckonAll.2.1 213 = .ok (.getfield 111, 3) := by decide +kernel
theorem dX12_reckonAll_216 : decode MX12_reckonAll.2.1 216 = .ok (.iload_n 3, 1) := by decide +kernel
theorem dX12_reckonAll_217 : decode MX12_reckonAll.2.1 217 = .ok (.laload, 1) := by decide +kernel
theorem dX12_reckonAll_218 : decode MX12_reckonAll.2.1 218 = .ok (.invokevirtual 393, 3) := by decide +kernel
theorem dX12_reckonAll_221 : decode MX12_reckonAll.2.1 221 = .ok (.lastore, 1) := by decide +kernel
theorem dX12_reckonAll_222 : decode MX12_reckonAll.2.1 222 = .ok (.aload_n 0, 1) := by decide +kernel
theorem dX12_reckonAll_223 : decode MX12_reckonAll.2.1 223 = .ok (.aload_n 0, 1) := by decide +kernel
theorem dX12_reckonAll_224 : decode MX12_reckonAll.2.1 224 = .ok (.getfield 387, 3) := by decide +kernel
theorem dX12_reckonAll_227 : decode MX12_reckonAll.2.1 227 = .ok (.ifCond .ne 23, 3) := by decide +kernel
theorem dX12_reckonAll_230 : decode MX12_reckonAll.2.1 230 = .ok (.aload_n 0, 1) := by decide +kernel
theorem dX12_reckonAll_231 : decode MX12_reckonAll.2.1 231 = .ok (.getfield 111, 3) := by decide +kernel
theorem dX12_reckonAll_234 : decode MX12_reckonAll.2.1 234 = .ok (.iload_n 3, 1) := by decide +kernel
theorem dX12_reckonAll_235 : decode MX12_reckonAll.2.1 235 = .ok (.iconst 1, 1) := by decide +kernel
theorem dX12_reckonAll_236 : decode MX12_reckonAll.2.1 236 = .ok (.isub, 1) := by decide +kernel
theorem dX12_reckonAll_237 : decode MX12_reckonAll.2.1 237 = .ok (.laload, 1) := by decide +kernel
theorem dX12_reckonAll_238 : decode MX12_reckonAll.2.1 238 = .ok (.ldc2_w 397, 3) := by decide +kernel
theorem dX12_reckonAll_241 : decode MX12_reckonAll.2.1 241 = .ok (.ldc2_w 399, 3) := by decide +kernel
theorem dX12_reckonAll_244 : decode MX12_reckonAll.2.1 244 = .ok (.invokestatic 183, 3) := by decide +kernel
theorem dX12_reckonAll_247 : decode MX12_reckonAll.2.1 247 = .ok (.ifCond .ne 7, 3) := by decide +kernel
theorem dX12_reckonAll_250 : decode MX12_reckonAll.2.1 250 = .ok (.iconst 1, 1) := by decide +kernel
theorem dX12_reckonAll_251 : decode MX12_reckonAll.2.1 251 = .ok (.goto 4, 3) := by decide +kernel
theorem dX12_reckonAll_254 : decode MX12_reckonAll.2.1 254 = .ok (.iconst 0, 1) := by decide +kernel
theorem dX12_reckonAll_255 : decode MX12_reckonAll.2.1 255 = .ok (.putfield 387, 3) := by decide +kernel
theorem dX12_reckonAll_258 : decode MX12_reckonAll.2.1 258 = .ok (.goto 65, 3) := by decide +kernel
theorem dX12_reckonAll_261 : decode MX12_reckonAll.2.1 261 = .ok (.iload 5, 2) := by decide +kernel
theorem dX12_reckonAll_263 : decode MX12_reckonAll.2.1 263 = .ok (.bipush 28, 2) := by decide +kernel
theorem dX12_reckonAll_265 : decode MX12_reckonAll.2.1 265 = .ok (.if_icmp .ne 24, 3) := by decide +kernel
theorem dX12_reckonAll_268 : decode MX12_reckonAll.2.1 268 = .ok (.aload_n 0, 1) := by decide +kernel
theorem dX12_reckonAll_269 : decode MX12_reckonAll.2.1 269 = .ok (.getfield 111, 3) := by decide +kernel
theorem dX12_reckonAll_272 : decode MX12_reckonAll.2.1 272 = .ok (.iload_n 3, 1) := by decide +kernel
theorem dX12_reckonAll_273 : decode MX12_reckonAll.2.1 273 = .ok (.iconst 1, 1) := by decide +kernel
theorem dX12_reckonAll_274 : decode MX12_reckonAll.2.1 274 = .ok (.isub, 1) := by decide +kernel
theorem dX12_reckonAll_275 : decode MX12_reckonAll.2.1 275 = .ok (.lconst 1, 1) := by decide +kernel
theorem dX12_reckonAll_276 : decode MX12_reckonAll.2.1 276 = .ok (.aload_n 0, 1) := by decide +kernel
theorem dX12_reckonAll_277 : decode MX12_reckonAll.2.1 277 = .ok (.getfield 111, 3) := by decide +kernel
theorem dX12_reckonAll_280 : decode MX12_reckonAll.2.1 280 = .ok (.iload_n 3, 1) := by decide +kernel
theorem dX12_reckonAll_281 : decode MX12_reckonAll.2.1 281 = .ok (.iconst 1, 1) := by decide +kernel
theorem dX12_reckonAll_282 : decode MX12_reckonAll.2.1 282 = .ok (.isub, 1) := by decide +kernel
theorem dX12_reckonAll_283 : decode MX12_reckonAll.2.1 283 = .ok (.laload, 1) := by decide +kernel
theorem dX12_reckonAll_284 : decode MX12_reckonAll.2.1 284 = .ok (.lsub, 1) := by decide +kernel
theorem dX12_reckonAll_285 : decode MX12_reckonAll.2.1 285 = .ok (.lastore, 1) := by decide +kernel
theorem dX12_reckonAll_286 : decode MX12_reckonAll.2.1 286 = .ok (.goto 37, 3) := by decide +kernel
theorem dX12_reckonAll_289 : decode MX12_reckonAll.2.1 289 = .ok (.aload_n 0, 1) := by decide +kernel
theorem dX12_reckonAll_290 : decode MX12_reckonAll.2.1 290 = .ok (.getfield 111, 3) := by decide +kernel
theorem dX12_reckonAll_293 : decode MX12_reckonAll.2.1 293 = .ok (.iload_n 3, 1) := by decide +kernel
theorem dX12_reckonAll_294 : decode MX12_reckonAll.2.1 294 = .ok (.iconst 1, 1) := by decide +kernel
theorem dX12_reckonAll_295 : decode MX12_reckonAll.2.1 295 = .ok (.isub, 1) := by decide +kernel
theorem dX12_reckonAll_296 : decode MX12_reckonAll.2.1 296 = .ok (.laload, 1) := by decide +kernel
theorem dX12_reckonAll_297 : decode MX12_reckonAll.2.1 297 = .ok (.iload 5, 2) := by decide +kernel
theorem dX12_reckonAll_299 : decode MX12_reckonAll.2.1 299 = .ok (.bipush 29, 2) := by decide +kernel
theorem dX12_reckonAll_301 : decode MX12_reckonAll.2.1 301 = .ok (.if_icmp .ne 7, 3) := by decide +kernel
theorem dX12_reckonAll_304 : decode MX12_reckonAll.2.1 304 = .ok (.lconst 0, 1) := by decide +kernel
theorem dX12_reckonAll_305 : decode MX12_reckonAll.2.1 305 = .ok (.goto 4, 3) := by decide +kernel
theorem dX12_reckonAll_308 : decode MX12_reckonAll.2.1 308 = .ok (.lconst 1, 1) := by decide +kernel
theorem dX12_reckonAll_309 : decode MX12_reckonAll.2.1 309 = .ok (.lcmp, 1) := by decide +kernel
theorem dX12_reckonAll_310 : decode MX12_reckonAll.2.1 310 = .ok (.ifCond .ne 10, 3) := by decide +kernel
theorem dX12_reckonAll_313 : decode MX12_reckonAll.2.1 313 = .ok (.iload 6, 2) := by decide +kernel
theorem dX12_reckonAll_315 : decode MX12_reckonAll.2.1 315 = .ok (.istore 4, 2) := by decide +kernel
theorem dX12_reckonAll_317 : decode MX12_reckonAll.2.1 317 = .ok (.goto 6, 3) := by decide +kernel
theorem dX12_reckonAll_320 : decode MX12_reckonAll.2.1 320 = .ok (.iinc 3 (-1), 3) := by decide +kernel
theorem dX12_reckonAll_323 : decode MX12_reckonAll.2.1 323 = .ok (.goto (-313), 3) := by decide +kernel
theorem dX12_reckonAll_326 : decode MX12_reckonAll.2.1 326 = .ok (.aload_n 0, 1) := by decide +kernel
theorem dX12_reckonAll_327 : decode MX12_reckonAll.2.1 327 = .ok (.iload_n 3, 1) := by decide +kernel
theorem dX12_reckonAll_328 : decode MX12_reckonAll.2.1 328 = .ok (.ifCond .le 12, 3) := by decide +kernel
theorem dX12_reckonAll_331 : decode MX12_reckonAll.2.1 331 = .ok (.aload_n 0, 1) := by decide +kernel
theorem dX12_reckonAll_332 : decode MX12_reckonAll.2.1 332 = .ok (.getfield 111, 3) := by decide +kernel
theorem dX12_reckonAll_335 : decode MX12_reckonAll.2.1 335 = .ok (.iconst 0, 1) := by decide +kernel
theorem dX12_reckonAll_336 : decode MX12_reckonAll.2.1 336 = .ok (.laload, 1) := by decide +kernel
theorem dX12_reckonAll_337 : decode MX12_reckonAll.2.1 337 = .ok (.goto 4, 3) := by decide +kernel
theorem dX12_reckonAll_340 : decode MX12_reckonAll.2.1 340 = .ok (.lconst 0, 1) := by decide +kernel
theorem dX12_reckonAll_341 : decode MX12_reckonAll.2.1 341 = .ok (.putfield 401, 3) := by decide +kernel
theorem dX12_reckonAll_344 : decode MX12_reckonAll.2.1 344 = .ok (.return_, 1) := by decide +kernel
theorem dX12_isSo_0 : decode MX12_isSo.2.1 0 = .ok (.aload_n 0, 1) := by decide +kernel
theorem dX12_isSo_1 : decode MX12_isSo.2.1 1 = .ok (.getfield 13, 3) := by decide +kernel
theorem dX12_isSo_4 : decode MX12_isSo.2.1 4 = .ok (.iload_n 1, 1) := by decide +kernel
theorem dX12_isSo_5 : decode MX12_isSo.2.1 5 = .ok (.iconst 5, 1) := by decide +kernel
theorem dX12_isSo_6 : decode MX12_isSo.2.1 6 = .ok (.iadd, 1) := by decide +kernel
theorem dX12_isSo_7 : decode MX12_isSo.2.1 7 = .ok (.iaload, 1) := by decide +kernel
theorem dX12_isSo_8 : decode MX12_isSo.2.1 8 = .ok (.aload_n 0, 1) := by decide +kernel
theorem dX12_isSo_9 : decode MX12_isSo.2.1 9 = .ok (.getfield 13, 3) := by decide +kernel
theorem dX12_isSo_12 : decode MX12_isSo.2.1 12 = .ok (.iload_n 1, 1) := by decide +kernel
theorem dX12_isSo_13 : decode MX12_isSo.2.1 13 = .ok (.bipush 6, 2) := by decide +kernel
theorem dX12_isSo_15 : decode MX12_isSo.2.1 15 = .ok (.iadd, 1) := by decide +kernel
theorem dX12_isSo_16 : decode MX12_isSo.2.1 16 = .ok (.iaload, 1) := by decide +kernel
theorem dX12_isSo_17 : decode MX12_isSo.2.1 17 = .ok (.if_icmp .ge 42, 3) := by decide +kernel
theorem dX12_isSo_20 : decode MX12_isSo.2.1 20 = .ok (.aload_n 0, 1) := by decide +kernel
theorem dX12_isSo_21 : decode MX12_isSo.2.1 21 = .ok (.aload_n 0, 1) := by decide +kernel
theorem dX12_isSo_22 : decode MX12_isSo.2.1 22 = .ok (.getfield 13, 3) := by decide +kernel
theorem dX12_isSo_25 : decode MX12_isSo.2.1 25 = .ok (.iload_n 1, 1) := by decide +kernel
theorem dX12_isSo_26 : decode MX12_isSo.2.1 26 = .ok (.iconst 5, 1) := by decide +kernel
theorem dX12_isSo_27 : decode MX12_isSo.2.1 27 = .ok (.iadd, 1) := by decide +kernel
theorem dX12_isSo_28 : decode MX12_isSo.2.1 28 = .ok (.iaload, 1) := by decide +kernel
theorem dX12_isSo_29 : decode MX12_isSo.2.1 29 = .ok (.aload_n 0, 1) := by decide +kernel
theorem dX12_isSo_30 : decode MX12_isSo.2.1 30 = .ok (.getfield 13, 3) := by decide +kernel
theorem dX12_isSo_33 : decode MX12_isSo.2.1 33 = .ok (.iload_n 1, 1) := by decide +kernel
theorem dX12_isSo_34 : decode MX12_isSo.2.1 34 = .ok (.bipush 6, 2) := by decide +kernel
theorem dX12_isSo_36 : decode MX12_isSo.2.1 36 = .ok (.iadd, 1) := by decide +kernel
theorem dX12_isSo_37 : decode MX12_isSo.2.1 37 = .ok (.iaload, 1) := by decide +kernel
theorem dX12_isSo_38 : decode MX12_isSo.2.1 38 = .ok (.invokevirtual 404, 3) := by decide +kernel
theorem dX12_isSo_41 : decode MX12_isSo.2.1 41 = .ok (.aload_n 0, 1) := by decide +kernel
theorem dX12_isSo_42 : decode MX12_isSo.2.1 42 = .ok (.getfield 387, 3) := by decide +kernel
theorem dX12_isSo_45 : decode MX12_isSo.2.1 45 = .ok (.ifCond .ne 12, 3) := by decide +kernel
theorem dX12_isSo_48 : decode MX12_isSo.2.1 48 = .ok (.aload_n 0, 1) := by decide +kernel
theorem dX12_isSo_49 : decode MX12_isSo.2.1 49 = .ok (.getfield 401, 3) := by decide +kernel
theorem dX12_isSo_52 : decode MX12_isSo.2.1 52 = .ok (.lconst 0, 1) := by decide +kernel
theorem dX12_isSo_53 : decode MX12_isSo.2.1 53 = .ok (.lcmp, 1) := by decide +kernel
theorem dX12_isSo_54 : decode MX12_isSo.2.1 54 = .ok (.ifCond .ne 5, 3) := by decide +kernel
theorem dX12_isSo_57 : decode MX12_isSo.2.1 57 = .ok (.iconst 0, 1) := by decide +kernel
theorem dX12_isSo_58 : decode MX12_isSo.2.1 58 = .ok (.ireturn, 1) := by decide +kernel
theorem dX12_isSo_59 : decode MX12_isSo.2.1 59 = .ok (.aload_n 0, 1) := by decide +kernel
theorem dX12_isSo_60 : decode MX12_isSo.2.1 60 = .ok (.getfield 13, 3) := by decide +kernel
theorem dX12_isSo_63 : decode MX12_isSo.2.1 63 = .ok (.iload_n 1, 1) := by decide +kernel
theorem dX12_isSo_64 : decode MX12_isSo.2.1 64 = .ok (.iaload, 1) := by decide +kernel
theorem dX12_isSo_65 : decode MX12_isSo.2.1 65 = .ok (.iconst 3, 1) := by decide +kernel
theorem dX12_isSo_66 : decode MX12_isSo.2.1 66 = .ok (.if_icmp .eq 44, 3) := by decide +kernel
theorem dX12_isSo_69 : decode MX12_isSo.2.1 69 = .ok (.aload_n 0, 1) := by decide +kernel
theorem dX12_isSo_70 : decode MX12_isSo.2.1 70 = .ok (.aload_n 0, 1) := by decide +kernel
theorem dX12_isSo_71 : decode MX12_isSo.2.1 71 = .ok (.getfield 13, 3) := by decide +kernel
theorem dX12_isSo_74 : decode MX12_isSo.2.1 74 = .ok (.iload_n 1, 1) := by decide +kernel
theorem dX12_isSo_75 : decode MX12_isSo.2.1 75 = .ok (.iconst 3, 1) := by decide +kernel
theorem dX12_isSo_76 : decode MX12_isSo.2.1 76 = .ok (.iadd, 1) := by decide +kernel
theorem dX12_isSo_77 : decode MX12_isSo.2.1 77 = .ok (.iaload, 1) := by decide +kernel
theorem dX12_isSo_78 : decode MX12_isSo.2.1 78 = .ok (.aload_n 0, 1) := by decide +kernel
theorem dX12_isSo_79 : decode MX12_isSo.2.1 79 = .ok (.getfield 13, 3) := by decide +kernel
theorem dX12_isSo_82 : decode MX12_isSo.2.1 82 = .ok (.iload_n 1, 1) := by decide +kernel
theorem dX12_isSo_83 : decode MX12_isSo.2.1 83 = .ok (.iconst 4, 1) := by decide +kernel
theorem dX12_isSo_84 : decode MX12_isSo.2.1 84 = .ok (.iadd, 1) := by decide +kernel
theorem dX12_isSo_85 : decode MX12_isSo.2.1 85 = .ok (.iaload, 1) := by decide +kernel
theorem dX12_isSo_86 : decode MX12_isSo.2.1 86 = .ok (.invokevirtual 404, 3) := by decide +kernel
theorem dX12_isSo_89 : decode MX12_isSo.2.1 89 = .ok (.aload_n 0, 1) := by decide +kernel
theorem dX12_isSo_90 : decode MX12_isSo.2.1 90 = .ok (.aload_n 0, 1) := by decide +kernel
theorem dX12_isSo_91 : decode MX12_isSo.2.1 91 = .ok (.getfield 401, 3) := by decide +kernel
theorem dX12_isSo_94 : decode MX12_isSo.2.1 94 = .ok (.putfield 407, 3) := by decide +kernel
theorem dX12_isSo_97 : decode MX12_isSo.2.1 97 = .ok (.aload_n 0, 1) := by decide +kernel
theorem dX12_isSo_98 : decode MX12_isSo.2.1 98 = .ok (.getfield 387, 3) := by decide +kernel
theorem dX12_isSo_101 : decode MX12_isSo.2.1 101 = .ok (.ifCond .ne 7, 3) := by decide +kernel
theorem dX12_isSo_104 : decode MX12_isSo.2.1 104 = .ok (.iconst 1, 1) := by decide +kernel
theorem dX12_isSo_105 : decode MX12_isSo.2.1 105 = .ok (.goto 4, 3) := by decide +kernel
theorem dX12_isSo_108 : decode MX12_isSo.2.1 108 = .ok (.iconst 0, 1) := by decide +kernel
theorem dX12_isSo_109 : decode MX12_isSo.2.1 109 = .ok (.ireturn, 1) := by decide +kernel
theorem dX12_isSo_110 : decode MX12_isSo.2.1 110 = .ok (.iconst 1, 1) := by decide +kernel
theorem dX12_isSo_111 : decode MX12_isSo.2.1 111 = .ok (.ireturn, 1) := by decide +kernel
theorem dX12_tells_0 : decode MX12_tells.2.1 0 = .ok (.aload_n 0, 1) := by decide +kernel
theorem dX12_tells_1 : decode MX12_tells.2.1 1 = .ok (.getfield 13, 3) := by decide +kernel
theorem dX12_tells_4 : decode MX12_tells.2.1 4 = .ok (.iconst 5, 1) := by decide +kernel
theorem dX12_tells_5 : decode MX12_tells.2.1 5 = .ok (.iaload, 1) := by decide +kernel
theorem dX12_tells_6 : decode MX12_tells.2.1 6 = .ok (.iconst (-1), 1) := by decide +kernel
theorem dX12_tells_7 : decode MX12_tells.2.1 7 = .ok (.if_icmp .ne 5, 3) := by decide +kernel
theorem dX12_tells_10 : decode MX12_tells.2.1 10 = .ok (.lload_n 2, 1) := by decide +kernel
theorem dX12_tells_11 : decode MX12_tells.2.1 11 = .ok (.lreturn, 1) := by decide +kernel
theorem dX12_tells_12 : decode MX12_tells.2.1 12 = .ok (.aload_n 0, 1) := by decide +kernel
theorem dX12_tells_13 : decode MX12_tells.2.1 13 = .ok (.sipush 260, 3) := by decide +kernel
theorem dX12_tells_16 : decode MX12_tells.2.1 16 = .ok (.sipush 900, 3) := by decide +kernel
theorem dX12_tells_19 : decode MX12_tells.2.1 19 = .ok (.aload_n 0, 1) := by decide +kernel
theorem dX12_tells_20 : decode MX12_tells.2.1 20 = .ok (.getfield 13, 3) := by decide +kernel
theorem dX12_tells_23 : decode MX12_tells.2.1 23 = .ok (.iconst 5, 1) := by decide +kernel
theorem dX12_tells_24 : decode MX12_tells.2.1 24 = .ok (.iaload, 1) := by decide +kernel
theorem dX12_tells_25 : decode MX12_tells.2.1 25 = .ok (.imul, 1) := by decide +kernel
theorem dX12_tells_26 : decode MX12_tells.2.1 26 = .ok (.iadd, 1) := by decide +kernel
theorem dX12_tells_27 : decode MX12_tells.2.1 27 = .ok (.putfield 390, 3) := by decide +kernel
theorem dX12_tells_30 : decode MX12_tells.2.1 30 = .ok (.lload_n 2, 1) := by decide +kernel
theorem dX12_tells_31 : decode MX12_tells.2.1 31 = .ok (.lstore 4, 2) := by decide +kernel
theorem dX12_tells_33 : decode MX12_tells.2.1 33 = .ok (.iconst 0, 1) := by decide +kernel
theorem dX12_tells_34 : decode MX12_tells.2.1 34 = .ok (.istore 6, 2) := by decide +kernel
theorem dX12_tells_36 : decode MX12_tells.2.1 36 = .ok (.iload 6, 2) := by decide +kernel
theorem dX12_tells_38 : decode MX12_tells.2.1 38 = .ok (.aload_n 0, 1) := by decide +kernel
theorem dX12_tells_39 : decode MX12_tells.2.1 39 = .ok (.getfield 13, 3) := by decide +kernel
theorem dX12_tells_42 : decode MX12_tells.2.1 42 = .ok (.aload_n 0, 1) := by decide +kernel
theorem dX12_tells_43 : decode MX12_tells.2.1 43 = .ok (.getfield 390, 3) := by decide +kernel
theorem dX12_tells_46 : decode MX12_tells.2.1 46 = .ok (.iconst 1, 1) := by decide +kernel
theorem dX12_tells_47 : decode MX12_tells.2.1 47 = .ok (.iadd, 1) := by decide +kernel
theorem dX12_tells_48 : decode MX12_tells.2.1 48 = .ok (.iaload, 1) := by decide +kernel
theorem dX12_tells_49 : decode MX12_tells.2.1 49 = .ok (.if_icmp .ge 58, 3) := by decide +kernel
theorem dX12_tells_52 : decode MX12_tells.2.1 52 = .ok (.aload_n 0, 1) := by decide +kernel
theorem dX12_tells_53 : decode MX12_tells.2.1 53 = .ok (.getfield 390, 3) := by decide +kernel
theorem dX12_tells_56 : decode MX12_tells.2.1 56 = .ok (.iconst 2, 1) := by decide +kernel
theorem dX12_tells_57 : decode MX12_tells.2.1 57 = .ok (.iadd, 1) := by decide +kernel
theorem dX12_tells_58 : decode MX12_tells.2.1 58 = .ok (.bipush 8, 2) := by decide +kernel
theorem dX12_tells_60 : decode MX12_tells.2.1 60 = .ok (.iload 6, 2) := by decide +kernel
theorem dX12_tells_62 : decode MX12_tells.2.1 62 = .ok (.imul, 1) := by decide +kernel
theorem dX12_tells_63 : decode MX12_tells.2.1 63 = .ok (.iadd, 1) := by decide +kernel
theorem dX12_tells_64 : decode MX12_tells.2.1 64 = .ok (.istore 7, 2) := by decide +kernel
theorem dX12_tells_66 : decode MX12_tells.2.1 66 = .ok (.aload_n 0, 1) := by decide +kernel
theorem dX12_tells_67 : decode MX12_tells.2.1 67 = .ok (.getfield 13, 3) := by decide +kernel
theorem dX12_tells_70 : decode MX12_tells.2.1 70 = .ok (.iload 7, 2) := by decide +kernel
theorem dX12_tells_72 : decode MX12_tells.2.1 72 = .ok (.iaload, 1) := by decide +kernel
theorem dX12_tells_73 : decode MX12_tells.2.1 73 = .ok (.iload_n 1, 1) := by decide +kernel
theorem dX12_tells_74 : decode MX12_tells.2.1 74 = .ok (.if_icmp .ne 27, 3) := by decide +kernel
theorem dX12_tells_77 : decode MX12_tells.2.1 77 = .ok (.aload_n 0, 1) := by decide +kernel
theorem dX12_tells_78 : decode MX12_tells.2.1 78 = .ok (.iload 7, 2) := by decide +kernel
theorem dX12_tells_80 : decode MX12_tells.2.1 80 = .ok (.invokevirtual 410, 3) := by decide +kernel
theorem dX12_tells_83 : decode MX12_tells.2.1 83 = .ok (.ifCond .eq 18, 3) := by decide +kernel
theorem dX12_tells_86 : decode MX12_tells.2.1 86 = .ok (.iload_n 1, 1) := by decide +kernel
theorem dX12_tells_87 : decode MX12_tells.2.1 87 = .ok (.iconst 3, 1) := by decide +kernel
theorem dX12_tells_88 : decode MX12_tells.2.1 88 = .ok (.if_icmp .ne 7, 3) := by decide +kernel
theorem dX12_tells_91 : decode MX12_tells.2.1 91 = .ok (.lconst 1, 1) := by decide +kernel
theorem dX12_tells_92 : decode MX12_tells.2.1 92 = .ok (.goto 7, 3) := by decide +kernel
theorem dX12_tells_95 : decode MX12_tells.2.1 95 = .ok (.aload_n 0, 1) := by decide +kernel
theorem dX12_tells_96 : decode MX12_tells.2.1 96 = .ok (.getfield 407, 3) := by decide +kernel
theorem dX12_tells_99 : decode MX12_tells.2.1 99 = .ok (.lstore 4, 2) := by decide +kernel
theorem dX12_tells_101 : decode MX12_tells.2.1 101 = .ok (.iinc 6 1, 3) := by decide +kernel
theorem dX12_tells_104 : decode MX12_tells.2.1 104 = .ok (.goto (-68), 3) := by decide +kernel
theorem dX12_tells_107 : decode MX12_tells.2.1 107 = .ok (.lload 4, 2) := by decide +kernel
theorem dX12_tells_109 : decode MX12_tells.2.1 109 = .ok (.lreturn, 1) := by decide +kernel
theorem dX12_setWord_0 : decode MX12_setWord.2.1 0 = .ok (.aload_n 0, 1) := by decide +kernel
theorem dX12_setWord_1 : decode MX12_setWord.2.1 1 = .ok (.getfield 105, 3) := by decide +kernel
theorem dX12_setWord_4 : decode MX12_setWord.2.1 4 = .ok (.iconst 1, 1) := by decide +kernel
theorem dX12_setWord_5 : decode MX12_setWord.2.1 5 = .ok (.iload_n 1, 1) := by decide +kernel
theorem dX12_setWord_6 : decode MX12_setWord.2.1 6 = .ok (.i2l, 1) := by decide +kernel
theorem dX12_setWord_7 : decode MX12_setWord.2.1 7 = .ok (.lastore, 1) := by decide +kernel
theorem dX12_setWord_8 : decode MX12_setWord.2.1 8 = .ok (.aload_n 0, 1) := by decide +kernel
theorem dX12_setWord_9 : decode MX12_setWord.2.1 9 = .ok (.getfield 105, 3) := by decide +kernel
theorem dX12_setWord_12 : decode MX12_setWord.2.1 12 = .ok (.iconst 2, 1) := by decide +kernel
theorem dX12_setWord_13 : decode MX12_setWord.2.1 13 = .ok (.iload_n 1, 1) := by decide +kernel
theorem dX12_setWord_14 : decode MX12_setWord.2.1 14 = .ok (.iconst (-1), 1) := by decide +kernel
theorem dX12_setWord_15 : decode MX12_setWord.2.1 15 = .ok (.if_icmp .ne 9, 3) := by decide +kernel
theorem dX12_setWord_18 : decode MX12_setWord.2.1 18 = .ok (.ldc2_w 266, 3) := by decide +kernel
theorem dX12_setWord_21 : decode MX12_setWord.2.1 21 = .ok (.goto 10, 3) := by decide +kernel
theorem dX12_setWord_24 : decode MX12_setWord.2.1 24 = .ok (.aload_n 0, 1) := by decide +kernel
theorem dX12_setWord_25 : decode MX12_setWord.2.1 25 = .ok (.iload_n 1, 1) := by decide +kernel
theorem dX12_setWord_26 : decode MX12_setWord.2.1 26 = .ok (.iconst 0, 1) := by decide +kernel
theorem dX12_setWord_27 : decode MX12_setWord.2.1 27 = .ok (.invokevirtual 220, 3) := by decide +kernel
theorem dX12_setWord_30 : decode MX12_setWord.2.1 30 = .ok (.i2l, 1) := by decide +kernel
theorem dX12_setWord_31 : decode MX12_setWord.2.1 31 = .ok (.lastore, 1) := by decide +kernel
theorem dX12_setWord_32 : decode MX12_setWord.2.1 32 = .ok (.aload_n 0, 1) := by decide +kernel
theorem dX12_setWord_33 : decode MX12_setWord.2.1 33 = .ok (.getfield 105, 3) := by decide +kernel
theorem dX12_setWord_36 : decode MX12_setWord.2.1 36 = .ok (.iconst 3, 1) := by decide +kernel
theorem dX12_setWord_37 : decode MX12_setWord.2.1 37 = .ok (.iload_n 1, 1) := by decide +kernel
theorem dX12_setWord_38 : decode MX12_setWord.2.1 38 = .ok (.iconst (-1), 1) := by decide +kernel
theorem dX12_setWord_39 : decode MX12_setWord.2.1 39 = .ok (.if_icmp .ne 9, 3) := by decide +kernel
theorem dX12_setWord_42 : decode MX12_setWord.2.1 42 = .ok (.ldc2_w 266, 3) := by decide +kernel
theorem dX12_setWord_45 : decode MX12_setWord.2.1 45 = .ok (.goto 10, 3) := by decide +kernel
theorem dX12_setWord_48 : decode MX12_setWord.2.1 48 = .ok (.aload_n 0, 1) := by decide +kernel
theorem dX12_setWord_49 : decode MX12_setWord.2.1 49 = .ok (.iload_n 1, 1) := by decide +kernel
theorem dX12_setWord_50 : decode MX12_setWord.2.1 50 = .ok (.iconst 1, 1) := by decide +kernel
theorem dX12_setWord_51 : decode MX12_setWord.2.1 51 = .ok (.invokevirtual 220, 3) := by decide +kernel
theorem dX12_setWord_54 : decode MX12_setWord.2.1 54 = .ok (.i2l, 1) := by decide +kernel
theorem dX12_setWord_55 : decode MX12_setWord.2.1 55 = .ok (.lastore, 1) := by decide +kernel
theorem dX12_setWord_56 : decode MX12_setWord.2.1 56 = .ok (.aload_n 0, 1) := by decide +kernel
theorem dX12_setWord_57 : decode MX12_setWord.2.1 57 = .ok (.getfield 105, 3) := by decide +kernel
theorem dX12_setWord_60 : decode MX12_setWord.2.1 60 = .ok (.iconst 4, 1) := by decide +kernel
theorem dX12_setWord_61 : decode MX12_setWord.2.1 61 = .ok (.iload_n 3, 1) := by decide +kernel
theorem dX12_setWord_62 : decode MX12_setWord.2.1 62 = .ok (.i2l, 1) := by decide +kernel
theorem dX12_setWord_63 : decode MX12_setWord.2.1 63 = .ok (.lastore, 1) := by decide +kernel
theorem dX12_setWord_64 : decode MX12_setWord.2.1 64 = .ok (.aload_n 0, 1) := by decide +kernel
theorem dX12_setWord_65 : decode MX12_setWord.2.1 65 = .ok (.getfield 105, 3) := by decide +kernel
theorem dX12_setWord_68 : decode MX12_setWord.2.1 68 = .ok (.iconst 5, 1) := by decide +kernel
theorem dX12_setWord_69 : decode MX12_setWord.2.1 69 = .ok (.iload_n 2, 1) := by decide +kernel
theorem dX12_setWord_70 : decode MX12_setWord.2.1 70 = .ok (.i2l, 1) := by decide +kernel
theorem dX12_setWord_71 : decode MX12_setWord.2.1 71 = .ok (.lastore, 1) := by decide +kernel
theorem dX12_setWord_72 : decode MX12_setWord.2.1 72 = .ok (.aload_n 0, 1) := by decide +kernel
theorem dX12_setWord_73 : decode MX12_setWord.2.1 73 = .ok (.getfield 105, 3) := by decide +kernel
theorem dX12_setWord_76 : decode MX12_setWord.2.1 76 = .ok (.bipush 6, 2) := by decide +kernel
theorem dX12_setWord_78 : decode MX12_setWord.2.1 78 = .ok (.ldc2_w 266, 3) := by decide +kernel
theorem dX12_setWord_81 : decode MX12_setWord.2.1 81 = .ok (.lastore, 1) := by decide +kernel
theorem dX12_setWord_82 : decode MX12_setWord.2.1 82 = .ok (.aload_n 0, 1) := by decide +kernel
theorem dX12_setWord_83 : decode MX12_setWord.2.1 83 = .ok (.getfield 105, 3) := by decide +kernel
theorem dX12_setWord_86 : decode MX12_setWord.2.1 86 = .ok (.bipush 7, 2) := by decide +kernel
theorem dX12_setWord_88 : decode MX12_setWord.2.1 88 = .ok (.ldc2_w 266, 3) := by decide +kernel
theorem dX12_setWord_91 : decode MX12_setWord.2.1 91 = .ok (.lastore, 1) := by decide +kernel
theorem dX12_setWord_92 : decode MX12_setWord.2.1 92 = .ok (.aload_n 0, 1) := by decide +kernel
theorem dX12_setWord_93 : decode MX12_setWord.2.1 93 = .ok (.getfield 105, 3) := by decide +kernel
theorem dX12_setWord_96 : decode MX12_setWord.2.1 96 = .ok (.bipush 8, 2) := by decide +kernel
theorem dX12_setWord_98 : decode MX12_setWord.2.1 98 = .ok (.ldc2_w 266, 3) := by decide +kernel
theorem dX12_setWord_101 : decode MX12_setWord.2.1 101 = .ok (.lastore, 1) := by decide +kernel
theorem dX12_setWord_102 : decode MX12_setWord.2.1 102 = .ok (.aload_n 0, 1) := by decide +kernel
theorem dX12_setWord_103 : decode MX12_setWord.2.1 103 = .ok (.getfield 105, 3) := by decide +kernel
theorem dX12_setWord_106 : decode MX12_setWord.2.1 106 = .ok (.bipush 9, 2) := by decide +kernel
theorem dX12_setWord_108 : decode MX12_setWord.2.1 108 = .ok (.aload_n 0, 1) := by decide +kernel
theorem dX12_setWord_109 : decode MX12_setWord.2.1 109 = .ok (.invokevirtual 413, 3) := by decide +kernel
theorem dX12_setWord_112 : decode MX12_setWord.2.1 112 = .ok (.i2l, 1) := by decide +kernel
theorem dX12_setWord_113 : decode MX12_setWord.2.1 113 = .ok (.lastore, 1) := by decide +kernel
theorem dX12_setWord_114 : decode MX12_setWord.2.1 114 = .ok (.aload_n 0, 1) := by decide +kernel
theorem dX12_setWord_115 : decode MX12_setWord.2.1 115 = .ok (.getfield 105, 3) := by decide +kernel
theorem dX12_setWord_118 : decode MX12_setWord.2.1 118 = .ok (.bipush 10, 2) := by decide +kernel
theorem dX12_setWord_120 : decode MX12_setWord.2.1 120 = .ok (.aload_n 0, 1) := by decide +kernel
theorem dX12_setWord_121 : decode MX12_setWord.2.1 121 = .ok (.getfield 13, 3) := by decide +kernel
theorem dX12_setWord_124 : decode MX12_setWord.2.1 124 = .ok (.bipush 7, 2) := by decide +kernel
