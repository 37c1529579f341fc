theorem dX10_init_0 : decode cX10_init 0 = .ok (.aload_n 0, 1) := by decide +kernel
theorem dX10_init_1 : decode cX10_init 1 = .ok (.invokespecial 1, 3) := by decide +kernel
theorem dX10_init_4 : decode cX10_init 4 = .ok (.aload_n 0, 1) := by decide +kernel
theorem dX10_init_5 : decode cX10_init 5 = .ok (.iconst (-1), 1) := by decide +kernel
theorem dX10_init_6 : decode cX10_init 6 = .ok (.putfield 9, 3) := by decide +kernel
theorem dX10_init_9 : decode cX10_init 9 = .ok (.aload_n 0, 1) := by decide +kernel
theorem dX10_init_10 : decode cX10_init 10 = .ok (.sipush 600, 3) := by decide +kernel
theorem dX10_init_13 : decode cX10_init 13 = .ok (.newarray .int, 2) := by decide +kernel
theorem dX10_init_15 : decode cX10_init 15 = .ok (.putfield 13, 3) := by decide +kernel
theorem dX10_init_18 : decode cX10_init 18 = .ok (.aload_n 0, 1) := by decide +kernel
theorem dX10_init_19 : decode cX10_init 19 = .ok (.iconst 2, 1) := by decide +kernel
theorem dX10_init_20 : decode cX10_init 20 = .ok (.newarray .int, 2) := by decide +kernel
theorem dX10_init_22 : decode cX10_init 22 = .ok (.putfield 17, 3) := by decide +kernel
theorem dX10_init_25 : decode cX10_init 25 = .ok (.aload_n 0, 1) := by decide +kernel
theorem dX10_init_26 : decode cX10_init 26 = .ok (.iconst 4, 1) := by decide +kernel
theorem dX10_init_27 : decode cX10_init 27 = .ok (.newarray .int, 2) := by decide +kernel
theorem dX10_init_29 : decode cX10_init 29 = .ok (.putfield 20, 3) := by decide +kernel
theorem dX10_init_32 : decode cX10_init 32 = .ok (.aload_n 0, 1) := by decide +kernel
theorem dX10_init_33 : decode cX10_init 33 = .ok (.iconst 4, 1) := by decide +kernel
theorem dX10_init_34 : decode cX10_init 34 = .ok (.newarray .int, 2) := by decide +kernel
theorem dX10_init_36 : decode cX10_init 36 = .ok (.putfield 23, 3) := by decide +kernel
theorem dX10_init_39 : decode cX10_init 39 = .ok (.aload_n 0, 1) := by decide +kernel
theorem dX10_init_40 : decode cX10_init 40 = .ok (.bipush 8, 2) := by decide +kernel
theorem dX10_init_42 : decode cX10_init 42 = .ok (.iconst 2, 1) := by decide +kernel
theorem dX10_init_43 : decode cX10_init 43 = .ok (.multianewarray 26 2, 4) := by decide +kernel
theorem dX10_init_47 : decode cX10_init 47 = .ok (.putfield 28, 3) := by decide +kernel
theorem dX10_init_50 : decode cX10_init 50 = .ok (.aload_n 0, 1) := by decide +kernel
theorem dX10_init_51 : decode cX10_init 51 = .ok (.bipush 8, 2) := by decide +kernel
theorem dX10_init_53 : decode cX10_init 53 = .ok (.iconst 2, 1) := by decide +kernel
theorem dX10_init_54 : decode cX10_init 54 = .ok (.multianewarray 26 2, 4) := by decide +kernel
theorem dX10_init_58 : decode cX10_init 58 = .ok (.putfield 31, 3) := by decide +kernel
theorem dX10_init_61 : decode cX10_init 61 = .ok (.aload_n 0, 1) := by decide +kernel
theorem dX10_init_62 : decode cX10_init 62 = .ok (.iconst 5, 1) := by decide +kernel
theorem dX10_init_63 : decode cX10_init 63 = .ok (.iconst 2, 1) := by decide +kernel
theorem dX10_init_64 : decode cX10_init 64 = .ok (.multianewarray 26 2, 4) := by decide +kernel
theorem dX10_init_68 : decode cX10_init 68 = .ok (.putfield 34, 3) := by decide +kernel
theorem dX10_init_71 : decode cX10_init 71 = .ok (.aload_n 0, 1) := by decide +kernel
theorem dX10_init_72 : decode cX10_init 72 = .ok (.iconst 5, 1) := by decide +kernel
theorem dX10_init_73 : decode cX10_init 73 = .ok (.iconst 2, 1) := by decide +kernel
theorem dX10_init_74 : decode cX10_init 74 = .ok (.multianewarray 26 2, 4) := by decide +kernel
theorem dX10_init_78 : decode cX10_init 78 = .ok (.putfield 37, 3) := by decide +kernel
theorem dX10_init_81 : decode cX10_init 81 = .ok (.aload_n 0, 1) := by decide +kernel
theorem dX10_init_82 : decode cX10_init 82 = .ok (.bipush 24, 2) := by decide +kernel
theorem dX10_init_84 : decode cX10_init 84 = .ok (.iconst 2, 1) := by decide +kernel
theorem dX10_init_85 : decode cX10_init 85 = .ok (.multianewarray 26 2, 4) := by decide +kernel
theorem dX10_init_89 : decode cX10_init 89 = .ok (.putfield 40, 3) := by decide +kernel
theorem dX10_init_92 : decode cX10_init 92 = .ok (.aload_n 0, 1) := by decide +kernel
theorem dX10_init_93 : decode cX10_init 93 = .ok (.bipush 24, 2) := by decide +kernel
theorem dX10_init_95 : decode cX10_init 95 = .ok (.iconst 2, 1) := by decide +kernel
theorem dX10_init_96 : decode cX10_init 96 = .ok (.multianewarray 26 2, 4) := by decide +kernel
theorem dX10_init_100 : decode cX10_init 100 = .ok (.putfield 43, 3) := by decide +kernel
theorem dX10_init_103 : decode cX10_init 103 = .ok (.aload_n 0, 1) := by decide +kernel
theorem dX10_init_104 : decode cX10_init 104 = .ok (.sipush 160, 3) := by decide +kernel
theorem dX10_init_107 : decode cX10_init 107 = .ok (.iconst 2, 1) := by decide +kernel
theorem dX10_init_108 : decode cX10_init 108 = .ok (.multianewarray 26 2, 4) := by decide +kernel
theorem dX10_init_112 : decode cX10_init 112 = .ok (.putfield 46, 3) := by decide +kernel
theorem dX10_init_115 : decode cX10_init 115 = .ok (.aload_n 0, 1) := by decide +kernel
theorem dX10_init_116 : decode cX10_init 116 = .ok (.sipush 160, 3) := by decide +kernel
theorem dX10_init_119 : decode cX10_init 119 = .ok (.iconst 2, 1) := by decide +kernel
theorem dX10_init_120 : decode cX10_init 120 = .ok (.multianewarray 26 2, 4) := by decide +kernel
theorem dX10_init_124 : decode cX10_init 124 = .ok (.putfield 49, 3) := by decide +kernel
theorem dX10_init_127 : decode cX10_init 127 = .ok (.aload_n 0, 1) := by decide +kernel
theorem dX10_init_128 : decode cX10_init 128 = .ok (.sipush 160, 3) := by decide +kernel
theorem dX10_init_131 : decode cX10_init 131 = .ok (.newarray .int, 2) := by decide +kernel
theorem dX10_init_133 : decode cX10_init 133 = .ok (.putfield 52, 3) := by decide +kernel
theorem dX10_init_136 : decode cX10_init 136 = .ok (.aload_n 0, 1) := by decide +kernel
theorem dX10_init_137 : decode cX10_init 137 = .ok (.bipush 8, 2) := by decide +kernel
theorem dX10_init_139 : decode cX10_init 139 = .ok (.newarray .int, 2) := by decide +kernel
theorem dX10_init_141 : decode cX10_init 141 = .ok (.putfield 55, 3) := by decide +kernel
theorem dX10_init_144 : decode cX10_init 144 = .ok (.aload_n 0, 1) := by decide +kernel
theorem dX10_init_145 : decode cX10_init 145 = .ok (.bipush 80, 2) := by decide +kernel
theorem dX10_init_147 : decode cX10_init 147 = .ok (.iconst 4, 1) := by decide +kernel
theorem dX10_init_148 : decode cX10_init 148 = .ok (.multianewarray 26 2, 4) := by decide +kernel
theorem dX10_init_152 : decode cX10_init 152 = .ok (.putfield 58, 3) := by decide +kernel
theorem dX10_init_155 : decode cX10_init 155 = .ok (.aload_n 0, 1) := by decide +kernel
theorem dX10_init_156 : decode cX10_init 156 = .ok (.bipush 46, 2) := by decide +kernel
theorem dX10_init_158 : decode cX10_init 158 = .ok (.newarray .int, 2) := by decide +kernel
theorem dX10_init_160 : decode cX10_init 160 = .ok (.putfield 61, 3) := by decide +kernel
theorem dX10_init_163 : decode cX10_init 163 = .ok (.aload_n 0, 1) := by decide +kernel
theorem dX10_init_164 : decode cX10_init 164 = .ok (.bipush 46, 2) := by decide +kernel
theorem dX10_init_166 : decode cX10_init 166 = .ok (.newarray .int, 2) := by decide +kernel
theorem dX10_init_168 : decode cX10_init 168 = .ok (.putfield 64, 3) := by decide +kernel
theorem dX10_init_171 : decode cX10_init 171 = .ok (.aload_n 0, 1) := by decide +kernel
theorem dX10_init_172 : decode cX10_init 172 = .ok (.bipush 16, 2) := by decide +kernel
theorem dX10_init_174 : decode cX10_init 174 = .ok (.bipush 46, 2) := by decide +kernel
theorem dX10_init_176 : decode cX10_init 176 = .ok (.multianewarray 26 2, 4) := by decide +kernel
theorem dX10_init_180 : decode cX10_init 180 = .ok (.putfield 67, 3) := by decide +kernel
theorem dX10_init_183 : decode cX10_init 183 = .ok (.aload_n 0, 1) := by decide +kernel
theorem dX10_init_184 : decode cX10_init 184 = .ok (.iconst 3, 1) := by decide +kernel
theorem dX10_init_185 : decode cX10_init 185 = .ok (.sipush 783, 3) := by decide +kernel
theorem dX10_init_188 : decode cX10_init 188 = .ok (.multianewarray 26 2, 4) := by decide +kernel
theorem dX10_init_192 : decode cX10_init 192 = .ok (.putfield 70, 3) := by decide +kernel
theorem dX10_init_195 : decode cX10_init 195 = .ok (.aload_n 0, 1) := by decide +kernel
theorem dX10_init_196 : decode cX10_init 196 = .ok (.bipush 16, 2) := by decide +kernel
theorem dX10_init_198 : decode cX10_init 198 = .ok (.newarray .int, 2) := by decide +kernel
theorem dX10_init_200 : decode cX10_init 200 = .ok (.putfield 73, 3) := by decide +kernel
theorem dX10_init_203 : decode cX10_init 203 = .ok (.aload_n 0, 1) := by decide +kernel
theorem dX10_init_204 : decode cX10_init 204 = .ok (.sipush 256, 3) := by decide +kernel
theorem dX10_init_207 : decode cX10_init 207 = .ok (.newarray .int, 2) := by decide +kernel
theorem dX10_init_209 : decode cX10_init 209 = .ok (.putfield 76, 3) := by decide +kernel
theorem dX10_init_212 : decode cX10_init 212 = .ok (.aload_n 0, 1) := by decide +kernel
theorem dX10_init_213 : decode cX10_init 213 = .ok (.sipush 256, 3) := by decide +kernel
theorem dX10_init_216 : decode cX10_init 216 = .ok (.newarray .int, 2) := by decide +kernel
theorem dX10_init_218 : decode cX10_init 218 = .ok (.putfield 79, 3) := by decide +kernel
theorem dX10_init_221 : decode cX10_init 221 = .ok (.aload_n 0, 1) := by decide +kernel
theorem dX10_init_222 : decode cX10_init 222 = .ok (.invokevirtual 82, 3) := by decide +kernel
theorem dX10_init_225 : decode cX10_init 225 = .ok (.aload_n 0, 1) := by decide +kernel
theorem dX10_init_226 : decode cX10_init 226 = .ok (.invokevirtual 85, 3) := by decide +kernel
theorem dX10_init_229 : decode cX10_init 229 = .ok (.return_, 1) := by decide +kernel
theorem dX10_tellsNothing_0 : decode cX10_tellsNothing 0 = .ok (.iconst 0, 1) := by decide +kernel
theorem dX10_tellsNothing_1 : decode cX10_tellsNothing 1 = .ok (.istore_n 1, 1) := by decide +kernel
theorem dX10_tellsNothing_2 : decode cX10_tellsNothing 2 = .ok (.iload_n 1, 1) := by decide +kernel
theorem dX10_tellsNothing_3 : decode cX10_tellsNothing 3 = .ok (.iconst 3, 1) := by decide +kernel
theorem dX10_tellsNothing_4 : decode cX10_tellsNothing 4 = .ok (.if_icmp .ge 16, 3) := by decide +kernel
theorem dX10_tellsNothing_7 : decode cX10_tellsNothing 7 = .ok (.aload_n 0, 1) := by decide +kernel
theorem dX10_tellsNothing_8 : decode cX10_tellsNothing 8 = .ok (.getfield 20, 3) := by decide +kernel
theorem dX10_tellsNothing_11 : decode cX10_tellsNothing 11 = .ok (.iload_n 1, 1) := by decide +kernel
theorem dX10_tellsNothing_12 : decode cX10_tellsNothing 12 = .ok (.iconst 0, 1) := by decide +kernel
theorem dX10_tellsNothing_13 : decode cX10_tellsNothing 13 = .ok (.iastore, 1) := by decide +kernel
theorem dX10_tellsNothing_14 : decode cX10_tellsNothing 14 = .ok (.iinc 1 1, 3) := by decide +kernel
theorem dX10_tellsNothing_17 : decode cX10_tellsNothing 17 = .ok (.goto (-15), 3) := by decide +kernel
theorem dX10_tellsNothing_20 : decode cX10_tellsNothing 20 = .ok (.aload_n 0, 1) := by decide +kernel
theorem dX10_tellsNothing_21 : decode cX10_tellsNothing 21 = .ok (.getfield 20, 3) := by decide +kernel
theorem dX10_tellsNothing_24 : decode cX10_tellsNothing 24 = .ok (.iconst 3, 1) := by decide +kernel
theorem dX10_tellsNothing_25 : decode cX10_tellsNothing 25 = .ok (.bipush 100, 2) := by decide +kernel
theorem dX10_tellsNothing_27 : decode cX10_tellsNothing 27 = .ok (.iastore, 1) := by decide +kernel
theorem dX10_tellsNothing_28 : decode cX10_tellsNothing 28 = .ok (.return_, 1) := by decide +kernel
theorem dX10_thrown_0 : decode cX10_thrown 0 = .ok (.aload_n 0, 1) := by decide +kernel
theorem dX10_thrown_1 : decode cX10_thrown 1 = .ok (.getfield 88, 3) := by decide +kernel
theorem dX10_thrown_4 : decode cX10_thrown 4 = .ok (.ireturn, 1) := by decide +kernel
theorem dX10_bad_0 : decode cX10_bad 0 = .ok (.iload_n 1, 1) := by decide +kernel
theorem dX10_bad_1 : decode cX10_bad 1 = .ok (.ifCond .eq 25, 3) := by decide +kernel
theorem dX10_bad_4 : decode cX10_bad 4 = .ok (.aload_n 0, 1) := by decide +kernel
theorem dX10_bad_5 : decode cX10_bad 5 = .ok (.getfield 88, 3) := by decide +kernel
theorem dX10_bad_8 : decode cX10_bad 8 = .ok (.ifCond .ne 18, 3) := by decide +kernel
theorem dX10_bad_11 : decode cX10_bad 11 = .ok (.aload_n 0, 1) := by decide +kernel
theorem dX10_bad_12 : decode cX10_bad 12 = .ok (.iload_n 2, 1) := by decide +kernel
theorem dX10_bad_13 : decode cX10_bad 13 = .ok (.putfield 88, 3) := by decide +kernel
theorem dX10_bad_16 : decode cX10_bad 16 = .ok (.aload_n 0, 1) := by decide +kernel
theorem dX10_bad_17 : decode cX10_bad 17 = .ok (.getfield 17, 3) := by decide +kernel
theorem dX10_bad_20 : decode cX10_bad 20 = .ok (.iload_n 3, 1) := by decide +kernel
theorem dX10_bad_21 : decode cX10_bad 21 = .ok (.dup2, 1) := by decide +kernel
theorem dX10_bad_22 : decode cX10_bad 22 = .ok (.iaload, 1) := by decide +kernel
theorem dX10_bad_23 : decode cX10_bad 23 = .ok (.iconst 1, 1) := by decide +kernel
theorem dX10_bad_24 : decode cX10_bad 24 = .ok (.iadd, 1) := by decide +kernel
theorem dX10_bad_25 : decode cX10_bad 25 = .ok (.iastore, 1) := by decide +kernel
theorem dX10_bad_26 : decode cX10_bad 26 = .ok (.aload_n 0, 1) := by decide +kernel
theorem dX10_bad_27 : decode cX10_bad 27 = .ok (.getfield 88, 3) := by decide +kernel
theorem dX10_bad_30 : decode cX10_bad 30 = .ok (.ifCond .eq 7, 3) := by decide +kernel
theorem dX10_bad_33 : decode cX10_bad 33 = .ok (.iconst 1, 1) := by decide +kernel
theorem dX10_bad_34 : decode cX10_bad 34 = .ok (.goto 4, 3) := by decide +kernel
theorem dX10_bad_37 : decode cX10_bad 37 = .ok (.iconst 0, 1) := by decide +kernel
theorem dX10_bad_38 : decode cX10_bad 38 = .ok (.ireturn, 1) := by decide +kernel
theorem dX10_in_0 : decode cX10_in 0 = .ok (.iload_n 0, 1) := by decide +kernel
theorem dX10_in_1 : decode cX10_in 1 = .ok (.iload_n 1, 1) := by decide +kernel
theorem dX10_in_2 : decode cX10_in 2 = .ok (.if_icmp .lt 12, 3) := by decide +kernel
theorem dX10_in_5 : decode cX10_in 5 = .ok (.iload_n 0, 1) := by decide +kernel
theorem dX10_in_6 : decode cX10_in 6 = .ok (.iload_n 2, 1) := by decide +kernel
theorem dX10_in_7 : decode cX10_in 7 = .ok (.if_icmp .gt 7, 3) := by decide +kernel
theorem dX10_in_10 : decode cX10_in 10 = .ok (.iconst 1, 1) := by decide +kernel
theorem dX10_in_11 : decode cX10_in 11 = .ok (.goto 4, 3) := by decide +kernel
theorem dX10_in_14 : decode cX10_in 14 = .ok (.iconst 0, 1) := by decide +kernel
theorem dX10_in_15 : decode cX10_in 15 = .ok (.ireturn, 1) := by decide +kernel
theorem dX10_less_0 : decode cX10_less 0 = .ok (.iload_n 0, 1) := by decide +kernel
theorem dX10_less_1 : decode cX10_less 1 = .ok (.iload_n 1, 1) := by decide +kernel
theorem dX10_less_2 : decode cX10_less 2 = .ok (.if_icmp .ge 7, 3) := by decide +kernel
theorem dX10_less_5 : decode cX10_less 5 = .ok (.iload_n 0, 1) := by decide +kernel
theorem dX10_less_6 : decode cX10_less 6 = .ok (.goto 4, 3) := by decide +kernel
theorem dX10_less_9 : decode cX10_less 9 = .ok (.iload_n 1, 1) := by decide +kernel
theorem dX10_less_10 : decode cX10_less 10 = .ok (.ireturn, 1) := by decide +kernel
theorem dX10_more_0 : decode cX10_more 0 = .ok (.iload_n 0, 1) := by decide +kernel
theorem dX10_more_1 : decode cX10_more 1 = .ok (.iload_n 1, 1) := by decide +kernel
theorem dX10_more_2 : decode cX10_more 2 = .ok (.if_icmp .le 7, 3) := by decide +kernel
theorem dX10_more_5 : decode cX10_more 5 = .ok (.iload_n 0, 1) := by decide +kernel
theorem dX10_more_6 : decode cX10_more 6 = .ok (.goto 4, 3) := by decide +kernel
theorem dX10_more_9 : decode cX10_more 9 = .ok (.iload_n 1, 1) := by decide +kernel
theorem dX10_more_10 : decode cX10_more 10 = .ok (.ireturn, 1) := by decide +kernel
theorem dX10_has_0 : decode cX10_has 0 = .ok (.iload_n 0, 1) := by decide +kernel
theorem dX10_has_1 : decode cX10_has 1 = .ok (.iload_n 1, 1) := by decide +kernel
theorem dX10_has_2 : decode cX10_has 2 = .ok (.ishr, 1) := by decide +kernel
theorem dX10_has_3 : decode cX10_has 3 = .ok (.iconst 1, 1) := by decide +kernel
theorem dX10_has_4 : decode cX10_has 4 = .ok (.iand, 1) := by decide +kernel
theorem dX10_has_5 : decode cX10_has 5 = .ok (.iconst 1, 1) := by decide +kernel
theorem dX10_has_6 : decode cX10_has 6 = .ok (.if_icmp .ne 7, 3) := by decide +kernel
theorem dX10_has_9 : decode cX10_has 9 = .ok (.iconst 1, 1) := by decide +kernel
theorem dX10_has_10 : decode cX10_has 10 = .ok (.goto 4, 3) := by decide +kernel
theorem dX10_has_13 : decode cX10_has 13 = .ok (.iconst 0, 1) := by decide +kernel
theorem dX10_has_14 : decode cX10_has 14 = .ok (.ireturn, 1) := by decide +kernel
theorem dX10_feed_0 : decode cX10_feed 0 = .ok (.aload_n 0, 1) := by decide +kernel
theorem dX10_feed_1 : decode cX10_feed 1 = .ok (.iconst 0, 1) := by decide +kernel
theorem dX10_feed_2 : decode cX10_feed 2 = .ok (.putfield 88, 3) := by decide +kernel
theorem dX10_feed_5 : decode cX10_feed 5 = .ok (.aload_n 0, 1) := by decide +kernel
theorem dX10_feed_6 : decode cX10_feed 6 = .ok (.getfield 91, 3) := by decide +kernel
theorem dX10_feed_9 : decode cX10_feed 9 = .ok (.bipush 20, 2) := by decide +kernel
theorem dX10_feed_11 : decode cX10_feed 11 = .ok (.iadd, 1) := by decide +kernel
theorem dX10_feed_12 : decode cX10_feed 12 = .ok (.sipush 600, 3) := by decide +kernel
theorem dX10_feed_15 : decode cX10_feed 15 = .ok (.if_icmp .le 5, 3) := by decide +kernel
theorem dX10_feed_18 : decode cX10_feed 18 = .ok (.iconst (-1), 1) := by decide +kernel
theorem dX10_feed_19 : decode cX10_feed 19 = .ok (.ireturn, 1) := by decide +kernel
theorem dX10_feed_20 : decode cX10_feed 20 = .ok (.iconst 0, 1) := by decide +kernel
theorem dX10_feed_21 : decode cX10_feed 21 = .ok (.istore 6, 2) := by decide +kernel
theorem dX10_feed_23 : decode cX10_feed 23 = .ok (.iload 6, 2) := by decide +kernel
theorem dX10_feed_25 : decode cX10_feed 25 = .ok (.bipush 20, 2) := by decide +kernel
theorem dX10_feed_27 : decode cX10_feed 27 = .ok (.if_icmp .ge 93, 3) := by decide +kernel
theorem dX10_feed_30 : decode cX10_feed 30 = .ok (.iload 6, 2) := by decide +kernel
theorem dX10_feed_32 : decode cX10_feed 32 = .ok (.iconst 4, 1) := by decide +kernel
theorem dX10_feed_33 : decode cX10_feed 33 = .ok (.if_icmp .ge 7, 3) := by decide +kernel
theorem dX10_feed_36 : decode cX10_feed 36 = .ok (.iload_n 1, 1) := by decide +kernel
theorem dX10_feed_37 : decode cX10_feed 37 = .ok (.goto 39, 3) := by decide +kernel
theorem dX10_feed_40 : decode cX10_feed 40 = .ok (.iload 6, 2) := by decide +kernel
theorem dX10_feed_42 : decode cX10_feed 42 = .ok (.bipush 8, 2) := by decide +kernel
theorem dX10_feed_44 : decode cX10_feed 44 = .ok (.if_icmp .ge 7, 3) := by decide +kernel
theorem dX10_feed_47 : decode cX10_feed 47 = .ok (.iload_n 2, 1) := by decide +kernel
theorem dX10_feed_48 : decode cX10_feed 48 = .ok (.goto 28, 3) := by decide +kernel
theorem dX10_feed_51 : decode cX10_feed 51 = .ok (.iload 6, 2) := by decide +kernel
theorem dX10_feed_53 : decode cX10_feed 53 = .ok (.bipush 12, 2) := by decide +kernel
theorem dX10_feed_55 : decode cX10_feed 55 = .ok (.if_icmp .ge 7, 3) := by decide +kernel
theorem dX10_feed_58 : decode cX10_feed 58 = .ok (.iload_n 3, 1) := by decide +kernel
theorem dX10_feed_59 : decode cX10_feed 59 = .ok (.goto 17, 3) := by decide +kernel
theorem dX10_feed_62 : decode cX10_feed 62 = .ok (.iload 6, 2) := by decide +kernel
theorem dX10_feed_64 : decode cX10_feed 64 = .ok (.bipush 16, 2) := by decide +kernel
theorem dX10_feed_66 : decode cX10_feed 66 = .ok (.if_icmp .ge 8, 3) := by decide +kernel
theorem dX10_feed_69 : decode cX10_feed 69 = .ok (.iload 4, 2) := by decide +kernel
theorem dX10_feed_71 : decode cX10_feed 71 = .ok (.goto 5, 3) := by decide +kernel
theorem dX10_feed_74 : decode cX10_feed 74 = .ok (.iload 5, 2) := by decide +kernel
theorem dX10_feed_76 : decode cX10_feed 76 = .ok (.istore 7, 2) := by decide +kernel
theorem dX10_feed_78 : decode cX10_feed 78 = .ok (.aload_n 0, 1) := by decide +kernel
theorem dX10_feed_79 : decode cX10_feed 79 = .ok (.getfield 13, 3) := by decide +kernel
theorem dX10_feed_82 : decode cX10_feed 82 = .ok (.aload_n 0, 1) := by decide +kernel
theorem dX10_feed_83 : decode cX10_feed 83 = .ok (.getfield 91, 3) := by decide +kernel
theorem dX10_feed_86 : decode cX10_feed 86 = .ok (.iload 7, 2) := by decide +kernel
theorem dX10_feed_88 : decode cX10_feed 88 = .ok (.bipush 24, 2) := by decide +kernel
theorem dX10_feed_90 : decode cX10_feed 90 = .ok (.bipush 8, 2) := by decide +kernel
theorem dX10_feed_92 : decode cX10_feed 92 = .ok (.iload 6, 2) := by decide +kernel
theorem dX10_feed_94 : decode cX10_feed 94 = .ok (.iconst 4, 1) := by decide +kernel
theorem dX10_feed_95 : decode cX10_feed 95 = .ok (.irem, 1) := by decide +kernel
theorem dX10_feed_96 : decode cX10_feed 96 = .ok (.imul, 1) := by decide +kernel
theorem dX10_feed_97 : decode cX10_feed 97 = .ok (.isub, 1) := by decide +kernel
theorem dX10_feed_98 : decode cX10_feed 98 = .ok (.ishr, 1) := by decide +kernel
theorem dX10_feed_99 : decode cX10_feed 99 = .ok (.sipush 255, 3) := by decide +kernel
theorem dX10_feed_102 : decode cX10_feed 102 = .ok (.iand, 1) := by decide +kernel
theorem dX10_feed_103 : decode cX10_feed 103 = .ok (.iastore, 1) := by decide +kernel
theorem dX10_feed_104 : decode cX10_feed 104 = .ok (.aload_n 0, 1) := by decide +kernel
theorem dX10_feed_105 : decode cX10_feed 105 = .ok (.dup, 1) := by decide +kernel
theorem dX10_feed_106 : decode cX10_feed 106 = .ok (.getfield 91, 3) := by decide +kernel
theorem dX10_feed_109 : decode cX10_feed 109 = .ok (.iconst 1, 1) := by decide +kernel
theorem dX10_feed_110 : decode cX10_feed 110 = .ok (.iadd, 1) := by decide +kernel
theorem dX10_feed_111 : decode cX10_feed 111 = .ok (.putfield 91, 3) := by decide +kernel
theorem dX10_feed_114 : decode cX10_feed 114 = .ok (.iinc 6 1, 3) := by decide +kernel
theorem dX10_feed_117 : decode cX10_feed 117 = .ok (.goto (-94), 3) := by decide +kernel
theorem dX10_feed_120 : decode cX10_feed 120 = .ok (.aload_n 0, 1) := by decide +kernel
theorem dX10_feed_121 : decode cX10_feed 121 = .ok (.getfield 91, 3) := by decide +kernel
theorem dX10_feed_124 : decode cX10_feed 124 = .ok (.ireturn, 1) := by decide +kernel
theorem dX10_byteAt_0 : decode cX10_byteAt 0 = .ok (.iload_n 1, 1) := by decide +kernel
theorem dX10_byteAt_1 : decode cX10_byteAt 1 = .ok (.aload_n 0, 1) := by decide +kernel
theorem dX10_byteAt_2 : decode cX10_byteAt 2 = .ok (.getfield 94, 3) := by decide +kernel
theorem dX10_byteAt_5 : decode cX10_byteAt 5 = .ok (.if_icmp .lt 7, 3) := by decide +kernel
theorem dX10_byteAt_8 : decode cX10_byteAt 8 = .ok (.iconst (-1), 1) := by decide +kernel
theorem dX10_byteAt_9 : decode cX10_byteAt 9 = .ok (.goto 9, 3) := by decide +kernel
theorem dX10_byteAt_12 : decode cX10_byteAt 12 = .ok (.aload_n 0, 1) := by decide +kernel
theorem dX10_byteAt_13 : decode cX10_byteAt 13 = .ok (.getfield 13, 3) := by decide +kernel
theorem dX10_byteAt_16 : decode cX10_byteAt 16 = .ok (.iload_n 1, 1) := by decide +kernel
theorem dX10_byteAt_17 : decode cX10_byteAt 17 = .ok (.iaload, 1) := by decide +kernel
theorem dX10_byteAt_18 : decode cX10_byteAt 18 = .ok (.ireturn, 1) := by decide +kernel
theorem dX10_blanks_0 : decode cX10_blanks 0 = .ok (.aload_n 0, 1) := by decide +kernel
theorem dX10_blanks_1 : decode cX10_blanks 1 = .ok (.aload_n 0, 1) := by decide +kernel
theorem dX10_blanks_2 : decode cX10_blanks 2 = .ok (.getfield 97, 3) := by decide +kernel
theorem dX10_blanks_5 : decode cX10_blanks 5 = .ok (.invokevirtual 100, 3) := by decide +kernel
theorem dX10_blanks_8 : decode cX10_blanks 8 = .ok (.bipush 32, 2) := by decide +kernel
theorem dX10_blanks_10 : decode cX10_blanks 10 = .ok (.if_icmp .ne 16, 3) := by decide +kernel
theorem dX10_blanks_13 : decode cX10_blanks 13 = .ok (.aload_n 0, 1) := by decide +kernel
theorem dX10_blanks_14 : decode cX10_blanks 14 = .ok (.dup, 1) := by decide +kernel
theorem dX10_blanks_15 : decode cX10_blanks 15 = .ok (.getfield 97, 3) := by decide +kernel
theorem dX10_blanks_18 : decode cX10_blanks 18 = .ok (.iconst 1, 1) := by decide +kernel
theorem dX10_blanks_19 : decode cX10_blanks 19 = .ok (.iadd, 1) := by decide +kernel
theorem dX10_blanks_20 : decode cX10_blanks 20 = .ok (.putfield 97, 3) := by decide +kernel
theorem dX10_blanks_23 : decode cX10_blanks 23 = .ok (.goto (-23), 3) := by decide +kernel
theorem dX10_blanks_26 : decode cX10_blanks 26 = .ok (.return_, 1) := by decide +kernel
theorem dX10_wrong_0 : decode cX10_wrong 0 = .ok (.aload_n 0, 1) := by decide +kernel
theorem dX10_wrong_1 : decode cX10_wrong 1 = .ok (.getfield 104, 3) := by decide +kernel
theorem dX10_wrong_4 : decode cX10_wrong 4 = .ok (.ifCond .ne 13, 3) := by decide +kernel
theorem dX10_wrong_7 : decode cX10_wrong 7 = .ok (.aload_n 0, 1) := by decide +kernel
theorem dX10_wrong_8 : decode cX10_wrong 8 = .ok (.iload_n 1, 1) := by decide +kernel
theorem dX10_wrong_9 : decode cX10_wrong 9 = .ok (.putfield 104, 3) := by decide +kernel
theorem dX10_wrong_12 : decode cX10_wrong 12 = .ok (.aload_n 0, 1) := by decide +kernel
theorem dX10_wrong_13 : decode cX10_wrong 13 = .ok (.iload_n 2, 1) := by decide +kernel
theorem dX10_wrong_14 : decode cX10_wrong 14 = .ok (.putfield 107, 3) := by decide +kernel
theorem dX10_wrong_17 : decode cX10_wrong 17 = .ok (.return_, 1) := by decide +kernel
theorem dX10_isDigit_0 : decode cX10_isDigit 0 = .ok (.iload_n 0, 1) := by decide +kernel
theorem dX10_isDigit_1 : decode cX10_isDigit 1 = .ok (.bipush 48, 2) := by decide +kernel
theorem dX10_isDigit_3 : decode cX10_isDigit 3 = .ok (.if_icmp .lt 13, 3) := by decide +kernel
theorem dX10_isDigit_6 : decode cX10_isDigit 6 = .ok (.iload_n 0, 1) := by decide +kernel
theorem dX10_isDigit_7 : decode cX10_isDigit 7 = .ok (.bipush 57, 2) := by decide +kernel
theorem dX10_isDigit_9 : decode cX10_isDigit 9 = .ok (.if_icmp .gt 7, 3) := by decide +kernel
theorem dX10_isDigit_12 : decode cX10_isDigit 12 = .ok (.iconst 1, 1) := by decide +kernel
theorem dX10_isDigit_13 : decode cX10_isDigit 13 = .ok (.goto 4, 3) := by decide +kernel
theorem dX10_isDigit_16 : decode cX10_isDigit 16 = .ok (.iconst 0, 1) := by decide +kernel
theorem dX10_isDigit_17 : decode cX10_isDigit 17 = .ok (.ireturn, 1) := by decide +kernel
theorem dX10_isSmall_0 : decode cX10_isSmall 0 = .ok (.iload_n 0, 1) := by decide +kernel
theorem dX10_isSmall_1 : decode cX10_isSmall 1 = .ok (.bipush 97, 2) := by decide +kernel
theorem dX10_isSmall_3 : decode cX10_isSmall 3 = .ok (.if_icmp .lt 13, 3) := by decide +kernel
theorem dX10_isSmall_6 : decode cX10_isSmall 6 = .ok (.iload_n 0, 1) := by decide +kernel
theorem dX10_isSmall_7 : decode cX10_isSmall 7 = .ok (.bipush 122, 2) := by decide +kernel
theorem dX10_isSmall_9 : decode cX10_isSmall 9 = .ok (.if_icmp .gt 7, 3) := by decide +kernel
theorem dX10_isSmall_12 : decode cX10_isSmall 12 = .ok (.iconst 1, 1) := by decide +kernel
theorem dX10_isSmall_13 : decode cX10_isSmall 13 = .ok (.goto 4, 3) := by decide +kernel
theorem dX10_isSmall_16 : decode cX10_isSmall 16 = .ok (.iconst 0, 1) := by decide +kernel
theorem dX10_isSmall_17 : decode cX10_isSmall 17 = .ok (.ireturn, 1) := by decide +kernel
theorem dX10_number_0 : decode cX10_number 0 = .ok (.aload_n 0, 1) := by decide +kernel
theorem dX10_number_1 : decode cX10_number 1 = .ok (.getfield 104, 3) := by decide +kernel
theorem dX10_number_4 : decode cX10_number 4 = .ok (.ifCond .eq 5, 3) := by decide +kernel
theorem dX10_number_7 : decode cX10_number 7 = .ok (.iconst 0, 1) := by decide +kernel
theorem dX10_number_8 : decode cX10_number 8 = .ok (.ireturn, 1) := by decide +kernel
theorem dX10_number_9 : decode cX10_number 9 = .ok (.aload_n 0, 1) := by decide +kernel
theorem dX10_number_10 : decode cX10_number 10 = .ok (.invokevirtual 110, 3) := by decide +kernel
theorem dX10_number_13 : decode cX10_number 13 = .ok (.aload_n 0, 1) := by decide +kernel
theorem dX10_number_14 : decode cX10_number 14 = .ok (.getfield 97, 3) := by decide +kernel
theorem dX10_number_17 : decode cX10_number 17 = .ok (.istore_n 3, 1) := by decide +kernel
theorem dX10_number_18 : decode cX10_number 18 = .ok (.iconst 0, 1) := by decide +kernel
theorem dX10_number_19 : decode cX10_number 19 = .ok (.istore 4, 2) := by decide +kernel
theorem dX10_number_21 : decode cX10_number 21 = .ok (.aload_n 0, 1) := by decide +kernel
theorem dX10_number_22 : decode cX10_number 22 = .ok (.aload_n 0, 1) := by decide +kernel
theorem dX10_number_23 : decode cX10_number 23 = .ok (.getfield 97, 3) := by decide +kernel
theorem dX10_number_26 : decode cX10_number 26 = .ok (.invokevirtual 100, 3) := by decide +kernel
theorem dX10_number_29 : decode cX10_number 29 = .ok (.invokestatic 113, 3) := by decide +kernel
theorem dX10_number_32 : decode cX10_number 32 = .ok (.ifCond .ne 12, 3) := by decide +kernel
theorem dX10_number_35 : decode cX10_number 35 = .ok (.aload_n 0, 1) := by decide +kernel
theorem dX10_number_36 : decode cX10_number 36 = .ok (.iconst 1, 1) := by decide +kernel
theorem dX10_number_37 : decode cX10_number 37 = .ok (.aload_n 0, 1) := by decide +kernel
theorem dX10_number_38 : decode cX10_number 38 = .ok (.getfield 97, 3) := by decide +kernel
theorem dX10_number_41 : decode cX10_number 41 = .ok (.invokevirtual 117, 3) := by decide +kernel
theorem dX10_number_44 : decode cX10_number 44 = .ok (.aload_n 0, 1) := by decide +kernel
theorem dX10_number_45 : decode cX10_number 45 = .ok (.aload_n 0, 1) := by decide +kernel
theorem dX10_number_46 : decode cX10_number 46 = .ok (.getfield 97, 3) := by decide +kernel
theorem dX10_number_49 : decode cX10_number 49 = .ok (.invokevirtual 100, 3) := by decide +kernel
theorem dX10_number_52 : decode cX10_number 52 = .ok (.invokestatic 113, 3) := by decide +kernel
theorem dX10_number_55 : decode cX10_number 55 = .ok (.ifCond .eq 51, 3) := by decide +kernel
theorem dX10_number_58 : decode cX10_number 58 = .ok (.bipush 10, 2) := by decide +kernel
theorem dX10_number_60 : decode cX10_number 60 = .ok (.iload 4, 2) := by decide +kernel
theorem dX10_number_62 : decode cX10_number 62 = .ok (.imul, 1) := by decide +kernel
theorem dX10_number_63 : decode cX10_number 63 = .ok (.aload_n 0, 1) := by decide +kernel
theorem dX10_number_64 : decode cX10_number 64 = .ok (.aload_n 0, 1) := by decide +kernel
theorem dX10_number_65 : decode cX10_number 65 = .ok (.getfield 97, 3) := by decide +kernel
theorem dX10_number_68 : decode cX10_number 68 = .ok (.invokevirtual 100, 3) := by decide +kernel
theorem dX10_number_71 : decode cX10_number 71 = .ok (.iadd, 1) := by decide +kernel
theorem dX10_number_72 : decode cX10_number 72 = .ok (.bipush 48, 2) := by decide +kernel
theorem dX10_number_74 : decode cX10_number 74 = .ok (.isub, 1) := by decide +kernel
theorem dX10_number_75 : decode cX10_number 75 = .ok (.istore 4, 2) := by decide +kernel
theorem dX10_number_77 : decode cX10_number 77 = .ok (.iload 4, 2) := by decide +kernel
theorem dX10_number_79 : decode cX10_number 79 = .ok (.ldc 121, 2) := by decide +kernel
theorem dX10_number_81 : decode cX10_number 81 = .ok (.if_icmp .le 8, 3) := by decide +kernel
theorem dX10_number_84 : decode cX10_number 84 = .ok (.ldc 121, 2) := by decide +kernel
theorem dX10_number_86 : decode cX10_number 86 = .ok (.goto 5, 3) := by decide +kernel
theorem dX10_number_89 : decode cX10_number 89 = .ok (.iload 4, 2) := by decide +kernel
theorem dX10_number_91 : decode cX10_number 91 = .ok (.istore 4, 2) := by decide +kernel
theorem dX10_number_93 : decode cX10_number 93 = .ok (.aload_n 0, 1) := by decide +kernel
theorem dX10_number_94 : decode cX10_number 94 = .ok (.dup, 1) := by decide +kernel
theorem dX10_number_95 : decode cX10_number 95 = .ok (.getfield 97, 3) := by decide +kernel
theorem dX10_number_98 : decode cX10_number 98 = .ok (.iconst 1, 1) := by decide +kernel
theorem dX10_number_99 : decode cX10_number 99 = .ok (.iadd, 1) := by decide +kernel
theorem dX10_number_100 : decode cX10_number 100 = .ok (.putfield 97, 3) := by decide +kernel
theorem dX10_number_103 : decode cX10_number 103 = .ok (.goto (-59), 3) := by decide +kernel
theorem dX10_number_106 : decode cX10_number 106 = .ok (.iload 4, 2) := by decide +kernel
theorem dX10_number_108 : decode cX10_number 108 = .ok (.iload_n 1, 1) := by decide +kernel
theorem dX10_number_109 : decode cX10_number 109 = .ok (.iload_n 2, 1) := by decide +kernel
theorem dX10_number_110 : decode cX10_number 110 = .ok (.invokestatic 122, 3) := by decide +kernel
theorem dX10_number_113 : decode cX10_number 113 = .ok (.ifCond .ne 9, 3) := by decide +kernel
theorem dX10_number_116 : decode cX10_number 116 = .ok (.aload_n 0, 1) := by decide +kernel
theorem dX10_number_117 : decode cX10_number 117 = .ok (.iconst 2, 1) := by decide +kernel
theorem dX10_number_118 : decode cX10_number 118 = .ok (.iload_n 3, 1) := by decide +kernel
theorem dX10_number_119 : decode cX10_number 119 = .ok (.invokevirtual 117, 3) := by decide +kernel
theorem dX10_number_122 : decode cX10_number 122 = .ok (.aload_n 0, 1) := by decide +kernel
theorem dX10_number_123 : decode cX10_number 123 = .ok (.getfield 104, 3) := by decide +kernel
theorem dX10_number_126 : decode cX10_number 126 = .ok (.ifCond .ne 8, 3) := by decide +kernel
theorem dX10_number_129 : decode cX10_number 129 = .ok (.iload 4, 2) := by decide +kernel
theorem dX10_number_131 : decode cX10_number 131 = .ok (.goto 4, 3) := by decide +kernel
theorem dX10_number_134 : decode cX10_number 134 = .ok (.iconst 0, 1) := by decide +kernel
theorem dX10_number_135 : decode cX10_number 135 = .ok (.ireturn, 1) := by decide +kernel
theorem dX10_wordHere_0 : decode cX10_wordHere 0 = .ok (.aload_n 0, 1) := by decide +kernel
theorem dX10_wordHere_1 : decode cX10_wordHere 1 = .ok (.invokevirtual 110, 3) := by decide +kernel
theorem dX10_wordHere_4 : decode cX10_wordHere 4 = .ok (.iconst 0, 1) := by decide +kernel
theorem dX10_wordHere_5 : decode cX10_wordHere 5 = .ok (.istore_n 1, 1) := by decide +kernel
theorem dX10_wordHere_6 : decode cX10_wordHere 6 = .ok (.iconst 0, 1) := by decide +kernel
theorem dX10_wordHere_7 : decode cX10_wordHere 7 = .ok (.istore_n 2, 1) := by decide +kernel
theorem dX10_wordHere_8 : decode cX10_wordHere 8 = .ok (.aload_n 0, 1) := by decide +kernel
theorem dX10_wordHere_9 : decode cX10_wordHere 9 = .ok (.aload_n 0, 1) := by decide +kernel
theorem dX10_wordHere_10 : decode cX10_wordHere 10 = .ok (.getfield 97, 3) := by decide +kernel
theorem dX10_wordHere_13 : decode cX10_wordHere 13 = .ok (.iload_n 2, 1) := by decide +kernel
theorem dX10_wordHere_14 : decode cX10_wordHere 14 = .ok (.iadd, 1) := by decide +kernel
theorem dX10_wordHere_15 : decode cX10_wordHere 15 = .ok (.invokevirtual 100, 3) := by decide +kernel
theorem dX10_wordHere_18 : decode cX10_wordHere 18 = .ok (.invokestatic 126, 3) := by decide +kernel
theorem dX10_wordHere_21 : decode cX10_wordHere 21 = .ok (.ifCond .eq 40, 3) := by decide +kernel
theorem dX10_wordHere_24 : decode cX10_wordHere 24 = .ok (.iload_n 2, 1) := by decide +kernel
theorem dX10_wordHere_25 : decode cX10_wordHere 25 = .ok (.bipush 6, 2) := by decide +kernel
theorem dX10_wordHere_27 : decode cX10_wordHere 27 = .ok (.if_icmp .ge 26, 3) := by decide +kernel
theorem dX10_wordHere_30 : decode cX10_wordHere 30 = .ok (.bipush 27, 2) := by decide +kernel
theorem dX10_wordHere_32 : decode cX10_wordHere 32 = .ok (.iload_n 1, 1) := by decide +kernel
theorem dX10_wordHere_33 : decode cX10_wordHere 33 = .ok (.imul, 1) := by decide +kernel
theorem dX10_wordHere_34 : decode cX10_wordHere 34 = .ok (.aload_n 0, 1) := by decide +kernel
theorem dX10_wordHere_35 : decode cX10_wordHere 35 = .ok (.aload_n 0, 1) := by decide +kernel
theorem dX10_wordHere_36 : decode cX10_wordHere 36 = .ok (.getfield 97, 3) := by decide +kernel
theorem dX10_wordHere_39 : decode cX10_wordHere 39 = .ok (.iload_n 2, 1) := by decide +kernel
theorem dX10_wordHere_40 : decode cX10_wordHere 40 = .ok (.iadd, 1) := by decide +kernel
theorem dX10_wordHere_41 : decode cX10_wordHere 41 = .ok (.invokevirtual 100, 3) := by decide +kernel
theorem dX10_wordHere_44 : decode cX10_wordHere 44 = .ok (.iadd, 1) := by decide +kernel
theorem dX10_wordHere_45 : decode cX10_wordHere 45 = .ok (.bipush 97, 2) := by decide +kernel
theorem dX10_wordHere_47 : decode cX10_wordHere 47 = .ok (.isub, 1) := by decide +kernel
theorem dX10_wordHere_48 : decode cX10_wordHere 48 = .ok (.iconst 1, 1) := by decide +kernel
theorem dX10_wordHere_49 : decode cX10_wordHere 49 = .ok (.iadd, 1) := by decide +kernel
theorem dX10_wordHere_50 : decode cX10_wordHere 50 = .ok (.goto 4, 3) := by decide +kernel
theorem dX10_wordHere_53 : decode cX10_wordHere 53 = .ok (.iload_n 1, 1) := by decide +kernel
theorem dX10_wordHere_54 : decode cX10_wordHere 54 = .ok (.istore_n 1, 1) := by decide +kernel
theorem dX10_wordHere_55 : decode cX10_wordHere 55 = .ok (.iinc 2 1, 3) := by decide +kernel
theorem dX10_wordHere_58 : decode cX10_wordHere 58 = .ok (.goto (-50), 3) := by decide +kernel
theorem dX10_wordHere_61 : decode cX10_wordHere 61 = .ok (.iload_n 2, 1) := by decide +kernel
theorem dX10_wordHere_62 : decode cX10_wordHere 62 = .ok (.bipush 6, 2) := by decide +kernel
theorem dX10_wordHere_64 : decode cX10_wordHere 64 = .ok (.if_icmp .le 7, 3) := by decide +kernel
theorem dX10_wordHere_67 : decode cX10_wordHere 67 = .ok (.iconst (-1), 1) := by decide +kernel
theorem dX10_wordHere_68 : decode cX10_wordHere 68 = .ok (.goto 4, 3) := by decide +kernel
theorem dX10_wordHere_71 : decode cX10_wordHere 71 = .ok (.iload_n 1, 1) := by decide +kernel
theorem dX10_wordHere_72 : decode cX10_wordHere 72 = .ok (.ireturn, 1) := by decide +kernel
theorem dX10_six_0 : decode cX10_six 0 = .ok (.bipush 27, 2) := by decide +kernel
theorem dX10_six_2 : decode cX10_six 2 = .ok (.bipush 27, 2) := by decide +kernel
theorem dX10_six_4 : decode cX10_six 4 = .ok (.iload_n 0, 1) := by decide +kernel
theorem dX10_six_5 : decode cX10_six 5 = .ok (.imul, 1) := by decide +kernel
theorem dX10_six_6 : decode cX10_six 6 = .ok (.iload_n 1, 1) := by decide +kernel
theorem dX10_six_7 : decode cX10_six 7 = .ok (.iadd, 1) := by decide +kernel
theorem dX10_six_8 : decode cX10_six 8 = .ok (.imul, 1) := by decide +kernel
theorem dX10_six_9 : decode cX10_six 9 = .ok (.iload_n 2, 1) := by decide +kernel
theorem dX10_six_10 : decode cX10_six 10 = .ok (.iadd, 1) := by decide +kernel
theorem dX10_six_11 : decode cX10_six 11 = .ok (.istore 6, 2) := by decide +kernel
theorem dX10_six_13 : decode cX10_six 13 = .ok (.iload_n 3, 1) := by decide +kernel
theorem dX10_six_14 : decode cX10_six 14 = .ok (.ifCond .ne 8, 3) := by decide +kernel
theorem dX10_six_17 : decode cX10_six 17 = .ok (.iload 6, 2) := by decide +kernel
theorem dX10_six_19 : decode cX10_six 19 = .ok (.goto 10, 3) := by decide +kernel
theorem dX10_six_22 : decode cX10_six 22 = .ok (.bipush 27, 2) := by decide +kernel
theorem dX10_six_24 : decode cX10_six 24 = .ok (.iload 6, 2) := by decide +kernel
theorem dX10_six_26 : decode cX10_six 26 = .ok (.imul, 1) := by decide +kernel
theorem dX10_six_27 : decode cX10_six 27 = .ok (.iload_n 3, 1) := by decide +kernel
theorem dX10_six_28 : decode cX10_six 28 = .ok (.iadd, 1) := by decide +kernel
theorem dX10_six_29 : decode cX10_six 29 = .ok (.istore 6, 2) := by decide +kernel
theorem dX10_six_31 : decode cX10_six 31 = .ok (.iload 4, 2) := by decide +kernel
theorem dX10_six_33 : decode cX10_six 33 = .ok (.ifCond .ne 8, 3) := by decide +kernel
theorem dX10_six_36 : decode cX10_six 36 = .ok (.iload 6, 2) := by decide +kernel
theorem dX10_six_38 : decode cX10_six 38 = .ok (.goto 11, 3) := by decide +kernel
theorem dX10_six_41 : decode cX10_six 41 = .ok (.bipush 27, 2) := by decide +kernel
theorem dX10_six_43 : decode cX10_six 43 = .ok (.iload 6, 2) := by decide +kernel
theorem dX10_six_45 : decode cX10_six 45 = .ok (.imul, 1) := by decide +kernel
theorem dX10_six_46 : decode cX10_six 46 = .ok (.iload 4, 2) := by decide +kernel
theorem dX10_six_48 : decode cX10_six 48 = .ok (.iadd, 1) := by decide +kernel
theorem dX10_six_49 : decode cX10_six 49 = .ok (.istore 6, 2) := by decide +kernel
theorem dX10_six_51 : decode cX10_six 51 = .ok (.iload 5, 2) := by decide +kernel
theorem dX10_six_53 : decode cX10_six 53 = .ok (.ifCond .ne 8, 3) := by decide +kernel
theorem dX10_six_56 : decode cX10_six 56 = .ok (.iload 6, 2) := by decide +kernel
theorem dX10_six_58 : decode cX10_six 58 = .ok (.goto 11, 3) := by decide +kernel
theorem dX10_six_61 : decode cX10_six 61 = .ok (.bipush 27, 2) := by decide +kernel
theorem dX10_six_63 : decode cX10_six 63 = .ok (.iload 6, 2) := by decide +kernel
theorem dX10_six_65 : decode cX10_six 65 = .ok (.imul, 1) := by decide +kernel
theorem dX10_six_66 : decode cX10_six 66 = .ok (.iload 5, 2) := by decide +kernel
theorem dX10_six_68 : decode cX10_six 68 = .ok (.iadd, 1) := by decide +kernel
theorem dX10_six_69 : decode cX10_six 69 = .ok (.ireturn, 1) := by decide +kernel
theorem dX10_isWord_0 : decode cX10_isWord 0 = .ok (.aload_n 0, 1) := by decide +kernel
theorem dX10_isWord_1 : decode cX10_isWord 1 = .ok (.getfield 104, 3) := by decide +kernel
theorem dX10_isWord_4 : decode cX10_isWord 4 = .ok (.ifCond .ne 26, 3) := by decide +kernel
theorem dX10_isWord_7 : decode cX10_isWord 7 = .ok (.aload_n 0, 1) := by decide +kernel
theorem dX10_isWord_8 : decode cX10_isWord 8 = .ok (.invokevirtual 129, 3) := by decide +kernel
theorem dX10_isWord_11 : decode cX10_isWord 11 = .ok (.iload_n 1, 1) := by decide +kernel
theorem dX10_isWord_12 : decode cX10_isWord 12 = .ok (.iload_n 2, 1) := by decide +kernel
theorem dX10_isWord_13 : decode cX10_isWord 13 = .ok (.iload_n 3, 1) := by decide +kernel
theorem dX10_isWord_14 : decode cX10_isWord 14 = .ok (.iload 4, 2) := by decide +kernel
theorem dX10_isWord_16 : decode cX10_isWord 16 = .ok (.iload 5, 2) := by decide +kernel
theorem dX10_isWord_18 : decode cX10_isWord 18 = .ok (.iload 6, 2) := by decide +kernel
theorem dX10_isWord_20 : decode cX10_isWord 20 = .ok (.invokestatic 133, 3) := by decide +kernel
theorem dX10_isWord_23 : decode cX10_isWord 23 = .ok (.if_icmp .ne 7, 3) := by decide +kernel
theorem dX10_isWord_26 : decode cX10_isWord 26 = .ok (.iconst 1, 1) := by decide +kernel
theorem dX10_isWord_27 : decode cX10_isWord 27 = .ok (.goto 4, 3) := by decide +kernel
theorem dX10_isWord_30 : decode cX10_isWord 30 = .ok (.iconst 0, 1) := by decide +kernel
theorem dX10_isWord_31 : decode cX10_isWord 31 = .ok (.ireturn, 1) := by decide +kernel
theorem dX10_skipWord_0 : decode cX10_skipWord 0 = .ok (.aload_n 0, 1) := by decide +kernel
theorem dX10_skipWord_1 : decode cX10_skipWord 1 = .ok (.aload_n 0, 1) := by decide +kernel
theorem dX10_skipWord_2 : decode cX10_skipWord 2 = .ok (.getfield 97, 3) := by decide +kernel
theorem dX10_skipWord_5 : decode cX10_skipWord 5 = .ok (.invokevirtual 100, 3) := by decide +kernel
theorem dX10_skipWord_8 : decode cX10_skipWord 8 = .ok (.invokestatic 126, 3) := by decide +kernel
theorem dX10_skipWord_11 : decode cX10_skipWord 11 = .ok (.ifCond .eq 16, 3) := by decide +kernel
theorem dX10_skipWord_14 : decode cX10_skipWord 14 = .ok (.aload_n 0, 1) := by decide +kernel
theorem dX10_skipWord_15 : decode cX10_skipWord 15 = .ok (.dup, 1) := by decide +kernel
theorem dX10_skipWord_16 : decode cX10_skipWord 16 = .ok (.getfield 97, 3) := by decide +kernel
theorem dX10_skipWord_19 : decode cX10_skipWord 19 = .ok (.iconst 1, 1) := by decide +kernel
theorem dX10_skipWord_20 : decode cX10_skipWord 20 = .ok (.iadd, 1) := by decide +kernel
theorem dX10_skipWord_21 : decode cX10_skipWord 21 = .ok (.putfield 97, 3) := by decide +kernel
theorem dX10_skipWord_24 : decode cX10_skipWord 24 = .ok (.goto (-24), 3) := by decide +kernel
theorem dX10_skipWord_27 : decode cX10_skipWord 27 = .ok (.return_, 1) := by decide +kernel
theorem dX10_takes_0 : decode cX10_takes 0 = .ok (.aload_n 0, 1) := by decide +kernel
theorem dX10_takes_1 : decode cX10_takes 1 = .ok (.iload_n 1, 1) := by decide +kernel
theorem dX10_takes_2 : decode cX10_takes 2 = .ok (.iload_n 2, 1) := by decide +kernel
theorem dX10_takes_3 : decode cX10_takes 3 = .ok (.iload_n 3, 1) := by decide +kernel
theorem dX10_takes_4 : decode cX10_takes 4 = .ok (.iload 4, 2) := by decide +kernel
theorem dX10_takes_6 : decode cX10_takes 6 = .ok (.iload 5, 2) := by decide +kernel
theorem dX10_takes_8 : decode cX10_takes 8 = .ok (.iload 6, 2) := by decide +kernel
theorem dX10_takes_10 : decode cX10_takes 10 = .ok (.invokevirtual 137, 3) := by decide +kernel
theorem dX10_takes_13 : decode cX10_takes 13 = .ok (.istore 7, 2) := by decide +kernel
theorem dX10_takes_15 : decode cX10_takes 15 = .ok (.iload 7, 2) := by decide +kernel
theorem dX10_takes_17 : decode cX10_takes 17 = .ok (.ifCond .eq 7, 3) := by decide +kernel
theorem dX10_takes_20 : decode cX10_takes 20 = .ok (.aload_n 0, 1) := by decide +kernel
theorem dX10_takes_21 : decode cX10_takes 21 = .ok (.invokevirtual 141, 3) := by decide +kernel
theorem dX10_takes_24 : decode cX10_takes 24 = .ok (.iload 7, 2) := by decide +kernel
theorem dX10_takes_26 : decode cX10_takes 26 = .ok (.ireturn, 1) := by decide +kernel
theorem dX10_sign_0 : decode cX10_sign 0 = .ok (.aload_n 0, 1) := by decide +kernel
theorem dX10_sign_1 : decode cX10_sign 1 = .ok (.getfield 104, 3) := by decide +kernel
theorem dX10_sign_4 : decode cX10_sign 4 = .ok (.ifCond .eq 4, 3) := by decide +kernel
theorem dX10_sign_7 : decode cX10_sign 7 = .ok (.return_, 1) := by decide +kernel
theorem dX10_sign_8 : decode cX10_sign 8 = .ok (.aload_n 0, 1) := by decide +kernel
theorem dX10_sign_9 : decode cX10_sign 9 = .ok (.invokevirtual 110, 3) := by decide +kernel
theorem dX10_sign_12 : decode cX10_sign 12 = .ok (.aload_n 0, 1) := by decide +kernel
theorem dX10_sign_13 : decode cX10_sign 13 = .ok (.aload_n 0, 1) := by decide +kernel
theorem dX10_sign_14 : decode cX10_sign 14 = .ok (.getfield 97, 3) := by decide +kernel
theorem dX10_sign_17 : decode cX10_sign 17 = .ok (.invokevirtual 100, 3) := by decide +kernel
theorem dX10_sign_20 : decode cX10_sign 20 = .ok (.iload_n 1, 1) := by decide +kernel
theorem dX10_sign_21 : decode cX10_sign 21 = .ok (.if_icmp .ne 16, 3) := by decide +kernel
theorem dX10_sign_24 : decode cX10_sign 24 = .ok (.aload_n 0, 1) := by decide +kernel
theorem dX10_sign_25 : decode cX10_sign 25 = .ok (.dup, 1) := by decide +kernel
theorem dX10_sign_26 : decode cX10_sign 26 = .ok (.getfield 97, 3) := by decide +kernel
theorem dX10_sign_29 : decode cX10_sign 29 = .ok (.iconst 1, 1) := by decide +kernel
theorem dX10_sign_30 : decode cX10_sign 30 = .ok (.iadd, 1) := by decide +kernel
theorem dX10_sign_31 : decode cX10_sign 31 = .ok (.putfield 97, 3) := by decide +kernel
theorem dX10_sign_34 : decode cX10_sign 34 = .ok (.goto 12, 3) := by decide +kernel
theorem dX10_sign_37 : decode cX10_sign 37 = .ok (.aload_n 0, 1) := by decide +kernel
theorem dX10_sign_38 : decode cX10_sign 38 = .ok (.iconst 1, 1) := by decide +kernel
theorem dX10_sign_39 : decode cX10_sign 39 = .ok (.aload_n 0, 1) := by decide +kernel
theorem dX10_sign_40 : decode cX10_sign 40 = .ok (.getfield 97, 3) := by decide +kernel
theorem dX10_sign_43 : decode cX10_sign 43 = .ok (.invokevirtual 117, 3) := by decide +kernel
theorem dX10_sign_46 : decode cX10_sign 46 = .ok (.return_, 1) := by decide +kernel
theorem dX10_takesSign_0 : decode cX10_takesSign 0 = .ok (.aload_n 0, 1) := by decide +kernel
theorem dX10_takesSign_1 : decode cX10_takesSign 1 = .ok (.getfield 104, 3) := by decide +kernel
theorem dX10_takesSign_4 : decode cX10_takesSign 4 = .ok (.ifCond .eq 5, 3) := by decide +kernel
theorem dX10_takesSign_7 : decode cX10_takesSign 7 = .ok (.iconst 0, 1) := by decide +kernel
theorem dX10_takesSign_8 : decode cX10_takesSign 8 = .ok (.ireturn, 1) := by decide +kernel
theorem dX10_takesSign_9 : decode cX10_takesSign 9 = .ok (.aload_n 0, 1) := by decide +kernel
theorem dX10_takesSign_10 : decode cX10_takesSign 10 = .ok (.invokevirtual 110, 3) := by decide +kernel
theorem dX10_takesSign_13 : decode cX10_takesSign 13 = .ok (.aload_n 0, 1) := by decide +kernel
theorem dX10_takesSign_14 : decode cX10_takesSign 14 = .ok (.aload_n 0, 1) := by decide +kernel
theorem dX10_takesSign_15 : decode cX10_takesSign 15 = .ok (.getfield 97, 3) := by decide +kernel
theorem dX10_takesSign_18 : decode cX10_takesSign 18 = .ok (.invokevirtual 100, 3) := by decide +kernel
theorem dX10_takesSign_21 : decode cX10_takesSign 21 = .ok (.iload_n 1, 1) := by decide +kernel
theorem dX10_takesSign_22 : decode cX10_takesSign 22 = .ok (.if_icmp .ne 7, 3) := by decide +kernel
theorem dX10_takesSign_25 : decode cX10_takesSign 25 = .ok (.iconst 1, 1) := by decide +kernel
theorem dX10_takesSign_26 : decode cX10_takesSign 26 = .ok (.goto 4, 3) := by decide +kernel
theorem dX10_takesSign_29 : decode cX10_takesSign 29 = .ok (.iconst 0, 1) := by decide +kernel
theorem dX10_takesSign_30 : decode cX10_takesSign 30 = .ok (.istore_n 2, 1) := by decide +kernel
theorem dX10_takesSign_31 : decode cX10_takesSign 31 = .ok (.iload_n 2, 1) := by decide +kernel
theorem dX10_takesSign_32 : decode cX10_takesSign 32 = .ok (.ifCond .eq 13, 3) := by decide +kernel
theorem dX10_takesSign_35 : decode cX10_takesSign 35 = .ok (.aload_n 0, 1) := by decide +kernel
theorem dX10_takesSign_36 : decode cX10_takesSign 36 = .ok (.dup, 1) := by decide +kernel
theorem dX10_takesSign_37 : decode cX10_takesSign 37 = .ok (.getfield 97, 3) := by decide +kernel
theorem dX10_takesSign_40 : decode cX10_takesSign 40 = .ok (.iconst 1, 1) := by decide +kernel
theorem dX10_takesSign_41 : decode cX10_takesSign 41 = .ok (.iadd, 1) := by decide +kernel
theorem dX10_takesSign_42 : decode cX10_takesSign 42 = .ok (.putfield 97, 3) := by decide +kernel
theorem dX10_takesSign_45 : decode cX10_takesSign 45 = .ok (.iload_n 2, 1) := by decide +kernel
theorem dX10_takesSign_46 : decode cX10_takesSign 46 = .ok (.ireturn, 1) := by decide +kernel
theorem dX10_starts_0 : decode cX10_starts 0 = .ok (.aload_n 0, 1) := by decide +kernel
theorem dX10_starts_1 : decode cX10_starts 1 = .ok (.iconst 0, 1) := by decide +kernel
theorem dX10_starts_2 : decode cX10_starts 2 = .ok (.putfield 91, 3) := by decide +kernel
theorem dX10_starts_5 : decode cX10_starts 5 = .ok (.aload_n 0, 1) := by decide +kernel
theorem dX10_starts_6 : decode cX10_starts 6 = .ok (.iload_n 1, 1) := by decide +kernel
theorem dX10_starts_7 : decode cX10_starts 7 = .ok (.putfield 94, 3) := by decide +kernel
theorem dX10_starts_10 : decode cX10_starts 10 = .ok (.aload_n 0, 1) := by decide +kernel
theorem dX10_starts_11 : decode cX10_starts 11 = .ok (.iconst 0, 1) := by decide +kernel
theorem dX10_starts_12 : decode cX10_starts 12 = .ok (.putfield 97, 3) := by decide +kernel
theorem dX10_starts_15 : decode cX10_starts 15 = .ok (.aload_n 0, 1) := by decide +kernel
theorem dX10_starts_16 : decode cX10_starts 16 = .ok (.iconst 0, 1) := by decide +kernel
theorem dX10_starts_17 : decode cX10_starts 17 = .ok (.putfield 104, 3) := by decide +kernel
theorem dX10_starts_20 : decode cX10_starts 20 = .ok (.aload_n 0, 1) := by decide +kernel
theorem dX10_starts_21 : decode cX10_starts 21 = .ok (.iconst (-1), 1) := by decide +kernel
theorem dX10_starts_22 : decode cX10_starts 22 = .ok (.putfield 107, 3) := by decide +kernel
theorem dX10_starts_25 : decode cX10_starts 25 = .ok (.aload_n 0, 1) := by decide +kernel
theorem dX10_starts_26 : decode cX10_starts 26 = .ok (.iconst 0, 1) := by decide +kernel
theorem dX10_starts_27 : decode cX10_starts 27 = .ok (.putfield 144, 3) := by decide +kernel
theorem dX10_starts_30 : decode cX10_starts 30 = .ok (.aload_n 0, 1) := by decide +kernel
theorem dX10_starts_31 : decode cX10_starts 31 = .ok (.iconst 0, 1) := by decide +kernel
theorem dX10_starts_32 : decode cX10_starts 32 = .ok (.putfield 147, 3) := by decide +kernel
theorem dX10_starts_35 : decode cX10_starts 35 = .ok (.aload_n 0, 1) := by decide +kernel
theorem dX10_starts_36 : decode cX10_starts 36 = .ok (.invokevirtual 110, 3) := by decide +kernel
theorem dX10_starts_39 : decode cX10_starts 39 = .ok (.return_, 1) := by decide +kernel
theorem dX10_faulty_0 : decode cX10_faulty 0 = .ok (.aload_n 0, 1) := by decide +kernel
theorem dX10_faulty_1 : decode cX10_faulty 1 = .ok (.aload_n 0, 1) := by decide +kernel
theorem dX10_faulty_2 : decode cX10_faulty 2 = .ok (.getfield 107, 3) := by decide +kernel
theorem dX10_faulty_5 : decode cX10_faulty 5 = .ok (.putfield 9, 3) := by decide +kernel
theorem dX10_faulty_8 : decode cX10_faulty 8 = .ok (.aload_n 0, 1) := by decide +kernel
theorem dX10_faulty_9 : decode cX10_faulty 9 = .ok (.getfield 104, 3) := by decide +kernel
theorem dX10_faulty_12 : decode cX10_faulty 12 = .ok (.bipush 10, 2) := by decide +kernel
theorem dX10_faulty_14 : decode cX10_faulty 14 = .ok (.isub, 1) := by decide +kernel
theorem dX10_faulty_15 : decode cX10_faulty 15 = .ok (.ireturn, 1) := by decide +kernel
theorem dX10_kindHere_0 : decode cX10_kindHere 0 = .ok (.aload_n 0, 1) := by decide +kernel
theorem dX10_kindHere_1 : decode cX10_kindHere 1 = .ok (.iconst 2, 1) := by decide +kernel
theorem dX10_kindHere_2 : decode cX10_kindHere 2 = .ok (.iconst 5, 1) := by decide +kernel
theorem dX10_kindHere_3 : decode cX10_kindHere 3 = .ok (.iconst 1, 1) := by decide +kernel
theorem dX10_kindHere_4 : decode cX10_kindHere 4 = .ok (.bipush 19, 2) := by decide +kernel
theorem dX10_kindHere_6 : decode cX10_kindHere 6 = .ok (.bipush 20, 2) := by decide +kernel
theorem dX10_kindHere_8 : decode cX10_kindHere 8 = .ok (.iconst 0, 1) := by decide +kernel
theorem dX10_kindHere_9 : decode cX10_kindHere 9 = .ok (.invokevirtual 137, 3) := by decide +kernel
theorem dX10_kindHere_12 : decode cX10_kindHere 12 = .ok (.ifCond .eq 5, 3) := by decide +kernel
theorem dX10_kindHere_15 : decode cX10_kindHere 15 = .ok (.iconst 0, 1) := by decide +kernel
theorem dX10_kindHere_16 : decode cX10_kindHere 16 = .ok (.ireturn, 1) := by decide +kernel
theorem dX10_kindHere_17 : decode cX10_kindHere 17 = .ok (.aload_n 0, 1) := by decide +kernel
theorem dX10_kindHere_18 : decode cX10_kindHere 18 = .ok (.bipush 7, 2) := by decide +kernel
theorem dX10_kindHere_20 : decode cX10_kindHere 20 = .ok (.iconst 1, 1) := by decide +kernel
theorem dX10_kindHere_21 : decode cX10_kindHere 21 = .ok (.bipush 20, 2) := by decide +kernel
theorem dX10_kindHere_23 : decode cX10_kindHere 23 = .ok (.iconst 5, 1) := by decide +kernel
theorem dX10_kindHere_24 : decode cX10_kindHere 24 = .ok (.iconst 0, 1) := by decide +kernel
theorem dX10_kindHere_25 : decode cX10_kindHere 25 = .ok (.iconst 0, 1) := by decide +kernel
theorem dX10_kindHere_26 : decode cX10_kindHere 26 = .ok (.invokevirtual 137, 3) := by decide +kernel
theorem dX10_kindHere_29 : decode cX10_kindHere 29 = .ok (.ifCond .eq 5, 3) := by decide +kernel
theorem dX10_kindHere_32 : decode cX10_kindHere 32 = .ok (.iconst 1, 1) := by decide +kernel
theorem dX10_kindHere_33 : decode cX10_kindHere 33 = .ok (.ireturn, 1) := by decide +kernel
theorem dX10_kindHere_34 : decode cX10_kindHere 34 = .ok (.aload_n 0, 1) := by decide +kernel
theorem dX10_kindHere_35 : decode cX10_kindHere 35 = .ok (.bipush 12, 2) := by decide +kernel
theorem dX10_kindHere_37 : decode cX10_kindHere 37 = .ok (.bipush 9, 2) := by decide +kernel
theorem dX10_kindHere_39 : decode cX10_kindHere 39 = .ok (.bipush 19, 2) := by decide +kernel
theorem dX10_kindHere_41 : decode cX10_kindHere 41 = .ok (.bipush 20, 2) := by decide +kernel
theorem dX10_kindHere_43 : decode cX10_kindHere 43 = .ok (.iconst 0, 1) := by decide +kernel
theorem dX10_kindHere_44 : decode cX10_kindHere 44 = .ok (.iconst 0, 1) := by decide +kernel
theorem dX10_kindHere_45 : decode cX10_kindHere 45 = .ok (.invokevirtual 137, 3) := by decide +kernel
theorem dX10_kindHere_48 : decode cX10_kindHere 48 = .ok (.ifCond .eq 5, 3) := by decide +kernel
theorem dX10_kindHere_51 : decode cX10_kindHere 51 = .ok (.iconst 2, 1) := by decide +kernel
theorem dX10_kindHere_52 : decode cX10_kindHere 52 = .ok (.ireturn, 1) := by decide +kernel
theorem dX10_kindHere_53 : decode cX10_kindHere 53 = .ok (.aload_n 0, 1) := by decide +kernel
theorem dX10_kindHere_54 : decode cX10_kindHere 54 = .ok (.bipush 16, 2) := by decide +kernel
theorem dX10_kindHere_56 : decode cX10_kindHere 56 = .ok (.bipush 21, 2) := by decide +kernel
theorem dX10_kindHere_58 : decode cX10_kindHere 58 = .ok (.bipush 18, 2) := by decide +kernel
theorem dX10_kindHere_60 : decode cX10_kindHere 60 = .ok (.bipush 19, 2) := by decide +kernel
theorem dX10_kindHere_62 : decode cX10_kindHere 62 = .ok (.iconst 5, 1) := by decide +kernel
theorem dX10_kindHere_63 : decode cX10_kindHere 63 = .ok (.iconst 0, 1) := by decide +kernel
theorem dX10_kindHere_64 : decode cX10_kindHere 64 = .ok (.invokevirtual 137, 3) := by decide +kernel
theorem dX10_kindHere_67 : decode cX10_kindHere 67 = .ok (.ifCond .eq 7, 3) := by decide +kernel
theorem dX10_kindHere_70 : decode cX10_kindHere 70 = .ok (.iconst 3, 1) := by decide +kernel
theorem dX10_kindHere_71 : decode cX10_kindHere 71 = .ok (.goto 4, 3) := by decide +kernel
theorem dX10_kindHere_74 : decode cX10_kindHere 74 = .ok (.iconst (-1), 1) := by decide +kernel
theorem dX10_kindHere_75 : decode cX10_kindHere 75 = .ok (.ireturn, 1) := by decide +kernel
theorem dX10_mostOf_0 : decode cX10_mostOf 0 = .ok (.iload_n 0, 1) := by decide +kernel
theorem dX10_mostOf_1 : decode cX10_mostOf 1 = .ok (.ifCond .ne 8, 3) := by decide +kernel
theorem dX10_mostOf_4 : decode cX10_mostOf 4 = .ok (.bipush 8, 2) := by decide +kernel
theorem dX10_mostOf_6 : decode cX10_mostOf 6 = .ok (.goto 14, 3) := by decide +kernel
theorem dX10_mostOf_9 : decode cX10_mostOf 9 = .ok (.iload_n 0, 1) := by decide +kernel
theorem dX10_mostOf_10 : decode cX10_mostOf 10 = .ok (.iconst 1, 1) := by decide +kernel
theorem dX10_mostOf_11 : decode cX10_mostOf 11 = .ok (.if_icmp .ne 7, 3) := by decide +kernel
theorem dX10_mostOf_14 : decode cX10_mostOf 14 = .ok (.iconst 5, 1) := by decide +kernel
theorem dX10_mostOf_15 : decode cX10_mostOf 15 = .ok (.goto 5, 3) := by decide +kernel
theorem dX10_mostOf_18 : decode cX10_mostOf 18 = .ok (.bipush 24, 2) := by decide +kernel
theorem dX10_mostOf_20 : decode cX10_mostOf 20 = .ok (.ireturn, 1) := by decide +kernel
theorem dX10_clause_0 : decode cX10_clause 0 = .ok (.aload_n 0, 1) := by decide +kernel
theorem dX10_clause_1 : decode cX10_clause 1 = .ok (.invokevirtual 150, 3) := by decide +kernel
theorem dX10_clause_4 : decode cX10_clause 4 = .ok (.istore_n 1, 1) := by decide +kernel
theorem dX10_clause_5 : decode cX10_clause 5 = .ok (.iload_n 1, 1) := by decide +kernel
theorem dX10_clause_6 : decode cX10_clause 6 = .ok (.iconst (-1), 1) := by decide +kernel
theorem dX10_clause_7 : decode cX10_clause 7 = .ok (.if_icmp .ne 15, 3) := by decide +kernel
theorem dX10_clause_10 : decode cX10_clause 10 = .ok (.aload_n 0, 1) := by decide +kernel
theorem dX10_clause_11 : decode cX10_clause 11 = .ok (.iconst 1, 1) := by decide +kernel
theorem dX10_clause_12 : decode cX10_clause 12 = .ok (.aload_n 0, 1) := by decide +kernel
theorem dX10_clause_13 : decode cX10_clause 13 = .ok (.getfield 97, 3) := by decide +kernel
theorem dX10_clause_16 : decode cX10_clause 16 = .ok (.invokevirtual 117, 3) := by decide +kernel
theorem dX10_clause_19 : decode cX10_clause 19 = .ok (.goto 39, 3) := by decide +kernel
theorem dX10_clause_22 : decode cX10_clause 22 = .ok (.aload_n 0, 1) := by decide +kernel
theorem dX10_clause_23 : decode cX10_clause 23 = .ok (.getfield 144, 3) := by decide +kernel
theorem dX10_clause_26 : decode cX10_clause 26 = .ok (.bipush 60, 2) := by decide +kernel
theorem dX10_clause_28 : decode cX10_clause 28 = .ok (.if_icmp .eq 21, 3) := by decide +kernel
theorem dX10_clause_31 : decode cX10_clause 31 = .ok (.iload_n 1, 1) := by decide +kernel
theorem dX10_clause_32 : decode cX10_clause 32 = .ok (.iconst 3, 1) := by decide +kernel
theorem dX10_clause_33 : decode cX10_clause 33 = .ok (.if_icmp .ge 25, 3) := by decide +kernel
theorem dX10_clause_36 : decode cX10_clause 36 = .ok (.aload_n 0, 1) := by decide +kernel
theorem dX10_clause_37 : decode cX10_clause 37 = .ok (.getfield 20, 3) := by decide +kernel
theorem dX10_clause_40 : decode cX10_clause 40 = .ok (.iload_n 1, 1) := by decide +kernel
theorem dX10_clause_41 : decode cX10_clause 41 = .ok (.iaload, 1) := by decide +kernel
theorem dX10_clause_42 : decode cX10_clause 42 = .ok (.iload_n 1, 1) := by decide +kernel
theorem dX10_clause_43 : decode cX10_clause 43 = .ok (.invokestatic 153, 3) := by decide +kernel
theorem dX10_clause_46 : decode cX10_clause 46 = .ok (.if_icmp .ne 12, 3) := by decide +kernel
theorem dX10_clause_49 : decode cX10_clause 49 = .ok (.aload_n 0, 1) := by decide +kernel
theorem dX10_clause_50 : decode cX10_clause 50 = .ok (.iconst 3, 1) := by decide +kernel
theorem dX10_clause_51 : decode cX10_clause 51 = .ok (.aload_n 0, 1) := by decide +kernel
theorem dX10_clause_52 : decode cX10_clause 52 = .ok (.getfield 97, 3) := by decide +kernel
theorem dX10_clause_55 : decode cX10_clause 55 = .ok (.invokevirtual 117, 3) := by decide +kernel
theorem dX10_clause_58 : decode cX10_clause 58 = .ok (.aload_n 0, 1) := by decide +kernel
theorem dX10_clause_59 : decode cX10_clause 59 = .ok (.getfield 104, 3) := by decide +kernel
theorem dX10_clause_62 : decode cX10_clause 62 = .ok (.ifCond .eq 4, 3) := by decide +kernel
theorem dX10_clause_65 : decode cX10_clause 65 = .ok (.return_, 1) := by decide +kernel
theorem dX10_clause_66 : decode cX10_clause 66 = .ok (.aload_n 0, 1) := by decide +kernel
theorem dX10_clause_67 : decode cX10_clause 67 = .ok (.invokevirtual 141, 3) := by decide +kernel
theorem dX10_clause_70 : decode cX10_clause 70 = .ok (.aload_n 0, 1) := by decide +kernel
theorem dX10_clause_71 : decode cX10_clause 71 = .ok (.dup, 1) := by decide +kernel
theorem dX10_clause_72 : decode cX10_clause 72 = .ok (.getfield 144, 3) := by decide +kernel
theorem dX10_clause_75 : decode cX10_clause 75 = .ok (.iconst 1, 1) := by decide +kernel
theorem dX10_clause_76 : decode cX10_clause 76 = .ok (.iadd, 1) := by decide +kernel
theorem dX10_clause_77 : decode cX10_clause 77 = .ok (.putfield 144, 3) := by decide +kernel
theorem dX10_clause_80 : decode cX10_clause 80 = .ok (.aload_n 0, 1) := by decide +kernel
theorem dX10_clause_81 : decode cX10_clause 81 = .ok (.getfield 20, 3) := by decide +kernel
theorem dX10_clause_84 : decode cX10_clause 84 = .ok (.iload_n 1, 1) := by decide +kernel
theorem dX10_clause_85 : decode cX10_clause 85 = .ok (.iaload, 1) := by decide +kernel
theorem dX10_clause_86 : decode cX10_clause 86 = .ok (.istore_n 2, 1) := by decide +kernel
theorem dX10_clause_87 : decode cX10_clause 87 = .ok (.iload_n 1, 1) := by decide +kernel
theorem dX10_clause_88 : decode cX10_clause 88 = .ok (.tableswitch 134 0 2 #[28, 62, 94], 28) := by decide +kernel
theorem dX10_clause_116 : decode cX10_clause 116 = .ok (.aload_n 0, 1) := by decide +kernel
theorem dX10_clause_117 : decode cX10_clause 117 = .ok (.getfield 28, 3) := by decide +kernel
theorem dX10_clause_120 : decode cX10_clause 120 = .ok (.iload_n 2, 1) := by decide +kernel
theorem dX10_clause_121 : decode cX10_clause 121 = .ok (.aaload, 1) := by decide +kernel
theorem dX10_clause_122 : decode cX10_clause 122 = .ok (.iconst 0, 1) := by decide +kernel
theorem dX10_clause_123 : decode cX10_clause 123 = .ok (.aload_n 0, 1) := by decide +kernel
theorem dX10_clause_124 : decode cX10_clause 124 = .ok (.iconst 0, 1) := by decide +kernel
theorem dX10_clause_125 : decode cX10_clause 125 = .ok (.sipush 255, 3) := by decide +kernel
theorem dX10_clause_128 : decode cX10_clause 128 = .ok (.invokevirtual 156, 3) := by decide +kernel
theorem dX10_clause_131 : decode cX10_clause 131 = .ok (.iastore, 1) := by decide +kernel
theorem dX10_clause_132 : decode cX10_clause 132 = .ok (.aload_n 0, 1) := by decide +kernel
theorem dX10_clause_133 : decode cX10_clause 133 = .ok (.getfield 28, 3) := by decide +kernel
theorem dX10_clause_136 : decode cX10_clause 136 = .ok (.iload_n 2, 1) := by decide +kernel
theorem dX10_clause_137 : decode cX10_clause 137 = .ok (.aaload, 1) := by decide +kernel
theorem dX10_clause_138 : decode cX10_clause 138 = .ok (.iconst 1, 1) := by decide +kernel
theorem dX10_clause_139 : decode cX10_clause 139 = .ok (.aload_n 0, 1) := by decide +kernel
theorem dX10_clause_140 : decode cX10_clause 140 = .ok (.iconst 0, 1) := by decide +kernel
theorem dX10_clause_141 : decode cX10_clause 141 = .ok (.bipush 40, 2) := by decide +kernel
theorem dX10_clause_143 : decode cX10_clause 143 = .ok (.invokevirtual 156, 3) := by decide +kernel
theorem dX10_clause_146 : decode cX10_clause 146 = .ok (.iastore, 1) := by decide +kernel
theorem dX10_clause_147 : decode cX10_clause 147 = .ok (.goto 101, 3) := by decide +kernel
theorem dX10_clause_150 : decode cX10_clause 150 = .ok (.aload_n 0, 1) := by decide +kernel
theorem dX10_clause_151 : decode cX10_clause 151 = .ok (.getfield 34, 3) := by decide +kernel
theorem dX10_clause_154 : decode cX10_clause 154 = .ok (.iload_n 2, 1) := by decide +kernel
theorem dX10_clause_155 : decode cX10_clause 155 = .ok (.aaload, 1) := by decide +kernel
theorem dX10_clause_156 : decode cX10_clause 156 = .ok (.iconst 0, 1) := by decide +kernel
theorem dX10_clause_157 : decode cX10_clause 157 = .ok (.aload_n 0, 1) := by decide +kernel
theorem dX10_clause_158 : decode cX10_clause 158 = .ok (.iconst 0, 1) := by decide +kernel
theorem dX10_clause_159 : decode cX10_clause 159 = .ok (.iconst 3, 1) := by decide +kernel
theorem dX10_clause_160 : decode cX10_clause 160 = .ok (.invokevirtual 156, 3) := by decide +kernel
theorem dX10_clause_163 : decode cX10_clause 163 = .ok (.iastore, 1) := by decide +kernel
theorem dX10_clause_164 : decode cX10_clause 164 = .ok (.aload_n 0, 1) := by decide +kernel
theorem dX10_clause_165 : decode cX10_clause 165 = .ok (.getfield 34, 3) := by decide +kernel
theorem dX10_clause_168 : decode cX10_clause 168 = .ok (.iload_n 2, 1) := by decide +kernel
theorem dX10_clause_169 : decode cX10_clause 169 = .ok (.aaload, 1) := by decide +kernel
theorem dX10_clause_170 : decode cX10_clause 170 = .ok (.iconst 1, 1) := by decide +kernel
theorem dX10_clause_171 : decode cX10_clause 171 = .ok (.aload_n 0, 1) := by decide +kernel
theorem dX10_clause_172 : decode cX10_clause 172 = .ok (.iconst 0, 1) := by decide +kernel
theorem dX10_clause_173 : decode cX10_clause 173 = .ok (.bipush 40, 2) := by decide +kernel
theorem dX10_clause_175 : decode cX10_clause 175 = .ok (.invokevirtual 156, 3) := by decide +kernel
theorem dX10_clause_178 : decode cX10_clause 178 = .ok (.iastore, 1) := by decide +kernel
theorem dX10_clause_179 : decode cX10_clause 179 = .ok (.goto 69, 3) := by decide +kernel
theorem dX10_clause_182 : decode cX10_clause 182 = .ok (.aload_n 0, 1) := by decide +kernel
theorem dX10_clause_183 : decode cX10_clause 183 = .ok (.getfield 40, 3) := by decide +kernel
theorem dX10_clause_186 : decode cX10_clause 186 = .ok (.iload_n 2, 1) := by decide +kernel
theorem dX10_clause_187 : decode cX10_clause 187 = .ok (.aaload, 1) := by decide +kernel
theorem dX10_clause_188 : decode cX10_clause 188 = .ok (.iconst 0, 1) := by decide +kernel
theorem dX10_clause_189 : decode cX10_clause 189 = .ok (.aload_n 0, 1) := by decide +kernel
theorem dX10_clause_190 : decode cX10_clause 190 = .ok (.iconst 0, 1) := by decide +kernel
theorem dX10_clause_191 : decode cX10_clause 191 = .ok (.aload_n 0, 1) := by decide +kernel
theorem dX10_clause_192 : decode cX10_clause 192 = .ok (.getfield 20, 3) := by decide +kernel
theorem dX10_clause_195 : decode cX10_clause 195 = .ok (.iconst 1, 1) := by decide +kernel
theorem dX10_clause_196 : decode cX10_clause 196 = .ok (.iaload, 1) := by decide +kernel
theorem dX10_clause_197 : decode cX10_clause 197 = .ok (.iconst 1, 1) := by decide +kernel
theorem dX10_clause_198 : decode cX10_clause 198 = .ok (.isub, 1) := by decide +kernel
theorem dX10_clause_199 : decode cX10_clause 199 = .ok (.invokevirtual 156, 3) := by decide +kernel
theorem dX10_clause_202 : decode cX10_clause 202 = .ok (.iastore, 1) := by decide +kernel
theorem dX10_clause_203 : decode cX10_clause 203 = .ok (.aload_n 0, 1) := by decide +kernel
theorem dX10_clause_204 : decode cX10_clause 204 = .ok (.getfield 40, 3) := by decide +kernel
theorem dX10_clause_207 : decode cX10_clause 207 = .ok (.iload_n 2, 1) := by decide +kernel
theorem dX10_clause_208 : decode cX10_clause 208 = .ok (.aaload, 1) := by decide +kernel
theorem dX10_clause_209 : decode cX10_clause 209 = .ok (.iconst 1, 1) := by decide +kernel
theorem dX10_clause_210 : decode cX10_clause 210 = .ok (.aload_n 0, 1) := by decide +kernel
theorem dX10_clause_211 : decode cX10_clause 211 = .ok (.iconst 0, 1) := by decide +kernel
theorem dX10_clause_212 : decode cX10_clause 212 = .ok (.sipush 255, 3) := by decide +kernel
theorem dX10_clause_215 : decode cX10_clause 215 = .ok (.invokevirtual 156, 3) := by decide +kernel
theorem dX10_clause_218 : decode cX10_clause 218 = .ok (.iastore, 1) := by decide +kernel
theorem dX10_clause_219 : decode cX10_clause 219 = .ok (.goto 29, 3) := by decide +kernel
theorem dX10_clause_222 : decode cX10_clause 222 = .ok (.aload_n 0, 1) := by decide +kernel
theorem dX10_clause_223 : decode cX10_clause 223 = .ok (.iconst 0, 1) := by decide +kernel
theorem dX10_clause_224 : decode cX10_clause 224 = .ok (.sipush 999, 3) := by decide +kernel
theorem dX10_clause_227 : decode cX10_clause 227 = .ok (.invokevirtual 156, 3) := by decide +kernel
theorem dX10_clause_230 : decode cX10_clause 230 = .ok (.istore_n 3, 1) := by decide +kernel
theorem dX10_clause_231 : decode cX10_clause 231 = .ok (.aload_n 0, 1) := by decide +kernel
theorem dX10_clause_232 : decode cX10_clause 232 = .ok (.getfield 104, 3) := by decide +kernel
theorem dX10_clause_235 : decode cX10_clause 235 = .ok (.ifCond .ne 13, 3) := by decide +kernel
theorem dX10_clause_238 : decode cX10_clause 238 = .ok (.aload_n 0, 1) := by decide +kernel
theorem dX10_clause_239 : decode cX10_clause 239 = .ok (.getfield 20, 3) := by decide +kernel
theorem dX10_clause_242 : decode cX10_clause 242 = .ok (.iconst 3, 1) := by decide +kernel
theorem dX10_clause_243 : decode cX10_clause 243 = .ok (.iload_n 3, 1) := by decide +kernel
theorem dX10_clause_244 : decode cX10_clause 244 = .ok (.iastore, 1) := by decide +kernel
theorem dX10_clause_245 : decode cX10_clause 245 = .ok (.goto 3, 3) := by decide +kernel
theorem dX10_clause_248 : decode cX10_clause 248 = .ok (.iload_n 1, 1) := by decide +kernel
theorem dX10_clause_249 : decode cX10_clause 249 = .ok (.iconst 3, 1) := by decide +kernel
theorem dX10_clause_250 : decode cX10_clause 250 = .ok (.if_icmp .ge 24, 3) := by decide +kernel
theorem dX10_clause_253 : decode cX10_clause 253 = .ok (.aload_n 0, 1) := by decide +kernel
theorem dX10_clause_254 : decode cX10_clause 254 = .ok (.getfield 20, 3) := by decide +kernel
theorem dX10_clause_257 : decode cX10_clause 257 = .ok (.iload_n 1, 1) := by decide +kernel
theorem dX10_clause_258 : decode cX10_clause 258 = .ok (.dup2, 1) := by decide +kernel
theorem dX10_clause_259 : decode cX10_clause 259 = .ok (.iaload, 1) := by decide +kernel
theorem dX10_clause_260 : decode cX10_clause 260 = .ok (.aload_n 0, 1) := by decide +kernel
theorem dX10_clause_261 : decode cX10_clause 261 = .ok (.getfield 104, 3) := by decide +kernel
theorem dX10_clause_264 : decode cX10_clause 264 = .ok (.ifCond .ne 7, 3) := by decide +kernel
theorem dX10_clause_267 : decode cX10_clause 267 = .ok (.iconst 1, 1) := by decide +kernel
theorem dX10_clause_268 : decode cX10_clause 268 = .ok (.goto 4, 3) := by decide +kernel
theorem dX10_clause_271 : decode cX10_clause 271 = .ok (.iconst 0, 1) := by decide +kernel
theorem dX10_clause_272 : decode cX10_clause 272 = .ok (.iadd, 1) := by decide +kernel
theorem dX10_clause_273 : decode cX10_clause 273 = .ok (.iastore, 1) := by decide +kernel
theorem dX10_clause_274 : decode cX10_clause 274 = .ok (.aload_n 0, 1) := by decide +kernel
theorem dX10_clause_275 : decode cX10_clause 275 = .ok (.bipush 59, 2) := by decide +kernel
theorem dX10_clause_277 : decode cX10_clause 277 = .ok (.invokevirtual 160, 3) := by decide +kernel
theorem dX10_clause_280 : decode cX10_clause 280 = .ok (.return_, 1) := by decide +kernel
theorem dX10_trade_0 : decode cX10_trade 0 = .ok (.aload_n 0, 1) := by decide +kernel
theorem dX10_trade_1 : decode cX10_trade 1 = .ok (.iconst 0, 1) := by decide +kernel
theorem dX10_trade_2 : decode cX10_trade 2 = .ok (.putfield 88, 3) := by decide +kernel
theorem dX10_trade_5 : decode cX10_trade 5 = .ok (.aload_n 0, 1) := by decide +kernel
theorem dX10_trade_6 : decode cX10_trade 6 = .ok (.iload_n 1, 1) := by decide +kernel
theorem dX10_trade_7 : decode cX10_trade 7 = .ok (.iconst 0, 1) := by decide +kernel
theorem dX10_trade_8 : decode cX10_trade 8 = .ok (.aload_n 0, 1) := by decide +kernel
theorem dX10_trade_9 : decode cX10_trade 9 = .ok (.getfield 91, 3) := by decide +kernel
theorem dX10_trade_12 : decode cX10_trade 12 = .ok (.invokestatic 122, 3) := by decide +kernel
theorem dX10_trade_15 : decode cX10_trade 15 = .ok (.ifCond .ne 7, 3) := by decide +kernel
theorem dX10_trade_18 : decode cX10_trade 18 = .ok (.iconst 1, 1) := by decide +kernel
theorem dX10_trade_19 : decode cX10_trade 19 = .ok (.goto 4, 3) := by decide +kernel
theorem dX10_trade_22 : decode cX10_trade 22 = .ok (.iconst 0, 1) := by decide +kernel
theorem dX10_trade_23 : decode cX10_trade 23 = .ok (.iconst 1, 1) := by decide +kernel
theorem dX10_trade_24 : decode cX10_trade 24 = .ok (.iconst 1, 1) := by decide +kernel
theorem dX10_trade_25 : decode cX10_trade 25 = .ok (.invokevirtual 164, 3) := by decide +kernel
theorem dX10_trade_28 : decode cX10_trade 28 = .ok (.ifCond .eq 5, 3) := by decide +kernel
theorem dX10_trade_31 : decode cX10_trade 31 = .ok (.iconst 0, 1) := by decide +kernel
theorem dX10_trade_32 : decode cX10_trade 32 = .ok (.ireturn, 1) := by decide +kernel
theorem dX10_trade_33 : decode cX10_trade 33 = .ok (.aload_n 0, 1) := by decide +kernel
theorem dX10_trade_34 : decode cX10_trade 34 = .ok (.iload_n 1, 1) := by decide +kernel
theorem dX10_trade_35 : decode cX10_trade 35 = .ok (.invokevirtual 168, 3) := by decide +kernel
theorem dX10_trade_38 : decode cX10_trade 38 = .ok (.aload_n 0, 1) := by decide +kernel
theorem dX10_trade_39 : decode cX10_trade 39 = .ok (.invokevirtual 82, 3) := by decide +kernel
theorem dX10_trade_42 : decode cX10_trade 42 = .ok (.aload_n 0, 1) := by decide +kernel
theorem dX10_trade_43 : decode cX10_trade 43 = .ok (.getfield 104, 3) := by decide +kernel
theorem dX10_trade_46 : decode cX10_trade 46 = .ok (.ifCond .ne 25, 3) := by decide +kernel
theorem dX10_trade_49 : decode cX10_trade 49 = .ok (.aload_n 0, 1) := by decide +kernel
theorem dX10_trade_50 : decode cX10_trade 50 = .ok (.getfield 97, 3) := by decide +kernel
theorem dX10_trade_53 : decode cX10_trade 53 = .ok (.aload_n 0, 1) := by decide +kernel
theorem dX10_trade_54 : decode cX10_trade 54 = .ok (.getfield 94, 3) := by decide +kernel
theorem dX10_trade_57 : decode cX10_trade 57 = .ok (.if_icmp .ge 14, 3) := by decide +kernel
theorem dX10_trade_60 : decode cX10_trade 60 = .ok (.aload_n 0, 1) := by decide +kernel
theorem dX10_trade_61 : decode cX10_trade 61 = .ok (.invokevirtual 171, 3) := by decide +kernel
theorem dX10_trade_64 : decode cX10_trade 64 = .ok (.aload_n 0, 1) := by decide +kernel
theorem dX10_trade_65 : decode cX10_trade 65 = .ok (.invokevirtual 110, 3) := by decide +kernel
theorem dX10_trade_68 : decode cX10_trade 68 = .ok (.goto (-26), 3) := by decide +kernel
theorem dX10_trade_71 : decode cX10_trade 71 = .ok (.aload_n 0, 1) := by decide +kernel
theorem dX10_trade_72 : decode cX10_trade 72 = .ok (.getfield 104, 3) := by decide +kernel
theorem dX10_trade_75 : decode cX10_trade 75 = .ok (.ifCond .eq 8, 3) := by decide +kernel
theorem dX10_trade_78 : decode cX10_trade 78 = .ok (.aload_n 0, 1) := by decide +kernel
theorem dX10_trade_79 : decode cX10_trade 79 = .ok (.invokevirtual 174, 3) := by decide +kernel
theorem dX10_trade_82 : decode cX10_trade 82 = .ok (.ireturn, 1) := by decide +kernel
theorem dX10_trade_83 : decode cX10_trade 83 = .ok (.aload_n 0, 1) := by decide +kernel
theorem dX10_trade_84 : decode cX10_trade 84 = .ok (.iconst (-1), 1) := by decide +kernel
theorem dX10_trade_85 : decode cX10_trade 85 = .ok (.putfield 9, 3) := by decide +kernel
theorem dX10_trade_88 : decode cX10_trade 88 = .ok (.aload_n 0, 1) := by decide +kernel
theorem dX10_trade_89 : decode cX10_trade 89 = .ok (.invokevirtual 85, 3) := by decide +kernel
theorem dX10_trade_92 : decode cX10_trade 92 = .ok (.aload_n 0, 1) := by decide +kernel
theorem dX10_trade_93 : decode cX10_trade 93 = .ok (.getfield 23, 3) := by decide +kernel
theorem dX10_trade_96 : decode cX10_trade 96 = .ok (.iconst 0, 1) := by decide +kernel
theorem dX10_trade_97 : decode cX10_trade 97 = .ok (.iaload, 1) := by decide +kernel
theorem dX10_trade_98 : decode cX10_trade 98 = .ok (.ireturn, 1) := by decide +kernel
theorem dX10_lays_0 : decode cX10_lays 0 = .ok (.iconst 0, 1) := by decide +kernel
theorem dX10_lays_1 : decode cX10_lays 1 = .ok (.istore_n 3, 1) := by decide +kernel
theorem dX10_lays_2 : decode cX10_lays 2 = .ok (.iload_n 3, 1) := by decide +kernel
theorem dX10_lays_3 : decode cX10_lays 3 = .ok (.iload_n 2, 1) := by decide +kernel
theorem dX10_lays_4 : decode cX10_lays 4 = .ok (.if_icmp .ge 39, 3) := by decide +kernel
theorem dX10_lays_7 : decode cX10_lays 7 = .ok (.iconst 0, 1) := by decide +kernel
theorem dX10_lays_8 : decode cX10_lays 8 = .ok (.istore 4, 2) := by decide +kernel
theorem dX10_lays_10 : decode cX10_lays 10 = .ok (.iload 4, 2) := by decide +kernel
theorem dX10_lays_12 : decode cX10_lays 12 = .ok (.aload_n 1, 1) := by decide +kernel
theorem dX10_lays_13 : decode cX10_lays 13 = .ok (.iload_n 3, 1) := by decide +kernel
theorem dX10_lays_14 : decode cX10_lays 14 = .ok (.aaload, 1) := by decide +kernel
theorem dX10_lays_15 : decode cX10_lays 15 = .ok (.arraylength, 1) := by decide +kernel
theorem dX10_lays_16 : decode cX10_lays 16 = .ok (.if_icmp .ge 21, 3) := by decide +kernel
theorem dX10_lays_19 : decode cX10_lays 19 = .ok (.aload_n 1, 1) := by decide +kernel
theorem dX10_lays_20 : decode cX10_lays 20 = .ok (.iload_n 3, 1) := by decide +kernel
theorem dX10_lays_21 : decode cX10_lays 21 = .ok (.aaload, 1) := by decide +kernel
theorem dX10_lays_22 : decode cX10_lays 22 = .ok (.iload 4, 2) := by decide +kernel
theorem dX10_lays_24 : decode cX10_lays 24 = .ok (.aload_n 0, 1) := by decide +kernel
theorem dX10_lays_25 : decode cX10_lays 25 = .ok (.iload_n 3, 1) := by decide +kernel
theorem dX10_lays_26 : decode cX10_lays 26 = .ok (.aaload, 1) := by decide +kernel
theorem dX10_lays_27 : decode cX10_lays 27 = .ok (.iload 4, 2) := by decide +kernel
theorem dX10_lays_29 : decode cX10_lays 29 = .ok (.iaload, 1) := by decide +kernel
theorem dX10_lays_30 : decode cX10_lays 30 = .ok (.iastore, 1) := by decide +kernel
theorem dX10_lays_31 : decode cX10_lays 31 = .ok (.iinc 4 1, 3) := by decide +kernel
theorem dX10_lays_34 : decode cX10_lays 34 = .ok (.goto (-24), 3) := by decide +kernel
theorem dX10_lays_37 : decode cX10_lays 37 = .ok (.iinc 3 1, 3) := by decide +kernel
theorem dX10_lays_40 : decode cX10_lays 40 = .ok (.goto (-38), 3) := by decide +kernel
theorem dX10_lays_43 : decode cX10_lays 43 = .ok (.return_, 1) := by decide +kernel
theorem dX10_copies_0 : decode cX10_copies 0 = .ok (.iconst 0, 1) := by decide +kernel
theorem dX10_copies_1 : decode cX10_copies 1 = .ok (.istore_n 2, 1) := by decide +kernel
theorem dX10_copies_2 : decode cX10_copies 2 = .ok (.iload_n 2, 1) := by decide +kernel
theorem dX10_copies_3 : decode cX10_copies 3 = .ok (.bipush 46, 2) := by decide +kernel
theorem dX10_copies_5 : decode cX10_copies 5 = .ok (.if_icmp .ge 15, 3) := by decide +kernel
theorem dX10_copies_8 : decode cX10_copies 8 = .ok (.aload_n 1, 1) := by decide +kernel
theorem dX10_copies_9 : decode cX10_copies 9 = .ok (.iload_n 2, 1) := by decide +kernel
theorem dX10_copies_10 : decode cX10_copies 10 = .ok (.aload_n 0, 1) := by decide +kernel
theorem dX10_copies_11 : decode cX10_copies 11 = .ok (.iload_n 2, 1) := by decide +kernel
theorem dX10_copies_12 : decode cX10_copies 12 = .ok (.iaload, 1) := by decide +kernel
theorem dX10_copies_13 : decode cX10_copies 13 = .ok (.iastore, 1) := by decide +kernel
theorem dX10_copies_14 : decode cX10_copies 14 = .ok (.iinc 2 1, 3) := by decide +kernel
theorem dX10_copies_17 : decode cX10_copies 17 = .ok (.goto (-15), 3) := by decide +kernel
theorem dX10_copies_20 : decode cX10_copies 20 = .ok (.return_, 1) := by decide +kernel
theorem dX10_beginsAnew_0 : decode cX10_beginsAnew 0 = .ok (.iconst 0, 1) := by decide +kernel
theorem dX10_beginsAnew_1 : decode cX10_beginsAnew 1 = .ok (.istore_n 1, 1) := by decide +kernel
theorem dX10_beginsAnew_2 : decode cX10_beginsAnew 2 = .ok (.iload_n 1, 1) := by decide +kernel
theorem dX10_beginsAnew_3 : decode cX10_beginsAnew 3 = .ok (.iconst 4, 1) := by decide +kernel
theorem dX10_beginsAnew_4 : decode cX10_beginsAnew 4 = .ok (.if_icmp .ge 21, 3) := by decide +kernel
theorem dX10_beginsAnew_7 : decode cX10_beginsAnew 7 = .ok (.aload_n 0, 1) := by decide +kernel
theorem dX10_beginsAnew_8 : decode cX10_beginsAnew 8 = .ok (.getfield 23, 3) := by decide +kernel
theorem dX10_beginsAnew_11 : decode cX10_beginsAnew 11 = .ok (.iload_n 1, 1) := by decide +kernel
theorem dX10_beginsAnew_12 : decode cX10_beginsAnew 12 = .ok (.aload_n 0, 1) := by decide +kernel
theorem dX10_beginsAnew_13 : decode cX10_beginsAnew 13 = .ok (.getfield 20, 3) := by decide +kernel
theorem dX10_beginsAnew_16 : decode cX10_beginsAnew 16 = .ok (.iload_n 1, 1) := by decide +kernel
theorem dX10_beginsAnew_17 : decode cX10_beginsAnew 17 = .ok (.iaload, 1) := by decide +kernel
theorem dX10_beginsAnew_18 : decode cX10_beginsAnew 18 = .ok (.iastore, 1) := by decide +kernel
theorem dX10_beginsAnew_19 : decode cX10_beginsAnew 19 = .ok (.iinc 1 1, 3) := by decide +kernel
theorem dX10_beginsAnew_22 : decode cX10_beginsAnew 22 = .ok (.goto (-20), 3) := by decide +kernel
theorem dX10_beginsAnew_25 : decode cX10_beginsAnew 25 = .ok (.aload_n 0, 1) := by decide +kernel
theorem dX10_beginsAnew_26 : decode cX10_beginsAnew 26 = .ok (.getfield 28, 3) := by decide +kernel
theorem dX10_beginsAnew_29 : decode cX10_beginsAnew 29 = .ok (.aload_n 0, 1) := by decide +kernel
theorem dX10_beginsAnew_30 : decode cX10_beginsAnew 30 = .ok (.getfield 31, 3) := by decide +kernel
theorem dX10_beginsAnew_33 : decode cX10_beginsAnew 33 = .ok (.aload_n 0, 1) := by decide +kernel
theorem dX10_beginsAnew_34 : decode cX10_beginsAnew 34 = .ok (.getfield 23, 3) := by decide +kernel
theorem dX10_beginsAnew_37 : decode cX10_beginsAnew 37 = .ok (.iconst 0, 1) := by decide +kernel
theorem dX10_beginsAnew_38 : decode cX10_beginsAnew 38 = .ok (.iaload, 1) := by decide +kernel
theorem dX10_beginsAnew_39 : decode cX10_beginsAnew 39 = .ok (.invokestatic 177, 3) := by decide +kernel
theorem dX10_beginsAnew_42 : decode cX10_beginsAnew 42 = .ok (.aload_n 0, 1) := by decide +kernel
theorem dX10_beginsAnew_43 : decode cX10_beginsAnew 43 = .ok (.getfield 34, 3) := by decide +kernel
theorem dX10_beginsAnew_46 : decode cX10_beginsAnew 46 = .ok (.aload_n 0, 1) := by decide +kernel
theorem dX10_beginsAnew_47 : decode cX10_beginsAnew 47 = .ok (.getfield 37, 3) := by decide +kernel
theorem dX10_beginsAnew_50 : decode cX10_beginsAnew 50 = .ok (.aload_n 0, 1) := by decide +kernel
theorem dX10_beginsAnew_51 : decode cX10_beginsAnew 51 = .ok (.getfield 23, 3) := by decide +kernel
theorem dX10_beginsAnew_54 : decode cX10_beginsAnew 54 = .ok (.iconst 1, 1) := by decide +kernel
theorem dX10_beginsAnew_55 : decode cX10_beginsAnew 55 = .ok (.iaload, 1) := by decide +kernel
theorem dX10_beginsAnew_56 : decode cX10_beginsAnew 56 = .ok (.invokestatic 177, 3) := by decide +kernel
theorem dX10_beginsAnew_59 : decode cX10_beginsAnew 59 = .ok (.aload_n 0, 1) := by decide +kernel
theorem dX10_beginsAnew_60 : decode cX10_beginsAnew 60 = .ok (.getfield 40, 3) := by decide +kernel
theorem dX10_beginsAnew_63 : decode cX10_beginsAnew 63 = .ok (.aload_n 0, 1) := by decide +kernel
theorem dX10_beginsAnew_64 : decode cX10_beginsAnew 64 = .ok (.getfield 43, 3) := by decide +kernel
theorem dX10_beginsAnew_67 : decode cX10_beginsAnew 67 = .ok (.aload_n 0, 1) := by decide +kernel
theorem dX10_beginsAnew_68 : decode cX10_beginsAnew 68 = .ok (.getfield 23, 3) := by decide +kernel
theorem dX10_beginsAnew_71 : decode cX10_beginsAnew 71 = .ok (.iconst 2, 1) := by decide +kernel
theorem dX10_beginsAnew_72 : decode cX10_beginsAnew 72 = .ok (.iaload, 1) := by decide +kernel
theorem dX10_beginsAnew_73 : decode cX10_beginsAnew 73 = .ok (.invokestatic 177, 3) := by decide +kernel
theorem dX10_beginsAnew_76 : decode cX10_beginsAnew 76 = .ok (.iconst 0, 1) := by decide +kernel
theorem dX10_beginsAnew_77 : decode cX10_beginsAnew 77 = .ok (.istore_n 1, 1) := by decide +kernel
theorem dX10_beginsAnew_78 : decode cX10_beginsAnew 78 = .ok (.iload_n 1, 1) := by decide +kernel
theorem dX10_beginsAnew_79 : decode cX10_beginsAnew 79 = .ok (.bipush 46, 2) := by decide +kernel
theorem dX10_beginsAnew_81 : decode cX10_beginsAnew 81 = .ok (.if_icmp .ge 16, 3) := by decide +kernel
theorem dX10_beginsAnew_84 : decode cX10_beginsAnew 84 = .ok (.aload_n 0, 1) := by decide +kernel
theorem dX10_beginsAnew_85 : decode cX10_beginsAnew 85 = .ok (.getfield 61, 3) := by decide +kernel
theorem dX10_beginsAnew_88 : decode cX10_beginsAnew 88 = .ok (.iload_n 1, 1) := by decide +kernel
theorem dX10_beginsAnew_89 : decode cX10_beginsAnew 89 = .ok (.iconst 0, 1) := by decide +kernel
theorem dX10_beginsAnew_90 : decode cX10_beginsAnew 90 = .ok (.iastore, 1) := by decide +kernel
theorem dX10_beginsAnew_91 : decode cX10_beginsAnew 91 = .ok (.iinc 1 1, 3) := by decide +kernel
theorem dX10_beginsAnew_94 : decode cX10_beginsAnew 94 = .ok (.goto (-16), 3) := by decide +kernel
theorem dX10_beginsAnew_97 : decode cX10_beginsAnew 97 = .ok (.aload_n 0, 1) := by decide +kernel
theorem dX10_beginsAnew_98 : decode cX10_beginsAnew 98 = .ok (.getfield 61, 3) := by decide +kernel
theorem dX10_beginsAnew_101 : decode cX10_beginsAnew 101 = .ok (.bipush 42, 2) := by decide +kernel
theorem dX10_beginsAnew_103 : decode cX10_beginsAnew 103 = .ok (.aload_n 0, 1) := by decide +kernel
theorem dX10_beginsAnew_104 : decode cX10_beginsAnew 104 = .ok (.getfield 23, 3) := by decide +kernel
theorem dX10_beginsAnew_107 : decode cX10_beginsAnew 107 = .ok (.iconst 0, 1) := by decide +kernel
theorem dX10_beginsAnew_108 : decode cX10_beginsAnew 108 = .ok (.iaload, 1) := by decide +kernel
theorem dX10_beginsAnew_109 : decode cX10_beginsAnew 109 = .ok (.iastore, 1) := by decide +kernel
theorem dX10_beginsAnew_110 : decode cX10_beginsAnew 110 = .ok (.aload_n 0, 1) := by decide +kernel
theorem dX10_beginsAnew_111 : decode cX10_beginsAnew 111 = .ok (.getfield 61, 3) := by decide +kernel
theorem dX10_beginsAnew_114 : decode cX10_beginsAnew 114 = .ok (.bipush 43, 2) := by decide +kernel
theorem dX10_beginsAnew_116 : decode cX10_beginsAnew 116 = .ok (.aload_n 0, 1) := by decide +kernel
theorem dX10_beginsAnew_117 : decode cX10_beginsAnew 117 = .ok (.getfield 23, 3) := by decide +kernel
theorem dX10_beginsAnew_120 : decode cX10_beginsAnew 120 = .ok (.iconst 3, 1) := by decide +kernel
theorem dX10_beginsAnew_121 : decode cX10_beginsAnew 121 = .ok (.iaload, 1) := by decide +kernel
theorem dX10_beginsAnew_122 : decode cX10_beginsAnew 122 = .ok (.iastore, 1) := by decide +kernel
theorem dX10_beginsAnew_123 : decode cX10_beginsAnew 123 = .ok (.iconst 0, 1) := by decide +kernel
theorem dX10_beginsAnew_124 : decode cX10_beginsAnew 124 = .ok (.istore_n 1, 1) := by decide +kernel
theorem dX10_beginsAnew_125 : decode cX10_beginsAnew 125 = .ok (.iload_n 1, 1) := by decide +kernel
theorem dX10_beginsAnew_126 : decode cX10_beginsAnew 126 = .ok (.aload_n 0, 1) := by decide +kernel
theorem dX10_beginsAnew_127 : decode cX10_beginsAnew 127 = .ok (.getfield 23, 3) := by decide +kernel
theorem dX10_beginsAnew_130 : decode cX10_beginsAnew 130 = .ok (.iconst 0, 1) := by decide +kernel
theorem dX10_beginsAnew_131 : decode cX10_beginsAnew 131 = .ok (.iaload, 1) := by decide +kernel
theorem dX10_beginsAnew_132 : decode cX10_beginsAnew 132 = .ok (.if_icmp .ge 59, 3) := by decide +kernel
theorem dX10_beginsAnew_135 : decode cX10_beginsAnew 135 = .ok (.aload_n 0, 1) := by decide +kernel
theorem dX10_beginsAnew_136 : decode cX10_beginsAnew 136 = .ok (.getfield 61, 3) := by decide +kernel
theorem dX10_beginsAnew_139 : decode cX10_beginsAnew 139 = .ok (.iconst 0, 1) := by decide +kernel
theorem dX10_beginsAnew_140 : decode cX10_beginsAnew 140 = .ok (.iload_n 1, 1) := by decide +kernel
theorem dX10_beginsAnew_141 : decode cX10_beginsAnew 141 = .ok (.iadd, 1) := by decide +kernel
theorem dX10_beginsAnew_142 : decode cX10_beginsAnew 142 = .ok (.aload_n 0, 1) := by decide +kernel
theorem dX10_beginsAnew_143 : decode cX10_beginsAnew 143 = .ok (.getfield 31, 3) := by decide +kernel
theorem dX10_beginsAnew_146 : decode cX10_beginsAnew 146 = .ok (.iload_n 1, 1) := by decide +kernel
theorem dX10_beginsAnew_147 : decode cX10_beginsAnew 147 = .ok (.aaload, 1) := by decide +kernel
theorem dX10_beginsAnew_148 : decode cX10_beginsAnew 148 = .ok (.iconst 0, 1) := by decide +kernel
theorem dX10_beginsAnew_149 : decode cX10_beginsAnew 149 = .ok (.iaload, 1) := by decide +kernel
theorem dX10_beginsAnew_150 : decode cX10_beginsAnew 150 = .ok (.iastore, 1) := by decide +kernel
theorem dX10_beginsAnew_151 : decode cX10_beginsAnew 151 = .ok (.aload_n 0, 1) := by decide +kernel
theorem dX10_beginsAnew_152 : decode cX10_beginsAnew 152 = .ok (.getfield 61, 3) := by decide +kernel
theorem dX10_beginsAnew_155 : decode cX10_beginsAnew 155 = .ok (.bipush 8, 2) := by decide +kernel
theorem dX10_beginsAnew_157 : decode cX10_beginsAnew 157 = .ok (.iload_n 1, 1) := by decide +kernel
theorem dX10_beginsAnew_158 : decode cX10_beginsAnew 158 = .ok (.iadd, 1) := by decide +kernel
theorem dX10_beginsAnew_159 : decode cX10_beginsAnew 159 = .ok (.aload_n 0, 1) := by decide +kernel
theorem dX10_beginsAnew_160 : decode cX10_beginsAnew 160 = .ok (.getfield 31, 3) := by decide +kernel
theorem dX10_beginsAnew_163 : decode cX10_beginsAnew 163 = .ok (.iload_n 1, 1) := by decide +kernel
theorem dX10_beginsAnew_164 : decode cX10_beginsAnew 164 = .ok (.aaload, 1) := by decide +kernel
theorem dX10_beginsAnew_165 : decode cX10_beginsAnew 165 = .ok (.iconst 0, 1) := by decide +kernel
theorem dX10_beginsAnew_166 : decode cX10_beginsAnew 166 = .ok (.iaload, 1) := by decide +kernel
theorem dX10_beginsAnew_167 : decode cX10_beginsAnew 167 = .ok (.iastore, 1) := by decide +kernel
theorem dX10_beginsAnew_168 : decode cX10_beginsAnew 168 = .ok (.aload_n 0, 1) := by decide +kernel
theorem dX10_beginsAnew_169 : decode cX10_beginsAnew 169 = .ok (.getfield 61, 3) := by decide +kernel
theorem dX10_beginsAnew_172 : decode cX10_beginsAnew 172 = .ok (.bipush 16, 2) := by decide +kernel
theorem dX10_beginsAnew_174 : decode cX10_beginsAnew 174 = .ok (.iload_n 1, 1) := by decide +kernel
theorem dX10_beginsAnew_175 : decode cX10_beginsAnew 175 = .ok (.iadd, 1) := by decide +kernel
theorem dX10_beginsAnew_176 : decode cX10_beginsAnew 176 = .ok (.aload_n 0, 1) := by decide +kernel
theorem dX10_beginsAnew_177 : decode cX10_beginsAnew 177 = .ok (.getfield 31, 3) := by decide +kernel
theorem dX10_beginsAnew_180 : decode cX10_beginsAnew 180 = .ok (.iload_n 1, 1) := by decide +kernel
theorem dX10_beginsAnew_181 : decode cX10_beginsAnew 181 = .ok (.aaload, 1) := by decide +kernel
theorem dX10_beginsAnew_182 : decode cX10_beginsAnew 182 = .ok (.iconst 1, 1) := by decide +kernel
theorem dX10_beginsAnew_183 : decode cX10_beginsAnew 183 = .ok (.iaload, 1) := by decide +kernel
theorem dX10_beginsAnew_184 : decode cX10_beginsAnew 184 = .ok (.iastore, 1) := by decide +kernel
theorem dX10_beginsAnew_185 : decode cX10_beginsAnew 185 = .ok (.iinc 1 1, 3) := by decide +kernel
theorem dX10_beginsAnew_188 : decode cX10_beginsAnew 188 = .ok (.goto (-63), 3) := by decide +kernel
theorem dX10_beginsAnew_191 : decode cX10_beginsAnew 191 = .ok (.aload_n 0, 1) := by decide +kernel
theorem dX10_beginsAnew_192 : decode cX10_beginsAnew 192 = .ok (.iconst 0, 1) := by decide +kernel
theorem dX10_beginsAnew_193 : decode cX10_beginsAnew 193 = .ok (.putfield 181, 3) := by decide +kernel
theorem dX10_beginsAnew_196 : decode cX10_beginsAnew 196 = .ok (.aload_n 0, 1) := by decide +kernel
theorem dX10_beginsAnew_197 : decode cX10_beginsAnew 197 = .ok (.iconst 0, 1) := by decide +kernel
theorem dX10_beginsAnew_198 : decode cX10_beginsAnew 198 = .ok (.putfield 184, 3) := by decide +kernel
theorem dX10_beginsAnew_201 : decode cX10_beginsAnew 201 = .ok (.aload_n 0, 1) := by decide +kernel
theorem dX10_beginsAnew_202 : decode cX10_beginsAnew 202 = .ok (.iconst 0, 1) := by decide +kernel
theorem dX10_beginsAnew_203 : decode cX10_beginsAnew 203 = .ok (.putfield 187, 3) := by decide +kernel
theorem dX10_beginsAnew_206 : decode cX10_beginsAnew 206 = .ok (.aload_n 0, 1) := by decide +kernel
theorem dX10_beginsAnew_207 : decode cX10_beginsAnew 207 = .ok (.iconst 0, 1) := by decide +kernel
theorem dX10_beginsAnew_208 : decode cX10_beginsAnew 208 = .ok (.putfield 190, 3) := by decide +kernel
theorem dX10_beginsAnew_211 : decode cX10_beginsAnew 211 = .ok (.return_, 1) := by decide +kernel
theorem dX10_notes_0 : decode cX10_notes 0 = .ok (.aload_n 0, 1) := by decide +kernel
theorem dX10_notes_1 : decode cX10_notes 1 = .ok (.getfield 104, 3) := by decide +kernel
theorem dX10_notes_4 : decode cX10_notes 4 = .ok (.ifCond .eq 4, 3) := by decide +kernel
theorem dX10_notes_7 : decode cX10_notes 7 = .ok (.return_, 1) := by decide +kernel
theorem dX10_notes_8 : decode cX10_notes 8 = .ok (.aload_n 0, 1) := by decide +kernel
theorem dX10_notes_9 : decode cX10_notes 9 = .ok (.getfield 49, 3) := by decide +kernel
theorem dX10_notes_12 : decode cX10_notes 12 = .ok (.aload_n 0, 1) := by decide +kernel
theorem dX10_notes_13 : decode cX10_notes 13 = .ok (.getfield 193, 3) := by decide +kernel
theorem dX10_notes_16 : decode cX10_notes 16 = .ok (.aaload, 1) := by decide +kernel
theorem dX10_notes_17 : decode cX10_notes 17 = .ok (.iconst 0, 1) := by decide +kernel
theorem dX10_notes_18 : decode cX10_notes 18 = .ok (.iload_n 1, 1) := by decide +kernel
theorem dX10_notes_19 : decode cX10_notes 19 = .ok (.iastore, 1) := by decide +kernel
theorem dX10_notes_20 : decode cX10_notes 20 = .ok (.aload_n 0, 1) := by decide +kernel
theorem dX10_notes_21 : decode cX10_notes 21 = .ok (.getfield 49, 3) := by decide +kernel
theorem dX10_notes_24 : decode cX10_notes 24 = .ok (.aload_n 0, 1) := by decide +kernel
theorem dX10_notes_25 : decode cX10_notes 25 = .ok (.getfield 193, 3) := by decide +kernel
theorem dX10_notes_28 : decode cX10_notes 28 = .ok (.aaload, 1) := by decide +kernel
theorem dX10_notes_29 : decode cX10_notes 29 = .ok (.iconst 1, 1) := by decide +kernel
theorem dX10_notes_30 : decode cX10_notes 30 = .ok (.iload_n 2, 1) := by decide +kernel
theorem dX10_notes_31 : decode cX10_notes 31 = .ok (.iastore, 1) := by decide +kernel
theorem dX10_notes_32 : decode cX10_notes 32 = .ok (.aload_n 0, 1) := by decide +kernel
theorem dX10_notes_33 : decode cX10_notes 33 = .ok (.dup, 1) := by decide +kernel
theorem dX10_notes_34 : decode cX10_notes 34 = .ok (.getfield 193, 3) := by decide +kernel
theorem dX10_notes_37 : decode cX10_notes 37 = .ok (.iconst 1, 1) := by decide +kernel
theorem dX10_notes_38 : decode cX10_notes 38 = .ok (.iadd, 1) := by decide +kernel
theorem dX10_notes_39 : decode cX10_notes 39 = .ok (.putfield 193, 3) := by decide +kernel
theorem dX10_notes_42 : decode cX10_notes 42 = .ok (.return_, 1) := by decide +kernel
theorem dX10_opensOne_0 : decode cX10_opensOne 0 = .ok (.aload_n 0, 1) := by decide +kernel
theorem dX10_opensOne_1 : decode cX10_opensOne 1 = .ok (.getfield 104, 3) := by decide +kernel
theorem dX10_opensOne_4 : decode cX10_opensOne 4 = .ok (.ifCond .ne 24, 3) := by decide +kernel
theorem dX10_opensOne_7 : decode cX10_opensOne 7 = .ok (.aload_n 0, 1) := by decide +kernel
theorem dX10_opensOne_8 : decode cX10_opensOne 8 = .ok (.getfield 147, 3) := by decide +kernel
theorem dX10_opensOne_11 : decode cX10_opensOne 11 = .ok (.bipush 6, 2) := by decide +kernel
theorem dX10_opensOne_13 : decode cX10_opensOne 13 = .ok (.if_icmp .ne 15, 3) := by decide +kernel
theorem dX10_opensOne_16 : decode cX10_opensOne 16 = .ok (.aload_n 0, 1) := by decide +kernel
theorem dX10_opensOne_17 : decode cX10_opensOne 17 = .ok (.iconst 3, 1) := by decide +kernel
theorem dX10_opensOne_18 : decode cX10_opensOne 18 = .ok (.aload_n 0, 1) := by decide +kernel
theorem dX10_opensOne_19 : decode cX10_opensOne 19 = .ok (.getfield 97, 3) := by decide +kernel
theorem dX10_opensOne_22 : decode cX10_opensOne 22 = .ok (.invokevirtual 117, 3) := by decide +kernel
theorem dX10_opensOne_25 : decode cX10_opensOne 25 = .ok (.goto 20, 3) := by decide +kernel
theorem dX10_opensOne_28 : decode cX10_opensOne 28 = .ok (.aload_n 0, 1) := by decide +kernel
theorem dX10_opensOne_29 : decode cX10_opensOne 29 = .ok (.getfield 104, 3) := by decide +kernel
theorem dX10_opensOne_32 : decode cX10_opensOne 32 = .ok (.ifCond .ne 13, 3) := by decide +kernel
theorem dX10_opensOne_35 : decode cX10_opensOne 35 = .ok (.aload_n 0, 1) := by decide +kernel
theorem dX10_opensOne_36 : decode cX10_opensOne 36 = .ok (.dup, 1) := by decide +kernel
theorem dX10_opensOne_37 : decode cX10_opensOne 37 = .ok (.getfield 147, 3) := by decide +kernel
theorem dX10_opensOne_40 : decode cX10_opensOne 40 = .ok (.iconst 1, 1) := by decide +kernel
theorem dX10_opensOne_41 : decode cX10_opensOne 41 = .ok (.iadd, 1) := by decide +kernel
theorem dX10_opensOne_42 : decode cX10_opensOne 42 = .ok (.putfield 147, 3) := by decide +kernel
theorem dX10_opensOne_45 : decode cX10_opensOne 45 = .ok (.aload_n 0, 1) := by decide +kernel
theorem dX10_opensOne_46 : decode cX10_opensOne 46 = .ok (.getfield 104, 3) := by decide +kernel
theorem dX10_opensOne_49 : decode cX10_opensOne 49 = .ok (.ifCond .ne 7, 3) := by decide +kernel
theorem dX10_opensOne_52 : decode cX10_opensOne 52 = .ok (.iconst 1, 1) := by decide +kernel
theorem dX10_opensOne_53 : decode cX10_opensOne 53 = .ok (.goto 4, 3) := by decide +kernel
theorem dX10_opensOne_56 : decode cX10_opensOne 56 = .ok (.iconst 0, 1) := by decide +kernel
theorem dX10_opensOne_57 : decode cX10_opensOne 57 = .ok (.ireturn, 1) := by decide +kernel
theorem dX10_sum_0 : decode cX10_sum 0 = .ok (.aload_n 0, 1) := by decide +kernel
theorem dX10_sum_1 : decode cX10_sum 1 = .ok (.invokevirtual 196, 3) := by decide +kernel
theorem dX10_sum_4 : decode cX10_sum 4 = .ok (.aload_n 0, 1) := by decide +kernel
theorem dX10_sum_5 : decode cX10_sum 5 = .ok (.getfield 104, 3) := by decide +kernel
theorem dX10_sum_8 : decode cX10_sum 8 = .ok (.ifCond .ne 50, 3) := by decide +kernel
theorem dX10_sum_11 : decode cX10_sum 11 = .ok (.aload_n 0, 1) := by decide +kernel
theorem dX10_sum_12 : decode cX10_sum 12 = .ok (.bipush 43, 2) := by decide +kernel
theorem dX10_sum_14 : decode cX10_sum 14 = .ok (.invokevirtual 199, 3) := by decide +kernel
theorem dX10_sum_17 : decode cX10_sum 17 = .ok (.ifCond .eq 7, 3) := by decide +kernel
theorem dX10_sum_20 : decode cX10_sum 20 = .ok (.iconst 2, 1) := by decide +kernel
theorem dX10_sum_21 : decode cX10_sum 21 = .ok (.goto 17, 3) := by decide +kernel
theorem dX10_sum_24 : decode cX10_sum 24 = .ok (.aload_n 0, 1) := by decide +kernel
theorem dX10_sum_25 : decode cX10_sum 25 = .ok (.bipush 45, 2) := by decide +kernel
theorem dX10_sum_27 : decode cX10_sum 27 = .ok (.invokevirtual 199, 3) := by decide +kernel
theorem dX10_sum_30 : decode cX10_sum 30 = .ok (.ifCond .eq 7, 3) := by decide +kernel
theorem dX10_sum_33 : decode cX10_sum 33 = .ok (.iconst 3, 1) := by decide +kernel
theorem dX10_sum_34 : decode cX10_sum 34 = .ok (.goto 4, 3) := by decide +kernel
theorem dX10_sum_37 : decode cX10_sum 37 = .ok (.iconst (-1), 1) := by decide +kernel
theorem dX10_sum_38 : decode cX10_sum 38 = .ok (.istore_n 1, 1) := by decide +kernel
theorem dX10_sum_39 : decode cX10_sum 39 = .ok (.iload_n 1, 1) := by decide +kernel
theorem dX10_sum_40 : decode cX10_sum 40 = .ok (.iconst (-1), 1) := by decide +kernel
theorem dX10_sum_41 : decode cX10_sum 41 = .ok (.if_icmp .ne 4, 3) := by decide +kernel
theorem dX10_sum_44 : decode cX10_sum 44 = .ok (.return_, 1) := by decide +kernel
theorem dX10_sum_45 : decode cX10_sum 45 = .ok (.aload_n 0, 1) := by decide +kernel
theorem dX10_sum_46 : decode cX10_sum 46 = .ok (.invokevirtual 196, 3) := by decide +kernel
theorem dX10_sum_49 : decode cX10_sum 49 = .ok (.aload_n 0, 1) := by decide +kernel
theorem dX10_sum_50 : decode cX10_sum 50 = .ok (.iload_n 1, 1) := by decide +kernel
theorem dX10_sum_51 : decode cX10_sum 51 = .ok (.iconst 0, 1) := by decide +kernel
theorem dX10_sum_52 : decode cX10_sum 52 = .ok (.invokevirtual 202, 3) := by decide +kernel
theorem dX10_sum_55 : decode cX10_sum 55 = .ok (.goto (-51), 3) := by decide +kernel
theorem dX10_sum_58 : decode cX10_sum 58 = .ok (.return_, 1) := by decide +kernel
theorem dX10_product_0 : decode cX10_product 0 = .ok (.aload_n 0, 1) := by decide +kernel
theorem dX10_product_1 : decode cX10_product 1 = .ok (.invokevirtual 205, 3) := by decide +kernel
theorem dX10_product_4 : decode cX10_product 4 = .ok (.aload_n 0, 1) := by decide +kernel
theorem dX10_product_5 : decode cX10_product 5 = .ok (.getfield 104, 3) := by decide +kernel
theorem dX10_product_8 : decode cX10_product 8 = .ok (.ifCond .ne 64, 3) := by decide +kernel
theorem dX10_product_11 : decode cX10_product 11 = .ok (.aload_n 0, 1) := by decide +kernel
theorem dX10_product_12 : decode cX10_product 12 = .ok (.bipush 42, 2) := by decide +kernel
theorem dX10_product_14 : decode cX10_product 14 = .ok (.invokevirtual 199, 3) := by decide +kernel
theorem dX10_product_17 : decode cX10_product 17 = .ok (.ifCond .eq 7, 3) := by decide +kernel
theorem dX10_product_20 : decode cX10_product 20 = .ok (.iconst 4, 1) := by decide +kernel
theorem dX10_product_21 : decode cX10_product 21 = .ok (.goto 31, 3) := by decide +kernel
theorem dX10_product_24 : decode cX10_product 24 = .ok (.aload_n 0, 1) := by decide +kernel
theorem dX10_product_25 : decode cX10_product 25 = .ok (.bipush 47, 2) := by decide +kernel
theorem dX10_product_27 : decode cX10_product 27 = .ok (.invokevirtual 199, 3) := by decide +kernel
theorem dX10_product_30 : decode cX10_product 30 = .ok (.ifCond .eq 7, 3) := by decide +kernel
theorem dX10_product_33 : decode cX10_product 33 = .ok (.iconst 5, 1) := by decide +kernel
theorem dX10_product_34 : decode cX10_product 34 = .ok (.goto 18, 3) := by decide +kernel
theorem dX10_product_37 : decode cX10_product 37 = .ok (.aload_n 0, 1) := by decide +kernel
theorem dX10_product_38 : decode cX10_product 38 = .ok (.bipush 37, 2) := by decide +kernel
theorem dX10_product_40 : decode cX10_product 40 = .ok (.invokevirtual 199, 3) := by decide +kernel
theorem dX10_product_43 : decode cX10_product 43 = .ok (.ifCond .eq 8, 3) := by decide +kernel
theorem dX10_product_46 : decode cX10_product 46 = .ok (.bipush 6, 2) := by decide +kernel
theorem dX10_product_48 : decode cX10_product 48 = .ok (.goto 4, 3) := by decide +kernel
theorem dX10_product_51 : decode cX10_product 51 = .ok (.iconst (-1), 1) := by decide +kernel
theorem dX10_product_52 : decode cX10_product 52 = .ok (.istore_n 1, 1) := by decide +kernel
theorem dX10_product_53 : decode cX10_product 53 = .ok (.iload_n 1, 1) := by decide +kernel
theorem dX10_product_54 : decode cX10_product 54 = .ok (.iconst (-1), 1) := by decide +kernel
theorem dX10_product_55 : decode cX10_product 55 = .ok (.if_icmp .ne 4, 3) := by decide +kernel
theorem dX10_product_58 : decode cX10_product 58 = .ok (.return_, 1) := by decide +kernel
theorem dX10_product_59 : decode cX10_product 59 = .ok (.aload_n 0, 1) := by decide +kernel
theorem dX10_product_60 : decode cX10_product 60 = .ok (.invokevirtual 205, 3) := by decide +kernel
theorem dX10_product_63 : decode cX10_product 63 = .ok (.aload_n 0, 1) := by decide +kernel
theorem dX10_product_64 : decode cX10_product 64 = .ok (.iload_n 1, 1) := by decide +kernel
theorem dX10_product_65 : decode cX10_product 65 = .ok (.iconst 0, 1) := by decide +kernel
theorem dX10_product_66 : decode cX10_product 66 = .ok (.invokevirtual 202, 3) := by decide +kernel
theorem dX10_product_69 : decode cX10_product 69 = .ok (.goto (-65), 3) := by decide +kernel
theorem dX10_product_72 : decode cX10_product 72 = .ok (.return_, 1) := by decide +kernel
theorem dX10_knownHere_0 : decode cX10_knownHere 0 = .ok (.aload_n 0, 1) := by decide +kernel
theorem dX10_knownHere_1 : decode cX10_knownHere 1 = .ok (.bipush 20, 2) := by decide +kernel
theorem dX10_knownHere_3 : decode cX10_knownHere 3 = .ok (.bipush 15, 2) := by decide +kernel
theorem dX10_knownHere_5 : decode cX10_knownHere 5 = .ok (.bipush 12, 2) := by decide +kernel
theorem dX10_knownHere_7 : decode cX10_knownHere 7 = .ok (.bipush 12, 2) := by decide +kernel
theorem dX10_knownHere_9 : decode cX10_knownHere 9 = .ok (.iconst 0, 1) := by decide +kernel
theorem dX10_knownHere_10 : decode cX10_knownHere 10 = .ok (.iconst 0, 1) := by decide +kernel
theorem dX10_knownHere_11 : decode cX10_knownHere 11 = .ok (.invokevirtual 208, 3) := by decide +kernel
theorem dX10_knownHere_14 : decode cX10_knownHere 14 = .ok (.ifCond .eq 5, 3) := by decide +kernel
theorem dX10_knownHere_17 : decode cX10_knownHere 17 = .ok (.iconst 0, 1) := by decide +kernel
theorem dX10_knownHere_18 : decode cX10_knownHere 18 = .ok (.ireturn, 1) := by decide +kernel
theorem dX10_knownHere_19 : decode cX10_knownHere 19 = .ok (.aload_n 0, 1) := by decide +kernel
theorem dX10_knownHere_20 : decode cX10_knownHere 20 = .ok (.iconst 1, 1) := by decide +kernel
theorem dX10_knownHere_21 : decode cX10_knownHere 21 = .ok (.bipush 16, 2) := by decide +kernel
theorem dX10_knownHere_23 : decode cX10_knownHere 23 = .ok (.iconst 1, 1) := by decide +kernel
theorem dX10_knownHere_24 : decode cX10_knownHere 24 = .ok (.bipush 18, 2) := by decide +kernel
theorem dX10_knownHere_26 : decode cX10_knownHere 26 = .ok (.bipush 20, 2) := by decide +kernel
theorem dX10_knownHere_28 : decode cX10_knownHere 28 = .ok (.iconst 0, 1) := by decide +kernel
theorem dX10_knownHere_29 : decode cX10_knownHere 29 = .ok (.invokevirtual 208, 3) := by decide +kernel
theorem dX10_knownHere_32 : decode cX10_knownHere 32 = .ok (.ifCond .eq 5, 3) := by decide +kernel
theorem dX10_knownHere_35 : decode cX10_knownHere 35 = .ok (.iconst 1, 1) := by decide +kernel
theorem dX10_knownHere_36 : decode cX10_knownHere 36 = .ok (.ireturn, 1) := by decide +kernel
theorem dX10_knownHere_37 : decode cX10_knownHere 37 = .ok (.aload_n 0, 1) := by decide +kernel
theorem dX10_knownHere_38 : decode cX10_knownHere 38 = .ok (.bipush 13, 2) := by decide +kernel
theorem dX10_knownHere_40 : decode cX10_knownHere 40 = .ok (.iconst 1, 1) := by decide +kernel
theorem dX10_knownHere_41 : decode cX10_knownHere 41 = .ok (.bipush 18, 2) := by decide +kernel
theorem dX10_knownHere_43 : decode cX10_knownHere 43 = .ok (.bipush 11, 2) := by decide +kernel
theorem dX10_knownHere_45 : decode cX10_knownHere 45 = .ok (.bipush 19, 2) := by decide +kernel
theorem dX10_knownHere_47 : decode cX10_knownHere 47 = .ok (.iconst 0, 1) := by decide +kernel
theorem dX10_knownHere_48 : decode cX10_knownHere 48 = .ok (.invokevirtual 208, 3) := by decide +kernel
theorem dX10_knownHere_51 : decode cX10_knownHere 51 = .ok (.ifCond .eq 5, 3) := by decide +kernel
theorem dX10_knownHere_54 : decode cX10_knownHere 54 = .ok (.iconst 2, 1) := by decide +kernel
theorem dX10_knownHere_55 : decode cX10_knownHere 55 = .ok (.ireturn, 1) := by decide +kernel
theorem dX10_knownHere_56 : decode cX10_knownHere 56 = .ok (.aload_n 0, 1) := by decide +kernel
theorem dX10_knownHere_57 : decode cX10_knownHere 57 = .ok (.iconst 1, 1) := by decide +kernel
theorem dX10_knownHere_58 : decode cX10_knownHere 58 = .ok (.bipush 7, 2) := by decide +kernel
theorem dX10_knownHere_60 : decode cX10_knownHere 60 = .ok (.iconst 5, 1) := by decide +kernel
theorem dX10_knownHere_61 : decode cX10_knownHere 61 = .ok (.iconst 0, 1) := by decide +kernel
theorem dX10_knownHere_62 : decode cX10_knownHere 62 = .ok (.iconst 0, 1) := by decide +kernel
theorem dX10_knownHere_63 : decode cX10_knownHere 63 = .ok (.iconst 0, 1) := by decide +kernel
theorem dX10_knownHere_64 : decode cX10_knownHere 64 = .ok (.invokevirtual 208, 3) := by decide +kernel
theorem dX10_knownHere_67 : decode cX10_knownHere 67 = .ok (.ifCond .eq 5, 3) := by decide +kernel
theorem dX10_knownHere_70 : decode cX10_knownHere 70 = .ok (.iconst 3, 1) := by decide +kernel
theorem dX10_knownHere_71 : decode cX10_knownHere 71 = .ok (.ireturn, 1) := by decide +kernel
theorem dX10_knownHere_72 : decode cX10_knownHere 72 = .ok (.aload_n 0, 1) := by decide +kernel
theorem dX10_knownHere_73 : decode cX10_knownHere 73 = .ok (.bipush 7, 2) := by decide +kernel
theorem dX10_knownHere_75 : decode cX10_knownHere 75 = .ok (.bipush 15, 2) := by decide +kernel
theorem dX10_knownHere_77 : decode cX10_knownHere 77 = .ok (.bipush 14, 2) := by decide +kernel
theorem dX10_knownHere_79 : decode cX10_knownHere 79 = .ok (.iconst 5, 1) := by decide +kernel
theorem dX10_knownHere_80 : decode cX10_knownHere 80 = .ok (.iconst 0, 1) := by decide +kernel
theorem dX10_knownHere_81 : decode cX10_knownHere 81 = .ok (.iconst 0, 1) := by decide +kernel
theorem dX10_knownHere_82 : decode cX10_knownHere 82 = .ok (.invokevirtual 208, 3) := by decide +kernel
theorem dX10_knownHere_85 : decode cX10_knownHere 85 = .ok (.ifCond .eq 5, 3) := by decide +kernel
theorem dX10_knownHere_88 : decode cX10_knownHere 88 = .ok (.iconst 4, 1) := by decide +kernel
theorem dX10_knownHere_89 : decode cX10_knownHere 89 = .ok (.ireturn, 1) := by decide +kernel
theorem dX10_knownHere_90 : decode cX10_knownHere 90 = .ok (.aload_n 0, 1) := by decide +kernel
theorem dX10_knownHere_91 : decode cX10_knownHere 91 = .ok (.bipush 16, 2) := by decide +kernel
theorem dX10_knownHere_93 : decode cX10_knownHere 93 = .ok (.iconst 1, 1) := by decide +kernel
theorem dX10_knownHere_94 : decode cX10_knownHere 94 = .ok (.bipush 19, 2) := by decide +kernel
theorem dX10_knownHere_96 : decode cX10_knownHere 96 = .ok (.bipush 19, 2) := by decide +kernel
theorem dX10_knownHere_98 : decode cX10_knownHere 98 = .ok (.iconst 5, 1) := by decide +kernel
theorem dX10_knownHere_99 : decode cX10_knownHere 99 = .ok (.iconst 4, 1) := by decide +kernel
theorem dX10_knownHere_100 : decode cX10_knownHere 100 = .ok (.invokevirtual 208, 3) := by decide +kernel
theorem dX10_knownHere_103 : decode cX10_knownHere 103 = .ok (.ifCond .eq 5, 3) := by decide +kernel
theorem dX10_knownHere_106 : decode cX10_knownHere 106 = .ok (.iconst 5, 1) := by decide +kernel
theorem dX10_knownHere_107 : decode cX10_knownHere 107 = .ok (.ireturn, 1) := by decide +kernel
theorem dX10_knownHere_108 : decode cX10_knownHere 108 = .ok (.aload_n 0, 1) := by decide +kernel
theorem dX10_knownHere_109 : decode cX10_knownHere 109 = .ok (.bipush 14, 2) := by decide +kernel
theorem dX10_knownHere_111 : decode cX10_knownHere 111 = .ok (.bipush 21, 2) := by decide +kernel
theorem dX10_knownHere_113 : decode cX10_knownHere 113 = .ok (.bipush 13, 2) := by decide +kernel
theorem dX10_knownHere_115 : decode cX10_knownHere 115 = .ok (.iconst 2, 1) := by decide +kernel
theorem dX10_knownHere_116 : decode cX10_knownHere 116 = .ok (.iconst 5, 1) := by decide +kernel
theorem dX10_knownHere_117 : decode cX10_knownHere 117 = .ok (.bipush 18, 2) := by decide +kernel
theorem dX10_knownHere_119 : decode cX10_knownHere 119 = .ok (.invokevirtual 208, 3) := by decide +kernel
theorem dX10_knownHere_122 : decode cX10_knownHere 122 = .ok (.ifCond .eq 6, 3) := by decide +kernel
theorem dX10_knownHere_125 : decode cX10_knownHere 125 = .ok (.bipush 6, 2) := by decide +kernel
theorem dX10_knownHere_127 : decode cX10_knownHere 127 = .ok (.ireturn, 1) := by decide +kernel
theorem dX10_knownHere_128 : decode cX10_knownHere 128 = .ok (.aload_n 0, 1) := by decide +kernel
theorem dX10_knownHere_129 : decode cX10_knownHere 129 = .ok (.bipush 7, 2) := by decide +kernel
theorem dX10_knownHere_131 : decode cX10_knownHere 131 = .ok (.iconst 1, 1) := by decide +kernel
theorem dX10_knownHere_132 : decode cX10_knownHere 132 = .ok (.bipush 20, 2) := by decide +kernel
theorem dX10_knownHere_134 : decode cX10_knownHere 134 = .ok (.iconst 5, 1) := by decide +kernel
theorem dX10_knownHere_135 : decode cX10_knownHere 135 = .ok (.iconst 0, 1) := by decide +kernel
theorem dX10_knownHere_136 : decode cX10_knownHere 136 = .ok (.iconst 0, 1) := by decide +kernel
theorem dX10_knownHere_137 : decode cX10_knownHere 137 = .ok (.invokevirtual 208, 3) := by decide +kernel
theorem dX10_knownHere_140 : decode cX10_knownHere 140 = .ok (.ifCond .eq 8, 3) := by decide +kernel
theorem dX10_knownHere_143 : decode cX10_knownHere 143 = .ok (.bipush 7, 2) := by decide +kernel
theorem dX10_knownHere_145 : decode cX10_knownHere 145 = .ok (.goto 4, 3) := by decide +kernel
theorem dX10_knownHere_148 : decode cX10_knownHere 148 = .ok (.iconst (-1), 1) := by decide +kernel
theorem dX10_knownHere_149 : decode cX10_knownHere 149 = .ok (.ireturn, 1) := by decide +kernel
theorem dX10_one_0 : decode cX10_one 0 = .ok (.aload_n 0, 1) := by decide +kernel
theorem dX10_one_1 : decode cX10_one 1 = .ok (.getfield 104, 3) := by decide +kernel
theorem dX10_one_4 : decode cX10_one 4 = .ok (.ifCond .eq 4, 3) := by decide +kernel
theorem dX10_one_7 : decode cX10_one 7 = .ok (.return_, 1) := by decide +kernel
theorem dX10_one_8 : decode cX10_one 8 = .ok (.aload_n 0, 1) := by decide +kernel
theorem dX10_one_9 : decode cX10_one 9 = .ok (.invokevirtual 110, 3) := by decide +kernel
theorem dX10_one_12 : decode cX10_one 12 = .ok (.aload_n 0, 1) := by decide +kernel
theorem dX10_one_13 : decode cX10_one 13 = .ok (.bipush 12, 2) := by decide +kernel
theorem dX10_one_15 : decode cX10_one 15 = .ok (.iconst 5, 1) := by decide +kernel
theorem dX10_one_16 : decode cX10_one 16 = .ok (.iconst 1, 1) := by decide +kernel
theorem dX10_one_17 : decode cX10_one 17 = .ok (.bipush 19, 2) := by decide +kernel
theorem dX10_one_19 : decode cX10_one 19 = .ok (.bipush 20, 2) := by decide +kernel
theorem dX10_one_21 : decode cX10_one 21 = .ok (.iconst 0, 1) := by decide +kernel
theorem dX10_one_22 : decode cX10_one 22 = .ok (.invokevirtual 137, 3) := by decide +kernel
theorem dX10_one_25 : decode cX10_one 25 = .ok (.ifCond .eq 8, 3) := by decide +kernel
theorem dX10_one_28 : decode cX10_one 28 = .ok (.bipush 7, 2) := by decide +kernel
theorem dX10_one_30 : decode cX10_one 30 = .ok (.goto 26, 3) := by decide +kernel
theorem dX10_one_33 : decode cX10_one 33 = .ok (.aload_n 0, 1) := by decide +kernel
theorem dX10_one_34 : decode cX10_one 34 = .ok (.bipush 13, 2) := by decide +kernel
theorem dX10_one_36 : decode cX10_one 36 = .ok (.bipush 15, 2) := by decide +kernel
theorem dX10_one_38 : decode cX10_one 38 = .ok (.bipush 19, 2) := by decide +kernel
theorem dX10_one_40 : decode cX10_one 40 = .ok (.bipush 20, 2) := by decide +kernel
theorem dX10_one_42 : decode cX10_one 42 = .ok (.iconst 0, 1) := by decide +kernel
theorem dX10_one_43 : decode cX10_one 43 = .ok (.iconst 0, 1) := by decide +kernel
theorem dX10_one_44 : decode cX10_one 44 = .ok (.invokevirtual 137, 3) := by decide +kernel
theorem dX10_one_47 : decode cX10_one 47 = .ok (.ifCond .eq 8, 3) := by decide +kernel
theorem dX10_one_50 : decode cX10_one 50 = .ok (.bipush 8, 2) := by decide +kernel
theorem dX10_one_52 : decode cX10_one 52 = .ok (.goto 4, 3) := by decide +kernel
theorem dX10_one_55 : decode cX10_one 55 = .ok (.iconst (-1), 1) := by decide +kernel
theorem dX10_one_56 : decode cX10_one 56 = .ok (.istore_n 1, 1) := by decide +kernel
theorem dX10_one_57 : decode cX10_one 57 = .ok (.iload_n 1, 1) := by decide +kernel
theorem dX10_one_58 : decode cX10_one 58 = .ok (.iconst (-1), 1) := by decide +kernel
theorem dX10_one_59 : decode cX10_one 59 = .ok (.if_icmp .eq 58, 3) := by decide +kernel
theorem dX10_one_62 : decode cX10_one 62 = .ok (.aload_n 0, 1) := by decide +kernel
theorem dX10_one_63 : decode cX10_one 63 = .ok (.invokevirtual 211, 3) := by decide +kernel
theorem dX10_one_66 : decode cX10_one 66 = .ok (.ifCond .ne 4, 3) := by decide +kernel
theorem dX10_one_69 : decode cX10_one 69 = .ok (.return_, 1) := by decide +kernel
theorem dX10_one_70 : decode cX10_one 70 = .ok (.aload_n 0, 1) := by decide +kernel
theorem dX10_one_71 : decode cX10_one 71 = .ok (.invokevirtual 141, 3) := by decide +kernel
theorem dX10_one_74 : decode cX10_one 74 = .ok (.aload_n 0, 1) := by decide +kernel
theorem dX10_one_75 : decode cX10_one 75 = .ok (.bipush 91, 2) := by decide +kernel
theorem dX10_one_77 : decode cX10_one 77 = .ok (.invokevirtual 160, 3) := by decide +kernel
theorem dX10_one_80 : decode cX10_one 80 = .ok (.aload_n 0, 1) := by decide +kernel
theorem dX10_one_81 : decode cX10_one 81 = .ok (.invokevirtual 215, 3) := by decide +kernel
theorem dX10_one_84 : decode cX10_one 84 = .ok (.aload_n 0, 1) := by decide +kernel
theorem dX10_one_85 : decode cX10_one 85 = .ok (.bipush 44, 2) := by decide +kernel
theorem dX10_one_87 : decode cX10_one 87 = .ok (.invokevirtual 160, 3) := by decide +kernel
theorem dX10_one_90 : decode cX10_one 90 = .ok (.aload_n 0, 1) := by decide +kernel
theorem dX10_one_91 : decode cX10_one 91 = .ok (.invokevirtual 215, 3) := by decide +kernel
theorem dX10_one_94 : decode cX10_one 94 = .ok (.aload_n 0, 1) := by decide +kernel
theorem dX10_one_95 : decode cX10_one 95 = .ok (.bipush 93, 2) := by decide +kernel
theorem dX10_one_97 : decode cX10_one 97 = .ok (.invokevirtual 160, 3) := by decide +kernel
theorem dX10_one_100 : decode cX10_one 100 = .ok (.aload_n 0, 1) := by decide +kernel
theorem dX10_one_101 : decode cX10_one 101 = .ok (.iload_n 1, 1) := by decide +kernel
theorem dX10_one_102 : decode cX10_one 102 = .ok (.iconst 0, 1) := by decide +kernel
theorem dX10_one_103 : decode cX10_one 103 = .ok (.invokevirtual 202, 3) := by decide +kernel
theorem dX10_one_106 : decode cX10_one 106 = .ok (.aload_n 0, 1) := by decide +kernel
theorem dX10_one_107 : decode cX10_one 107 = .ok (.dup, 1) := by decide +kernel
theorem dX10_one_108 : decode cX10_one 108 = .ok (.getfield 147, 3) := by decide +kernel
theorem dX10_one_111 : decode cX10_one 111 = .ok (.iconst 1, 1) := by decide +kernel
theorem dX10_one_112 : decode cX10_one 112 = .ok (.isub, 1) := by decide +kernel
theorem dX10_one_113 : decode cX10_one 113 = .ok (.putfield 147, 3) := by decide +kernel
theorem dX10_one_116 : decode cX10_one 116 = .ok (.return_, 1) := by decide +kernel
theorem dX10_one_117 : decode cX10_one 117 = .ok (.aload_n 0, 1) := by decide +kernel
theorem dX10_one_118 : decode cX10_one 118 = .ok (.aload_n 0, 1) := by decide +kernel
theorem dX10_one_119 : decode cX10_one 119 = .ok (.getfield 97, 3) := by decide +kernel
theorem dX10_one_122 : decode cX10_one 122 = .ok (.invokevirtual 100, 3) := by decide +kernel
theorem dX10_one_125 : decode cX10_one 125 = .ok (.bipush 40, 2) := by decide +kernel
theorem dX10_one_127 : decode cX10_one 127 = .ok (.if_icmp .ne 42, 3) := by decide +kernel
theorem dX10_one_130 : decode cX10_one 130 = .ok (.aload_n 0, 1) := by decide +kernel
theorem dX10_one_131 : decode cX10_one 131 = .ok (.invokevirtual 211, 3) := by decide +kernel
theorem dX10_one_134 : decode cX10_one 134 = .ok (.ifCond .ne 4, 3) := by decide +kernel
theorem dX10_one_137 : decode cX10_one 137 = .ok (.return_, 1) := by decide +kernel
theorem dX10_one_138 : decode cX10_one 138 = .ok (.aload_n 0, 1) := by decide +kernel
theorem dX10_one_139 : decode cX10_one 139 = .ok (.dup, 1) := by decide +kernel
theorem dX10_one_140 : decode cX10_one 140 = .ok (.getfield 97, 3) := by decide +kernel
theorem dX10_one_143 : decode cX10_one 143 = .ok (.iconst 1, 1) := by decide +kernel
theorem dX10_one_144 : decode cX10_one 144 = .ok (.iadd, 1) := by decide +kernel
theorem dX10_one_145 : decode cX10_one 145 = .ok (.putfield 97, 3) := by decide +kernel
theorem dX10_one_148 : decode cX10_one 148 = .ok (.aload_n 0, 1) := by decide +kernel
theorem dX10_one_149 : decode cX10_one 149 = .ok (.invokevirtual 215, 3) := by decide +kernel
theorem dX10_one_152 : decode cX10_one 152 = .ok (.aload_n 0, 1) := by decide +kernel
theorem dX10_one_153 : decode cX10_one 153 = .ok (.bipush 41, 2) := by decide +kernel
theorem dX10_one_155 : decode cX10_one 155 = .ok (.invokevirtual 160, 3) := by decide +kernel
theorem dX10_one_158 : decode cX10_one 158 = .ok (.aload_n 0, 1) := by decide +kernel
theorem dX10_one_159 : decode cX10_one 159 = .ok (.dup, 1) := by decide +kernel
theorem dX10_one_160 : decode cX10_one 160 = .ok (.getfield 147, 3) := by decide +kernel
theorem dX10_one_163 : decode cX10_one 163 = .ok (.iconst 1, 1) := by decide +kernel
theorem dX10_one_164 : decode cX10_one 164 = .ok (.isub, 1) := by decide +kernel
theorem dX10_one_165 : decode cX10_one 165 = .ok (.putfield 147, 3) := by decide +kernel
theorem dX10_one_168 : decode cX10_one 168 = .ok (.return_, 1) := by decide +kernel
theorem dX10_one_169 : decode cX10_one 169 = .ok (.aload_n 0, 1) := by decide +kernel
theorem dX10_one_170 : decode cX10_one 170 = .ok (.invokevirtual 218, 3) := by decide +kernel
theorem dX10_one_173 : decode cX10_one 173 = .ok (.istore_n 2, 1) := by decide +kernel
theorem dX10_one_174 : decode cX10_one 174 = .ok (.iload_n 2, 1) := by decide +kernel
theorem dX10_one_175 : decode cX10_one 175 = .ok (.iconst (-1), 1) := by decide +kernel
theorem dX10_one_176 : decode cX10_one 176 = .ok (.if_icmp .eq 12, 3) := by decide +kernel
theorem dX10_one_179 : decode cX10_one 179 = .ok (.aload_n 0, 1) := by decide +kernel
theorem dX10_one_180 : decode cX10_one 180 = .ok (.iconst 1, 1) := by decide +kernel
theorem dX10_one_181 : decode cX10_one 181 = .ok (.iload_n 2, 1) := by decide +kernel
theorem dX10_one_182 : decode cX10_one 182 = .ok (.invokevirtual 202, 3) := by decide +kernel
theorem dX10_one_185 : decode cX10_one 185 = .ok (.goto 16, 3) := by decide +kernel
theorem dX10_one_188 : decode cX10_one 188 = .ok (.aload_n 0, 1) := by decide +kernel
theorem dX10_one_189 : decode cX10_one 189 = .ok (.iconst 0, 1) := by decide +kernel
theorem dX10_one_190 : decode cX10_one 190 = .ok (.aload_n 0, 1) := by decide +kernel
theorem dX10_one_191 : decode cX10_one 191 = .ok (.iconst 0, 1) := by decide +kernel
theorem dX10_one_192 : decode cX10_one 192 = .ok (.sipush 999, 3) := by decide +kernel
theorem dX10_one_195 : decode cX10_one 195 = .ok (.invokevirtual 156, 3) := by decide +kernel
theorem dX10_one_198 : decode cX10_one 198 = .ok (.invokevirtual 202, 3) := by decide +kernel
theorem dX10_one_201 : decode cX10_one 201 = .ok (.return_, 1) := by decide +kernel
theorem dX10_law_0 : decode cX10_law 0 = .ok (.aload_n 0, 1) := by decide +kernel
theorem dX10_law_1 : decode cX10_law 1 = .ok (.iconst 0, 1) := by decide +kernel
theorem dX10_law_2 : decode cX10_law 2 = .ok (.putfield 88, 3) := by decide +kernel
theorem dX10_law_5 : decode cX10_law 5 = .ok (.aload_n 0, 1) := by decide +kernel
theorem dX10_law_6 : decode cX10_law 6 = .ok (.iload_n 1, 1) := by decide +kernel
theorem dX10_law_7 : decode cX10_law 7 = .ok (.iconst 0, 1) := by decide +kernel
theorem dX10_law_8 : decode cX10_law 8 = .ok (.aload_n 0, 1) := by decide +kernel
theorem dX10_law_9 : decode cX10_law 9 = .ok (.getfield 91, 3) := by decide +kernel
theorem dX10_law_12 : decode cX10_law 12 = .ok (.invokestatic 122, 3) := by decide +kernel
theorem dX10_law_15 : decode cX10_law 15 = .ok (.ifCond .eq 10, 3) := by decide +kernel
theorem dX10_law_18 : decode cX10_law 18 = .ok (.iload_n 1, 1) := by decide +kernel
theorem dX10_law_19 : decode cX10_law 19 = .ok (.sipush 150, 3) := by decide +kernel
theorem dX10_law_22 : decode cX10_law 22 = .ok (.if_icmp .le 7, 3) := by decide +kernel
theorem dX10_law_25 : decode cX10_law 25 = .ok (.iconst 1, 1) := by decide +kernel
theorem dX10_law_26 : decode cX10_law 26 = .ok (.goto 4, 3) := by decide +kernel
theorem dX10_law_29 : decode cX10_law 29 = .ok (.iconst 0, 1) := by decide +kernel
theorem dX10_law_30 : decode cX10_law 30 = .ok (.iconst 1, 1) := by decide +kernel
theorem dX10_law_31 : decode cX10_law 31 = .ok (.iconst 1, 1) := by decide +kernel
theorem dX10_law_32 : decode cX10_law 32 = .ok (.invokevirtual 164, 3) := by decide +kernel
theorem dX10_law_35 : decode cX10_law 35 = .ok (.ifCond .eq 5, 3) := by decide +kernel
theorem dX10_law_38 : decode cX10_law 38 = .ok (.iconst 0, 1) := by decide +kernel
theorem dX10_law_39 : decode cX10_law 39 = .ok (.ireturn, 1) := by decide +kernel
theorem dX10_law_40 : decode cX10_law 40 = .ok (.aload_n 0, 1) := by decide +kernel
theorem dX10_law_41 : decode cX10_law 41 = .ok (.iload_n 1, 1) := by decide +kernel
theorem dX10_law_42 : decode cX10_law 42 = .ok (.invokevirtual 168, 3) := by decide +kernel
theorem dX10_law_45 : decode cX10_law 45 = .ok (.aload_n 0, 1) := by decide +kernel
theorem dX10_law_46 : decode cX10_law 46 = .ok (.iconst 0, 1) := by decide +kernel
theorem dX10_law_47 : decode cX10_law 47 = .ok (.putfield 193, 3) := by decide +kernel
theorem dX10_law_50 : decode cX10_law 50 = .ok (.aload_n 0, 1) := by decide +kernel
theorem dX10_law_51 : decode cX10_law 51 = .ok (.invokevirtual 215, 3) := by decide +kernel
theorem dX10_law_54 : decode cX10_law 54 = .ok (.aload_n 0, 1) := by decide +kernel
theorem dX10_law_55 : decode cX10_law 55 = .ok (.invokevirtual 110, 3) := by decide +kernel
theorem dX10_law_58 : decode cX10_law 58 = .ok (.aload_n 0, 1) := by decide +kernel
theorem dX10_law_59 : decode cX10_law 59 = .ok (.getfield 104, 3) := by decide +kernel
theorem dX10_law_62 : decode cX10_law 62 = .ok (.ifCond .ne 23, 3) := by decide +kernel
theorem dX10_law_65 : decode cX10_law 65 = .ok (.aload_n 0, 1) := by decide +kernel
theorem dX10_law_66 : decode cX10_law 66 = .ok (.getfield 97, 3) := by decide +kernel
theorem dX10_law_69 : decode cX10_law 69 = .ok (.aload_n 0, 1) := by decide +kernel
theorem dX10_law_70 : decode cX10_law 70 = .ok (.getfield 94, 3) := by decide +kernel
theorem dX10_law_73 : decode cX10_law 73 = .ok (.if_icmp .ge 12, 3) := by decide +kernel
theorem dX10_law_76 : decode cX10_law 76 = .ok (.aload_n 0, 1) := by decide +kernel
theorem dX10_law_77 : decode cX10_law 77 = .ok (.iconst 1, 1) := by decide +kernel
theorem dX10_law_78 : decode cX10_law 78 = .ok (.aload_n 0, 1) := by decide +kernel
theorem dX10_law_79 : decode cX10_law 79 = .ok (.getfield 97, 3) := by decide +kernel
theorem dX10_law_82 : decode cX10_law 82 = .ok (.invokevirtual 117, 3) := by decide +kernel
theorem dX10_law_85 : decode cX10_law 85 = .ok (.aload_n 0, 1) := by decide +kernel
theorem dX10_law_86 : decode cX10_law 86 = .ok (.getfield 104, 3) := by decide +kernel
theorem dX10_law_89 : decode cX10_law 89 = .ok (.ifCond .eq 8, 3) := by decide +kernel
theorem dX10_law_92 : decode cX10_law 92 = .ok (.aload_n 0, 1) := by decide +kernel
theorem dX10_law_93 : decode cX10_law 93 = .ok (.invokevirtual 174, 3) := by decide +kernel
theorem dX10_law_96 : decode cX10_law 96 = .ok (.ireturn, 1) := by decide +kernel
theorem dX10_law_97 : decode cX10_law 97 = .ok (.aload_n 0, 1) := by decide +kernel
theorem dX10_law_98 : decode cX10_law 98 = .ok (.iconst (-1), 1) := by decide +kernel
theorem dX10_law_99 : decode cX10_law 99 = .ok (.putfield 9, 3) := by decide +kernel
theorem dX10_law_102 : decode cX10_law 102 = .ok (.aload_n 0, 1) := by decide +kernel
theorem dX10_law_103 : decode cX10_law 103 = .ok (.aload_n 0, 1) := by decide +kernel
theorem dX10_law_104 : decode cX10_law 104 = .ok (.getfield 193, 3) := by decide +kernel
theorem dX10_law_107 : decode cX10_law 107 = .ok (.putfield 181, 3) := by decide +kernel
theorem dX10_law_110 : decode cX10_law 110 = .ok (.aload_n 0, 1) := by decide +kernel
theorem dX10_law_111 : decode cX10_law 111 = .ok (.getfield 49, 3) := by decide +kernel
theorem dX10_law_114 : decode cX10_law 114 = .ok (.aload_n 0, 1) := by decide +kernel
theorem dX10_law_115 : decode cX10_law 115 = .ok (.getfield 46, 3) := by decide +kernel
theorem dX10_law_118 : decode cX10_law 118 = .ok (.aload_n 0, 1) := by decide +kernel
theorem dX10_law_119 : decode cX10_law 119 = .ok (.getfield 181, 3) := by decide +kernel
theorem dX10_law_122 : decode cX10_law 122 = .ok (.invokestatic 177, 3) := by decide +kernel
theorem dX10_law_125 : decode cX10_law 125 = .ok (.iconst 1, 1) := by decide +kernel
theorem dX10_law_126 : decode cX10_law 126 = .ok (.ireturn, 1) := by decide +kernel
theorem dX10_by_0 : decode cX10_by 0 = .ok (.iload_n 0, 1) := by decide +kernel
theorem dX10_by_1 : decode cX10_by 1 = .ok (.tableswitch 96 2 7 #[39, 43, 47, 51, 73, 90], 39) := by decide +kernel
theorem dX10_by_40 : decode cX10_by 40 = .ok (.iload_n 1, 1) := by decide +kernel
theorem dX10_by_41 : decode cX10_by 41 = .ok (.iload_n 2, 1) := by decide +kernel
theorem dX10_by_42 : decode cX10_by 42 = .ok (.iadd, 1) := by decide +kernel
theorem dX10_by_43 : decode cX10_by 43 = .ok (.ireturn, 1) := by decide +kernel
theorem dX10_by_44 : decode cX10_by 44 = .ok (.iload_n 1, 1) := by decide +kernel
theorem dX10_by_45 : decode cX10_by 45 = .ok (.iload_n 2, 1) := by decide +kernel
theorem dX10_by_46 : decode cX10_by 46 = .ok (.isub, 1) := by decide +kernel
theorem dX10_by_47 : decode cX10_by 47 = .ok (.ireturn, 1) := by decide +kernel
theorem dX10_by_48 : decode cX10_by 48 = .ok (.iload_n 1, 1) := by decide +kernel
theorem dX10_by_49 : decode cX10_by 49 = .ok (.iload_n 2, 1) := by decide +kernel
theorem dX10_by_50 : decode cX10_by 50 = .ok (.imul, 1) := by decide +kernel
theorem dX10_by_51 : decode cX10_by 51 = .ok (.ireturn, 1) := by decide +kernel
theorem dX10_by_52 : decode cX10_by 52 = .ok (.iload_n 2, 1) := by decide +kernel
theorem dX10_by_53 : decode cX10_by 53 = .ok (.ifCond .ne 7, 3) := by decide +kernel
theorem dX10_by_56 : decode cX10_by 56 = .ok (.iconst 0, 1) := by decide +kernel
theorem dX10_by_57 : decode cX10_by 57 = .ok (.goto 16, 3) := by decide +kernel
theorem dX10_by_60 : decode cX10_by 60 = .ok (.iload_n 2, 1) := by decide +kernel
theorem dX10_by_61 : decode cX10_by 61 = .ok (.iconst (-1), 1) := by decide +kernel
theorem dX10_by_62 : decode cX10_by 62 = .ok (.if_icmp .ne 8, 3) := by decide +kernel
theorem dX10_by_65 : decode cX10_by 65 = .ok (.iload_n 1, 1) := by decide +kernel
theorem dX10_by_66 : decode cX10_by 66 = .ok (.ineg, 1) := by decide +kernel
theorem dX10_by_67 : decode cX10_by 67 = .ok (.goto 6, 3) := by decide +kernel
theorem dX10_by_70 : decode cX10_by 70 = .ok (.iload_n 1, 1) := by decide +kernel
theorem dX10_by_71 : decode cX10_by 71 = .ok (.iload_n 2, 1) := by decide +kernel
theorem dX10_by_72 : decode cX10_by 72 = .ok (.idiv, 1) := by decide +kernel
theorem dX10_by_73 : decode cX10_by 73 = .ok (.ireturn, 1) := by decide +kernel
theorem dX10_by_74 : decode cX10_by 74 = .ok (.iload_n 2, 1) := by decide +kernel
theorem dX10_by_75 : decode cX10_by 75 = .ok (.ifCond .eq 8, 3) := by decide +kernel
theorem dX10_by_78 : decode cX10_by 78 = .ok (.iload_n 2, 1) := by decide +kernel
theorem dX10_by_79 : decode cX10_by 79 = .ok (.iconst (-1), 1) := by decide +kernel
theorem dX10_by_80 : decode cX10_by 80 = .ok (.if_icmp .ne 7, 3) := by decide +kernel
theorem dX10_by_83 : decode cX10_by 83 = .ok (.iconst 0, 1) := by decide +kernel
theorem dX10_by_84 : decode cX10_by 84 = .ok (.goto 6, 3) := by decide +kernel
theorem dX10_by_87 : decode cX10_by 87 = .ok (.iload_n 1, 1) := by decide +kernel
theorem dX10_by_88 : decode cX10_by 88 = .ok (.iload_n 2, 1) := by decide +kernel
theorem dX10_by_89 : decode cX10_by 89 = .ok (.irem, 1) := by decide +kernel
theorem dX10_by_90 : decode cX10_by 90 = .ok (.ireturn, 1) := by decide +kernel
theorem dX10_by_91 : decode cX10_by 91 = .ok (.iload_n 1, 1) := by decide +kernel
theorem dX10_by_92 : decode cX10_by 92 = .ok (.iload_n 2, 1) := by decide +kernel
theorem dX10_by_93 : decode cX10_by 93 = .ok (.invokestatic 221, 3) := by decide +kernel
theorem dX10_by_96 : decode cX10_by 96 = .ok (.ireturn, 1) := by decide +kernel
theorem dX10_by_97 : decode cX10_by 97 = .ok (.iload_n 1, 1) := by decide +kernel
theorem dX10_by_98 : decode cX10_by 98 = .ok (.iload_n 2, 1) := by decide +kernel
theorem dX10_by_99 : decode cX10_by 99 = .ok (.invokestatic 224, 3) := by decide +kernel
theorem dX10_by_102 : decode cX10_by 102 = .ok (.ireturn, 1) := by decide +kernel
theorem dX10_byLaw_0 : decode cX10_byLaw 0 = .ok (.iconst 0, 1) := by decide +kernel
theorem dX10_byLaw_1 : decode cX10_byLaw 1 = .ok (.istore_n 1, 1) := by decide +kernel
theorem dX10_byLaw_2 : decode cX10_byLaw 2 = .ok (.aload_n 0, 1) := by decide +kernel
theorem dX10_byLaw_3 : decode cX10_byLaw 3 = .ok (.getfield 52, 3) := by decide +kernel
theorem dX10_byLaw_6 : decode cX10_byLaw 6 = .ok (.iconst 0, 1) := by decide +kernel
theorem dX10_byLaw_7 : decode cX10_byLaw 7 = .ok (.aload_n 0, 1) := by decide +kernel
theorem dX10_byLaw_8 : decode cX10_byLaw 8 = .ok (.getfield 55, 3) := by decide +kernel
theorem dX10_byLaw_11 : decode cX10_byLaw 11 = .ok (.iconst 0, 1) := by decide +kernel
theorem dX10_byLaw_12 : decode cX10_byLaw 12 = .ok (.iaload, 1) := by decide +kernel
theorem dX10_byLaw_13 : decode cX10_byLaw 13 = .ok (.iconst 2, 1) := by decide +kernel
theorem dX10_byLaw_14 : decode cX10_byLaw 14 = .ok (.aload_n 0, 1) := by decide +kernel
theorem dX10_byLaw_15 : decode cX10_byLaw 15 = .ok (.getfield 55, 3) := by decide +kernel
theorem dX10_byLaw_18 : decode cX10_byLaw 18 = .ok (.iconst 1, 1) := by decide +kernel
theorem dX10_byLaw_19 : decode cX10_byLaw 19 = .ok (.iaload, 1) := by decide +kernel
theorem dX10_byLaw_20 : decode cX10_byLaw 20 = .ok (.imul, 1) := by decide +kernel
theorem dX10_byLaw_21 : decode cX10_byLaw 21 = .ok (.iadd, 1) := by decide +kernel
theorem dX10_byLaw_22 : decode cX10_byLaw 22 = .ok (.iastore, 1) := by decide +kernel
theorem dX10_byLaw_23 : decode cX10_byLaw 23 = .ok (.iconst 0, 1) := by decide +kernel
theorem dX10_byLaw_24 : decode cX10_byLaw 24 = .ok (.istore_n 2, 1) := by decide +kernel
theorem dX10_byLaw_25 : decode cX10_byLaw 25 = .ok (.iload_n 2, 1) := by decide +kernel
theorem dX10_byLaw_26 : decode cX10_byLaw 26 = .ok (.aload_n 0, 1) := by decide +kernel
theorem dX10_byLaw_27 : decode cX10_byLaw 27 = .ok (.getfield 181, 3) := by decide +kernel
theorem dX10_byLaw_30 : decode cX10_byLaw 30 = .ok (.if_icmp .ge 104, 3) := by decide +kernel
theorem dX10_byLaw_33 : decode cX10_byLaw 33 = .ok (.aload_n 0, 1) := by decide +kernel
theorem dX10_byLaw_34 : decode cX10_byLaw 34 = .ok (.getfield 46, 3) := by decide +kernel
theorem dX10_byLaw_37 : decode cX10_byLaw 37 = .ok (.iload_n 2, 1) := by decide +kernel
theorem dX10_byLaw_38 : decode cX10_byLaw 38 = .ok (.aaload, 1) := by decide +kernel
theorem dX10_byLaw_39 : decode cX10_byLaw 39 = .ok (.iconst 0, 1) := by decide +kernel
theorem dX10_byLaw_40 : decode cX10_byLaw 40 = .ok (.iaload, 1) := by decide +kernel
theorem dX10_byLaw_41 : decode cX10_byLaw 41 = .ok (.iconst 2, 1) := by decide +kernel
theorem dX10_byLaw_42 : decode cX10_byLaw 42 = .ok (.if_icmp .ge 50, 3) := by decide +kernel
theorem dX10_byLaw_45 : decode cX10_byLaw 45 = .ok (.aload_n 0, 1) := by decide +kernel
theorem dX10_byLaw_46 : decode cX10_byLaw 46 = .ok (.getfield 52, 3) := by decide +kernel
theorem dX10_byLaw_49 : decode cX10_byLaw 49 = .ok (.iload_n 1, 1) := by decide +kernel
theorem dX10_byLaw_50 : decode cX10_byLaw 50 = .ok (.aload_n 0, 1) := by decide +kernel
theorem dX10_byLaw_51 : decode cX10_byLaw 51 = .ok (.getfield 46, 3) := by decide +kernel
theorem dX10_byLaw_54 : decode cX10_byLaw 54 = .ok (.iload_n 2, 1) := by decide +kernel
theorem dX10_byLaw_55 : decode cX10_byLaw 55 = .ok (.aaload, 1) := by decide +kernel
theorem dX10_byLaw_56 : decode cX10_byLaw 56 = .ok (.iconst 0, 1) := by decide +kernel
theorem dX10_byLaw_57 : decode cX10_byLaw 57 = .ok (.iaload, 1) := by decide +kernel
theorem dX10_byLaw_58 : decode cX10_byLaw 58 = .ok (.ifCond .ne 14, 3) := by decide +kernel
theorem dX10_byLaw_61 : decode cX10_byLaw 61 = .ok (.aload_n 0, 1) := by decide +kernel
theorem dX10_byLaw_62 : decode cX10_byLaw 62 = .ok (.getfield 46, 3) := by decide +kernel
theorem dX10_byLaw_65 : decode cX10_byLaw 65 = .ok (.iload_n 2, 1) := by decide +kernel
theorem dX10_byLaw_66 : decode cX10_byLaw 66 = .ok (.aaload, 1) := by decide +kernel
theorem dX10_byLaw_67 : decode cX10_byLaw 67 = .ok (.iconst 1, 1) := by decide +kernel
theorem dX10_byLaw_68 : decode cX10_byLaw 68 = .ok (.iaload, 1) := by decide +kernel
theorem dX10_byLaw_69 : decode cX10_byLaw 69 = .ok (.goto 16, 3) := by decide +kernel
theorem dX10_byLaw_72 : decode cX10_byLaw 72 = .ok (.aload_n 0, 1) := by decide +kernel
theorem dX10_byLaw_73 : decode cX10_byLaw 73 = .ok (.getfield 55, 3) := by decide +kernel
theorem dX10_byLaw_76 : decode cX10_byLaw 76 = .ok (.aload_n 0, 1) := by decide +kernel
theorem dX10_byLaw_77 : decode cX10_byLaw 77 = .ok (.getfield 46, 3) := by decide +kernel
theorem dX10_byLaw_80 : decode cX10_byLaw 80 = .ok (.iload_n 2, 1) := by decide +kernel
theorem dX10_byLaw_81 : decode cX10_byLaw 81 = .ok (.aaload, 1) := by decide +kernel
theorem dX10_byLaw_82 : decode cX10_byLaw 82 = .ok (.iconst 1, 1) := by decide +kernel
theorem dX10_byLaw_83 : decode cX10_byLaw 83 = .ok (.iaload, 1) := by decide +kernel
theorem dX10_byLaw_84 : decode cX10_byLaw 84 = .ok (.iaload, 1) := by decide +kernel
theorem dX10_byLaw_85 : decode cX10_byLaw 85 = .ok (.iastore, 1) := by decide +kernel
theorem dX10_byLaw_86 : decode cX10_byLaw 86 = .ok (.iinc 1 1, 3) := by decide +kernel
theorem dX10_byLaw_89 : decode cX10_byLaw 89 = .ok (.goto 39, 3) := by decide +kernel
theorem dX10_byLaw_92 : decode cX10_byLaw 92 = .ok (.iinc 1 (-1), 3) := by decide +kernel
theorem dX10_byLaw_95 : decode cX10_byLaw 95 = .ok (.aload_n 0, 1) := by decide +kernel
theorem dX10_byLaw_96 : decode cX10_byLaw 96 = .ok (.getfield 52, 3) := by decide +kernel
theorem dX10_byLaw_99 : decode cX10_byLaw 99 = .ok (.iload_n 1, 1) := by decide +kernel
theorem dX10_byLaw_100 : decode cX10_byLaw 100 = .ok (.iconst 1, 1) := by decide +kernel
theorem dX10_byLaw_101 : decode cX10_byLaw 101 = .ok (.isub, 1) := by decide +kernel
theorem dX10_byLaw_102 : decode cX10_byLaw 102 = .ok (.aload_n 0, 1) := by decide +kernel
theorem dX10_byLaw_103 : decode cX10_byLaw 103 = .ok (.getfield 46, 3) := by decide +kernel
theorem dX10_byLaw_106 : decode cX10_byLaw 106 = .ok (.iload_n 2, 1) := by decide +kernel
theorem dX10_byLaw_107 : decode cX10_byLaw 107 = .ok (.aaload, 1) := by decide +kernel
theorem dX10_byLaw_108 : decode cX10_byLaw 108 = .ok (.iconst 0, 1) := by decide +kernel
theorem dX10_byLaw_109 : decode cX10_byLaw 109 = .ok (.iaload, 1) := by decide +kernel
theorem dX10_byLaw_110 : decode cX10_byLaw 110 = .ok (.aload_n 0, 1) := by decide +kernel
theorem dX10_byLaw_111 : decode cX10_byLaw 111 = .ok (.getfield 52, 3) := by decide +kernel
theorem dX10_byLaw_114 : decode cX10_byLaw 114 = .ok (.iload_n 1, 1) := by decide +kernel
theorem dX10_byLaw_115 : decode cX10_byLaw 115 = .ok (.iconst 1, 1) := by decide +kernel
theorem dX10_byLaw_116 : decode cX10_byLaw 116 = .ok (.isub, 1) := by decide +kernel
theorem dX10_byLaw_117 : decode cX10_byLaw 117 = .ok (.iaload, 1) := by decide +kernel
theorem dX10_byLaw_118 : decode cX10_byLaw 118 = .ok (.aload_n 0, 1) := by decide +kernel
theorem dX10_byLaw_119 : decode cX10_byLaw 119 = .ok (.getfield 52, 3) := by decide +kernel
theorem dX10_byLaw_122 : decode cX10_byLaw 122 = .ok (.iload_n 1, 1) := by decide +kernel
theorem dX10_byLaw_123 : decode cX10_byLaw 123 = .ok (.iaload, 1) := by decide +kernel
theorem dX10_byLaw_124 : decode cX10_byLaw 124 = .ok (.invokestatic 227, 3) := by decide +kernel
theorem dX10_byLaw_127 : decode cX10_byLaw 127 = .ok (.iastore, 1) := by decide +kernel
theorem dX10_byLaw_128 : decode cX10_byLaw 128 = .ok (.iinc 2 1, 3) := by decide +kernel
theorem dX10_byLaw_131 : decode cX10_byLaw 131 = .ok (.goto (-106), 3) := by decide +kernel
theorem dX10_byLaw_134 : decode cX10_byLaw 134 = .ok (.bipush 99, 2) := by decide +kernel
theorem dX10_byLaw_136 : decode cX10_byLaw 136 = .ok (.iconst 0, 1) := by decide +kernel
theorem dX10_byLaw_137 : decode cX10_byLaw 137 = .ok (.aload_n 0, 1) := by decide +kernel
theorem dX10_byLaw_138 : decode cX10_byLaw 138 = .ok (.getfield 52, 3) := by decide +kernel
theorem dX10_byLaw_141 : decode cX10_byLaw 141 = .ok (.iconst 0, 1) := by decide +kernel
theorem dX10_byLaw_142 : decode cX10_byLaw 142 = .ok (.iaload, 1) := by decide +kernel
theorem dX10_byLaw_143 : decode cX10_byLaw 143 = .ok (.invokestatic 224, 3) := by decide +kernel
theorem dX10_byLaw_146 : decode cX10_byLaw 146 = .ok (.invokestatic 221, 3) := by decide +kernel
theorem dX10_byLaw_149 : decode cX10_byLaw 149 = .ok (.ireturn, 1) := by decide +kernel
theorem dX10_stepHere_0 : decode cX10_stepHere 0 = .ok (.aload_n 0, 1) := by decide +kernel
theorem dX10_stepHere_1 : decode cX10_stepHere 1 = .ok (.bipush 20, 2) := by decide +kernel
theorem dX10_stepHere_3 : decode cX10_stepHere 3 = .ok (.iconst 1, 1) := by decide +kernel
theorem dX10_stepHere_4 : decode cX10_stepHere 4 = .ok (.bipush 18, 2) := by decide +kernel
theorem dX10_stepHere_6 : decode cX10_stepHere 6 = .ok (.iconst 0, 1) := by decide +kernel
theorem dX10_stepHere_7 : decode cX10_stepHere 7 = .ok (.iconst 0, 1) := by decide +kernel
theorem dX10_stepHere_8 : decode cX10_stepHere 8 = .ok (.iconst 0, 1) := by decide +kernel
theorem dX10_stepHere_9 : decode cX10_stepHere 9 = .ok (.invokevirtual 137, 3) := by decide +kernel
theorem dX10_stepHere_12 : decode cX10_stepHere 12 = .ok (.ifCond .eq 5, 3) := by decide +kernel
theorem dX10_stepHere_15 : decode cX10_stepHere 15 = .ok (.iconst 0, 1) := by decide +kernel
theorem dX10_stepHere_16 : decode cX10_stepHere 16 = .ok (.ireturn, 1) := by decide +kernel
theorem dX10_stepHere_17 : decode cX10_stepHere 17 = .ok (.aload_n 0, 1) := by decide +kernel
theorem dX10_stepHere_18 : decode cX10_stepHere 18 = .ok (.bipush 18, 2) := by decide +kernel
theorem dX10_stepHere_20 : decode cX10_stepHere 20 = .ok (.bipush 21, 2) := by decide +kernel
theorem dX10_stepHere_22 : decode cX10_stepHere 22 = .ok (.iconst 2, 1) := by decide +kernel
theorem dX10_stepHere_23 : decode cX10_stepHere 23 = .ok (.iconst 0, 1) := by decide +kernel
theorem dX10_stepHere_24 : decode cX10_stepHere 24 = .ok (.iconst 0, 1) := by decide +kernel
theorem dX10_stepHere_25 : decode cX10_stepHere 25 = .ok (.iconst 0, 1) := by decide +kernel
theorem dX10_stepHere_26 : decode cX10_stepHere 26 = .ok (.invokevirtual 137, 3) := by decide +kernel
theorem dX10_stepHere_29 : decode cX10_stepHere 29 = .ok (.ifCond .eq 5, 3) := by decide +kernel
theorem dX10_stepHere_32 : decode cX10_stepHere 32 = .ok (.iconst 1, 1) := by decide +kernel
theorem dX10_stepHere_33 : decode cX10_stepHere 33 = .ok (.ireturn, 1) := by decide +kernel
theorem dX10_stepHere_34 : decode cX10_stepHere 34 = .ok (.aload_n 0, 1) := by decide +kernel
theorem dX10_stepHere_35 : decode cX10_stepHere 35 = .ok (.bipush 23, 2) := by decide +kernel
theorem dX10_stepHere_37 : decode cX10_stepHere 37 = .ok (.iconst 1, 1) := by decide +kernel
theorem dX10_stepHere_38 : decode cX10_stepHere 38 = .ok (.bipush 19, 2) := by decide +kernel
theorem dX10_stepHere_40 : decode cX10_stepHere 40 = .ok (.bipush 8, 2) := by decide +kernel
theorem dX10_stepHere_42 : decode cX10_stepHere 42 = .ok (.iconst 0, 1) := by decide +kernel
theorem dX10_stepHere_43 : decode cX10_stepHere 43 = .ok (.iconst 0, 1) := by decide +kernel
theorem dX10_stepHere_44 : decode cX10_stepHere 44 = .ok (.invokevirtual 137, 3) := by decide +kernel
theorem dX10_stepHere_47 : decode cX10_stepHere 47 = .ok (.ifCond .eq 5, 3) := by decide +kernel
theorem dX10_stepHere_50 : decode cX10_stepHere 50 = .ok (.iconst 2, 1) := by decide +kernel
theorem dX10_stepHere_51 : decode cX10_stepHere 51 = .ok (.ireturn, 1) := by decide +kernel
theorem dX10_stepHere_52 : decode cX10_stepHere 52 = .ok (.aload_n 0, 1) := by decide +kernel
theorem dX10_stepHere_53 : decode cX10_stepHere 53 = .ok (.bipush 16, 2) := by decide +kernel
theorem dX10_stepHere_55 : decode cX10_stepHere 55 = .ok (.iconst 1, 1) := by decide +kernel
theorem dX10_stepHere_56 : decode cX10_stepHere 56 = .ok (.bipush 19, 2) := by decide +kernel
theorem dX10_stepHere_58 : decode cX10_stepHere 58 = .ok (.bipush 19, 2) := by decide +kernel
theorem dX10_stepHere_60 : decode cX10_stepHere 60 = .ok (.iconst 0, 1) := by decide +kernel
theorem dX10_stepHere_61 : decode cX10_stepHere 61 = .ok (.iconst 0, 1) := by decide +kernel
theorem dX10_stepHere_62 : decode cX10_stepHere 62 = .ok (.invokevirtual 137, 3) := by decide +kernel
theorem dX10_stepHere_65 : decode cX10_stepHere 65 = .ok (.ifCond .eq 5, 3) := by decide +kernel
theorem dX10_stepHere_68 : decode cX10_stepHere 68 = .ok (.iconst 3, 1) := by decide +kernel
theorem dX10_stepHere_69 : decode cX10_stepHere 69 = .ok (.ireturn, 1) := by decide +kernel
theorem dX10_stepHere_70 : decode cX10_stepHere 70 = .ok (.aload_n 0, 1) := by decide +kernel
theorem dX10_stepHere_71 : decode cX10_stepHere 71 = .ok (.bipush 6, 2) := by decide +kernel
theorem dX10_stepHere_73 : decode cX10_stepHere 73 = .ok (.bipush 15, 2) := by decide +kernel
theorem dX10_stepHere_75 : decode cX10_stepHere 75 = .ok (.iconst 1, 1) := by decide +kernel
theorem dX10_stepHere_76 : decode cX10_stepHere 76 = .ok (.bipush 12, 2) := by decide +kernel
theorem dX10_stepHere_78 : decode cX10_stepHere 78 = .ok (.iconst 0, 1) := by decide +kernel
theorem dX10_stepHere_79 : decode cX10_stepHere 79 = .ok (.iconst 0, 1) := by decide +kernel
theorem dX10_stepHere_80 : decode cX10_stepHere 80 = .ok (.invokevirtual 137, 3) := by decide +kernel
theorem dX10_stepHere_83 : decode cX10_stepHere 83 = .ok (.ifCond .eq 5, 3) := by decide +kernel
theorem dX10_stepHere_86 : decode cX10_stepHere 86 = .ok (.iconst 4, 1) := by decide +kernel
theorem dX10_stepHere_87 : decode cX10_stepHere 87 = .ok (.ireturn, 1) := by decide +kernel
theorem dX10_stepHere_88 : decode cX10_stepHere 88 = .ok (.aload_n 0, 1) := by decide +kernel
theorem dX10_stepHere_89 : decode cX10_stepHere 89 = .ok (.bipush 25, 2) := by decide +kernel
theorem dX10_stepHere_91 : decode cX10_stepHere 91 = .ok (.iconst 5, 1) := by decide +kernel
theorem dX10_stepHere_92 : decode cX10_stepHere 92 = .ok (.iconst 1, 1) := by decide +kernel
theorem dX10_stepHere_93 : decode cX10_stepHere 93 = .ok (.bipush 18, 2) := by decide +kernel
theorem dX10_stepHere_95 : decode cX10_stepHere 95 = .ok (.iconst 0, 1) := by decide +kernel
theorem dX10_stepHere_96 : decode cX10_stepHere 96 = .ok (.iconst 0, 1) := by decide +kernel
theorem dX10_stepHere_97 : decode cX10_stepHere 97 = .ok (.invokevirtual 137, 3) := by decide +kernel
theorem dX10_stepHere_100 : decode cX10_stepHere 100 = .ok (.ifCond .eq 5, 3) := by decide +kernel
theorem dX10_stepHere_103 : decode cX10_stepHere 103 = .ok (.iconst 5, 1) := by decide +kernel
theorem dX10_stepHere_104 : decode cX10_stepHere 104 = .ok (.ireturn, 1) := by decide +kernel
theorem dX10_stepHere_105 : decode cX10_stepHere 105 = .ok (.aload_n 0, 1) := by decide +kernel
theorem dX10_stepHere_106 : decode cX10_stepHere 106 = .ok (.iconst 1, 1) := by decide +kernel
theorem dX10_stepHere_107 : decode cX10_stepHere 107 = .ok (.bipush 7, 2) := by decide +kernel
theorem dX10_stepHere_109 : decode cX10_stepHere 109 = .ok (.iconst 1, 1) := by decide +kernel
theorem dX10_stepHere_110 : decode cX10_stepHere 110 = .ok (.bipush 9, 2) := by decide +kernel
theorem dX10_stepHere_112 : decode cX10_stepHere 112 = .ok (.bipush 14, 2) := by decide +kernel
theorem dX10_stepHere_114 : decode cX10_stepHere 114 = .ok (.iconst 0, 1) := by decide +kernel
theorem dX10_stepHere_115 : decode cX10_stepHere 115 = .ok (.invokevirtual 137, 3) := by decide +kernel
theorem dX10_stepHere_118 : decode cX10_stepHere 118 = .ok (.ifCond .eq 8, 3) := by decide +kernel
theorem dX10_stepHere_121 : decode cX10_stepHere 121 = .ok (.bipush 6, 2) := by decide +kernel
theorem dX10_stepHere_123 : decode cX10_stepHere 123 = .ok (.goto 4, 3) := by decide +kernel
theorem dX10_stepHere_126 : decode cX10_stepHere 126 = .ok (.iconst (-1), 1) := by decide +kernel
theorem dX10_stepHere_127 : decode cX10_stepHere 127 = .ok (.ireturn, 1) := by decide +kernel
theorem dX10_readsStep_0 : decode cX10_readsStep 0 = .ok (.aload_n 0, 1) := by decide +kernel
theorem dX10_readsStep_1 : decode cX10_readsStep 1 = .ok (.invokevirtual 231, 3) := by decide +kernel
theorem dX10_readsStep_4 : decode cX10_readsStep 4 = .ok (.istore_n 1, 1) := by decide +kernel
theorem dX10_readsStep_5 : decode cX10_readsStep 5 = .ok (.iload_n 1, 1) := by decide +kernel
theorem dX10_readsStep_6 : decode cX10_readsStep 6 = .ok (.iconst (-1), 1) := by decide +kernel
theorem dX10_readsStep_7 : decode cX10_readsStep 7 = .ok (.if_icmp .ne 12, 3) := by decide +kernel
theorem dX10_readsStep_10 : decode cX10_readsStep 10 = .ok (.aload_n 0, 1) := by decide +kernel
theorem dX10_readsStep_11 : decode cX10_readsStep 11 = .ok (.iconst 1, 1) := by decide +kernel
theorem dX10_readsStep_12 : decode cX10_readsStep 12 = .ok (.aload_n 0, 1) := by decide +kernel
theorem dX10_readsStep_13 : decode cX10_readsStep 13 = .ok (.getfield 97, 3) := by decide +kernel
theorem dX10_readsStep_16 : decode cX10_readsStep 16 = .ok (.invokevirtual 117, 3) := by decide +kernel
theorem dX10_readsStep_19 : decode cX10_readsStep 19 = .ok (.iload_n 1, 1) := by decide +kernel
theorem dX10_readsStep_20 : decode cX10_readsStep 20 = .ok (.bipush 6, 2) := by decide +kernel
theorem dX10_readsStep_22 : decode cX10_readsStep 22 = .ok (.if_icmp .ne 11, 3) := by decide +kernel
theorem dX10_readsStep_25 : decode cX10_readsStep 25 = .ok (.aload_n 0, 1) := by decide +kernel
theorem dX10_readsStep_26 : decode cX10_readsStep 26 = .ok (.invokevirtual 211, 3) := by decide +kernel
theorem dX10_readsStep_29 : decode cX10_readsStep 29 = .ok (.ifCond .ne 4, 3) := by decide +kernel
theorem dX10_readsStep_32 : decode cX10_readsStep 32 = .ok (.return_, 1) := by decide +kernel
theorem dX10_readsStep_33 : decode cX10_readsStep 33 = .ok (.aload_n 0, 1) := by decide +kernel
theorem dX10_readsStep_34 : decode cX10_readsStep 34 = .ok (.getfield 104, 3) := by decide +kernel
theorem dX10_readsStep_37 : decode cX10_readsStep 37 = .ok (.ifCond .eq 4, 3) := by decide +kernel
theorem dX10_readsStep_40 : decode cX10_readsStep 40 = .ok (.return_, 1) := by decide +kernel
theorem dX10_readsStep_41 : decode cX10_readsStep 41 = .ok (.aload_n 0, 1) := by decide +kernel
theorem dX10_readsStep_42 : decode cX10_readsStep 42 = .ok (.invokevirtual 141, 3) := by decide +kernel
theorem dX10_readsStep_45 : decode cX10_readsStep 45 = .ok (.aload_n 0, 1) := by decide +kernel
theorem dX10_readsStep_46 : decode cX10_readsStep 46 = .ok (.getfield 58, 3) := by decide +kernel
theorem dX10_readsStep_49 : decode cX10_readsStep 49 = .ok (.aload_n 0, 1) := by decide +kernel
theorem dX10_readsStep_50 : decode cX10_readsStep 50 = .ok (.getfield 234, 3) := by decide +kernel
theorem dX10_readsStep_53 : decode cX10_readsStep 53 = .ok (.aaload, 1) := by decide +kernel
theorem dX10_readsStep_54 : decode cX10_readsStep 54 = .ok (.astore_n 2, 1) := by decide +kernel
theorem dX10_readsStep_55 : decode cX10_readsStep 55 = .ok (.aload_n 0, 1) := by decide +kernel
theorem dX10_readsStep_56 : decode cX10_readsStep 56 = .ok (.dup, 1) := by decide +kernel
theorem dX10_readsStep_57 : decode cX10_readsStep 57 = .ok (.getfield 234, 3) := by decide +kernel
theorem dX10_readsStep_60 : decode cX10_readsStep 60 = .ok (.iconst 1, 1) := by decide +kernel
theorem dX10_readsStep_61 : decode cX10_readsStep 61 = .ok (.iadd, 1) := by decide +kernel
theorem dX10_readsStep_62 : decode cX10_readsStep 62 = .ok (.putfield 234, 3) := by decide +kernel
theorem dX10_readsStep_65 : decode cX10_readsStep 65 = .ok (.aload_n 2, 1) := by decide +kernel
theorem dX10_readsStep_66 : decode cX10_readsStep 66 = .ok (.iconst 0, 1) := by decide +kernel
theorem dX10_readsStep_67 : decode cX10_readsStep 67 = .ok (.iload_n 1, 1) := by decide +kernel
theorem dX10_readsStep_68 : decode cX10_readsStep 68 = .ok (.iastore, 1) := by decide +kernel
theorem dX10_readsStep_69 : decode cX10_readsStep 69 = .ok (.iload_n 1, 1) := by decide +kernel
theorem dX10_readsStep_70 : decode cX10_readsStep 70 = .ok (.iconst 5, 1) := by decide +kernel
theorem dX10_readsStep_71 : decode cX10_readsStep 71 = .ok (.if_icmp .ge 20, 3) := by decide +kernel
theorem dX10_readsStep_74 : decode cX10_readsStep 74 = .ok (.aload_n 2, 1) := by decide +kernel
theorem dX10_readsStep_75 : decode cX10_readsStep 75 = .ok (.iconst 1, 1) := by decide +kernel
theorem dX10_readsStep_76 : decode cX10_readsStep 76 = .ok (.aload_n 0, 1) := by decide +kernel
theorem dX10_readsStep_77 : decode cX10_readsStep 77 = .ok (.iconst 0, 1) := by decide +kernel
theorem dX10_readsStep_78 : decode cX10_readsStep 78 = .ok (.aload_n 0, 1) := by decide +kernel
theorem dX10_readsStep_79 : decode cX10_readsStep 79 = .ok (.getfield 61, 3) := by decide +kernel
theorem dX10_readsStep_82 : decode cX10_readsStep 82 = .ok (.bipush 42, 2) := by decide +kernel
theorem dX10_readsStep_84 : decode cX10_readsStep 84 = .ok (.iaload, 1) := by decide +kernel
theorem dX10_readsStep_85 : decode cX10_readsStep 85 = .ok (.iconst 1, 1) := by decide +kernel
theorem dX10_readsStep_86 : decode cX10_readsStep 86 = .ok (.isub, 1) := by decide +kernel
theorem dX10_readsStep_87 : decode cX10_readsStep 87 = .ok (.invokevirtual 156, 3) := by decide +kernel
theorem dX10_readsStep_90 : decode cX10_readsStep 90 = .ok (.iastore, 1) := by decide +kernel
theorem dX10_readsStep_91 : decode cX10_readsStep 91 = .ok (.iload_n 1, 1) := by decide +kernel
theorem dX10_readsStep_92 : decode cX10_readsStep 92 = .ok (.iconst 2, 1) := by decide +kernel
theorem dX10_readsStep_93 : decode cX10_readsStep 93 = .ok (.if_icmp .ge 13, 3) := by decide +kernel
theorem dX10_readsStep_96 : decode cX10_readsStep 96 = .ok (.aload_n 2, 1) := by decide +kernel
theorem dX10_readsStep_97 : decode cX10_readsStep 97 = .ok (.iconst 2, 1) := by decide +kernel
theorem dX10_readsStep_98 : decode cX10_readsStep 98 = .ok (.aload_n 0, 1) := by decide +kernel
theorem dX10_readsStep_99 : decode cX10_readsStep 99 = .ok (.iconst 0, 1) := by decide +kernel
theorem dX10_readsStep_100 : decode cX10_readsStep 100 = .ok (.bipush 7, 2) := by decide +kernel
theorem dX10_readsStep_102 : decode cX10_readsStep 102 = .ok (.invokevirtual 156, 3) := by decide +kernel
theorem dX10_readsStep_105 : decode cX10_readsStep 105 = .ok (.iastore, 1) := by decide +kernel
theorem dX10_readsStep_106 : decode cX10_readsStep 106 = .ok (.iload_n 1, 1) := by decide +kernel
theorem dX10_readsStep_107 : decode cX10_readsStep 107 = .ok (.iconst 3, 1) := by decide +kernel
theorem dX10_readsStep_108 : decode cX10_readsStep 108 = .ok (.if_icmp .ne 19, 3) := by decide +kernel
theorem dX10_readsStep_111 : decode cX10_readsStep 111 = .ok (.aload_n 2, 1) := by decide +kernel
theorem dX10_readsStep_112 : decode cX10_readsStep 112 = .ok (.iconst 2, 1) := by decide +kernel
theorem dX10_readsStep_113 : decode cX10_readsStep 113 = .ok (.aload_n 0, 1) := by decide +kernel
theorem dX10_readsStep_114 : decode cX10_readsStep 114 = .ok (.iconst 0, 1) := by decide +kernel
theorem dX10_readsStep_115 : decode cX10_readsStep 115 = .ok (.aload_n 0, 1) := by decide +kernel
theorem dX10_readsStep_116 : decode cX10_readsStep 116 = .ok (.getfield 23, 3) := by decide +kernel
theorem dX10_readsStep_119 : decode cX10_readsStep 119 = .ok (.iconst 1, 1) := by decide +kernel
theorem dX10_readsStep_120 : decode cX10_readsStep 120 = .ok (.iaload, 1) := by decide +kernel
theorem dX10_readsStep_121 : decode cX10_readsStep 121 = .ok (.iconst 1, 1) := by decide +kernel
theorem dX10_readsStep_122 : decode cX10_readsStep 122 = .ok (.isub, 1) := by decide +kernel
theorem dX10_readsStep_123 : decode cX10_readsStep 123 = .ok (.invokevirtual 156, 3) := by decide +kernel
theorem dX10_readsStep_126 : decode cX10_readsStep 126 = .ok (.iastore, 1) := by decide +kernel
theorem dX10_readsStep_127 : decode cX10_readsStep 127 = .ok (.iload_n 1, 1) := by decide +kernel
theorem dX10_readsStep_128 : decode cX10_readsStep 128 = .ok (.iconst 4, 1) := by decide +kernel
theorem dX10_readsStep_129 : decode cX10_readsStep 129 = .ok (.if_icmp .ne 51, 3) := by decide +kernel
theorem dX10_readsStep_132 : decode cX10_readsStep 132 = .ok (.aload_n 0, 1) := by decide +kernel
theorem dX10_readsStep_133 : decode cX10_readsStep 133 = .ok (.invokevirtual 110, 3) := by decide +kernel
theorem dX10_readsStep_136 : decode cX10_readsStep 136 = .ok (.aload_n 0, 1) := by decide +kernel
theorem dX10_readsStep_137 : decode cX10_readsStep 137 = .ok (.getfield 97, 3) := by decide +kernel
theorem dX10_readsStep_140 : decode cX10_readsStep 140 = .ok (.istore_n 3, 1) := by decide +kernel
theorem dX10_readsStep_141 : decode cX10_readsStep 141 = .ok (.aload_n 2, 1) := by decide +kernel
theorem dX10_readsStep_142 : decode cX10_readsStep 142 = .ok (.iconst 2, 1) := by decide +kernel
theorem dX10_readsStep_143 : decode cX10_readsStep 143 = .ok (.aload_n 0, 1) := by decide +kernel
theorem dX10_readsStep_144 : decode cX10_readsStep 144 = .ok (.iconst 0, 1) := by decide +kernel
theorem dX10_readsStep_145 : decode cX10_readsStep 145 = .ok (.aload_n 0, 1) := by decide +kernel
theorem dX10_readsStep_146 : decode cX10_readsStep 146 = .ok (.getfield 61, 3) := by decide +kernel
theorem dX10_readsStep_149 : decode cX10_readsStep 149 = .ok (.bipush 42, 2) := by decide +kernel
theorem dX10_readsStep_151 : decode cX10_readsStep 151 = .ok (.iaload, 1) := by decide +kernel
theorem dX10_readsStep_152 : decode cX10_readsStep 152 = .ok (.iconst 1, 1) := by decide +kernel
theorem dX10_readsStep_153 : decode cX10_readsStep 153 = .ok (.isub, 1) := by decide +kernel
theorem dX10_readsStep_154 : decode cX10_readsStep 154 = .ok (.invokevirtual 156, 3) := by decide +kernel
theorem dX10_readsStep_157 : decode cX10_readsStep 157 = .ok (.iastore, 1) := by decide +kernel
theorem dX10_readsStep_158 : decode cX10_readsStep 158 = .ok (.aload_n 0, 1) := by decide +kernel
theorem dX10_readsStep_159 : decode cX10_readsStep 159 = .ok (.getfield 104, 3) := by decide +kernel
theorem dX10_readsStep_162 : decode cX10_readsStep 162 = .ok (.ifCond .ne 18, 3) := by decide +kernel
theorem dX10_readsStep_165 : decode cX10_readsStep 165 = .ok (.aload_n 2, 1) := by decide +kernel
theorem dX10_readsStep_166 : decode cX10_readsStep 166 = .ok (.iconst 1, 1) := by decide +kernel
theorem dX10_readsStep_167 : decode cX10_readsStep 167 = .ok (.iaload, 1) := by decide +kernel
theorem dX10_readsStep_168 : decode cX10_readsStep 168 = .ok (.aload_n 2, 1) := by decide +kernel
theorem dX10_readsStep_169 : decode cX10_readsStep 169 = .ok (.iconst 2, 1) := by decide +kernel
theorem dX10_readsStep_170 : decode cX10_readsStep 170 = .ok (.iaload, 1) := by decide +kernel
theorem dX10_readsStep_171 : decode cX10_readsStep 171 = .ok (.if_icmp .ne 9, 3) := by decide +kernel
theorem dX10_readsStep_174 : decode cX10_readsStep 174 = .ok (.aload_n 0, 1) := by decide +kernel
theorem dX10_readsStep_175 : decode cX10_readsStep 175 = .ok (.iconst 2, 1) := by decide +kernel
theorem dX10_readsStep_176 : decode cX10_readsStep 176 = .ok (.iload_n 3, 1) := by decide +kernel
theorem dX10_readsStep_177 : decode cX10_readsStep 177 = .ok (.invokevirtual 117, 3) := by decide +kernel
theorem dX10_readsStep_180 : decode cX10_readsStep 180 = .ok (.iload_n 1, 1) := by decide +kernel
theorem dX10_readsStep_181 : decode cX10_readsStep 181 = .ok (.bipush 6, 2) := by decide +kernel
theorem dX10_readsStep_183 : decode cX10_readsStep 183 = .ok (.if_icmp .ne 70, 3) := by decide +kernel
theorem dX10_readsStep_186 : decode cX10_readsStep 186 = .ok (.aload_n 2, 1) := by decide +kernel
theorem dX10_readsStep_187 : decode cX10_readsStep 187 = .ok (.iconst 1, 1) := by decide +kernel
theorem dX10_readsStep_188 : decode cX10_readsStep 188 = .ok (.aload_n 0, 1) := by decide +kernel
theorem dX10_readsStep_189 : decode cX10_readsStep 189 = .ok (.iconst 0, 1) := by decide +kernel
theorem dX10_readsStep_190 : decode cX10_readsStep 190 = .ok (.bipush 30, 2) := by decide +kernel
theorem dX10_readsStep_192 : decode cX10_readsStep 192 = .ok (.invokevirtual 156, 3) := by decide +kernel
theorem dX10_readsStep_195 : decode cX10_readsStep 195 = .ok (.iastore, 1) := by decide +kernel
theorem dX10_readsStep_196 : decode cX10_readsStep 196 = .ok (.aload_n 0, 1) := by decide +kernel
theorem dX10_readsStep_197 : decode cX10_readsStep 197 = .ok (.bipush 91, 2) := by decide +kernel
theorem dX10_readsStep_199 : decode cX10_readsStep 199 = .ok (.invokevirtual 160, 3) := by decide +kernel
theorem dX10_readsStep_202 : decode cX10_readsStep 202 = .ok (.aload_n 0, 1) := by decide +kernel
theorem dX10_readsStep_203 : decode cX10_readsStep 203 = .ok (.invokevirtual 110, 3) := by decide +kernel
theorem dX10_readsStep_206 : decode cX10_readsStep 206 = .ok (.aload_n 0, 1) := by decide +kernel
theorem dX10_readsStep_207 : decode cX10_readsStep 207 = .ok (.getfield 104, 3) := by decide +kernel
theorem dX10_readsStep_210 : decode cX10_readsStep 210 = .ok (.ifCond .ne 27, 3) := by decide +kernel
theorem dX10_readsStep_213 : decode cX10_readsStep 213 = .ok (.aload_n 0, 1) := by decide +kernel
theorem dX10_readsStep_214 : decode cX10_readsStep 214 = .ok (.aload_n 0, 1) := by decide +kernel
theorem dX10_readsStep_215 : decode cX10_readsStep 215 = .ok (.getfield 97, 3) := by decide +kernel
theorem dX10_readsStep_218 : decode cX10_readsStep 218 = .ok (.invokevirtual 100, 3) := by decide +kernel
theorem dX10_readsStep_221 : decode cX10_readsStep 221 = .ok (.bipush 93, 2) := by decide +kernel
theorem dX10_readsStep_223 : decode cX10_readsStep 223 = .ok (.if_icmp .eq 14, 3) := by decide +kernel
theorem dX10_readsStep_226 : decode cX10_readsStep 226 = .ok (.aload_n 0, 1) := by decide +kernel
theorem dX10_readsStep_227 : decode cX10_readsStep 227 = .ok (.invokevirtual 237, 3) := by decide +kernel
theorem dX10_readsStep_230 : decode cX10_readsStep 230 = .ok (.aload_n 0, 1) := by decide +kernel
theorem dX10_readsStep_231 : decode cX10_readsStep 231 = .ok (.invokevirtual 110, 3) := by decide +kernel
theorem dX10_readsStep_234 : decode cX10_readsStep 234 = .ok (.goto (-28), 3) := by decide +kernel
theorem dX10_readsStep_237 : decode cX10_readsStep 237 = .ok (.aload_n 0, 1) := by decide +kernel
theorem dX10_readsStep_238 : decode cX10_readsStep 238 = .ok (.bipush 93, 2) := by decide +kernel
theorem dX10_readsStep_240 : decode cX10_readsStep 240 = .ok (.invokevirtual 160, 3) := by decide +kernel
theorem dX10_readsStep_243 : decode cX10_readsStep 243 = .ok (.aload_n 0, 1) := by decide +kernel
theorem dX10_readsStep_244 : decode cX10_readsStep 244 = .ok (.dup, 1) := by decide +kernel
theorem dX10_readsStep_245 : decode cX10_readsStep 245 = .ok (.getfield 147, 3) := by decide +kernel
theorem dX10_readsStep_248 : decode cX10_readsStep 248 = .ok (.iconst 1, 1) := by decide +kernel
theorem dX10_readsStep_249 : decode cX10_readsStep 249 = .ok (.isub, 1) := by decide +kernel
theorem dX10_readsStep_250 : decode cX10_readsStep 250 = .ok (.putfield 147, 3) := by decide +kernel
theorem dX10_readsStep_253 : decode cX10_readsStep 253 = .ok (.aload_n 2, 1) := by decide +kernel
theorem dX10_readsStep_254 : decode cX10_readsStep 254 = .ok (.iconst 3, 1) := by decide +kernel
theorem dX10_readsStep_255 : decode cX10_readsStep 255 = .ok (.aload_n 0, 1) := by decide +kernel
theorem dX10_readsStep_256 : decode cX10_readsStep 256 = .ok (.getfield 234, 3) := by decide +kernel
theorem dX10_readsStep_259 : decode cX10_readsStep 259 = .ok (.iastore, 1) := by decide +kernel
theorem dX10_readsStep_260 : decode cX10_readsStep 260 = .ok (.aload_n 0, 1) := by decide +kernel
theorem dX10_readsStep_261 : decode cX10_readsStep 261 = .ok (.bipush 59, 2) := by decide +kernel
theorem dX10_readsStep_263 : decode cX10_readsStep 263 = .ok (.invokevirtual 160, 3) := by decide +kernel
theorem dX10_readsStep_266 : decode cX10_readsStep 266 = .ok (.return_, 1) := by decide +kernel
theorem dX10_fault_0 : decode cX10_fault 0 = .ok (.aload_n 0, 1) := by decide +kernel
theorem dX10_fault_1 : decode cX10_fault 1 = .ok (.iconst 0, 1) := by decide +kernel
theorem dX10_fault_2 : decode cX10_fault 2 = .ok (.putfield 88, 3) := by decide +kernel
theorem dX10_fault_5 : decode cX10_fault 5 = .ok (.aload_n 0, 1) := by decide +kernel
theorem dX10_fault_6 : decode cX10_fault 6 = .ok (.getfield 9, 3) := by decide +kernel
theorem dX10_fault_9 : decode cX10_fault 9 = .ok (.ireturn, 1) := by decide +kernel
theorem dX10_ones_0 : decode cX10_ones 0 = .ok (.iconst 0, 1) := by decide +kernel
theorem dX10_ones_1 : decode cX10_ones 1 = .ok (.istore_n 1, 1) := by decide +kernel
theorem dX10_ones_2 : decode cX10_ones 2 = .ok (.iconst 0, 1) := by decide +kernel
theorem dX10_ones_3 : decode cX10_ones 3 = .ok (.istore_n 2, 1) := by decide +kernel
theorem dX10_ones_4 : decode cX10_ones 4 = .ok (.iload_n 2, 1) := by decide +kernel
theorem dX10_ones_5 : decode cX10_ones 5 = .ok (.bipush 8, 2) := by decide +kernel
theorem dX10_ones_7 : decode cX10_ones 7 = .ok (.if_icmp .ge 17, 3) := by decide +kernel
theorem dX10_ones_10 : decode cX10_ones 10 = .ok (.iload_n 1, 1) := by decide +kernel
theorem dX10_ones_11 : decode cX10_ones 11 = .ok (.iload_n 0, 1) := by decide +kernel
theorem dX10_ones_12 : decode cX10_ones 12 = .ok (.iload_n 2, 1) := by decide +kernel
theorem dX10_ones_13 : decode cX10_ones 13 = .ok (.ishr, 1) := by decide +kernel
theorem dX10_ones_14 : decode cX10_ones 14 = .ok (.iconst 1, 1) := by decide +kernel
theorem dX10_ones_15 : decode cX10_ones 15 = .ok (.iand, 1) := by decide +kernel
theorem dX10_ones_16 : decode cX10_ones 16 = .ok (.iadd, 1) := by decide +kernel
theorem dX10_ones_17 : decode cX10_ones 17 = .ok (.istore_n 1, 1) := by decide +kernel
theorem dX10_ones_18 : decode cX10_ones 18 = .ok (.iinc 2 1, 3) := by decide +kernel
theorem dX10_ones_21 : decode cX10_ones 21 = .ok (.goto (-17), 3) := by decide +kernel
theorem dX10_ones_24 : decode cX10_ones 24 = .ok (.iload_n 1, 1) := by decide +kernel
theorem dX10_ones_25 : decode cX10_ones 25 = .ok (.ireturn, 1) := by decide +kernel
theorem dX10_nearOf_0 : decode cX10_nearOf 0 = .ok (.iconst (-1), 1) := by decide +kernel
theorem dX10_nearOf_1 : decode cX10_nearOf 1 = .ok (.istore_n 3, 1) := by decide +kernel
theorem dX10_nearOf_2 : decode cX10_nearOf 2 = .ok (.iconst 0, 1) := by decide +kernel
theorem dX10_nearOf_3 : decode cX10_nearOf 3 = .ok (.istore 4, 2) := by decide +kernel
theorem dX10_nearOf_5 : decode cX10_nearOf 5 = .ok (.iload 4, 2) := by decide +kernel
theorem dX10_nearOf_7 : decode cX10_nearOf 7 = .ok (.aload_n 0, 1) := by decide +kernel
theorem dX10_nearOf_8 : decode cX10_nearOf 8 = .ok (.getfield 23, 3) := by decide +kernel
theorem dX10_nearOf_11 : decode cX10_nearOf 11 = .ok (.iconst 2, 1) := by decide +kernel
theorem dX10_nearOf_12 : decode cX10_nearOf 12 = .ok (.iaload, 1) := by decide +kernel
theorem dX10_nearOf_13 : decode cX10_nearOf 13 = .ok (.if_icmp .ge 52, 3) := by decide +kernel
theorem dX10_nearOf_16 : decode cX10_nearOf 16 = .ok (.iload_n 1, 1) := by decide +kernel
theorem dX10_nearOf_17 : decode cX10_nearOf 17 = .ok (.aload_n 0, 1) := by decide +kernel
theorem dX10_nearOf_18 : decode cX10_nearOf 18 = .ok (.getfield 43, 3) := by decide +kernel
theorem dX10_nearOf_21 : decode cX10_nearOf 21 = .ok (.iload 4, 2) := by decide +kernel
theorem dX10_nearOf_23 : decode cX10_nearOf 23 = .ok (.aaload, 1) := by decide +kernel
theorem dX10_nearOf_24 : decode cX10_nearOf 24 = .ok (.iconst 1, 1) := by decide +kernel
theorem dX10_nearOf_25 : decode cX10_nearOf 25 = .ok (.iaload, 1) := by decide +kernel
theorem dX10_nearOf_26 : decode cX10_nearOf 26 = .ok (.ixor, 1) := by decide +kernel
theorem dX10_nearOf_27 : decode cX10_nearOf 27 = .ok (.invokestatic 240, 3) := by decide +kernel
theorem dX10_nearOf_30 : decode cX10_nearOf 30 = .ok (.istore 5, 2) := by decide +kernel
theorem dX10_nearOf_32 : decode cX10_nearOf 32 = .ok (.aload_n 0, 1) := by decide +kernel
theorem dX10_nearOf_33 : decode cX10_nearOf 33 = .ok (.getfield 43, 3) := by decide +kernel
theorem dX10_nearOf_36 : decode cX10_nearOf 36 = .ok (.iload 4, 2) := by decide +kernel
theorem dX10_nearOf_38 : decode cX10_nearOf 38 = .ok (.aaload, 1) := by decide +kernel
theorem dX10_nearOf_39 : decode cX10_nearOf 39 = .ok (.iconst 0, 1) := by decide +kernel
theorem dX10_nearOf_40 : decode cX10_nearOf 40 = .ok (.iaload, 1) := by decide +kernel
theorem dX10_nearOf_41 : decode cX10_nearOf 41 = .ok (.iload_n 2, 1) := by decide +kernel
theorem dX10_nearOf_42 : decode cX10_nearOf 42 = .ok (.if_icmp .ne 17, 3) := by decide +kernel
theorem dX10_nearOf_45 : decode cX10_nearOf 45 = .ok (.iload_n 3, 1) := by decide +kernel
theorem dX10_nearOf_46 : decode cX10_nearOf 46 = .ok (.iconst (-1), 1) := by decide +kernel
theorem dX10_nearOf_47 : decode cX10_nearOf 47 = .ok (.if_icmp .eq 9, 3) := by decide +kernel
theorem dX10_nearOf_50 : decode cX10_nearOf 50 = .ok (.iload 5, 2) := by decide +kernel
theorem dX10_nearOf_52 : decode cX10_nearOf 52 = .ok (.iload_n 3, 1) := by decide +kernel
theorem dX10_nearOf_53 : decode cX10_nearOf 53 = .ok (.if_icmp .ge 6, 3) := by decide +kernel
theorem dX10_nearOf_56 : decode cX10_nearOf 56 = .ok (.iload 5, 2) := by decide +kernel
theorem dX10_nearOf_58 : decode cX10_nearOf 58 = .ok (.istore_n 3, 1) := by decide +kernel
theorem dX10_nearOf_59 : decode cX10_nearOf 59 = .ok (.iinc 4 1, 3) := by decide +kernel
theorem dX10_nearOf_62 : decode cX10_nearOf 62 = .ok (.goto (-57), 3) := by decide +kernel
theorem dX10_nearOf_65 : decode cX10_nearOf 65 = .ok (.iload_n 3, 1) := by decide +kernel
theorem dX10_nearOf_66 : decode cX10_nearOf 66 = .ok (.ireturn, 1) := by decide +kernel
theorem dX10_opens_0 : decode cX10_opens 0 = .ok (.aload_n 0, 1) := by decide +kernel
theorem dX10_opens_1 : decode cX10_opens 1 = .ok (.iload_n 1, 1) := by decide +kernel
theorem dX10_opens_2 : decode cX10_opens 2 = .ok (.iload_n 2, 1) := by decide +kernel
theorem dX10_opens_3 : decode cX10_opens 3 = .ok (.invokevirtual 243, 3) := by decide +kernel
theorem dX10_opens_6 : decode cX10_opens 6 = .ok (.istore_n 3, 1) := by decide +kernel
theorem dX10_opens_7 : decode cX10_opens 7 = .ok (.iload_n 3, 1) := by decide +kernel
theorem dX10_opens_8 : decode cX10_opens 8 = .ok (.iconst (-1), 1) := by decide +kernel
theorem dX10_opens_9 : decode cX10_opens 9 = .ok (.if_icmp .eq 19, 3) := by decide +kernel
theorem dX10_opens_12 : decode cX10_opens 12 = .ok (.iload_n 3, 1) := by decide +kernel
theorem dX10_opens_13 : decode cX10_opens 13 = .ok (.aload_n 0, 1) := by decide +kernel
theorem dX10_opens_14 : decode cX10_opens 14 = .ok (.getfield 37, 3) := by decide +kernel
theorem dX10_opens_17 : decode cX10_opens 17 = .ok (.iload_n 2, 1) := by decide +kernel
theorem dX10_opens_18 : decode cX10_opens 18 = .ok (.aaload, 1) := by decide +kernel
theorem dX10_opens_19 : decode cX10_opens 19 = .ok (.iconst 0, 1) := by decide +kernel
theorem dX10_opens_20 : decode cX10_opens 20 = .ok (.iaload, 1) := by decide +kernel
theorem dX10_opens_21 : decode cX10_opens 21 = .ok (.if_icmp .gt 7, 3) := by decide +kernel
theorem dX10_opens_24 : decode cX10_opens 24 = .ok (.iconst 1, 1) := by decide +kernel
theorem dX10_opens_25 : decode cX10_opens 25 = .ok (.goto 4, 3) := by decide +kernel
theorem dX10_opens_28 : decode cX10_opens 28 = .ok (.iconst 0, 1) := by decide +kernel
theorem dX10_opens_29 : decode cX10_opens 29 = .ok (.ireturn, 1) := by decide +kernel
theorem dX10_feeBy_0 : decode cX10_feeBy 0 = .ok (.aload_n 0, 1) := by decide +kernel
theorem dX10_feeBy_1 : decode cX10_feeBy 1 = .ok (.getfield 55, 3) := by decide +kernel
theorem dX10_feeBy_4 : decode cX10_feeBy 4 = .ok (.iconst 0, 1) := by decide +kernel
theorem dX10_feeBy_5 : decode cX10_feeBy 5 = .ok (.iload_n 1, 1) := by decide +kernel
theorem dX10_feeBy_6 : decode cX10_feeBy 6 = .ok (.iastore, 1) := by decide +kernel
theorem dX10_feeBy_7 : decode cX10_feeBy 7 = .ok (.aload_n 0, 1) := by decide +kernel
theorem dX10_feeBy_8 : decode cX10_feeBy 8 = .ok (.getfield 55, 3) := by decide +kernel
theorem dX10_feeBy_11 : decode cX10_feeBy 11 = .ok (.iconst 1, 1) := by decide +kernel
theorem dX10_feeBy_12 : decode cX10_feeBy 12 = .ok (.iload_n 2, 1) := by decide +kernel
theorem dX10_feeBy_13 : decode cX10_feeBy 13 = .ok (.iastore, 1) := by decide +kernel
theorem dX10_feeBy_14 : decode cX10_feeBy 14 = .ok (.aload_n 0, 1) := by decide +kernel
theorem dX10_feeBy_15 : decode cX10_feeBy 15 = .ok (.getfield 55, 3) := by decide +kernel
theorem dX10_feeBy_18 : decode cX10_feeBy 18 = .ok (.iconst 2, 1) := by decide +kernel
theorem dX10_feeBy_19 : decode cX10_feeBy 19 = .ok (.iload_n 3, 1) := by decide +kernel
theorem dX10_feeBy_20 : decode cX10_feeBy 20 = .ok (.iastore, 1) := by decide +kernel
theorem dX10_feeBy_21 : decode cX10_feeBy 21 = .ok (.aload_n 0, 1) := by decide +kernel
theorem dX10_feeBy_22 : decode cX10_feeBy 22 = .ok (.getfield 55, 3) := by decide +kernel
theorem dX10_feeBy_25 : decode cX10_feeBy 25 = .ok (.iconst 3, 1) := by decide +kernel
theorem dX10_feeBy_26 : decode cX10_feeBy 26 = .ok (.iload 4, 2) := by decide +kernel
theorem dX10_feeBy_28 : decode cX10_feeBy 28 = .ok (.iastore, 1) := by decide +kernel
theorem dX10_feeBy_29 : decode cX10_feeBy 29 = .ok (.aload_n 0, 1) := by decide +kernel
theorem dX10_feeBy_30 : decode cX10_feeBy 30 = .ok (.getfield 55, 3) := by decide +kernel
theorem dX10_feeBy_33 : decode cX10_feeBy 33 = .ok (.iconst 4, 1) := by decide +kernel
theorem dX10_feeBy_34 : decode cX10_feeBy 34 = .ok (.iload 5, 2) := by decide +kernel
theorem dX10_feeBy_36 : decode cX10_feeBy 36 = .ok (.iastore, 1) := by decide +kernel
theorem dX10_feeBy_37 : decode cX10_feeBy 37 = .ok (.aload_n 0, 1) := by decide +kernel
theorem dX10_feeBy_38 : decode cX10_feeBy 38 = .ok (.getfield 55, 3) := by decide +kernel
theorem dX10_feeBy_41 : decode cX10_feeBy 41 = .ok (.iconst 5, 1) := by decide +kernel
theorem dX10_feeBy_42 : decode cX10_feeBy 42 = .ok (.iload 6, 2) := by decide +kernel
theorem dX10_feeBy_44 : decode cX10_feeBy 44 = .ok (.iastore, 1) := by decide +kernel
theorem dX10_feeBy_45 : decode cX10_feeBy 45 = .ok (.aload_n 0, 1) := by decide +kernel
theorem dX10_feeBy_46 : decode cX10_feeBy 46 = .ok (.getfield 55, 3) := by decide +kernel
theorem dX10_feeBy_49 : decode cX10_feeBy 49 = .ok (.bipush 6, 2) := by decide +kernel
theorem dX10_feeBy_51 : decode cX10_feeBy 51 = .ok (.iload 7, 2) := by decide +kernel
theorem dX10_feeBy_53 : decode cX10_feeBy 53 = .ok (.iastore, 1) := by decide +kernel
theorem dX10_feeBy_54 : decode cX10_feeBy 54 = .ok (.aload_n 0, 1) := by decide +kernel
theorem dX10_feeBy_55 : decode cX10_feeBy 55 = .ok (.getfield 55, 3) := by decide +kernel
theorem dX10_feeBy_58 : decode cX10_feeBy 58 = .ok (.bipush 7, 2) := by decide +kernel
theorem dX10_feeBy_60 : decode cX10_feeBy 60 = .ok (.iload 8, 2) := by decide +kernel
theorem dX10_feeBy_62 : decode cX10_feeBy 62 = .ok (.iastore, 1) := by decide +kernel
theorem dX10_feeBy_63 : decode cX10_feeBy 63 = .ok (.aload_n 0, 1) := by decide +kernel
theorem dX10_feeBy_64 : decode cX10_feeBy 64 = .ok (.invokevirtual 246, 3) := by decide +kernel
theorem dX10_feeBy_67 : decode cX10_feeBy 67 = .ok (.ireturn, 1) := by decide +kernel
theorem dX10_feeOf_0 : decode cX10_feeOf 0 = .ok (.aload_n 1, 1) := by decide +kernel
theorem dX10_feeOf_1 : decode cX10_feeOf 1 = .ok (.iconst 0, 1) := by decide +kernel
theorem dX10_feeOf_2 : decode cX10_feeOf 2 = .ok (.iload_n 2, 1) := by decide +kernel
theorem dX10_feeOf_3 : decode cX10_feeOf 3 = .ok (.iadd, 1) := by decide +kernel
theorem dX10_feeOf_4 : decode cX10_feeOf 4 = .ok (.iaload, 1) := by decide +kernel
theorem dX10_feeOf_5 : decode cX10_feeOf 5 = .ok (.istore 5, 2) := by decide +kernel
theorem dX10_feeOf_7 : decode cX10_feeOf 7 = .ok (.aload_n 0, 1) := by decide +kernel
theorem dX10_feeOf_8 : decode cX10_feeOf 8 = .ok (.aload_n 0, 1) := by decide +kernel
theorem dX10_feeOf_9 : decode cX10_feeOf 9 = .ok (.getfield 37, 3) := by decide +kernel
theorem dX10_feeOf_12 : decode cX10_feeOf 12 = .ok (.iload_n 3, 1) := by decide +kernel
theorem dX10_feeOf_13 : decode cX10_feeOf 13 = .ok (.aaload, 1) := by decide +kernel
theorem dX10_feeOf_14 : decode cX10_feeOf 14 = .ok (.iconst 1, 1) := by decide +kernel
theorem dX10_feeOf_15 : decode cX10_feeOf 15 = .ok (.iaload, 1) := by decide +kernel
theorem dX10_feeOf_16 : decode cX10_feeOf 16 = .ok (.aload_n 0, 1) := by decide +kernel
theorem dX10_feeOf_17 : decode cX10_feeOf 17 = .ok (.iload 5, 2) := by decide +kernel
theorem dX10_feeOf_19 : decode cX10_feeOf 19 = .ok (.iload_n 3, 1) := by decide +kernel
theorem dX10_feeOf_20 : decode cX10_feeOf 20 = .ok (.invokevirtual 243, 3) := by decide +kernel
theorem dX10_feeOf_23 : decode cX10_feeOf 23 = .ok (.iload 5, 2) := by decide +kernel
theorem dX10_feeOf_25 : decode cX10_feeOf 25 = .ok (.invokestatic 240, 3) := by decide +kernel
theorem dX10_feeOf_28 : decode cX10_feeOf 28 = .ok (.aload_n 1, 1) := by decide +kernel
theorem dX10_feeOf_29 : decode cX10_feeOf 29 = .ok (.bipush 16, 2) := by decide +kernel
theorem dX10_feeOf_31 : decode cX10_feeOf 31 = .ok (.iload_n 2, 1) := by decide +kernel
theorem dX10_feeOf_32 : decode cX10_feeOf 32 = .ok (.iadd, 1) := by decide +kernel
theorem dX10_feeOf_33 : decode cX10_feeOf 33 = .ok (.iaload, 1) := by decide +kernel
theorem dX10_feeOf_34 : decode cX10_feeOf 34 = .ok (.aload_n 1, 1) := by decide +kernel
theorem dX10_feeOf_35 : decode cX10_feeOf 35 = .ok (.bipush 32, 2) := by decide +kernel
theorem dX10_feeOf_37 : decode cX10_feeOf 37 = .ok (.iload_n 3, 1) := by decide +kernel
theorem dX10_feeOf_38 : decode cX10_feeOf 38 = .ok (.iadd, 1) := by decide +kernel
theorem dX10_feeOf_39 : decode cX10_feeOf 39 = .ok (.iaload, 1) := by decide +kernel
theorem dX10_feeOf_40 : decode cX10_feeOf 40 = .ok (.iload 4, 2) := by decide +kernel
theorem dX10_feeOf_42 : decode cX10_feeOf 42 = .ok (.iadd, 1) := by decide +kernel
theorem dX10_feeOf_43 : decode cX10_feeOf 43 = .ok (.aload_n 1, 1) := by decide +kernel
theorem dX10_feeOf_44 : decode cX10_feeOf 44 = .ok (.bipush 24, 2) := by decide +kernel
theorem dX10_feeOf_46 : decode cX10_feeOf 46 = .ok (.iload_n 2, 1) := by decide +kernel
theorem dX10_feeOf_47 : decode cX10_feeOf 47 = .ok (.iadd, 1) := by decide +kernel
theorem dX10_feeOf_48 : decode cX10_feeOf 48 = .ok (.iaload, 1) := by decide +kernel
theorem dX10_feeOf_49 : decode cX10_feeOf 49 = .ok (.iload 5, 2) := by decide +kernel
theorem dX10_feeOf_51 : decode cX10_feeOf 51 = .ok (.iload_n 3, 1) := by decide +kernel
theorem dX10_feeOf_52 : decode cX10_feeOf 52 = .ok (.invokevirtual 249, 3) := by decide +kernel
theorem dX10_feeOf_55 : decode cX10_feeOf 55 = .ok (.ireturn, 1) := by decide +kernel
theorem dX10_canPass_0 : decode cX10_canPass 0 = .ok (.aload_n 0, 1) := by decide +kernel
theorem dX10_canPass_1 : decode cX10_canPass 1 = .ok (.aload_n 1, 1) := by decide +kernel
theorem dX10_canPass_2 : decode cX10_canPass 2 = .ok (.iconst 0, 1) := by decide +kernel
theorem dX10_canPass_3 : decode cX10_canPass 3 = .ok (.iload_n 2, 1) := by decide +kernel
theorem dX10_canPass_4 : decode cX10_canPass 4 = .ok (.iadd, 1) := by decide +kernel
theorem dX10_canPass_5 : decode cX10_canPass 5 = .ok (.iaload, 1) := by decide +kernel
theorem dX10_canPass_6 : decode cX10_canPass 6 = .ok (.iload_n 3, 1) := by decide +kernel
theorem dX10_canPass_7 : decode cX10_canPass 7 = .ok (.invokevirtual 253, 3) := by decide +kernel
theorem dX10_canPass_10 : decode cX10_canPass 10 = .ok (.ifCond .eq 22, 3) := by decide +kernel
theorem dX10_canPass_13 : decode cX10_canPass 13 = .ok (.aload_n 1, 1) := by decide +kernel
theorem dX10_canPass_14 : decode cX10_canPass 14 = .ok (.bipush 43, 2) := by decide +kernel
theorem dX10_canPass_16 : decode cX10_canPass 16 = .ok (.iaload, 1) := by decide +kernel
theorem dX10_canPass_17 : decode cX10_canPass 17 = .ok (.aload_n 0, 1) := by decide +kernel
theorem dX10_canPass_18 : decode cX10_canPass 18 = .ok (.aload_n 1, 1) := by decide +kernel
theorem dX10_canPass_19 : decode cX10_canPass 19 = .ok (.iload_n 2, 1) := by decide +kernel
theorem dX10_canPass_20 : decode cX10_canPass 20 = .ok (.iload_n 3, 1) := by decide +kernel
theorem dX10_canPass_21 : decode cX10_canPass 21 = .ok (.iconst 0, 1) := by decide +kernel
theorem dX10_canPass_22 : decode cX10_canPass 22 = .ok (.invokevirtual 257, 3) := by decide +kernel
theorem dX10_canPass_25 : decode cX10_canPass 25 = .ok (.if_icmp .lt 7, 3) := by decide +kernel
theorem dX10_canPass_28 : decode cX10_canPass 28 = .ok (.iconst 1, 1) := by decide +kernel
theorem dX10_canPass_29 : decode cX10_canPass 29 = .ok (.goto 4, 3) := by decide +kernel
theorem dX10_canPass_32 : decode cX10_canPass 32 = .ok (.iconst 0, 1) := by decide +kernel
theorem dX10_canPass_33 : decode cX10_canPass 33 = .ok (.ireturn, 1) := by decide +kernel
theorem dX10_passes_0 : decode cX10_passes 0 = .ok (.aload_n 0, 1) := by decide +kernel
theorem dX10_passes_1 : decode cX10_passes 1 = .ok (.aload_n 1, 1) := by decide +kernel
theorem dX10_passes_2 : decode cX10_passes 2 = .ok (.iload_n 2, 1) := by decide +kernel
theorem dX10_passes_3 : decode cX10_passes 3 = .ok (.iload_n 3, 1) := by decide +kernel
theorem dX10_passes_4 : decode cX10_passes 4 = .ok (.invokevirtual 261, 3) := by decide +kernel
theorem dX10_passes_7 : decode cX10_passes 7 = .ok (.ifCond .ne 5, 3) := by decide +kernel
theorem dX10_passes_10 : decode cX10_passes 10 = .ok (.iconst 0, 1) := by decide +kernel
theorem dX10_passes_11 : decode cX10_passes 11 = .ok (.ireturn, 1) := by decide +kernel
theorem dX10_passes_12 : decode cX10_passes 12 = .ok (.aload_n 0, 1) := by decide +kernel
theorem dX10_passes_13 : decode cX10_passes 13 = .ok (.aload_n 1, 1) := by decide +kernel
theorem dX10_passes_14 : decode cX10_passes 14 = .ok (.iload_n 2, 1) := by decide +kernel
theorem dX10_passes_15 : decode cX10_passes 15 = .ok (.iload_n 3, 1) := by decide +kernel
theorem dX10_passes_16 : decode cX10_passes 16 = .ok (.iconst 0, 1) := by decide +kernel
theorem dX10_passes_17 : decode cX10_passes 17 = .ok (.invokevirtual 257, 3) := by decide +kernel
theorem dX10_passes_20 : decode cX10_passes 20 = .ok (.istore 4, 2) := by decide +kernel
theorem dX10_passes_22 : decode cX10_passes 22 = .ok (.aload_n 1, 1) := by decide +kernel
theorem dX10_passes_23 : decode cX10_passes 23 = .ok (.bipush 43, 2) := by decide +kernel
theorem dX10_passes_25 : decode cX10_passes 25 = .ok (.dup2, 1) := by decide +kernel
theorem dX10_passes_26 : decode cX10_passes 26 = .ok (.iaload, 1) := by decide +kernel
theorem dX10_passes_27 : decode cX10_passes 27 = .ok (.iload 4, 2) := by decide +kernel
theorem dX10_passes_29 : decode cX10_passes 29 = .ok (.isub, 1) := by decide +kernel
theorem dX10_passes_30 : decode cX10_passes 30 = .ok (.iastore, 1) := by decide +kernel
theorem dX10_passes_31 : decode cX10_passes 31 = .ok (.aload_n 1, 1) := by decide +kernel
theorem dX10_passes_32 : decode cX10_passes 32 = .ok (.bipush 37, 2) := by decide +kernel
theorem dX10_passes_34 : decode cX10_passes 34 = .ok (.iload_n 3, 1) := by decide +kernel
theorem dX10_passes_35 : decode cX10_passes 35 = .ok (.iadd, 1) := by decide +kernel
theorem dX10_passes_36 : decode cX10_passes 36 = .ok (.dup2, 1) := by decide +kernel
theorem dX10_passes_37 : decode cX10_passes 37 = .ok (.iaload, 1) := by decide +kernel
theorem dX10_passes_38 : decode cX10_passes 38 = .ok (.iload 4, 2) := by decide +kernel
theorem dX10_passes_40 : decode cX10_passes 40 = .ok (.iadd, 1) := by decide +kernel
theorem dX10_passes_41 : decode cX10_passes 41 = .ok (.iastore, 1) := by decide +kernel
theorem dX10_passes_42 : decode cX10_passes 42 = .ok (.aload_n 1, 1) := by decide +kernel
theorem dX10_passes_43 : decode cX10_passes 43 = .ok (.bipush 32, 2) := by decide +kernel
theorem dX10_passes_45 : decode cX10_passes 45 = .ok (.iload_n 3, 1) := by decide +kernel
theorem dX10_passes_46 : decode cX10_passes 46 = .ok (.iadd, 1) := by decide +kernel
theorem dX10_passes_47 : decode cX10_passes 47 = .ok (.dup2, 1) := by decide +kernel
theorem dX10_passes_48 : decode cX10_passes 48 = .ok (.iaload, 1) := by decide +kernel
theorem dX10_passes_49 : decode cX10_passes 49 = .ok (.iconst 1, 1) := by decide +kernel
theorem dX10_passes_50 : decode cX10_passes 50 = .ok (.iadd, 1) := by decide +kernel
theorem dX10_passes_51 : decode cX10_passes 51 = .ok (.iastore, 1) := by decide +kernel
theorem dX10_passes_52 : decode cX10_passes 52 = .ok (.aload_n 1, 1) := by decide +kernel
theorem dX10_passes_53 : decode cX10_passes 53 = .ok (.bipush 24, 2) := by decide +kernel
theorem dX10_passes_55 : decode cX10_passes 55 = .ok (.iload_n 2, 1) := by decide +kernel
theorem dX10_passes_56 : decode cX10_passes 56 = .ok (.iadd, 1) := by decide +kernel
theorem dX10_passes_57 : decode cX10_passes 57 = .ok (.dup2, 1) := by decide +kernel
theorem dX10_passes_58 : decode cX10_passes 58 = .ok (.iaload, 1) := by decide +kernel
theorem dX10_passes_59 : decode cX10_passes 59 = .ok (.iconst 1, 1) := by decide +kernel
theorem dX10_passes_60 : decode cX10_passes 60 = .ok (.iadd, 1) := by decide +kernel
theorem dX10_passes_61 : decode cX10_passes 61 = .ok (.iastore, 1) := by decide +kernel
theorem dX10_passes_62 : decode cX10_passes 62 = .ok (.aload_n 1, 1) := by decide +kernel
theorem dX10_passes_63 : decode cX10_passes 63 = .ok (.bipush 45, 2) := by decide +kernel
theorem dX10_passes_65 : decode cX10_passes 65 = .ok (.dup2, 1) := by decide +kernel
theorem dX10_passes_66 : decode cX10_passes 66 = .ok (.iaload, 1) := by decide +kernel
theorem dX10_passes_67 : decode cX10_passes 67 = .ok (.iconst 1, 1) := by decide +kernel
theorem dX10_passes_68 : decode cX10_passes 68 = .ok (.iadd, 1) := by decide +kernel
theorem dX10_passes_69 : decode cX10_passes 69 = .ok (.iastore, 1) := by decide +kernel
theorem dX10_passes_70 : decode cX10_passes 70 = .ok (.iconst 1, 1) := by decide +kernel
theorem dX10_passes_71 : decode cX10_passes 71 = .ok (.ireturn, 1) := by decide +kernel
theorem dX10_paints_0 : decode cX10_paints 0 = .ok (.aload_n 0, 1) := by decide +kernel
theorem dX10_paints_1 : decode cX10_paints 1 = .ok (.iconst 0, 1) := by decide +kernel
theorem dX10_paints_2 : decode cX10_paints 2 = .ok (.iload_n 1, 1) := by decide +kernel
theorem dX10_paints_3 : decode cX10_paints 3 = .ok (.iadd, 1) := by decide +kernel
theorem dX10_paints_4 : decode cX10_paints 4 = .ok (.iaload, 1) := by decide +kernel
theorem dX10_paints_5 : decode cX10_paints 5 = .ok (.iload_n 2, 1) := by decide +kernel
theorem dX10_paints_6 : decode cX10_paints 6 = .ok (.ishr, 1) := by decide +kernel
theorem dX10_paints_7 : decode cX10_paints 7 = .ok (.iconst 1, 1) := by decide +kernel
theorem dX10_paints_8 : decode cX10_paints 8 = .ok (.iand, 1) := by decide +kernel
theorem dX10_paints_9 : decode cX10_paints 9 = .ok (.iload_n 3, 1) := by decide +kernel
theorem dX10_paints_10 : decode cX10_paints 10 = .ok (.if_icmp .ne 5, 3) := by decide +kernel
theorem dX10_paints_13 : decode cX10_paints 13 = .ok (.iconst 0, 1) := by decide +kernel
theorem dX10_paints_14 : decode cX10_paints 14 = .ok (.ireturn, 1) := by decide +kernel
theorem dX10_paints_15 : decode cX10_paints 15 = .ok (.aload_n 0, 1) := by decide +kernel
theorem dX10_paints_16 : decode cX10_paints 16 = .ok (.iconst 0, 1) := by decide +kernel
theorem dX10_paints_17 : decode cX10_paints 17 = .ok (.iload_n 1, 1) := by decide +kernel
theorem dX10_paints_18 : decode cX10_paints 18 = .ok (.iadd, 1) := by decide +kernel
theorem dX10_paints_19 : decode cX10_paints 19 = .ok (.dup2, 1) := by decide +kernel
theorem dX10_paints_20 : decode cX10_paints 20 = .ok (.iaload, 1) := by decide +kernel
theorem dX10_paints_21 : decode cX10_paints 21 = .ok (.iconst 1, 1) := by decide +kernel
theorem dX10_paints_22 : decode cX10_paints 22 = .ok (.iload_n 2, 1) := by decide +kernel
theorem dX10_paints_23 : decode cX10_paints 23 = .ok (.ishl, 1) := by decide +kernel
theorem dX10_paints_24 : decode cX10_paints 24 = .ok (.ixor, 1) := by decide +kernel
theorem dX10_paints_25 : decode cX10_paints 25 = .ok (.iastore, 1) := by decide +kernel
theorem dX10_paints_26 : decode cX10_paints 26 = .ok (.iconst 1, 1) := by decide +kernel
theorem dX10_paints_27 : decode cX10_paints 27 = .ok (.ireturn, 1) := by decide +kernel
theorem dX10_washes_0 : decode cX10_washes 0 = .ok (.aload_n 0, 1) := by decide +kernel
theorem dX10_washes_1 : decode cX10_washes 1 = .ok (.iconst 0, 1) := by decide +kernel
theorem dX10_washes_2 : decode cX10_washes 2 = .ok (.iload_n 1, 1) := by decide +kernel
theorem dX10_washes_3 : decode cX10_washes 3 = .ok (.iadd, 1) := by decide +kernel
theorem dX10_washes_4 : decode cX10_washes 4 = .ok (.iaload, 1) := by decide +kernel
theorem dX10_washes_5 : decode cX10_washes 5 = .ok (.aload_n 0, 1) := by decide +kernel
theorem dX10_washes_6 : decode cX10_washes 6 = .ok (.bipush 8, 2) := by decide +kernel
theorem dX10_washes_8 : decode cX10_washes 8 = .ok (.iload_n 1, 1) := by decide +kernel
theorem dX10_washes_9 : decode cX10_washes 9 = .ok (.iadd, 1) := by decide +kernel
theorem dX10_washes_10 : decode cX10_washes 10 = .ok (.iaload, 1) := by decide +kernel
theorem dX10_washes_11 : decode cX10_washes 11 = .ok (.if_icmp .eq 7, 3) := by decide +kernel
theorem dX10_washes_14 : decode cX10_washes 14 = .ok (.iconst 1, 1) := by decide +kernel
theorem dX10_washes_15 : decode cX10_washes 15 = .ok (.goto 4, 3) := by decide +kernel
theorem dX10_washes_18 : decode cX10_washes 18 = .ok (.iconst 0, 1) := by decide +kernel
theorem dX10_washes_19 : decode cX10_washes 19 = .ok (.istore_n 2, 1) := by decide +kernel
theorem dX10_washes_20 : decode cX10_washes 20 = .ok (.aload_n 0, 1) := by decide +kernel
theorem dX10_washes_21 : decode cX10_washes 21 = .ok (.iconst 0, 1) := by decide +kernel
theorem dX10_washes_22 : decode cX10_washes 22 = .ok (.iload_n 1, 1) := by decide +kernel
theorem dX10_washes_23 : decode cX10_washes 23 = .ok (.iadd, 1) := by decide +kernel
theorem dX10_washes_24 : decode cX10_washes 24 = .ok (.aload_n 0, 1) := by decide +kernel
theorem dX10_washes_25 : decode cX10_washes 25 = .ok (.bipush 8, 2) := by decide +kernel
theorem dX10_washes_27 : decode cX10_washes 27 = .ok (.iload_n 1, 1) := by decide +kernel
theorem dX10_washes_28 : decode cX10_washes 28 = .ok (.iadd, 1) := by decide +kernel
theorem dX10_washes_29 : decode cX10_washes 29 = .ok (.iaload, 1) := by decide +kernel
theorem dX10_washes_30 : decode cX10_washes 30 = .ok (.iastore, 1) := by decide +kernel
theorem dX10_washes_31 : decode cX10_washes 31 = .ok (.iload_n 2, 1) := by decide +kernel
theorem dX10_washes_32 : decode cX10_washes 32 = .ok (.ireturn, 1) := by decide +kernel
theorem dX10_foals_0 : decode cX10_foals 0 = .ok (.aload_n 0, 1) := by decide +kernel
theorem dX10_foals_1 : decode cX10_foals 1 = .ok (.bipush 42, 2) := by decide +kernel
theorem dX10_foals_3 : decode cX10_foals 3 = .ok (.iaload, 1) := by decide +kernel
theorem dX10_foals_4 : decode cX10_foals 4 = .ok (.istore_n 3, 1) := by decide +kernel
theorem dX10_foals_5 : decode cX10_foals 5 = .ok (.iload_n 3, 1) := by decide +kernel
theorem dX10_foals_6 : decode cX10_foals 6 = .ok (.bipush 8, 2) := by decide +kernel
theorem dX10_foals_8 : decode cX10_foals 8 = .ok (.if_icmp .ne 5, 3) := by decide +kernel
theorem dX10_foals_11 : decode cX10_foals 11 = .ok (.iconst 0, 1) := by decide +kernel
theorem dX10_foals_12 : decode cX10_foals 12 = .ok (.ireturn, 1) := by decide +kernel
theorem dX10_foals_13 : decode cX10_foals 13 = .ok (.aload_n 0, 1) := by decide +kernel
theorem dX10_foals_14 : decode cX10_foals 14 = .ok (.bipush 8, 2) := by decide +kernel
theorem dX10_foals_16 : decode cX10_foals 16 = .ok (.iload_n 3, 1) := by decide +kernel
theorem dX10_foals_17 : decode cX10_foals 17 = .ok (.iadd, 1) := by decide +kernel
theorem dX10_foals_18 : decode cX10_foals 18 = .ok (.aload_n 0, 1) := by decide +kernel
theorem dX10_foals_19 : decode cX10_foals 19 = .ok (.bipush 8, 2) := by decide +kernel
theorem dX10_foals_21 : decode cX10_foals 21 = .ok (.iload_n 1, 1) := by decide +kernel
theorem dX10_foals_22 : decode cX10_foals 22 = .ok (.iadd, 1) := by decide +kernel
theorem dX10_foals_23 : decode cX10_foals 23 = .ok (.iaload, 1) := by decide +kernel
theorem dX10_foals_24 : decode cX10_foals 24 = .ok (.aload_n 0, 1) := by decide +kernel
theorem dX10_foals_25 : decode cX10_foals 25 = .ok (.bipush 8, 2) := by decide +kernel
theorem dX10_foals_27 : decode cX10_foals 27 = .ok (.iload_n 2, 1) := by decide +kernel
theorem dX10_foals_28 : decode cX10_foals 28 = .ok (.iadd, 1) := by decide +kernel
theorem dX10_foals_29 : decode cX10_foals 29 = .ok (.iaload, 1) := by decide +kernel
theorem dX10_foals_30 : decode cX10_foals 30 = .ok (.iadd, 1) := by decide +kernel
theorem dX10_foals_31 : decode cX10_foals 31 = .ok (.sipush 256, 3) := by decide +kernel
theorem dX10_foals_34 : decode cX10_foals 34 = .ok (.irem, 1) := by decide +kernel
theorem dX10_foals_35 : decode cX10_foals 35 = .ok (.iastore, 1) := by decide +kernel
theorem dX10_foals_36 : decode cX10_foals 36 = .ok (.aload_n 0, 1) := by decide +kernel
theorem dX10_foals_37 : decode cX10_foals 37 = .ok (.iconst 0, 1) := by decide +kernel
theorem dX10_foals_38 : decode cX10_foals 38 = .ok (.iload_n 3, 1) := by decide +kernel
theorem dX10_foals_39 : decode cX10_foals 39 = .ok (.iadd, 1) := by decide +kernel
theorem dX10_foals_40 : decode cX10_foals 40 = .ok (.aload_n 0, 1) := by decide +kernel
theorem dX10_foals_41 : decode cX10_foals 41 = .ok (.bipush 8, 2) := by decide +kernel
theorem dX10_foals_43 : decode cX10_foals 43 = .ok (.iload_n 3, 1) := by decide +kernel
theorem dX10_foals_44 : decode cX10_foals 44 = .ok (.iadd, 1) := by decide +kernel
theorem dX10_foals_45 : decode cX10_foals 45 = .ok (.iaload, 1) := by decide +kernel
theorem dX10_foals_46 : decode cX10_foals 46 = .ok (.iastore, 1) := by decide +kernel
theorem dX10_foals_47 : decode cX10_foals 47 = .ok (.aload_n 0, 1) := by decide +kernel
theorem dX10_foals_48 : decode cX10_foals 48 = .ok (.bipush 16, 2) := by decide +kernel
theorem dX10_foals_50 : decode cX10_foals 50 = .ok (.iload_n 3, 1) := by decide +kernel
theorem dX10_foals_51 : decode cX10_foals 51 = .ok (.iadd, 1) := by decide +kernel
theorem dX10_foals_52 : decode cX10_foals 52 = .ok (.iconst 0, 1) := by decide +kernel
theorem dX10_foals_53 : decode cX10_foals 53 = .ok (.iastore, 1) := by decide +kernel
theorem dX10_foals_54 : decode cX10_foals 54 = .ok (.aload_n 0, 1) := by decide +kernel
theorem dX10_foals_55 : decode cX10_foals 55 = .ok (.bipush 24, 2) := by decide +kernel
theorem dX10_foals_57 : decode cX10_foals 57 = .ok (.iload_n 3, 1) := by decide +kernel
theorem dX10_foals_58 : decode cX10_foals 58 = .ok (.iadd, 1) := by decide +kernel
theorem dX10_foals_59 : decode cX10_foals 59 = .ok (.iconst 0, 1) := by decide +kernel
theorem dX10_foals_60 : decode cX10_foals 60 = .ok (.iastore, 1) := by decide +kernel
theorem dX10_foals_61 : decode cX10_foals 61 = .ok (.aload_n 0, 1) := by decide +kernel
theorem dX10_foals_62 : decode cX10_foals 62 = .ok (.bipush 42, 2) := by decide +kernel
theorem dX10_foals_64 : decode cX10_foals 64 = .ok (.dup2, 1) := by decide +kernel
theorem dX10_foals_65 : decode cX10_foals 65 = .ok (.iaload, 1) := by decide +kernel
theorem dX10_foals_66 : decode cX10_foals 66 = .ok (.iconst 1, 1) := by decide +kernel
theorem dX10_foals_67 : decode cX10_foals 67 = .ok (.iadd, 1) := by decide +kernel
theorem dX10_foals_68 : decode cX10_foals 68 = .ok (.iastore, 1) := by decide +kernel
theorem dX10_foals_69 : decode cX10_foals 69 = .ok (.iconst 1, 1) := by decide +kernel
theorem dX10_foals_70 : decode cX10_foals 70 = .ok (.ireturn, 1) := by decide +kernel
theorem dX10_yearEnds_0 : decode cX10_yearEnds 0 = .ok (.aload_n 0, 1) := by decide +kernel
theorem dX10_yearEnds_1 : decode cX10_yearEnds 1 = .ok (.bipush 44, 2) := by decide +kernel
theorem dX10_yearEnds_3 : decode cX10_yearEnds 3 = .ok (.dup2, 1) := by decide +kernel
theorem dX10_yearEnds_4 : decode cX10_yearEnds 4 = .ok (.iaload, 1) := by decide +kernel
theorem dX10_yearEnds_5 : decode cX10_yearEnds 5 = .ok (.iconst 1, 1) := by decide +kernel
theorem dX10_yearEnds_6 : decode cX10_yearEnds 6 = .ok (.iadd, 1) := by decide +kernel
theorem dX10_yearEnds_7 : decode cX10_yearEnds 7 = .ok (.iastore, 1) := by decide +kernel
theorem dX10_yearEnds_8 : decode cX10_yearEnds 8 = .ok (.iconst 0, 1) := by decide +kernel
theorem dX10_yearEnds_9 : decode cX10_yearEnds 9 = .ok (.istore_n 1, 1) := by decide +kernel
theorem dX10_yearEnds_10 : decode cX10_yearEnds 10 = .ok (.iload_n 1, 1) := by decide +kernel
theorem dX10_yearEnds_11 : decode cX10_yearEnds 11 = .ok (.aload_n 0, 1) := by decide +kernel
theorem dX10_yearEnds_12 : decode cX10_yearEnds 12 = .ok (.bipush 42, 2) := by decide +kernel
theorem dX10_yearEnds_14 : decode cX10_yearEnds 14 = .ok (.iaload, 1) := by decide +kernel
theorem dX10_yearEnds_15 : decode cX10_yearEnds 15 = .ok (.if_icmp .ge 19, 3) := by decide +kernel
theorem dX10_yearEnds_18 : decode cX10_yearEnds 18 = .ok (.aload_n 0, 1) := by decide +kernel
theorem dX10_yearEnds_19 : decode cX10_yearEnds 19 = .ok (.bipush 16, 2) := by decide +kernel
theorem dX10_yearEnds_21 : decode cX10_yearEnds 21 = .ok (.iload_n 1, 1) := by decide +kernel
theorem dX10_yearEnds_22 : decode cX10_yearEnds 22 = .ok (.iadd, 1) := by decide +kernel
theorem dX10_yearEnds_23 : decode cX10_yearEnds 23 = .ok (.dup2, 1) := by decide +kernel
theorem dX10_yearEnds_24 : decode cX10_yearEnds 24 = .ok (.iaload, 1) := by decide +kernel
theorem dX10_yearEnds_25 : decode cX10_yearEnds 25 = .ok (.iconst 1, 1) := by decide +kernel
theorem dX10_yearEnds_26 : decode cX10_yearEnds 26 = .ok (.iadd, 1) := by decide +kernel
theorem dX10_yearEnds_27 : decode cX10_yearEnds 27 = .ok (.iastore, 1) := by decide +kernel
theorem dX10_yearEnds_28 : decode cX10_yearEnds 28 = .ok (.iinc 1 1, 3) := by decide +kernel
theorem dX10_yearEnds_31 : decode cX10_yearEnds 31 = .ok (.goto (-21), 3) := by decide +kernel
theorem dX10_yearEnds_34 : decode cX10_yearEnds 34 = .ok (.return_, 1) := by decide +kernel
theorem dX10_does_0 : decode cX10_does 0 = .ok (.aload_n 2, 1) := by decide +kernel
theorem dX10_does_1 : decode cX10_does 1 = .ok (.iconst 0, 1) := by decide +kernel
theorem dX10_does_2 : decode cX10_does 2 = .ok (.iaload, 1) := by decide +kernel
theorem dX10_does_3 : decode cX10_does 3 = .ok (.tableswitch 80 0 4 #[33, 33, 49, 57, 69], 33) := by decide +kernel
theorem dX10_does_36 : decode cX10_does 36 = .ok (.aload_n 1, 1) := by decide +kernel
theorem dX10_does_37 : decode cX10_does 37 = .ok (.aload_n 2, 1) := by decide +kernel
theorem dX10_does_38 : decode cX10_does 38 = .ok (.iconst 1, 1) := by decide +kernel
theorem dX10_does_39 : decode cX10_does 39 = .ok (.iaload, 1) := by decide +kernel
theorem dX10_does_40 : decode cX10_does 40 = .ok (.aload_n 2, 1) := by decide +kernel
theorem dX10_does_41 : decode cX10_does 41 = .ok (.iconst 2, 1) := by decide +kernel
theorem dX10_does_42 : decode cX10_does 42 = .ok (.iaload, 1) := by decide +kernel
theorem dX10_does_43 : decode cX10_does 43 = .ok (.iconst 1, 1) := by decide +kernel
theorem dX10_does_44 : decode cX10_does 44 = .ok (.aload_n 2, 1) := by decide +kernel
theorem dX10_does_45 : decode cX10_does 45 = .ok (.iconst 0, 1) := by decide +kernel
theorem dX10_does_46 : decode cX10_does 46 = .ok (.iaload, 1) := by decide +kernel
theorem dX10_does_47 : decode cX10_does 47 = .ok (.isub, 1) := by decide +kernel
theorem dX10_does_48 : decode cX10_does 48 = .ok (.invokestatic 265, 3) := by decide +kernel
theorem dX10_does_51 : decode cX10_does 51 = .ok (.ireturn, 1) := by decide +kernel
theorem dX10_does_52 : decode cX10_does 52 = .ok (.aload_n 1, 1) := by decide +kernel
theorem dX10_does_53 : decode cX10_does 53 = .ok (.aload_n 2, 1) := by decide +kernel
theorem dX10_does_54 : decode cX10_does 54 = .ok (.iconst 1, 1) := by decide +kernel
theorem dX10_does_55 : decode cX10_does 55 = .ok (.iaload, 1) := by decide +kernel
theorem dX10_does_56 : decode cX10_does 56 = .ok (.invokestatic 269, 3) := by decide +kernel
theorem dX10_does_59 : decode cX10_does 59 = .ok (.ireturn, 1) := by decide +kernel
theorem dX10_does_60 : decode cX10_does 60 = .ok (.aload_n 0, 1) := by decide +kernel
theorem dX10_does_61 : decode cX10_does 61 = .ok (.aload_n 1, 1) := by decide +kernel
theorem dX10_does_62 : decode cX10_does 62 = .ok (.aload_n 2, 1) := by decide +kernel
theorem dX10_does_63 : decode cX10_does 63 = .ok (.iconst 1, 1) := by decide +kernel
theorem dX10_does_64 : decode cX10_does 64 = .ok (.iaload, 1) := by decide +kernel
theorem dX10_does_65 : decode cX10_does 65 = .ok (.aload_n 2, 1) := by decide +kernel
theorem dX10_does_66 : decode cX10_does 66 = .ok (.iconst 2, 1) := by decide +kernel
theorem dX10_does_67 : decode cX10_does 67 = .ok (.iaload, 1) := by decide +kernel
theorem dX10_does_68 : decode cX10_does 68 = .ok (.invokevirtual 273, 3) := by decide +kernel
theorem dX10_does_71 : decode cX10_does 71 = .ok (.ireturn, 1) := by decide +kernel
theorem dX10_does_72 : decode cX10_does 72 = .ok (.aload_n 1, 1) := by decide +kernel
theorem dX10_does_73 : decode cX10_does 73 = .ok (.aload_n 2, 1) := by decide +kernel
theorem dX10_does_74 : decode cX10_does 74 = .ok (.iconst 1, 1) := by decide +kernel
theorem dX10_does_75 : decode cX10_does 75 = .ok (.iaload, 1) := by decide +kernel
theorem dX10_does_76 : decode cX10_does 76 = .ok (.aload_n 2, 1) := by decide +kernel
theorem dX10_does_77 : decode cX10_does 77 = .ok (.iconst 2, 1) := by decide +kernel
theorem dX10_does_78 : decode cX10_does 78 = .ok (.iaload, 1) := by decide +kernel
theorem dX10_does_79 : decode cX10_does 79 = .ok (.invokestatic 276, 3) := by decide +kernel
theorem dX10_does_82 : decode cX10_does 82 = .ok (.ireturn, 1) := by decide +kernel
theorem dX10_does_83 : decode cX10_does 83 = .ok (.aload_n 1, 1) := by decide +kernel
theorem dX10_does_84 : decode cX10_does 84 = .ok (.bipush 44, 2) := by decide +kernel
theorem dX10_does_86 : decode cX10_does 86 = .ok (.iaload, 1) := by decide +kernel
theorem dX10_does_87 : decode cX10_does 87 = .ok (.sipush 300, 3) := by decide +kernel
theorem dX10_does_90 : decode cX10_does 90 = .ok (.if_icmp .lt 5, 3) := by decide +kernel
theorem dX10_does_93 : decode cX10_does 93 = .ok (.iconst 0, 1) := by decide +kernel
theorem dX10_does_94 : decode cX10_does 94 = .ok (.ireturn, 1) := by decide +kernel
theorem dX10_does_95 : decode cX10_does 95 = .ok (.aload_n 1, 1) := by decide +kernel
theorem dX10_does_96 : decode cX10_does 96 = .ok (.invokestatic 279, 3) := by decide +kernel
theorem dX10_does_99 : decode cX10_does 99 = .ok (.iconst 1, 1) := by decide +kernel
theorem dX10_does_100 : decode cX10_does 100 = .ok (.ireturn, 1) := by decide +kernel
theorem dX10_goes_0 : decode cX10_goes 0 = .ok (.iload_n 1, 1) := by decide +kernel
theorem dX10_goes_1 : decode cX10_goes 1 = .ok (.istore_n 3, 1) := by decide +kernel
theorem dX10_goes_2 : decode cX10_goes 2 = .ok (.iload_n 3, 1) := by decide +kernel
theorem dX10_goes_3 : decode cX10_goes 3 = .ok (.iload_n 2, 1) := by decide +kernel
theorem dX10_goes_4 : decode cX10_goes 4 = .ok (.if_icmp .ge 152, 3) := by decide +kernel
theorem dX10_goes_7 : decode cX10_goes 7 = .ok (.aload_n 0, 1) := by decide +kernel
theorem dX10_goes_8 : decode cX10_goes 8 = .ok (.getfield 283, 3) := by decide +kernel
theorem dX10_goes_11 : decode cX10_goes 11 = .ok (.sipush 200, 3) := by decide +kernel
theorem dX10_goes_14 : decode cX10_goes 14 = .ok (.if_icmp .ge 142, 3) := by decide +kernel
theorem dX10_goes_17 : decode cX10_goes 17 = .ok (.aload_n 0, 1) := by decide +kernel
theorem dX10_goes_18 : decode cX10_goes 18 = .ok (.dup, 1) := by decide +kernel
theorem dX10_goes_19 : decode cX10_goes 19 = .ok (.getfield 283, 3) := by decide +kernel
theorem dX10_goes_22 : decode cX10_goes 22 = .ok (.iconst 1, 1) := by decide +kernel
theorem dX10_goes_23 : decode cX10_goes 23 = .ok (.iadd, 1) := by decide +kernel
theorem dX10_goes_24 : decode cX10_goes 24 = .ok (.putfield 283, 3) := by decide +kernel
theorem dX10_goes_27 : decode cX10_goes 27 = .ok (.aload_n 0, 1) := by decide +kernel
theorem dX10_goes_28 : decode cX10_goes 28 = .ok (.getfield 58, 3) := by decide +kernel
theorem dX10_goes_31 : decode cX10_goes 31 = .ok (.iload_n 3, 1) := by decide +kernel
theorem dX10_goes_32 : decode cX10_goes 32 = .ok (.aaload, 1) := by decide +kernel
theorem dX10_goes_33 : decode cX10_goes 33 = .ok (.iconst 0, 1) := by decide +kernel
theorem dX10_goes_34 : decode cX10_goes 34 = .ok (.iaload, 1) := by decide +kernel
theorem dX10_goes_35 : decode cX10_goes 35 = .ok (.bipush 6, 2) := by decide +kernel
theorem dX10_goes_37 : decode cX10_goes 37 = .ok (.if_icmp .ne 53, 3) := by decide +kernel
theorem dX10_goes_40 : decode cX10_goes 40 = .ok (.iconst 0, 1) := by decide +kernel
theorem dX10_goes_41 : decode cX10_goes 41 = .ok (.istore 4, 2) := by decide +kernel
theorem dX10_goes_43 : decode cX10_goes 43 = .ok (.iload 4, 2) := by decide +kernel
theorem dX10_goes_45 : decode cX10_goes 45 = .ok (.aload_n 0, 1) := by decide +kernel
theorem dX10_goes_46 : decode cX10_goes 46 = .ok (.getfield 58, 3) := by decide +kernel
theorem dX10_goes_49 : decode cX10_goes 49 = .ok (.iload_n 3, 1) := by decide +kernel
theorem dX10_goes_50 : decode cX10_goes 50 = .ok (.aaload, 1) := by decide +kernel
theorem dX10_goes_51 : decode cX10_goes 51 = .ok (.iconst 1, 1) := by decide +kernel
theorem dX10_goes_52 : decode cX10_goes 52 = .ok (.iaload, 1) := by decide +kernel
theorem dX10_goes_53 : decode cX10_goes 53 = .ok (.if_icmp .ge 34, 3) := by decide +kernel
theorem dX10_goes_56 : decode cX10_goes 56 = .ok (.aload_n 0, 1) := by decide +kernel
theorem dX10_goes_57 : decode cX10_goes 57 = .ok (.getfield 283, 3) := by decide +kernel
theorem dX10_goes_60 : decode cX10_goes 60 = .ok (.sipush 200, 3) := by decide +kernel
theorem dX10_goes_63 : decode cX10_goes 63 = .ok (.if_icmp .ge 24, 3) := by decide +kernel
theorem dX10_goes_66 : decode cX10_goes 66 = .ok (.aload_n 0, 1) := by decide +kernel
theorem dX10_goes_67 : decode cX10_goes 67 = .ok (.iload_n 3, 1) := by decide +kernel
theorem dX10_goes_68 : decode cX10_goes 68 = .ok (.iconst 1, 1) := by decide +kernel
theorem dX10_goes_69 : decode cX10_goes 69 = .ok (.iadd, 1) := by decide +kernel
theorem dX10_goes_70 : decode cX10_goes 70 = .ok (.aload_n 0, 1) := by decide +kernel
theorem dX10_goes_71 : decode cX10_goes 71 = .ok (.getfield 58, 3) := by decide +kernel
theorem dX10_goes_74 : decode cX10_goes 74 = .ok (.iload_n 3, 1) := by decide +kernel
theorem dX10_goes_75 : decode cX10_goes 75 = .ok (.aaload, 1) := by decide +kernel
theorem dX10_goes_76 : decode cX10_goes 76 = .ok (.iconst 3, 1) := by decide +kernel
theorem dX10_goes_77 : decode cX10_goes 77 = .ok (.iaload, 1) := by decide +kernel
theorem dX10_goes_78 : decode cX10_goes 78 = .ok (.invokevirtual 286, 3) := by decide +kernel
theorem dX10_goes_81 : decode cX10_goes 81 = .ok (.iinc 4 1, 3) := by decide +kernel
theorem dX10_goes_84 : decode cX10_goes 84 = .ok (.goto (-41), 3) := by decide +kernel
theorem dX10_goes_87 : decode cX10_goes 87 = .ok (.goto 57, 3) := by decide +kernel
theorem dX10_goes_90 : decode cX10_goes 90 = .ok (.aload_n 0, 1) := by decide +kernel
theorem dX10_goes_91 : decode cX10_goes 91 = .ok (.aload_n 0, 1) := by decide +kernel
theorem dX10_goes_92 : decode cX10_goes 92 = .ok (.getfield 61, 3) := by decide +kernel
theorem dX10_goes_95 : decode cX10_goes 95 = .ok (.aload_n 0, 1) := by decide +kernel
theorem dX10_goes_96 : decode cX10_goes 96 = .ok (.getfield 58, 3) := by decide +kernel
theorem dX10_goes_99 : decode cX10_goes 99 = .ok (.iload_n 3, 1) := by decide +kernel
theorem dX10_goes_100 : decode cX10_goes 100 = .ok (.aaload, 1) := by decide +kernel
theorem dX10_goes_101 : decode cX10_goes 101 = .ok (.invokevirtual 289, 3) := by decide +kernel
theorem dX10_goes_104 : decode cX10_goes 104 = .ok (.istore 4, 2) := by decide +kernel
theorem dX10_goes_106 : decode cX10_goes 106 = .ok (.aload_n 0, 1) := by decide +kernel
theorem dX10_goes_107 : decode cX10_goes 107 = .ok (.dup, 1) := by decide +kernel
theorem dX10_goes_108 : decode cX10_goes 108 = .ok (.getfield 293, 3) := by decide +kernel
theorem dX10_goes_111 : decode cX10_goes 111 = .ok (.iload 4, 2) := by decide +kernel
theorem dX10_goes_113 : decode cX10_goes 113 = .ok (.ifCond .eq 7, 3) := by decide +kernel
theorem dX10_goes_116 : decode cX10_goes 116 = .ok (.iconst 1, 1) := by decide +kernel
theorem dX10_goes_117 : decode cX10_goes 117 = .ok (.goto 4, 3) := by decide +kernel
theorem dX10_goes_120 : decode cX10_goes 120 = .ok (.iconst 0, 1) := by decide +kernel
theorem dX10_goes_121 : decode cX10_goes 121 = .ok (.iadd, 1) := by decide +kernel
theorem dX10_goes_122 : decode cX10_goes 122 = .ok (.putfield 293, 3) := by decide +kernel
theorem dX10_goes_125 : decode cX10_goes 125 = .ok (.aload_n 0, 1) := by decide +kernel
theorem dX10_goes_126 : decode cX10_goes 126 = .ok (.dup, 1) := by decide +kernel
theorem dX10_goes_127 : decode cX10_goes 127 = .ok (.getfield 187, 3) := by decide +kernel
theorem dX10_goes_130 : decode cX10_goes 130 = .ok (.iload 4, 2) := by decide +kernel
theorem dX10_goes_132 : decode cX10_goes 132 = .ok (.ifCond .eq 7, 3) := by decide +kernel
theorem dX10_goes_135 : decode cX10_goes 135 = .ok (.iconst 0, 1) := by decide +kernel
theorem dX10_goes_136 : decode cX10_goes 136 = .ok (.goto 4, 3) := by decide +kernel
theorem dX10_goes_139 : decode cX10_goes 139 = .ok (.iconst 1, 1) := by decide +kernel
theorem dX10_goes_140 : decode cX10_goes 140 = .ok (.iadd, 1) := by decide +kernel
theorem dX10_goes_141 : decode cX10_goes 141 = .ok (.putfield 187, 3) := by decide +kernel
theorem dX10_goes_144 : decode cX10_goes 144 = .ok (.aload_n 0, 1) := by decide +kernel
theorem dX10_goes_145 : decode cX10_goes 145 = .ok (.getfield 58, 3) := by decide +kernel
theorem dX10_goes_148 : decode cX10_goes 148 = .ok (.iload_n 3, 1) := by decide +kernel
theorem dX10_goes_149 : decode cX10_goes 149 = .ok (.aaload, 1) := by decide +kernel
theorem dX10_goes_150 : decode cX10_goes 150 = .ok (.iconst 3, 1) := by decide +kernel
theorem dX10_goes_151 : decode cX10_goes 151 = .ok (.iaload, 1) := by decide +kernel
theorem dX10_goes_152 : decode cX10_goes 152 = .ok (.istore_n 3, 1) := by decide +kernel
theorem dX10_goes_153 : decode cX10_goes 153 = .ok (.goto (-151), 3) := by decide +kernel
theorem dX10_goes_156 : decode cX10_goes 156 = .ok (.return_, 1) := by decide +kernel
theorem dX10_work_0 : decode cX10_work 0 = .ok (.aload_n 0, 1) := by decide +kernel
theorem dX10_work_1 : decode cX10_work 1 = .ok (.iconst 0, 1) := by decide +kernel
theorem dX10_work_2 : decode cX10_work 2 = .ok (.putfield 88, 3) := by decide +kernel
theorem dX10_work_5 : decode cX10_work 5 = .ok (.aload_n 0, 1) := by decide +kernel
theorem dX10_work_6 : decode cX10_work 6 = .ok (.iload_n 1, 1) := by decide +kernel
theorem dX10_work_7 : decode cX10_work 7 = .ok (.iconst 0, 1) := by decide +kernel
theorem dX10_work_8 : decode cX10_work 8 = .ok (.aload_n 0, 1) := by decide +kernel
theorem dX10_work_9 : decode cX10_work 9 = .ok (.getfield 91, 3) := by decide +kernel
theorem dX10_work_12 : decode cX10_work 12 = .ok (.invokestatic 122, 3) := by decide +kernel
theorem dX10_work_15 : decode cX10_work 15 = .ok (.ifCond .eq 10, 3) := by decide +kernel
theorem dX10_work_18 : decode cX10_work 18 = .ok (.iload_n 1, 1) := by decide +kernel
theorem dX10_work_19 : decode cX10_work 19 = .ok (.sipush 150, 3) := by decide +kernel
theorem dX10_work_22 : decode cX10_work 22 = .ok (.if_icmp .le 7, 3) := by decide +kernel
theorem dX10_work_25 : decode cX10_work 25 = .ok (.iconst 1, 1) := by decide +kernel
theorem dX10_work_26 : decode cX10_work 26 = .ok (.goto 4, 3) := by decide +kernel
theorem dX10_work_29 : decode cX10_work 29 = .ok (.iconst 0, 1) := by decide +kernel
theorem dX10_work_30 : decode cX10_work 30 = .ok (.iconst 1, 1) := by decide +kernel
theorem dX10_work_31 : decode cX10_work 31 = .ok (.iconst 1, 1) := by decide +kernel
theorem dX10_work_32 : decode cX10_work 32 = .ok (.invokevirtual 164, 3) := by decide +kernel
theorem dX10_work_35 : decode cX10_work 35 = .ok (.ifCond .eq 5, 3) := by decide +kernel
theorem dX10_work_38 : decode cX10_work 38 = .ok (.iconst 0, 1) := by decide +kernel
theorem dX10_work_39 : decode cX10_work 39 = .ok (.ireturn, 1) := by decide +kernel
theorem dX10_work_40 : decode cX10_work 40 = .ok (.aload_n 0, 1) := by decide +kernel
theorem dX10_work_41 : decode cX10_work 41 = .ok (.getfield 184, 3) := by decide +kernel
theorem dX10_work_44 : decode cX10_work 44 = .ok (.bipush 16, 2) := by decide +kernel
theorem dX10_work_46 : decode cX10_work 46 = .ok (.if_icmp .ne 16, 3) := by decide +kernel
theorem dX10_work_49 : decode cX10_work 49 = .ok (.aload_n 0, 1) := by decide +kernel
theorem dX10_work_50 : decode cX10_work 50 = .ok (.iconst 0, 1) := by decide +kernel
theorem dX10_work_51 : decode cX10_work 51 = .ok (.putfield 91, 3) := by decide +kernel
theorem dX10_work_54 : decode cX10_work 54 = .ok (.aload_n 0, 1) := by decide +kernel
theorem dX10_work_55 : decode cX10_work 55 = .ok (.iconst (-1), 1) := by decide +kernel
theorem dX10_work_56 : decode cX10_work 56 = .ok (.putfield 9, 3) := by decide +kernel
theorem dX10_work_59 : decode cX10_work 59 = .ok (.bipush (-20), 2) := by decide +kernel
theorem dX10_work_61 : decode cX10_work 61 = .ok (.ireturn, 1) := by decide +kernel
theorem dX10_work_62 : decode cX10_work 62 = .ok (.aload_n 0, 1) := by decide +kernel
theorem dX10_work_63 : decode cX10_work 63 = .ok (.iload_n 1, 1) := by decide +kernel
theorem dX10_work_64 : decode cX10_work 64 = .ok (.invokevirtual 168, 3) := by decide +kernel
theorem dX10_work_67 : decode cX10_work 67 = .ok (.aload_n 0, 1) := by decide +kernel
theorem dX10_work_68 : decode cX10_work 68 = .ok (.iconst 0, 1) := by decide +kernel
theorem dX10_work_69 : decode cX10_work 69 = .ok (.putfield 234, 3) := by decide +kernel
theorem dX10_work_72 : decode cX10_work 72 = .ok (.aload_n 0, 1) := by decide +kernel
theorem dX10_work_73 : decode cX10_work 73 = .ok (.getfield 104, 3) := by decide +kernel
theorem dX10_work_76 : decode cX10_work 76 = .ok (.ifCond .ne 25, 3) := by decide +kernel
theorem dX10_work_79 : decode cX10_work 79 = .ok (.aload_n 0, 1) := by decide +kernel
theorem dX10_work_80 : decode cX10_work 80 = .ok (.getfield 97, 3) := by decide +kernel
theorem dX10_work_83 : decode cX10_work 83 = .ok (.aload_n 0, 1) := by decide +kernel
theorem dX10_work_84 : decode cX10_work 84 = .ok (.getfield 94, 3) := by decide +kernel
theorem dX10_work_87 : decode cX10_work 87 = .ok (.if_icmp .ge 14, 3) := by decide +kernel
theorem dX10_work_90 : decode cX10_work 90 = .ok (.aload_n 0, 1) := by decide +kernel
theorem dX10_work_91 : decode cX10_work 91 = .ok (.invokevirtual 237, 3) := by decide +kernel
theorem dX10_work_94 : decode cX10_work 94 = .ok (.aload_n 0, 1) := by decide +kernel
theorem dX10_work_95 : decode cX10_work 95 = .ok (.invokevirtual 110, 3) := by decide +kernel
theorem dX10_work_98 : decode cX10_work 98 = .ok (.goto (-26), 3) := by decide +kernel
theorem dX10_work_101 : decode cX10_work 101 = .ok (.aload_n 0, 1) := by decide +kernel
theorem dX10_work_102 : decode cX10_work 102 = .ok (.getfield 104, 3) := by decide +kernel
theorem dX10_work_105 : decode cX10_work 105 = .ok (.ifCond .eq 8, 3) := by decide +kernel
theorem dX10_work_108 : decode cX10_work 108 = .ok (.aload_n 0, 1) := by decide +kernel
theorem dX10_work_109 : decode cX10_work 109 = .ok (.invokevirtual 174, 3) := by decide +kernel
theorem dX10_work_112 : decode cX10_work 112 = .ok (.ireturn, 1) := by decide +kernel
theorem dX10_work_113 : decode cX10_work 113 = .ok (.aload_n 0, 1) := by decide +kernel
theorem dX10_work_114 : decode cX10_work 114 = .ok (.iconst (-1), 1) := by decide +kernel
theorem dX10_work_115 : decode cX10_work 115 = .ok (.putfield 9, 3) := by decide +kernel
theorem dX10_work_118 : decode cX10_work 118 = .ok (.aload_n 0, 1) := by decide +kernel
theorem dX10_work_119 : decode cX10_work 119 = .ok (.getfield 61, 3) := by decide +kernel
theorem dX10_work_122 : decode cX10_work 122 = .ok (.aload_n 0, 1) := by decide +kernel
theorem dX10_work_123 : decode cX10_work 123 = .ok (.getfield 67, 3) := by decide +kernel
theorem dX10_work_126 : decode cX10_work 126 = .ok (.aload_n 0, 1) := by decide +kernel
theorem dX10_work_127 : decode cX10_work 127 = .ok (.getfield 184, 3) := by decide +kernel
theorem dX10_work_130 : decode cX10_work 130 = .ok (.aaload, 1) := by decide +kernel
theorem dX10_work_131 : decode cX10_work 131 = .ok (.invokestatic 296, 3) := by decide +kernel
theorem dX10_work_134 : decode cX10_work 134 = .ok (.aload_n 0, 1) := by decide +kernel
theorem dX10_work_135 : decode cX10_work 135 = .ok (.dup, 1) := by decide +kernel
theorem dX10_work_136 : decode cX10_work 136 = .ok (.getfield 184, 3) := by decide +kernel
theorem dX10_work_139 : decode cX10_work 139 = .ok (.iconst 1, 1) := by decide +kernel
theorem dX10_work_140 : decode cX10_work 140 = .ok (.iadd, 1) := by decide +kernel
theorem dX10_work_141 : decode cX10_work 141 = .ok (.putfield 184, 3) := by decide +kernel
theorem dX10_work_144 : decode cX10_work 144 = .ok (.aload_n 0, 1) := by decide +kernel
theorem dX10_work_145 : decode cX10_work 145 = .ok (.iconst 0, 1) := by decide +kernel
theorem dX10_work_146 : decode cX10_work 146 = .ok (.putfield 283, 3) := by decide +kernel
theorem dX10_work_149 : decode cX10_work 149 = .ok (.aload_n 0, 1) := by decide +kernel
theorem dX10_work_150 : decode cX10_work 150 = .ok (.iconst 0, 1) := by decide +kernel
theorem dX10_work_151 : decode cX10_work 151 = .ok (.putfield 293, 3) := by decide +kernel
theorem dX10_work_154 : decode cX10_work 154 = .ok (.aload_n 0, 1) := by decide +kernel
theorem dX10_work_155 : decode cX10_work 155 = .ok (.iconst 0, 1) := by decide +kernel
theorem dX10_work_156 : decode cX10_work 156 = .ok (.putfield 187, 3) := by decide +kernel
theorem dX10_work_159 : decode cX10_work 159 = .ok (.aload_n 0, 1) := by decide +kernel
theorem dX10_work_160 : decode cX10_work 160 = .ok (.iconst 0, 1) := by decide +kernel
theorem dX10_work_161 : decode cX10_work 161 = .ok (.aload_n 0, 1) := by decide +kernel
theorem dX10_work_162 : decode cX10_work 162 = .ok (.getfield 234, 3) := by decide +kernel
theorem dX10_work_165 : decode cX10_work 165 = .ok (.invokevirtual 286, 3) := by decide +kernel
theorem dX10_work_168 : decode cX10_work 168 = .ok (.aload_n 0, 1) := by decide +kernel
theorem dX10_work_169 : decode cX10_work 169 = .ok (.getfield 293, 3) := by decide +kernel
theorem dX10_work_172 : decode cX10_work 172 = .ok (.ireturn, 1) := by decide +kernel
theorem dX10_undo_0 : decode cX10_undo 0 = .ok (.aload_n 0, 1) := by decide +kernel
theorem dX10_undo_1 : decode cX10_undo 1 = .ok (.iconst 0, 1) := by decide +kernel
theorem dX10_undo_2 : decode cX10_undo 2 = .ok (.putfield 88, 3) := by decide +kernel
theorem dX10_undo_5 : decode cX10_undo 5 = .ok (.aload_n 0, 1) := by decide +kernel
theorem dX10_undo_6 : decode cX10_undo 6 = .ok (.getfield 184, 3) := by decide +kernel
theorem dX10_undo_9 : decode cX10_undo 9 = .ok (.ifCond .ne 5, 3) := by decide +kernel
theorem dX10_undo_12 : decode cX10_undo 12 = .ok (.iconst (-1), 1) := by decide +kernel
theorem dX10_undo_13 : decode cX10_undo 13 = .ok (.ireturn, 1) := by decide +kernel
theorem dX10_undo_14 : decode cX10_undo 14 = .ok (.aload_n 0, 1) := by decide +kernel
theorem dX10_undo_15 : decode cX10_undo 15 = .ok (.dup, 1) := by decide +kernel
theorem dX10_undo_16 : decode cX10_undo 16 = .ok (.getfield 184, 3) := by decide +kernel
theorem dX10_undo_19 : decode cX10_undo 19 = .ok (.iconst 1, 1) := by decide +kernel
theorem dX10_undo_20 : decode cX10_undo 20 = .ok (.isub, 1) := by decide +kernel
theorem dX10_undo_21 : decode cX10_undo 21 = .ok (.putfield 184, 3) := by decide +kernel
theorem dX10_undo_24 : decode cX10_undo 24 = .ok (.aload_n 0, 1) := by decide +kernel
theorem dX10_undo_25 : decode cX10_undo 25 = .ok (.getfield 67, 3) := by decide +kernel
theorem dX10_undo_28 : decode cX10_undo 28 = .ok (.aload_n 0, 1) := by decide +kernel
theorem dX10_undo_29 : decode cX10_undo 29 = .ok (.getfield 184, 3) := by decide +kernel
theorem dX10_undo_32 : decode cX10_undo 32 = .ok (.aaload, 1) := by decide +kernel
theorem dX10_undo_33 : decode cX10_undo 33 = .ok (.aload_n 0, 1) := by decide +kernel
theorem dX10_undo_34 : decode cX10_undo 34 = .ok (.getfield 61, 3) := by decide +kernel
theorem dX10_undo_37 : decode cX10_undo 37 = .ok (.invokestatic 296, 3) := by decide +kernel
theorem dX10_undo_40 : decode cX10_undo 40 = .ok (.aload_n 0, 1) := by decide +kernel
theorem dX10_undo_41 : decode cX10_undo 41 = .ok (.iconst 0, 1) := by decide +kernel
theorem dX10_undo_42 : decode cX10_undo 42 = .ok (.putfield 187, 3) := by decide +kernel
theorem dX10_undo_45 : decode cX10_undo 45 = .ok (.aload_n 0, 1) := by decide +kernel
theorem dX10_undo_46 : decode cX10_undo 46 = .ok (.getfield 184, 3) := by decide +kernel
theorem dX10_undo_49 : decode cX10_undo 49 = .ok (.ireturn, 1) := by decide +kernel
theorem dX10_changedIn_0 : decode cX10_changedIn 0 = .ok (.iconst 0, 1) := by decide +kernel
theorem dX10_changedIn_1 : decode cX10_changedIn 1 = .ok (.istore_n 1, 1) := by decide +kernel
theorem dX10_changedIn_2 : decode cX10_changedIn 2 = .ok (.iconst 0, 1) := by decide +kernel
theorem dX10_changedIn_3 : decode cX10_changedIn 3 = .ok (.istore_n 2, 1) := by decide +kernel
theorem dX10_changedIn_4 : decode cX10_changedIn 4 = .ok (.iload_n 2, 1) := by decide +kernel
theorem dX10_changedIn_5 : decode cX10_changedIn 5 = .ok (.aload_n 0, 1) := by decide +kernel
theorem dX10_changedIn_6 : decode cX10_changedIn 6 = .ok (.bipush 42, 2) := by decide +kernel
theorem dX10_changedIn_8 : decode cX10_changedIn 8 = .ok (.iaload, 1) := by decide +kernel
theorem dX10_changedIn_9 : decode cX10_changedIn 9 = .ok (.if_icmp .ge 33, 3) := by decide +kernel
theorem dX10_changedIn_12 : decode cX10_changedIn 12 = .ok (.iload_n 1, 1) := by decide +kernel
theorem dX10_changedIn_13 : decode cX10_changedIn 13 = .ok (.aload_n 0, 1) := by decide +kernel
theorem dX10_changedIn_14 : decode cX10_changedIn 14 = .ok (.iconst 0, 1) := by decide +kernel
theorem dX10_changedIn_15 : decode cX10_changedIn 15 = .ok (.iload_n 2, 1) := by decide +kernel
theorem dX10_changedIn_16 : decode cX10_changedIn 16 = .ok (.iadd, 1) := by decide +kernel
theorem dX10_changedIn_17 : decode cX10_changedIn 17 = .ok (.iaload, 1) := by decide +kernel
theorem dX10_changedIn_18 : decode cX10_changedIn 18 = .ok (.aload_n 0, 1) := by decide +kernel
theorem dX10_changedIn_19 : decode cX10_changedIn 19 = .ok (.bipush 8, 2) := by decide +kernel
theorem dX10_changedIn_21 : decode cX10_changedIn 21 = .ok (.iload_n 2, 1) := by decide +kernel
theorem dX10_changedIn_22 : decode cX10_changedIn 22 = .ok (.iadd, 1) := by decide +kernel
theorem dX10_changedIn_23 : decode cX10_changedIn 23 = .ok (.iaload, 1) := by decide +kernel
theorem dX10_changedIn_24 : decode cX10_changedIn 24 = .ok (.if_icmp .eq 9, 3) := by decide +kernel
theorem dX10_changedIn_27 : decode cX10_changedIn 27 = .ok (.iconst 1, 1) := by decide +kernel
theorem dX10_changedIn_28 : decode cX10_changedIn 28 = .ok (.iload_n 2, 1) := by decide +kernel
theorem dX10_changedIn_29 : decode cX10_changedIn 29 = .ok (.ishl, 1) := by decide +kernel
theorem dX10_changedIn_30 : decode cX10_changedIn 30 = .ok (.goto 4, 3) := by decide +kernel
theorem dX10_changedIn_33 : decode cX10_changedIn 33 = .ok (.iconst 0, 1) := by decide +kernel
theorem dX10_changedIn_34 : decode cX10_changedIn 34 = .ok (.ior, 1) := by decide +kernel
theorem dX10_changedIn_35 : decode cX10_changedIn 35 = .ok (.istore_n 1, 1) := by decide +kernel
theorem dX10_changedIn_36 : decode cX10_changedIn 36 = .ok (.iinc 2 1, 3) := by decide +kernel
theorem dX10_changedIn_39 : decode cX10_changedIn 39 = .ok (.goto (-35), 3) := by decide +kernel
theorem dX10_changedIn_42 : decode cX10_changedIn 42 = .ok (.iload_n 1, 1) := by decide +kernel
theorem dX10_changedIn_43 : decode cX10_changedIn 43 = .ok (.ireturn, 1) := by decide +kernel
theorem dX10_tookAll_0 : decode cX10_tookAll 0 = .ok (.iconst 0, 1) := by decide +kernel
theorem dX10_tookAll_1 : decode cX10_tookAll 1 = .ok (.istore_n 1, 1) := by decide +kernel
theorem dX10_tookAll_2 : decode cX10_tookAll 2 = .ok (.iconst 0, 1) := by decide +kernel
theorem dX10_tookAll_3 : decode cX10_tookAll 3 = .ok (.istore_n 2, 1) := by decide +kernel
theorem dX10_tookAll_4 : decode cX10_tookAll 4 = .ok (.iload_n 2, 1) := by decide +kernel
theorem dX10_tookAll_5 : decode cX10_tookAll 5 = .ok (.aload_n 0, 1) := by decide +kernel
theorem dX10_tookAll_6 : decode cX10_tookAll 6 = .ok (.getfield 23, 3) := by decide +kernel
theorem dX10_tookAll_9 : decode cX10_tookAll 9 = .ok (.iconst 1, 1) := by decide +kernel
theorem dX10_tookAll_10 : decode cX10_tookAll 10 = .ok (.iaload, 1) := by decide +kernel
theorem dX10_tookAll_11 : decode cX10_tookAll 11 = .ok (.if_icmp .ge 21, 3) := by decide +kernel
theorem dX10_tookAll_14 : decode cX10_tookAll 14 = .ok (.iload_n 1, 1) := by decide +kernel
theorem dX10_tookAll_15 : decode cX10_tookAll 15 = .ok (.aload_n 0, 1) := by decide +kernel
theorem dX10_tookAll_16 : decode cX10_tookAll 16 = .ok (.getfield 61, 3) := by decide +kernel
theorem dX10_tookAll_19 : decode cX10_tookAll 19 = .ok (.bipush 37, 2) := by decide +kernel
theorem dX10_tookAll_21 : decode cX10_tookAll 21 = .ok (.iload_n 2, 1) := by decide +kernel
theorem dX10_tookAll_22 : decode cX10_tookAll 22 = .ok (.iadd, 1) := by decide +kernel
theorem dX10_tookAll_23 : decode cX10_tookAll 23 = .ok (.iaload, 1) := by decide +kernel
theorem dX10_tookAll_24 : decode cX10_tookAll 24 = .ok (.iadd, 1) := by decide +kernel
theorem dX10_tookAll_25 : decode cX10_tookAll 25 = .ok (.istore_n 1, 1) := by decide +kernel
theorem dX10_tookAll_26 : decode cX10_tookAll 26 = .ok (.iinc 2 1, 3) := by decide +kernel
theorem dX10_tookAll_29 : decode cX10_tookAll 29 = .ok (.goto (-25), 3) := by decide +kernel
theorem dX10_tookAll_32 : decode cX10_tookAll 32 = .ok (.iload_n 1, 1) := by decide +kernel
theorem dX10_tookAll_33 : decode cX10_tookAll 33 = .ok (.ireturn, 1) := by decide +kernel
theorem dX10_told_0 : decode cX10_told 0 = .ok (.aload_n 0, 1) := by decide +kernel
theorem dX10_told_1 : decode cX10_told 1 = .ok (.iconst 0, 1) := by decide +kernel
theorem dX10_told_2 : decode cX10_told 2 = .ok (.putfield 88, 3) := by decide +kernel
theorem dX10_told_5 : decode cX10_told 5 = .ok (.aload_n 0, 1) := by decide +kernel
theorem dX10_told_6 : decode cX10_told 6 = .ok (.iload_n 1, 1) := by decide +kernel
theorem dX10_told_7 : decode cX10_told 7 = .ok (.iconst 0, 1) := by decide +kernel
theorem dX10_told_8 : decode cX10_told 8 = .ok (.bipush 8, 2) := by decide +kernel
theorem dX10_told_10 : decode cX10_told 10 = .ok (.invokestatic 122, 3) := by decide +kernel
theorem dX10_told_13 : decode cX10_told 13 = .ok (.ifCond .ne 7, 3) := by decide +kernel
theorem dX10_told_16 : decode cX10_told 16 = .ok (.iconst 1, 1) := by decide +kernel
theorem dX10_told_17 : decode cX10_told 17 = .ok (.goto 4, 3) := by decide +kernel
theorem dX10_told_20 : decode cX10_told 20 = .ok (.iconst 0, 1) := by decide +kernel
theorem dX10_told_21 : decode cX10_told 21 = .ok (.iconst 1, 1) := by decide +kernel
theorem dX10_told_22 : decode cX10_told 22 = .ok (.iconst 1, 1) := by decide +kernel
theorem dX10_told_23 : decode cX10_told 23 = .ok (.invokevirtual 164, 3) := by decide +kernel
theorem dX10_told_26 : decode cX10_told 26 = .ok (.ifCond .eq 5, 3) := by decide +kernel
theorem dX10_told_29 : decode cX10_told 29 = .ok (.iconst 0, 1) := by decide +kernel
theorem dX10_told_30 : decode cX10_told 30 = .ok (.ireturn, 1) := by decide +kernel
theorem dX10_told_31 : decode cX10_told 31 = .ok (.iload_n 1, 1) := by decide +kernel
theorem dX10_told_32 : decode cX10_told 32 = .ok (.tableswitch 104 0 7 #[48, 56, 63, 71, 79, 84, 91, 96], 48) := by decide +kernel
theorem dX10_told_80 : decode cX10_told 80 = .ok (.aload_n 0, 1) := by decide +kernel
theorem dX10_told_81 : decode cX10_told 81 = .ok (.getfield 61, 3) := by decide +kernel
theorem dX10_told_84 : decode cX10_told 84 = .ok (.bipush 42, 2) := by decide +kernel
theorem dX10_told_86 : decode cX10_told 86 = .ok (.iaload, 1) := by decide +kernel
theorem dX10_told_87 : decode cX10_told 87 = .ok (.ireturn, 1) := by decide +kernel
theorem dX10_told_88 : decode cX10_told 88 = .ok (.aload_n 0, 1) := by decide +kernel
theorem dX10_told_89 : decode cX10_told 89 = .ok (.getfield 23, 3) := by decide +kernel
theorem dX10_told_92 : decode cX10_told 92 = .ok (.iconst 1, 1) := by decide +kernel
theorem dX10_told_93 : decode cX10_told 93 = .ok (.iaload, 1) := by decide +kernel
theorem dX10_told_94 : decode cX10_told 94 = .ok (.ireturn, 1) := by decide +kernel
theorem dX10_told_95 : decode cX10_told 95 = .ok (.aload_n 0, 1) := by decide +kernel
theorem dX10_told_96 : decode cX10_told 96 = .ok (.getfield 61, 3) := by decide +kernel
theorem dX10_told_99 : decode cX10_told 99 = .ok (.bipush 44, 2) := by decide +kernel
theorem dX10_told_101 : decode cX10_told 101 = .ok (.iaload, 1) := by decide +kernel
theorem dX10_told_102 : decode cX10_told 102 = .ok (.ireturn, 1) := by decide +kernel
theorem dX10_told_103 : decode cX10_told 103 = .ok (.aload_n 0, 1) := by decide +kernel
theorem dX10_told_104 : decode cX10_told 104 = .ok (.getfield 61, 3) := by decide +kernel
theorem dX10_told_107 : decode cX10_told 107 = .ok (.bipush 43, 2) := by decide +kernel
theorem dX10_told_109 : decode cX10_told 109 = .ok (.iaload, 1) := by decide +kernel
theorem dX10_told_110 : decode cX10_told 110 = .ok (.ireturn, 1) := by decide +kernel
theorem dX10_told_111 : decode cX10_told 111 = .ok (.aload_n 0, 1) := by decide +kernel
theorem dX10_told_112 : decode cX10_told 112 = .ok (.invokevirtual 300, 3) := by decide +kernel
theorem dX10_told_115 : decode cX10_told 115 = .ok (.ireturn, 1) := by decide +kernel
theorem dX10_told_116 : decode cX10_told 116 = .ok (.aload_n 0, 1) := by decide +kernel
theorem dX10_told_117 : decode cX10_told 117 = .ok (.getfield 23, 3) := by decide +kernel
theorem dX10_told_120 : decode cX10_told 120 = .ok (.iconst 2, 1) := by decide +kernel
theorem dX10_told_121 : decode cX10_told 121 = .ok (.iaload, 1) := by decide +kernel
theorem dX10_told_122 : decode cX10_told 122 = .ok (.ireturn, 1) := by decide +kernel
theorem dX10_told_123 : decode cX10_told 123 = .ok (.aload_n 0, 1) := by decide +kernel
theorem dX10_told_124 : decode cX10_told 124 = .ok (.getfield 187, 3) := by decide +kernel
theorem dX10_told_127 : decode cX10_told 127 = .ok (.ireturn, 1) := by decide +kernel
theorem dX10_told_128 : decode cX10_told 128 = .ok (.aload_n 0, 1) := by decide +kernel
theorem dX10_told_129 : decode cX10_told 129 = .ok (.getfield 61, 3) := by decide +kernel
theorem dX10_told_132 : decode cX10_told 132 = .ok (.bipush 45, 2) := by decide +kernel
theorem dX10_told_134 : decode cX10_told 134 = .ok (.iaload, 1) := by decide +kernel
theorem dX10_told_135 : decode cX10_told 135 = .ok (.ireturn, 1) := by decide +kernel
theorem dX10_told_136 : decode cX10_told 136 = .ok (.aload_n 0, 1) := by decide +kernel
theorem dX10_told_137 : decode cX10_told 137 = .ok (.getfield 61, 3) := by decide +kernel
theorem dX10_told_140 : decode cX10_told 140 = .ok (.invokestatic 303, 3) := by decide +kernel
theorem dX10_told_143 : decode cX10_told 143 = .ok (.ireturn, 1) := by decide +kernel
theorem dX10_isBeast_0 : decode cX10_isBeast 0 = .ok (.iload_n 1, 1) := by decide +kernel
theorem dX10_isBeast_1 : decode cX10_isBeast 1 = .ok (.iconst 0, 1) := by decide +kernel
theorem dX10_isBeast_2 : decode cX10_isBeast 2 = .ok (.aload_n 0, 1) := by decide +kernel
theorem dX10_isBeast_3 : decode cX10_isBeast 3 = .ok (.getfield 61, 3) := by decide +kernel
theorem dX10_isBeast_6 : decode cX10_isBeast 6 = .ok (.bipush 42, 2) := by decide +kernel
theorem dX10_isBeast_8 : decode cX10_isBeast 8 = .ok (.iaload, 1) := by decide +kernel
theorem dX10_isBeast_9 : decode cX10_isBeast 9 = .ok (.iconst 1, 1) := by decide +kernel
theorem dX10_isBeast_10 : decode cX10_isBeast 10 = .ok (.isub, 1) := by decide +kernel
theorem dX10_isBeast_11 : decode cX10_isBeast 11 = .ok (.invokestatic 122, 3) := by decide +kernel
theorem dX10_isBeast_14 : decode cX10_isBeast 14 = .ok (.ireturn, 1) := by decide +kernel
theorem dX10_isGate_0 : decode cX10_isGate 0 = .ok (.iload_n 1, 1) := by decide +kernel
theorem dX10_isGate_1 : decode cX10_isGate 1 = .ok (.iconst 0, 1) := by decide +kernel
theorem dX10_isGate_2 : decode cX10_isGate 2 = .ok (.aload_n 0, 1) := by decide +kernel
theorem dX10_isGate_3 : decode cX10_isGate 3 = .ok (.getfield 23, 3) := by decide +kernel
theorem dX10_isGate_6 : decode cX10_isGate 6 = .ok (.iconst 1, 1) := by decide +kernel
theorem dX10_isGate_7 : decode cX10_isGate 7 = .ok (.iaload, 1) := by decide +kernel
theorem dX10_isGate_8 : decode cX10_isGate 8 = .ok (.iconst 1, 1) := by decide +kernel
theorem dX10_isGate_9 : decode cX10_isGate 9 = .ok (.isub, 1) := by decide +kernel
theorem dX10_isGate_10 : decode cX10_isGate 10 = .ok (.invokestatic 122, 3) := by decide +kernel
theorem dX10_isGate_13 : decode cX10_isGate 13 = .ok (.ireturn, 1) := by decide +kernel
theorem dX10_areBeasts_0 : decode cX10_areBeasts 0 = .ok (.iload_n 1, 1) := by decide +kernel
theorem dX10_areBeasts_1 : decode cX10_areBeasts 1 = .ok (.iconst 0, 1) := by decide +kernel
theorem dX10_areBeasts_2 : decode cX10_areBeasts 2 = .ok (.iconst 1, 1) := by decide +kernel
theorem dX10_areBeasts_3 : decode cX10_areBeasts 3 = .ok (.aload_n 0, 1) := by decide +kernel
theorem dX10_areBeasts_4 : decode cX10_areBeasts 4 = .ok (.getfield 61, 3) := by decide +kernel
theorem dX10_areBeasts_7 : decode cX10_areBeasts 7 = .ok (.bipush 42, 2) := by decide +kernel
theorem dX10_areBeasts_9 : decode cX10_areBeasts 9 = .ok (.iaload, 1) := by decide +kernel
theorem dX10_areBeasts_10 : decode cX10_areBeasts 10 = .ok (.ishl, 1) := by decide +kernel
theorem dX10_areBeasts_11 : decode cX10_areBeasts 11 = .ok (.iconst 1, 1) := by decide +kernel
theorem dX10_areBeasts_12 : decode cX10_areBeasts 12 = .ok (.isub, 1) := by decide +kernel
theorem dX10_areBeasts_13 : decode cX10_areBeasts 13 = .ok (.invokestatic 122, 3) := by decide +kernel
theorem dX10_areBeasts_16 : decode cX10_areBeasts 16 = .ok (.ireturn, 1) := by decide +kernel
theorem dX10_isNumber_0 : decode cX10_isNumber 0 = .ok (.iload_n 0, 1) := by decide +kernel
theorem dX10_isNumber_1 : decode cX10_isNumber 1 = .ok (.iconst 0, 1) := by decide +kernel
theorem dX10_isNumber_2 : decode cX10_isNumber 2 = .ok (.sipush 255, 3) := by decide +kernel
theorem dX10_isNumber_5 : decode cX10_isNumber 5 = .ok (.invokestatic 122, 3) := by decide +kernel
theorem dX10_isNumber_8 : decode cX10_isNumber 8 = .ok (.ireturn, 1) := by decide +kernel
theorem dX10_beast_0 : decode cX10_beast 0 = .ok (.aload_n 0, 1) := by decide +kernel
theorem dX10_beast_1 : decode cX10_beast 1 = .ok (.iconst 0, 1) := by decide +kernel
theorem dX10_beast_2 : decode cX10_beast 2 = .ok (.putfield 88, 3) := by decide +kernel
theorem dX10_beast_5 : decode cX10_beast 5 = .ok (.aload_n 0, 1) := by decide +kernel
theorem dX10_beast_6 : decode cX10_beast 6 = .ok (.aload_n 0, 1) := by decide +kernel
theorem dX10_beast_7 : decode cX10_beast 7 = .ok (.iload_n 1, 1) := by decide +kernel
theorem dX10_beast_8 : decode cX10_beast 8 = .ok (.invokevirtual 307, 3) := by decide +kernel
theorem dX10_beast_11 : decode cX10_beast 11 = .ok (.ifCond .ne 7, 3) := by decide +kernel
theorem dX10_beast_14 : decode cX10_beast 14 = .ok (.iconst 1, 1) := by decide +kernel
theorem dX10_beast_15 : decode cX10_beast 15 = .ok (.goto 4, 3) := by decide +kernel
theorem dX10_beast_18 : decode cX10_beast 18 = .ok (.iconst 0, 1) := by decide +kernel
theorem dX10_beast_19 : decode cX10_beast 19 = .ok (.iconst 1, 1) := by decide +kernel
theorem dX10_beast_20 : decode cX10_beast 20 = .ok (.iconst 0, 1) := by decide +kernel
theorem dX10_beast_21 : decode cX10_beast 21 = .ok (.invokevirtual 164, 3) := by decide +kernel
theorem dX10_beast_24 : decode cX10_beast 24 = .ok (.ifCond .ne 26, 3) := by decide +kernel
theorem dX10_beast_27 : decode cX10_beast 27 = .ok (.aload_n 0, 1) := by decide +kernel
theorem dX10_beast_28 : decode cX10_beast 28 = .ok (.iload_n 2, 1) := by decide +kernel
theorem dX10_beast_29 : decode cX10_beast 29 = .ok (.iconst 0, 1) := by decide +kernel
theorem dX10_beast_30 : decode cX10_beast 30 = .ok (.iconst 5, 1) := by decide +kernel
theorem dX10_beast_31 : decode cX10_beast 31 = .ok (.invokestatic 122, 3) := by decide +kernel
theorem dX10_beast_34 : decode cX10_beast 34 = .ok (.ifCond .ne 7, 3) := by decide +kernel
theorem dX10_beast_37 : decode cX10_beast 37 = .ok (.iconst 1, 1) := by decide +kernel
theorem dX10_beast_38 : decode cX10_beast 38 = .ok (.goto 4, 3) := by decide +kernel
theorem dX10_beast_41 : decode cX10_beast 41 = .ok (.iconst 0, 1) := by decide +kernel
theorem dX10_beast_42 : decode cX10_beast 42 = .ok (.iconst 2, 1) := by decide +kernel
theorem dX10_beast_43 : decode cX10_beast 43 = .ok (.iconst 1, 1) := by decide +kernel
theorem dX10_beast_44 : decode cX10_beast 44 = .ok (.invokevirtual 164, 3) := by decide +kernel
theorem dX10_beast_47 : decode cX10_beast 47 = .ok (.ifCond .eq 5, 3) := by decide +kernel
theorem dX10_beast_50 : decode cX10_beast 50 = .ok (.iconst 0, 1) := by decide +kernel
theorem dX10_beast_51 : decode cX10_beast 51 = .ok (.ireturn, 1) := by decide +kernel
theorem dX10_beast_52 : decode cX10_beast 52 = .ok (.iconst 0, 1) := by decide +kernel
theorem dX10_beast_53 : decode cX10_beast 53 = .ok (.istore_n 3, 1) := by decide +kernel
theorem dX10_beast_54 : decode cX10_beast 54 = .ok (.iconst 0, 1) := by decide +kernel
theorem dX10_beast_55 : decode cX10_beast 55 = .ok (.istore 4, 2) := by decide +kernel
theorem dX10_beast_57 : decode cX10_beast 57 = .ok (.iload 4, 2) := by decide +kernel
theorem dX10_beast_59 : decode cX10_beast 59 = .ok (.aload_n 0, 1) := by decide +kernel
theorem dX10_beast_60 : decode cX10_beast 60 = .ok (.getfield 23, 3) := by decide +kernel
theorem dX10_beast_63 : decode cX10_beast 63 = .ok (.iconst 1, 1) := by decide +kernel
theorem dX10_beast_64 : decode cX10_beast 64 = .ok (.iaload, 1) := by decide +kernel
theorem dX10_beast_65 : decode cX10_beast 65 = .ok (.if_icmp .ge 37, 3) := by decide +kernel
theorem dX10_beast_68 : decode cX10_beast 68 = .ok (.iload_n 3, 1) := by decide +kernel
theorem dX10_beast_69 : decode cX10_beast 69 = .ok (.aload_n 0, 1) := by decide +kernel
theorem dX10_beast_70 : decode cX10_beast 70 = .ok (.aload_n 0, 1) := by decide +kernel
theorem dX10_beast_71 : decode cX10_beast 71 = .ok (.getfield 61, 3) := by decide +kernel
theorem dX10_beast_74 : decode cX10_beast 74 = .ok (.iconst 0, 1) := by decide +kernel
theorem dX10_beast_75 : decode cX10_beast 75 = .ok (.iload_n 1, 1) := by decide +kernel
theorem dX10_beast_76 : decode cX10_beast 76 = .ok (.iadd, 1) := by decide +kernel
theorem dX10_beast_77 : decode cX10_beast 77 = .ok (.iaload, 1) := by decide +kernel
theorem dX10_beast_78 : decode cX10_beast 78 = .ok (.iload 4, 2) := by decide +kernel
theorem dX10_beast_80 : decode cX10_beast 80 = .ok (.invokevirtual 253, 3) := by decide +kernel
theorem dX10_beast_83 : decode cX10_beast 83 = .ok (.ifCond .eq 10, 3) := by decide +kernel
theorem dX10_beast_86 : decode cX10_beast 86 = .ok (.iconst 1, 1) := by decide +kernel
theorem dX10_beast_87 : decode cX10_beast 87 = .ok (.iload 4, 2) := by decide +kernel
theorem dX10_beast_89 : decode cX10_beast 89 = .ok (.ishl, 1) := by decide +kernel
theorem dX10_beast_90 : decode cX10_beast 90 = .ok (.goto 4, 3) := by decide +kernel
theorem dX10_beast_93 : decode cX10_beast 93 = .ok (.iconst 0, 1) := by decide +kernel
theorem dX10_beast_94 : decode cX10_beast 94 = .ok (.ior, 1) := by decide +kernel
theorem dX10_beast_95 : decode cX10_beast 95 = .ok (.istore_n 3, 1) := by decide +kernel
theorem dX10_beast_96 : decode cX10_beast 96 = .ok (.iinc 4 1, 3) := by decide +kernel
theorem dX10_beast_99 : decode cX10_beast 99 = .ok (.goto (-42), 3) := by decide +kernel
theorem dX10_beast_102 : decode cX10_beast 102 = .ok (.iload_n 2, 1) := by decide +kernel
theorem dX10_beast_103 : decode cX10_beast 103 = .ok (.tableswitch 84 0 4 #[33, 42, 52, 62, 72], 33) := by decide +kernel
theorem dX10_beast_136 : decode cX10_beast 136 = .ok (.aload_n 0, 1) := by decide +kernel
theorem dX10_beast_137 : decode cX10_beast 137 = .ok (.getfield 61, 3) := by decide +kernel
theorem dX10_beast_140 : decode cX10_beast 140 = .ok (.iconst 0, 1) := by decide +kernel
theorem dX10_beast_141 : decode cX10_beast 141 = .ok (.iload_n 1, 1) := by decide +kernel
theorem dX10_beast_142 : decode cX10_beast 142 = .ok (.iadd, 1) := by decide +kernel
theorem dX10_beast_143 : decode cX10_beast 143 = .ok (.iaload, 1) := by decide +kernel
theorem dX10_beast_144 : decode cX10_beast 144 = .ok (.ireturn, 1) := by decide +kernel
theorem dX10_beast_145 : decode cX10_beast 145 = .ok (.aload_n 0, 1) := by decide +kernel
theorem dX10_beast_146 : decode cX10_beast 146 = .ok (.getfield 61, 3) := by decide +kernel
theorem dX10_beast_149 : decode cX10_beast 149 = .ok (.bipush 8, 2) := by decide +kernel
theorem dX10_beast_151 : decode cX10_beast 151 = .ok (.iload_n 1, 1) := by decide +kernel
theorem dX10_beast_152 : decode cX10_beast 152 = .ok (.iadd, 1) := by decide +kernel
theorem dX10_beast_153 : decode cX10_beast 153 = .ok (.iaload, 1) := by decide +kernel
theorem dX10_beast_154 : decode cX10_beast 154 = .ok (.ireturn, 1) := by decide +kernel
theorem dX10_beast_155 : decode cX10_beast 155 = .ok (.aload_n 0, 1) := by decide +kernel
theorem dX10_beast_156 : decode cX10_beast 156 = .ok (.getfield 61, 3) := by decide +kernel
theorem dX10_beast_159 : decode cX10_beast 159 = .ok (.bipush 16, 2) := by decide +kernel
theorem dX10_beast_161 : decode cX10_beast 161 = .ok (.iload_n 1, 1) := by decide +kernel
theorem dX10_beast_162 : decode cX10_beast 162 = .ok (.iadd, 1) := by decide +kernel
theorem dX10_beast_163 : decode cX10_beast 163 = .ok (.iaload, 1) := by decide +kernel
theorem dX10_beast_164 : decode cX10_beast 164 = .ok (.ireturn, 1) := by decide +kernel
theorem dX10_beast_165 : decode cX10_beast 165 = .ok (.aload_n 0, 1) := by decide +kernel
theorem dX10_beast_166 : decode cX10_beast 166 = .ok (.getfield 61, 3) := by decide +kernel
theorem dX10_beast_169 : decode cX10_beast 169 = .ok (.bipush 24, 2) := by decide +kernel
theorem dX10_beast_171 : decode cX10_beast 171 = .ok (.iload_n 1, 1) := by decide +kernel
theorem dX10_beast_172 : decode cX10_beast 172 = .ok (.iadd, 1) := by decide +kernel
theorem dX10_beast_173 : decode cX10_beast 173 = .ok (.iaload, 1) := by decide +kernel
theorem dX10_beast_174 : decode cX10_beast 174 = .ok (.ireturn, 1) := by decide +kernel
theorem dX10_beast_175 : decode cX10_beast 175 = .ok (.aload_n 0, 1) := by decide +kernel
theorem dX10_beast_176 : decode cX10_beast 176 = .ok (.getfield 61, 3) := by decide +kernel
theorem dX10_beast_179 : decode cX10_beast 179 = .ok (.iconst 0, 1) := by decide +kernel
theorem dX10_beast_180 : decode cX10_beast 180 = .ok (.iload_n 1, 1) := by decide +kernel
theorem dX10_beast_181 : decode cX10_beast 181 = .ok (.iadd, 1) := by decide +kernel
theorem dX10_beast_182 : decode cX10_beast 182 = .ok (.iaload, 1) := by decide +kernel
theorem dX10_beast_183 : decode cX10_beast 183 = .ok (.invokestatic 240, 3) := by decide +kernel
theorem dX10_beast_186 : decode cX10_beast 186 = .ok (.ireturn, 1) := by decide +kernel
theorem dX10_beast_187 : decode cX10_beast 187 = .ok (.iload_n 3, 1) := by decide +kernel
theorem dX10_beast_188 : decode cX10_beast 188 = .ok (.ireturn, 1) := by decide +kernel
theorem dX10_listOf_0 : decode cX10_listOf 0 = .ok (.iconst 0, 1) := by decide +kernel
theorem dX10_listOf_1 : decode cX10_listOf 1 = .ok (.istore_n 2, 1) := by decide +kernel
theorem dX10_listOf_2 : decode cX10_listOf 2 = .ok (.iconst 0, 1) := by decide +kernel
theorem dX10_listOf_3 : decode cX10_listOf 3 = .ok (.istore_n 3, 1) := by decide +kernel
theorem dX10_listOf_4 : decode cX10_listOf 4 = .ok (.iload_n 3, 1) := by decide +kernel
theorem dX10_listOf_5 : decode cX10_listOf 5 = .ok (.aload_n 0, 1) := by decide +kernel
theorem dX10_listOf_6 : decode cX10_listOf 6 = .ok (.getfield 23, 3) := by decide +kernel
theorem dX10_listOf_9 : decode cX10_listOf 9 = .ok (.iconst 2, 1) := by decide +kernel
theorem dX10_listOf_10 : decode cX10_listOf 10 = .ok (.iaload, 1) := by decide +kernel
theorem dX10_listOf_11 : decode cX10_listOf 11 = .ok (.if_icmp .ge 29, 3) := by decide +kernel
theorem dX10_listOf_14 : decode cX10_listOf 14 = .ok (.iload_n 2, 1) := by decide +kernel
theorem dX10_listOf_15 : decode cX10_listOf 15 = .ok (.aload_n 0, 1) := by decide +kernel
theorem dX10_listOf_16 : decode cX10_listOf 16 = .ok (.getfield 43, 3) := by decide +kernel
theorem dX10_listOf_19 : decode cX10_listOf 19 = .ok (.iload_n 3, 1) := by decide +kernel
theorem dX10_listOf_20 : decode cX10_listOf 20 = .ok (.aaload, 1) := by decide +kernel
theorem dX10_listOf_21 : decode cX10_listOf 21 = .ok (.iconst 0, 1) := by decide +kernel
theorem dX10_listOf_22 : decode cX10_listOf 22 = .ok (.iaload, 1) := by decide +kernel
theorem dX10_listOf_23 : decode cX10_listOf 23 = .ok (.iload_n 1, 1) := by decide +kernel
theorem dX10_listOf_24 : decode cX10_listOf 24 = .ok (.if_icmp .ne 7, 3) := by decide +kernel
theorem dX10_listOf_27 : decode cX10_listOf 27 = .ok (.iconst 1, 1) := by decide +kernel
theorem dX10_listOf_28 : decode cX10_listOf 28 = .ok (.goto 4, 3) := by decide +kernel
theorem dX10_listOf_31 : decode cX10_listOf 31 = .ok (.iconst 0, 1) := by decide +kernel
theorem dX10_listOf_32 : decode cX10_listOf 32 = .ok (.iadd, 1) := by decide +kernel
theorem dX10_listOf_33 : decode cX10_listOf 33 = .ok (.istore_n 2, 1) := by decide +kernel
theorem dX10_listOf_34 : decode cX10_listOf 34 = .ok (.iinc 3 1, 3) := by decide +kernel
theorem dX10_listOf_37 : decode cX10_listOf 37 = .ok (.goto (-33), 3) := by decide +kernel
theorem dX10_listOf_40 : decode cX10_listOf 40 = .ok (.iload_n 2, 1) := by decide +kernel
theorem dX10_listOf_41 : decode cX10_listOf 41 = .ok (.ireturn, 1) := by decide +kernel
theorem dX10_openTo_0 : decode cX10_openTo 0 = .ok (.iconst 0, 1) := by decide +kernel
theorem dX10_openTo_1 : decode cX10_openTo 1 = .ok (.istore_n 2, 1) := by decide +kernel
theorem dX10_openTo_2 : decode cX10_openTo 2 = .ok (.iconst 0, 1) := by decide +kernel
theorem dX10_openTo_3 : decode cX10_openTo 3 = .ok (.istore_n 3, 1) := by decide +kernel
theorem dX10_openTo_4 : decode cX10_openTo 4 = .ok (.iload_n 3, 1) := by decide +kernel
theorem dX10_openTo_5 : decode cX10_openTo 5 = .ok (.aload_n 0, 1) := by decide +kernel
theorem dX10_openTo_6 : decode cX10_openTo 6 = .ok (.getfield 61, 3) := by decide +kernel
theorem dX10_openTo_9 : decode cX10_openTo 9 = .ok (.bipush 42, 2) := by decide +kernel
theorem dX10_openTo_11 : decode cX10_openTo 11 = .ok (.iaload, 1) := by decide +kernel
theorem dX10_openTo_12 : decode cX10_openTo 12 = .ok (.if_icmp .ge 35, 3) := by decide +kernel
theorem dX10_openTo_15 : decode cX10_openTo 15 = .ok (.iload_n 2, 1) := by decide +kernel
theorem dX10_openTo_16 : decode cX10_openTo 16 = .ok (.aload_n 0, 1) := by decide +kernel
theorem dX10_openTo_17 : decode cX10_openTo 17 = .ok (.aload_n 0, 1) := by decide +kernel
theorem dX10_openTo_18 : decode cX10_openTo 18 = .ok (.getfield 61, 3) := by decide +kernel
theorem dX10_openTo_21 : decode cX10_openTo 21 = .ok (.iconst 0, 1) := by decide +kernel
theorem dX10_openTo_22 : decode cX10_openTo 22 = .ok (.iload_n 3, 1) := by decide +kernel
theorem dX10_openTo_23 : decode cX10_openTo 23 = .ok (.iadd, 1) := by decide +kernel
theorem dX10_openTo_24 : decode cX10_openTo 24 = .ok (.iaload, 1) := by decide +kernel
theorem dX10_openTo_25 : decode cX10_openTo 25 = .ok (.iload_n 1, 1) := by decide +kernel
theorem dX10_openTo_26 : decode cX10_openTo 26 = .ok (.invokevirtual 253, 3) := by decide +kernel
theorem dX10_openTo_29 : decode cX10_openTo 29 = .ok (.ifCond .eq 9, 3) := by decide +kernel
theorem dX10_openTo_32 : decode cX10_openTo 32 = .ok (.iconst 1, 1) := by decide +kernel
theorem dX10_openTo_33 : decode cX10_openTo 33 = .ok (.iload_n 3, 1) := by decide +kernel
theorem dX10_openTo_34 : decode cX10_openTo 34 = .ok (.ishl, 1) := by decide +kernel
theorem dX10_openTo_35 : decode cX10_openTo 35 = .ok (.goto 4, 3) := by decide +kernel
theorem dX10_openTo_38 : decode cX10_openTo 38 = .ok (.iconst 0, 1) := by decide +kernel
theorem dX10_openTo_39 : decode cX10_openTo 39 = .ok (.ior, 1) := by decide +kernel
theorem dX10_openTo_40 : decode cX10_openTo 40 = .ok (.istore_n 2, 1) := by decide +kernel
theorem dX10_openTo_41 : decode cX10_openTo 41 = .ok (.iinc 3 1, 3) := by decide +kernel
theorem dX10_openTo_44 : decode cX10_openTo 44 = .ok (.goto (-40), 3) := by decide +kernel
theorem dX10_openTo_47 : decode cX10_openTo 47 = .ok (.iload_n 2, 1) := by decide +kernel
theorem dX10_openTo_48 : decode cX10_openTo 48 = .ok (.ireturn, 1) := by decide +kernel
theorem dX10_gate_0 : decode cX10_gate 0 = .ok (.aload_n 0, 1) := by decide +kernel
theorem dX10_gate_1 : decode cX10_gate 1 = .ok (.iconst 0, 1) := by decide +kernel
theorem dX10_gate_2 : decode cX10_gate 2 = .ok (.putfield 88, 3) := by decide +kernel
theorem dX10_gate_5 : decode cX10_gate 5 = .ok (.aload_n 0, 1) := by decide +kernel
theorem dX10_gate_6 : decode cX10_gate 6 = .ok (.aload_n 0, 1) := by decide +kernel
theorem dX10_gate_7 : decode cX10_gate 7 = .ok (.iload_n 1, 1) := by decide +kernel
theorem dX10_gate_8 : decode cX10_gate 8 = .ok (.invokevirtual 310, 3) := by decide +kernel
theorem dX10_gate_11 : decode cX10_gate 11 = .ok (.ifCond .ne 7, 3) := by decide +kernel
theorem dX10_gate_14 : decode cX10_gate 14 = .ok (.iconst 1, 1) := by decide +kernel
theorem dX10_gate_15 : decode cX10_gate 15 = .ok (.goto 4, 3) := by decide +kernel
theorem dX10_gate_18 : decode cX10_gate 18 = .ok (.iconst 0, 1) := by decide +kernel
theorem dX10_gate_19 : decode cX10_gate 19 = .ok (.iconst 1, 1) := by decide +kernel
theorem dX10_gate_20 : decode cX10_gate 20 = .ok (.iconst 0, 1) := by decide +kernel
theorem dX10_gate_21 : decode cX10_gate 21 = .ok (.invokevirtual 164, 3) := by decide +kernel
theorem dX10_gate_24 : decode cX10_gate 24 = .ok (.ifCond .ne 26, 3) := by decide +kernel
theorem dX10_gate_27 : decode cX10_gate 27 = .ok (.aload_n 0, 1) := by decide +kernel
theorem dX10_gate_28 : decode cX10_gate 28 = .ok (.iload_n 2, 1) := by decide +kernel
theorem dX10_gate_29 : decode cX10_gate 29 = .ok (.iconst 0, 1) := by decide +kernel
theorem dX10_gate_30 : decode cX10_gate 30 = .ok (.iconst 5, 1) := by decide +kernel
theorem dX10_gate_31 : decode cX10_gate 31 = .ok (.invokestatic 122, 3) := by decide +kernel
theorem dX10_gate_34 : decode cX10_gate 34 = .ok (.ifCond .ne 7, 3) := by decide +kernel
theorem dX10_gate_37 : decode cX10_gate 37 = .ok (.iconst 1, 1) := by decide +kernel
theorem dX10_gate_38 : decode cX10_gate 38 = .ok (.goto 4, 3) := by decide +kernel
theorem dX10_gate_41 : decode cX10_gate 41 = .ok (.iconst 0, 1) := by decide +kernel
theorem dX10_gate_42 : decode cX10_gate 42 = .ok (.iconst 2, 1) := by decide +kernel
theorem dX10_gate_43 : decode cX10_gate 43 = .ok (.iconst 1, 1) := by decide +kernel
theorem dX10_gate_44 : decode cX10_gate 44 = .ok (.invokevirtual 164, 3) := by decide +kernel
theorem dX10_gate_47 : decode cX10_gate 47 = .ok (.ifCond .eq 5, 3) := by decide +kernel
theorem dX10_gate_50 : decode cX10_gate 50 = .ok (.iconst 0, 1) := by decide +kernel
theorem dX10_gate_51 : decode cX10_gate 51 = .ok (.ireturn, 1) := by decide +kernel
theorem dX10_gate_52 : decode cX10_gate 52 = .ok (.iload_n 2, 1) := by decide +kernel
theorem dX10_gate_53 : decode cX10_gate 53 = .ok (.tableswitch 63 2 5 #[31, 37, 47, 57], 31) := by decide +kernel
theorem dX10_gate_84 : decode cX10_gate 84 = .ok (.aload_n 0, 1) := by decide +kernel
theorem dX10_gate_85 : decode cX10_gate 85 = .ok (.iload_n 1, 1) := by decide +kernel
theorem dX10_gate_86 : decode cX10_gate 86 = .ok (.invokevirtual 313, 3) := by decide +kernel
theorem dX10_gate_89 : decode cX10_gate 89 = .ok (.ireturn, 1) := by decide +kernel
theorem dX10_gate_90 : decode cX10_gate 90 = .ok (.aload_n 0, 1) := by decide +kernel
theorem dX10_gate_91 : decode cX10_gate 91 = .ok (.getfield 61, 3) := by decide +kernel
theorem dX10_gate_94 : decode cX10_gate 94 = .ok (.bipush 32, 2) := by decide +kernel
theorem dX10_gate_96 : decode cX10_gate 96 = .ok (.iload_n 1, 1) := by decide +kernel
theorem dX10_gate_97 : decode cX10_gate 97 = .ok (.iadd, 1) := by decide +kernel
theorem dX10_gate_98 : decode cX10_gate 98 = .ok (.iaload, 1) := by decide +kernel
theorem dX10_gate_99 : decode cX10_gate 99 = .ok (.ireturn, 1) := by decide +kernel
theorem dX10_gate_100 : decode cX10_gate 100 = .ok (.aload_n 0, 1) := by decide +kernel
theorem dX10_gate_101 : decode cX10_gate 101 = .ok (.getfield 61, 3) := by decide +kernel
theorem dX10_gate_104 : decode cX10_gate 104 = .ok (.bipush 37, 2) := by decide +kernel
theorem dX10_gate_106 : decode cX10_gate 106 = .ok (.iload_n 1, 1) := by decide +kernel
theorem dX10_gate_107 : decode cX10_gate 107 = .ok (.iadd, 1) := by decide +kernel
theorem dX10_gate_108 : decode cX10_gate 108 = .ok (.iaload, 1) := by decide +kernel
theorem dX10_gate_109 : decode cX10_gate 109 = .ok (.ireturn, 1) := by decide +kernel
theorem dX10_gate_110 : decode cX10_gate 110 = .ok (.aload_n 0, 1) := by decide +kernel
theorem dX10_gate_111 : decode cX10_gate 111 = .ok (.iload_n 1, 1) := by decide +kernel
theorem dX10_gate_112 : decode cX10_gate 112 = .ok (.invokevirtual 316, 3) := by decide +kernel
theorem dX10_gate_115 : decode cX10_gate 115 = .ok (.ireturn, 1) := by decide +kernel
theorem dX10_gate_116 : decode cX10_gate 116 = .ok (.aload_n 0, 1) := by decide +kernel
theorem dX10_gate_117 : decode cX10_gate 117 = .ok (.getfield 37, 3) := by decide +kernel
theorem dX10_gate_120 : decode cX10_gate 120 = .ok (.iload_n 1, 1) := by decide +kernel
theorem dX10_gate_121 : decode cX10_gate 121 = .ok (.aaload, 1) := by decide +kernel
theorem dX10_gate_122 : decode cX10_gate 122 = .ok (.iload_n 2, 1) := by decide +kernel
theorem dX10_gate_123 : decode cX10_gate 123 = .ok (.iaload, 1) := by decide +kernel
theorem dX10_gate_124 : decode cX10_gate 124 = .ok (.ireturn, 1) := by decide +kernel
theorem dX10_listed_0 : decode cX10_listed 0 = .ok (.aload_n 0, 1) := by decide +kernel
theorem dX10_listed_1 : decode cX10_listed 1 = .ok (.iconst 0, 1) := by decide +kernel
theorem dX10_listed_2 : decode cX10_listed 2 = .ok (.putfield 88, 3) := by decide +kernel
theorem dX10_listed_5 : decode cX10_listed 5 = .ok (.aload_n 0, 1) := by decide +kernel
theorem dX10_listed_6 : decode cX10_listed 6 = .ok (.aload_n 0, 1) := by decide +kernel
theorem dX10_listed_7 : decode cX10_listed 7 = .ok (.iload_n 1, 1) := by decide +kernel
theorem dX10_listed_8 : decode cX10_listed 8 = .ok (.invokevirtual 310, 3) := by decide +kernel
theorem dX10_listed_11 : decode cX10_listed 11 = .ok (.ifCond .ne 7, 3) := by decide +kernel
theorem dX10_listed_14 : decode cX10_listed 14 = .ok (.iconst 1, 1) := by decide +kernel
theorem dX10_listed_15 : decode cX10_listed 15 = .ok (.goto 4, 3) := by decide +kernel
theorem dX10_listed_18 : decode cX10_listed 18 = .ok (.iconst 0, 1) := by decide +kernel
theorem dX10_listed_19 : decode cX10_listed 19 = .ok (.iconst 1, 1) := by decide +kernel
theorem dX10_listed_20 : decode cX10_listed 20 = .ok (.iconst 0, 1) := by decide +kernel
theorem dX10_listed_21 : decode cX10_listed 21 = .ok (.invokevirtual 164, 3) := by decide +kernel
theorem dX10_listed_24 : decode cX10_listed 24 = .ok (.ifCond .ne 21, 3) := by decide +kernel
theorem dX10_listed_27 : decode cX10_listed 27 = .ok (.aload_n 0, 1) := by decide +kernel
theorem dX10_listed_28 : decode cX10_listed 28 = .ok (.iload_n 2, 1) := by decide +kernel
theorem dX10_listed_29 : decode cX10_listed 29 = .ok (.ifCond .ge 7, 3) := by decide +kernel
theorem dX10_listed_32 : decode cX10_listed 32 = .ok (.iconst 1, 1) := by decide +kernel
theorem dX10_listed_33 : decode cX10_listed 33 = .ok (.goto 4, 3) := by decide +kernel
theorem dX10_listed_36 : decode cX10_listed 36 = .ok (.iconst 0, 1) := by decide +kernel
theorem dX10_listed_37 : decode cX10_listed 37 = .ok (.iconst 2, 1) := by decide +kernel
theorem dX10_listed_38 : decode cX10_listed 38 = .ok (.iconst 1, 1) := by decide +kernel
theorem dX10_listed_39 : decode cX10_listed 39 = .ok (.invokevirtual 164, 3) := by decide +kernel
theorem dX10_listed_42 : decode cX10_listed 42 = .ok (.ifCond .eq 5, 3) := by decide +kernel
theorem dX10_listed_45 : decode cX10_listed 45 = .ok (.iconst 0, 1) := by decide +kernel
theorem dX10_listed_46 : decode cX10_listed 46 = .ok (.ireturn, 1) := by decide +kernel
theorem dX10_listed_47 : decode cX10_listed 47 = .ok (.iconst 0, 1) := by decide +kernel
theorem dX10_listed_48 : decode cX10_listed 48 = .ok (.istore_n 3, 1) := by decide +kernel
theorem dX10_listed_49 : decode cX10_listed 49 = .ok (.iconst 0, 1) := by decide +kernel
theorem dX10_listed_50 : decode cX10_listed 50 = .ok (.istore 4, 2) := by decide +kernel
theorem dX10_listed_52 : decode cX10_listed 52 = .ok (.iload 4, 2) := by decide +kernel
theorem dX10_listed_54 : decode cX10_listed 54 = .ok (.aload_n 0, 1) := by decide +kernel
theorem dX10_listed_55 : decode cX10_listed 55 = .ok (.getfield 23, 3) := by decide +kernel
theorem dX10_listed_58 : decode cX10_listed 58 = .ok (.iconst 2, 1) := by decide +kernel
theorem dX10_listed_59 : decode cX10_listed 59 = .ok (.iaload, 1) := by decide +kernel
theorem dX10_listed_60 : decode cX10_listed 60 = .ok (.if_icmp .ge 43, 3) := by decide +kernel
theorem dX10_listed_63 : decode cX10_listed 63 = .ok (.aload_n 0, 1) := by decide +kernel
theorem dX10_listed_64 : decode cX10_listed 64 = .ok (.getfield 43, 3) := by decide +kernel
theorem dX10_listed_67 : decode cX10_listed 67 = .ok (.iload 4, 2) := by decide +kernel
theorem dX10_listed_69 : decode cX10_listed 69 = .ok (.aaload, 1) := by decide +kernel
theorem dX10_listed_70 : decode cX10_listed 70 = .ok (.iconst 0, 1) := by decide +kernel
theorem dX10_listed_71 : decode cX10_listed 71 = .ok (.iaload, 1) := by decide +kernel
theorem dX10_listed_72 : decode cX10_listed 72 = .ok (.iload_n 1, 1) := by decide +kernel
theorem dX10_listed_73 : decode cX10_listed 73 = .ok (.if_icmp .eq 6, 3) := by decide +kernel
theorem dX10_listed_76 : decode cX10_listed 76 = .ok (.goto 21, 3) := by decide +kernel
theorem dX10_listed_79 : decode cX10_listed 79 = .ok (.iload_n 3, 1) := by decide +kernel
theorem dX10_listed_80 : decode cX10_listed 80 = .ok (.iload_n 2, 1) := by decide +kernel
theorem dX10_listed_81 : decode cX10_listed 81 = .ok (.if_icmp .ne 13, 3) := by decide +kernel
theorem dX10_listed_84 : decode cX10_listed 84 = .ok (.aload_n 0, 1) := by decide +kernel
theorem dX10_listed_85 : decode cX10_listed 85 = .ok (.getfield 43, 3) := by decide +kernel
theorem dX10_listed_88 : decode cX10_listed 88 = .ok (.iload 4, 2) := by decide +kernel
theorem dX10_listed_90 : decode cX10_listed 90 = .ok (.aaload, 1) := by decide +kernel
theorem dX10_listed_91 : decode cX10_listed 91 = .ok (.iconst 1, 1) := by decide +kernel
theorem dX10_listed_92 : decode cX10_listed 92 = .ok (.iaload, 1) := by decide +kernel
theorem dX10_listed_93 : decode cX10_listed 93 = .ok (.ireturn, 1) := by decide +kernel
theorem dX10_listed_94 : decode cX10_listed 94 = .ok (.iinc 3 1, 3) := by decide +kernel
theorem dX10_listed_97 : decode cX10_listed 97 = .ok (.iinc 4 1, 3) := by decide +kernel
theorem dX10_listed_100 : decode cX10_listed 100 = .ok (.goto (-48), 3) := by decide +kernel
theorem dX10_listed_103 : decode cX10_listed 103 = .ok (.iconst (-1), 1) := by decide +kernel
theorem dX10_listed_104 : decode cX10_listed 104 = .ok (.ireturn, 1) := by decide +kernel
theorem dX10_slips_0 : decode cX10_slips 0 = .ok (.aload_n 0, 1) := by decide +kernel
theorem dX10_slips_1 : decode cX10_slips 1 = .ok (.iconst 0, 1) := by decide +kernel
theorem dX10_slips_2 : decode cX10_slips 2 = .ok (.putfield 88, 3) := by decide +kernel
theorem dX10_slips_5 : decode cX10_slips 5 = .ok (.aload_n 0, 1) := by decide +kernel
theorem dX10_slips_6 : decode cX10_slips 6 = .ok (.iload_n 1, 1) := by decide +kernel
theorem dX10_slips_7 : decode cX10_slips 7 = .ok (.invokestatic 319, 3) := by decide +kernel
theorem dX10_slips_10 : decode cX10_slips 10 = .ok (.ifCond .eq 10, 3) := by decide +kernel
theorem dX10_slips_13 : decode cX10_slips 13 = .ok (.iload_n 2, 1) := by decide +kernel
theorem dX10_slips_14 : decode cX10_slips 14 = .ok (.invokestatic 319, 3) := by decide +kernel
theorem dX10_slips_17 : decode cX10_slips 17 = .ok (.ifCond .ne 7, 3) := by decide +kernel
theorem dX10_slips_20 : decode cX10_slips 20 = .ok (.iconst 1, 1) := by decide +kernel
theorem dX10_slips_21 : decode cX10_slips 21 = .ok (.goto 4, 3) := by decide +kernel
theorem dX10_slips_24 : decode cX10_slips 24 = .ok (.iconst 0, 1) := by decide +kernel
theorem dX10_slips_25 : decode cX10_slips 25 = .ok (.iconst 1, 1) := by decide +kernel
theorem dX10_slips_26 : decode cX10_slips 26 = .ok (.iconst 1, 1) := by decide +kernel
theorem dX10_slips_27 : decode cX10_slips 27 = .ok (.invokevirtual 164, 3) := by decide +kernel
theorem dX10_slips_30 : decode cX10_slips 30 = .ok (.ifCond .eq 5, 3) := by decide +kernel
theorem dX10_slips_33 : decode cX10_slips 33 = .ok (.iconst 0, 1) := by decide +kernel
theorem dX10_slips_34 : decode cX10_slips 34 = .ok (.ireturn, 1) := by decide +kernel
theorem dX10_slips_35 : decode cX10_slips 35 = .ok (.iload_n 1, 1) := by decide +kernel
theorem dX10_slips_36 : decode cX10_slips 36 = .ok (.iload_n 2, 1) := by decide +kernel
theorem dX10_slips_37 : decode cX10_slips 37 = .ok (.ixor, 1) := by decide +kernel
theorem dX10_slips_38 : decode cX10_slips 38 = .ok (.invokestatic 240, 3) := by decide +kernel
theorem dX10_slips_41 : decode cX10_slips 41 = .ok (.ireturn, 1) := by decide +kernel
theorem dX10_near_0 : decode cX10_near 0 = .ok (.aload_n 0, 1) := by decide +kernel
theorem dX10_near_1 : decode cX10_near 1 = .ok (.iconst 0, 1) := by decide +kernel
theorem dX10_near_2 : decode cX10_near 2 = .ok (.putfield 88, 3) := by decide +kernel
theorem dX10_near_5 : decode cX10_near 5 = .ok (.aload_n 0, 1) := by decide +kernel
theorem dX10_near_6 : decode cX10_near 6 = .ok (.aload_n 0, 1) := by decide +kernel
theorem dX10_near_7 : decode cX10_near 7 = .ok (.iload_n 1, 1) := by decide +kernel
theorem dX10_near_8 : decode cX10_near 8 = .ok (.invokevirtual 307, 3) := by decide +kernel
theorem dX10_near_11 : decode cX10_near 11 = .ok (.ifCond .eq 11, 3) := by decide +kernel
theorem dX10_near_14 : decode cX10_near 14 = .ok (.aload_n 0, 1) := by decide +kernel
theorem dX10_near_15 : decode cX10_near 15 = .ok (.iload_n 2, 1) := by decide +kernel
theorem dX10_near_16 : decode cX10_near 16 = .ok (.invokevirtual 310, 3) := by decide +kernel
theorem dX10_near_19 : decode cX10_near 19 = .ok (.ifCond .ne 7, 3) := by decide +kernel
theorem dX10_near_22 : decode cX10_near 22 = .ok (.iconst 1, 1) := by decide +kernel
theorem dX10_near_23 : decode cX10_near 23 = .ok (.goto 4, 3) := by decide +kernel
theorem dX10_near_26 : decode cX10_near 26 = .ok (.iconst 0, 1) := by decide +kernel
theorem dX10_near_27 : decode cX10_near 27 = .ok (.iconst 1, 1) := by decide +kernel
theorem dX10_near_28 : decode cX10_near 28 = .ok (.iconst 0, 1) := by decide +kernel
theorem dX10_near_29 : decode cX10_near 29 = .ok (.invokevirtual 164, 3) := by decide +kernel
theorem dX10_near_32 : decode cX10_near 32 = .ok (.ifCond .eq 5, 3) := by decide +kernel
theorem dX10_near_35 : decode cX10_near 35 = .ok (.iconst 0, 1) := by decide +kernel
theorem dX10_near_36 : decode cX10_near 36 = .ok (.ireturn, 1) := by decide +kernel
theorem dX10_near_37 : decode cX10_near 37 = .ok (.aload_n 0, 1) := by decide +kernel
theorem dX10_near_38 : decode cX10_near 38 = .ok (.aload_n 0, 1) := by decide +kernel
theorem dX10_near_39 : decode cX10_near 39 = .ok (.getfield 61, 3) := by decide +kernel
theorem dX10_near_42 : decode cX10_near 42 = .ok (.iconst 0, 1) := by decide +kernel
theorem dX10_near_43 : decode cX10_near 43 = .ok (.iload_n 1, 1) := by decide +kernel
theorem dX10_near_44 : decode cX10_near 44 = .ok (.iadd, 1) := by decide +kernel
theorem dX10_near_45 : decode cX10_near 45 = .ok (.iaload, 1) := by decide +kernel
theorem dX10_near_46 : decode cX10_near 46 = .ok (.iload_n 2, 1) := by decide +kernel
theorem dX10_near_47 : decode cX10_near 47 = .ok (.invokevirtual 243, 3) := by decide +kernel
theorem dX10_near_50 : decode cX10_near 50 = .ok (.ireturn, 1) := by decide +kernel
theorem dX10_fee_0 : decode cX10_fee 0 = .ok (.aload_n 0, 1) := by decide +kernel
theorem dX10_fee_1 : decode cX10_fee 1 = .ok (.iconst 0, 1) := by decide +kernel
theorem dX10_fee_2 : decode cX10_fee 2 = .ok (.putfield 88, 3) := by decide +kernel
theorem dX10_fee_5 : decode cX10_fee 5 = .ok (.aload_n 0, 1) := by decide +kernel
theorem dX10_fee_6 : decode cX10_fee 6 = .ok (.aload_n 0, 1) := by decide +kernel
theorem dX10_fee_7 : decode cX10_fee 7 = .ok (.iload_n 1, 1) := by decide +kernel
theorem dX10_fee_8 : decode cX10_fee 8 = .ok (.invokevirtual 307, 3) := by decide +kernel
theorem dX10_fee_11 : decode cX10_fee 11 = .ok (.ifCond .eq 11, 3) := by decide +kernel
theorem dX10_fee_14 : decode cX10_fee 14 = .ok (.aload_n 0, 1) := by decide +kernel
theorem dX10_fee_15 : decode cX10_fee 15 = .ok (.iload_n 2, 1) := by decide +kernel
theorem dX10_fee_16 : decode cX10_fee 16 = .ok (.invokevirtual 310, 3) := by decide +kernel
theorem dX10_fee_19 : decode cX10_fee 19 = .ok (.ifCond .ne 7, 3) := by decide +kernel
theorem dX10_fee_22 : decode cX10_fee 22 = .ok (.iconst 1, 1) := by decide +kernel
theorem dX10_fee_23 : decode cX10_fee 23 = .ok (.goto 4, 3) := by decide +kernel
theorem dX10_fee_26 : decode cX10_fee 26 = .ok (.iconst 0, 1) := by decide +kernel
theorem dX10_fee_27 : decode cX10_fee 27 = .ok (.iconst 1, 1) := by decide +kernel
theorem dX10_fee_28 : decode cX10_fee 28 = .ok (.iconst 0, 1) := by decide +kernel
theorem dX10_fee_29 : decode cX10_fee 29 = .ok (.invokevirtual 164, 3) := by decide +kernel
theorem dX10_fee_32 : decode cX10_fee 32 = .ok (.ifCond .eq 5, 3) := by decide +kernel
theorem dX10_fee_35 : decode cX10_fee 35 = .ok (.iconst 0, 1) := by decide +kernel
theorem dX10_fee_36 : decode cX10_fee 36 = .ok (.ireturn, 1) := by decide +kernel
theorem dX10_fee_37 : decode cX10_fee 37 = .ok (.aload_n 0, 1) := by decide +kernel
theorem dX10_fee_38 : decode cX10_fee 38 = .ok (.iload_n 2, 1) := by decide +kernel
theorem dX10_fee_39 : decode cX10_fee 39 = .ok (.invokevirtual 313, 3) := by decide +kernel
theorem dX10_fee_42 : decode cX10_fee 42 = .ok (.ifCond .ne 7, 3) := by decide +kernel
theorem dX10_fee_45 : decode cX10_fee 45 = .ok (.iconst (-1), 1) := by decide +kernel
theorem dX10_fee_46 : decode cX10_fee 46 = .ok (.goto 14, 3) := by decide +kernel
theorem dX10_fee_49 : decode cX10_fee 49 = .ok (.aload_n 0, 1) := by decide +kernel
theorem dX10_fee_50 : decode cX10_fee 50 = .ok (.aload_n 0, 1) := by decide +kernel
theorem dX10_fee_51 : decode cX10_fee 51 = .ok (.getfield 61, 3) := by decide +kernel
theorem dX10_fee_54 : decode cX10_fee 54 = .ok (.iload_n 1, 1) := by decide +kernel
theorem dX10_fee_55 : decode cX10_fee 55 = .ok (.iload_n 2, 1) := by decide +kernel
theorem dX10_fee_56 : decode cX10_fee 56 = .ok (.iconst 0, 1) := by decide +kernel
theorem dX10_fee_57 : decode cX10_fee 57 = .ok (.invokevirtual 257, 3) := by decide +kernel
theorem dX10_fee_60 : decode cX10_fee 60 = .ok (.ireturn, 1) := by decide +kernel
theorem dX10_would_0 : decode cX10_would 0 = .ok (.aload_n 0, 1) := by decide +kernel
theorem dX10_would_1 : decode cX10_would 1 = .ok (.iconst 0, 1) := by decide +kernel
theorem dX10_would_2 : decode cX10_would 2 = .ok (.putfield 88, 3) := by decide +kernel
theorem dX10_would_5 : decode cX10_would 5 = .ok (.aload_n 0, 1) := by decide +kernel
theorem dX10_would_6 : decode cX10_would 6 = .ok (.iload_n 1, 1) := by decide +kernel
theorem dX10_would_7 : decode cX10_would 7 = .ok (.iconst 0, 1) := by decide +kernel
theorem dX10_would_8 : decode cX10_would 8 = .ok (.bipush 40, 2) := by decide +kernel
theorem dX10_would_10 : decode cX10_would 10 = .ok (.invokestatic 122, 3) := by decide +kernel
theorem dX10_would_13 : decode cX10_would 13 = .ok (.ifCond .eq 77, 3) := by decide +kernel
theorem dX10_would_16 : decode cX10_would 16 = .ok (.iload_n 2, 1) := by decide +kernel
theorem dX10_would_17 : decode cX10_would 17 = .ok (.iconst 0, 1) := by decide +kernel
theorem dX10_would_18 : decode cX10_would 18 = .ok (.bipush 8, 2) := by decide +kernel
theorem dX10_would_20 : decode cX10_would 20 = .ok (.invokestatic 122, 3) := by decide +kernel
theorem dX10_would_23 : decode cX10_would 23 = .ok (.ifCond .eq 67, 3) := by decide +kernel
theorem dX10_would_26 : decode cX10_would 26 = .ok (.iload_n 3, 1) := by decide +kernel
theorem dX10_would_27 : decode cX10_would 27 = .ok (.iconst 0, 1) := by decide +kernel
theorem dX10_would_28 : decode cX10_would 28 = .ok (.bipush 8, 2) := by decide +kernel
theorem dX10_would_30 : decode cX10_would 30 = .ok (.invokestatic 122, 3) := by decide +kernel
theorem dX10_would_33 : decode cX10_would 33 = .ok (.ifCond .eq 57, 3) := by decide +kernel
theorem dX10_would_36 : decode cX10_would 36 = .ok (.iload 4, 2) := by decide +kernel
theorem dX10_would_38 : decode cX10_would 38 = .ok (.iconst 0, 1) := by decide +kernel
theorem dX10_would_39 : decode cX10_would 39 = .ok (.sipush 400, 3) := by decide +kernel
theorem dX10_would_42 : decode cX10_would 42 = .ok (.invokestatic 122, 3) := by decide +kernel
theorem dX10_would_45 : decode cX10_would 45 = .ok (.ifCond .eq 45, 3) := by decide +kernel
theorem dX10_would_48 : decode cX10_would 48 = .ok (.iload 5, 2) := by decide +kernel
theorem dX10_would_50 : decode cX10_would 50 = .ok (.iconst 0, 1) := by decide +kernel
theorem dX10_would_51 : decode cX10_would 51 = .ok (.sipush 999, 3) := by decide +kernel
theorem dX10_would_54 : decode cX10_would 54 = .ok (.invokestatic 122, 3) := by decide +kernel
theorem dX10_would_57 : decode cX10_would 57 = .ok (.ifCond .eq 33, 3) := by decide +kernel
theorem dX10_would_60 : decode cX10_would 60 = .ok (.iload 6, 2) := by decide +kernel
theorem dX10_would_62 : decode cX10_would 62 = .ok (.iconst 0, 1) := by decide +kernel
theorem dX10_would_63 : decode cX10_would 63 = .ok (.sipush 999, 3) := by decide +kernel
theorem dX10_would_66 : decode cX10_would 66 = .ok (.invokestatic 122, 3) := by decide +kernel
theorem dX10_would_69 : decode cX10_would 69 = .ok (.ifCond .eq 21, 3) := by decide +kernel
theorem dX10_would_72 : decode cX10_would 72 = .ok (.iload 7, 2) := by decide +kernel
theorem dX10_would_74 : decode cX10_would 74 = .ok (.invokestatic 319, 3) := by decide +kernel
theorem dX10_would_77 : decode cX10_would 77 = .ok (.ifCond .eq 13, 3) := by decide +kernel
theorem dX10_would_80 : decode cX10_would 80 = .ok (.iload 8, 2) := by decide +kernel
theorem dX10_would_82 : decode cX10_would 82 = .ok (.iconst 0, 1) := by decide +kernel
theorem dX10_would_83 : decode cX10_would 83 = .ok (.iconst 4, 1) := by decide +kernel
theorem dX10_would_84 : decode cX10_would 84 = .ok (.invokestatic 122, 3) := by decide +kernel
theorem dX10_would_87 : decode cX10_would 87 = .ok (.ifCond .ne 7, 3) := by decide +kernel
theorem dX10_would_90 : decode cX10_would 90 = .ok (.iconst 1, 1) := by decide +kernel
theorem dX10_would_91 : decode cX10_would 91 = .ok (.goto 4, 3) := by decide +kernel
theorem dX10_would_94 : decode cX10_would 94 = .ok (.iconst 0, 1) := by decide +kernel
theorem dX10_would_95 : decode cX10_would 95 = .ok (.iconst 1, 1) := by decide +kernel
theorem dX10_would_96 : decode cX10_would 96 = .ok (.iconst 1, 1) := by decide +kernel
theorem dX10_would_97 : decode cX10_would 97 = .ok (.invokevirtual 164, 3) := by decide +kernel
theorem dX10_would_100 : decode cX10_would 100 = .ok (.ifCond .eq 5, 3) := by decide +kernel
theorem dX10_would_103 : decode cX10_would 103 = .ok (.iconst 0, 1) := by decide +kernel
theorem dX10_would_104 : decode cX10_would 104 = .ok (.ireturn, 1) := by decide +kernel
theorem dX10_would_105 : decode cX10_would 105 = .ok (.aload_n 0, 1) := by decide +kernel
theorem dX10_would_106 : decode cX10_would 106 = .ok (.iload_n 1, 1) := by decide +kernel
theorem dX10_would_107 : decode cX10_would 107 = .ok (.iload_n 2, 1) := by decide +kernel
theorem dX10_would_108 : decode cX10_would 108 = .ok (.iload_n 3, 1) := by decide +kernel
theorem dX10_would_109 : decode cX10_would 109 = .ok (.iload 4, 2) := by decide +kernel
theorem dX10_would_111 : decode cX10_would 111 = .ok (.iload 5, 2) := by decide +kernel
theorem dX10_would_113 : decode cX10_would 113 = .ok (.iload 6, 2) := by decide +kernel
theorem dX10_would_115 : decode cX10_would 115 = .ok (.iload 7, 2) := by decide +kernel
theorem dX10_would_117 : decode cX10_would 117 = .ok (.iload 8, 2) := by decide +kernel
theorem dX10_would_119 : decode cX10_would 119 = .ok (.invokevirtual 249, 3) := by decide +kernel
theorem dX10_would_122 : decode cX10_would 122 = .ok (.ireturn, 1) := by decide +kernel
theorem dX10_can_0 : decode cX10_can 0 = .ok (.aload_n 0, 1) := by decide +kernel
theorem dX10_can_1 : decode cX10_can 1 = .ok (.iconst 0, 1) := by decide +kernel
theorem dX10_can_2 : decode cX10_can 2 = .ok (.putfield 88, 3) := by decide +kernel
theorem dX10_can_5 : decode cX10_can 5 = .ok (.aload_n 0, 1) := by decide +kernel
theorem dX10_can_6 : decode cX10_can 6 = .ok (.aload_n 0, 1) := by decide +kernel
theorem dX10_can_7 : decode cX10_can 7 = .ok (.iload_n 1, 1) := by decide +kernel
theorem dX10_can_8 : decode cX10_can 8 = .ok (.invokevirtual 307, 3) := by decide +kernel
theorem dX10_can_11 : decode cX10_can 11 = .ok (.ifCond .eq 11, 3) := by decide +kernel
theorem dX10_can_14 : decode cX10_can 14 = .ok (.aload_n 0, 1) := by decide +kernel
theorem dX10_can_15 : decode cX10_can 15 = .ok (.iload_n 2, 1) := by decide +kernel
theorem dX10_can_16 : decode cX10_can 16 = .ok (.invokevirtual 310, 3) := by decide +kernel
theorem dX10_can_19 : decode cX10_can 19 = .ok (.ifCond .ne 7, 3) := by decide +kernel
theorem dX10_can_22 : decode cX10_can 22 = .ok (.iconst 1, 1) := by decide +kernel
theorem dX10_can_23 : decode cX10_can 23 = .ok (.goto 4, 3) := by decide +kernel
theorem dX10_can_26 : decode cX10_can 26 = .ok (.iconst 0, 1) := by decide +kernel
theorem dX10_can_27 : decode cX10_can 27 = .ok (.iconst 1, 1) := by decide +kernel
theorem dX10_can_28 : decode cX10_can 28 = .ok (.iconst 0, 1) := by decide +kernel
theorem dX10_can_29 : decode cX10_can 29 = .ok (.invokevirtual 164, 3) := by decide +kernel
theorem dX10_can_32 : decode cX10_can 32 = .ok (.ifCond .eq 5, 3) := by decide +kernel
theorem dX10_can_35 : decode cX10_can 35 = .ok (.iconst 0, 1) := by decide +kernel
theorem dX10_can_36 : decode cX10_can 36 = .ok (.ireturn, 1) := by decide +kernel
theorem dX10_can_37 : decode cX10_can 37 = .ok (.aload_n 0, 1) := by decide +kernel
theorem dX10_can_38 : decode cX10_can 38 = .ok (.aload_n 0, 1) := by decide +kernel
theorem dX10_can_39 : decode cX10_can 39 = .ok (.getfield 61, 3) := by decide +kernel
theorem dX10_can_42 : decode cX10_can 42 = .ok (.iload_n 1, 1) := by decide +kernel
theorem dX10_can_43 : decode cX10_can 43 = .ok (.iload_n 2, 1) := by decide +kernel
theorem dX10_can_44 : decode cX10_can 44 = .ok (.invokevirtual 261, 3) := by decide +kernel
theorem dX10_can_47 : decode cX10_can 47 = .ok (.ireturn, 1) := by decide +kernel
theorem dX10_taken_0 : decode cX10_taken 0 = .ok (.aload_n 0, 1) := by decide +kernel
theorem dX10_taken_1 : decode cX10_taken 1 = .ok (.iconst 0, 1) := by decide +kernel
theorem dX10_taken_2 : decode cX10_taken 2 = .ok (.putfield 88, 3) := by decide +kernel
theorem dX10_taken_5 : decode cX10_taken 5 = .ok (.aload_n 0, 1) := by decide +kernel
theorem dX10_taken_6 : decode cX10_taken 6 = .ok (.aload_n 0, 1) := by decide +kernel
theorem dX10_taken_7 : decode cX10_taken 7 = .ok (.iload_n 1, 1) := by decide +kernel
theorem dX10_taken_8 : decode cX10_taken 8 = .ok (.invokevirtual 307, 3) := by decide +kernel
theorem dX10_taken_11 : decode cX10_taken 11 = .ok (.ifCond .eq 11, 3) := by decide +kernel
theorem dX10_taken_14 : decode cX10_taken 14 = .ok (.aload_n 0, 1) := by decide +kernel
theorem dX10_taken_15 : decode cX10_taken 15 = .ok (.iload_n 2, 1) := by decide +kernel
theorem dX10_taken_16 : decode cX10_taken 16 = .ok (.invokevirtual 310, 3) := by decide +kernel
theorem dX10_taken_19 : decode cX10_taken 19 = .ok (.ifCond .ne 7, 3) := by decide +kernel
theorem dX10_taken_22 : decode cX10_taken 22 = .ok (.iconst 1, 1) := by decide +kernel
theorem dX10_taken_23 : decode cX10_taken 23 = .ok (.goto 4, 3) := by decide +kernel
theorem dX10_taken_26 : decode cX10_taken 26 = .ok (.iconst 0, 1) := by decide +kernel
theorem dX10_taken_27 : decode cX10_taken 27 = .ok (.iconst 1, 1) := by decide +kernel
theorem dX10_taken_28 : decode cX10_taken 28 = .ok (.iconst 0, 1) := by decide +kernel
theorem dX10_taken_29 : decode cX10_taken 29 = .ok (.invokevirtual 164, 3) := by decide +kernel
theorem dX10_taken_32 : decode cX10_taken 32 = .ok (.ifCond .eq 5, 3) := by decide +kernel
theorem dX10_taken_35 : decode cX10_taken 35 = .ok (.iconst 0, 1) := by decide +kernel
theorem dX10_taken_36 : decode cX10_taken 36 = .ok (.ireturn, 1) := by decide +kernel
theorem dX10_taken_37 : decode cX10_taken 37 = .ok (.aload_n 0, 1) := by decide +kernel
theorem dX10_taken_38 : decode cX10_taken 38 = .ok (.aload_n 0, 1) := by decide +kernel
theorem dX10_taken_39 : decode cX10_taken 39 = .ok (.getfield 61, 3) := by decide +kernel
theorem dX10_taken_42 : decode cX10_taken 42 = .ok (.iconst 0, 1) := by decide +kernel
theorem dX10_taken_43 : decode cX10_taken 43 = .ok (.iload_n 1, 1) := by decide +kernel
theorem dX10_taken_44 : decode cX10_taken 44 = .ok (.iadd, 1) := by decide +kernel
theorem dX10_taken_45 : decode cX10_taken 45 = .ok (.iaload, 1) := by decide +kernel
theorem dX10_taken_46 : decode cX10_taken 46 = .ok (.iload_n 2, 1) := by decide +kernel
theorem dX10_taken_47 : decode cX10_taken 47 = .ok (.invokevirtual 243, 3) := by decide +kernel
theorem dX10_taken_50 : decode cX10_taken 50 = .ok (.istore_n 3, 1) := by decide +kernel
theorem dX10_taken_51 : decode cX10_taken 51 = .ok (.iconst 0, 1) := by decide +kernel
theorem dX10_taken_52 : decode cX10_taken 52 = .ok (.istore 4, 2) := by decide +kernel
theorem dX10_taken_54 : decode cX10_taken 54 = .ok (.iload 4, 2) := by decide +kernel
theorem dX10_taken_56 : decode cX10_taken 56 = .ok (.aload_n 0, 1) := by decide +kernel
theorem dX10_taken_57 : decode cX10_taken 57 = .ok (.getfield 23, 3) := by decide +kernel
theorem dX10_taken_60 : decode cX10_taken 60 = .ok (.iconst 2, 1) := by decide +kernel
theorem dX10_taken_61 : decode cX10_taken 61 = .ok (.iaload, 1) := by decide +kernel
theorem dX10_taken_62 : decode cX10_taken 62 = .ok (.if_icmp .ge 57, 3) := by decide +kernel
theorem dX10_taken_65 : decode cX10_taken 65 = .ok (.aload_n 0, 1) := by decide +kernel
theorem dX10_taken_66 : decode cX10_taken 66 = .ok (.getfield 43, 3) := by decide +kernel
theorem dX10_taken_69 : decode cX10_taken 69 = .ok (.iload 4, 2) := by decide +kernel
theorem dX10_taken_71 : decode cX10_taken 71 = .ok (.aaload, 1) := by decide +kernel
theorem dX10_taken_72 : decode cX10_taken 72 = .ok (.iconst 0, 1) := by decide +kernel
theorem dX10_taken_73 : decode cX10_taken 73 = .ok (.iaload, 1) := by decide +kernel
theorem dX10_taken_74 : decode cX10_taken 74 = .ok (.iload_n 2, 1) := by decide +kernel
theorem dX10_taken_75 : decode cX10_taken 75 = .ok (.if_icmp .ne 38, 3) := by decide +kernel
theorem dX10_taken_78 : decode cX10_taken 78 = .ok (.aload_n 0, 1) := by decide +kernel
theorem dX10_taken_79 : decode cX10_taken 79 = .ok (.getfield 61, 3) := by decide +kernel
theorem dX10_taken_82 : decode cX10_taken 82 = .ok (.iconst 0, 1) := by decide +kernel
theorem dX10_taken_83 : decode cX10_taken 83 = .ok (.iload_n 1, 1) := by decide +kernel
theorem dX10_taken_84 : decode cX10_taken 84 = .ok (.iadd, 1) := by decide +kernel
theorem dX10_taken_85 : decode cX10_taken 85 = .ok (.iaload, 1) := by decide +kernel
theorem dX10_taken_86 : decode cX10_taken 86 = .ok (.aload_n 0, 1) := by decide +kernel
theorem dX10_taken_87 : decode cX10_taken 87 = .ok (.getfield 43, 3) := by decide +kernel
theorem dX10_taken_90 : decode cX10_taken 90 = .ok (.iload 4, 2) := by decide +kernel
theorem dX10_taken_92 : decode cX10_taken 92 = .ok (.aaload, 1) := by decide +kernel
theorem dX10_taken_93 : decode cX10_taken 93 = .ok (.iconst 1, 1) := by decide +kernel
theorem dX10_taken_94 : decode cX10_taken 94 = .ok (.iaload, 1) := by decide +kernel
theorem dX10_taken_95 : decode cX10_taken 95 = .ok (.ixor, 1) := by decide +kernel
theorem dX10_taken_96 : decode cX10_taken 96 = .ok (.invokestatic 240, 3) := by decide +kernel
theorem dX10_taken_99 : decode cX10_taken 99 = .ok (.iload_n 3, 1) := by decide +kernel
theorem dX10_taken_100 : decode cX10_taken 100 = .ok (.if_icmp .ne 13, 3) := by decide +kernel
theorem dX10_taken_103 : decode cX10_taken 103 = .ok (.aload_n 0, 1) := by decide +kernel
theorem dX10_taken_104 : decode cX10_taken 104 = .ok (.getfield 43, 3) := by decide +kernel
theorem dX10_taken_107 : decode cX10_taken 107 = .ok (.iload 4, 2) := by decide +kernel
theorem dX10_taken_109 : decode cX10_taken 109 = .ok (.aaload, 1) := by decide +kernel
theorem dX10_taken_110 : decode cX10_taken 110 = .ok (.iconst 1, 1) := by decide +kernel
theorem dX10_taken_111 : decode cX10_taken 111 = .ok (.iaload, 1) := by decide +kernel
theorem dX10_taken_112 : decode cX10_taken 112 = .ok (.ireturn, 1) := by decide +kernel
theorem dX10_taken_113 : decode cX10_taken 113 = .ok (.iinc 4 1, 3) := by decide +kernel
theorem dX10_taken_116 : decode cX10_taken 116 = .ok (.goto (-62), 3) := by decide +kernel
theorem dX10_taken_119 : decode cX10_taken 119 = .ok (.iconst (-1), 1) := by decide +kernel
theorem dX10_taken_120 : decode cX10_taken 120 = .ok (.ireturn, 1) := by decide +kernel
theorem dX10_cheapest_0 : decode cX10_cheapest 0 = .ok (.aload_n 0, 1) := by decide +kernel
theorem dX10_cheapest_1 : decode cX10_cheapest 1 = .ok (.iconst 0, 1) := by decide +kernel
theorem dX10_cheapest_2 : decode cX10_cheapest 2 = .ok (.putfield 88, 3) := by decide +kernel
theorem dX10_cheapest_5 : decode cX10_cheapest 5 = .ok (.aload_n 0, 1) := by decide +kernel
theorem dX10_cheapest_6 : decode cX10_cheapest 6 = .ok (.aload_n 0, 1) := by decide +kernel
theorem dX10_cheapest_7 : decode cX10_cheapest 7 = .ok (.iload_n 1, 1) := by decide +kernel
theorem dX10_cheapest_8 : decode cX10_cheapest 8 = .ok (.invokevirtual 307, 3) := by decide +kernel
theorem dX10_cheapest_11 : decode cX10_cheapest 11 = .ok (.ifCond .ne 7, 3) := by decide +kernel
theorem dX10_cheapest_14 : decode cX10_cheapest 14 = .ok (.iconst 1, 1) := by decide +kernel
theorem dX10_cheapest_15 : decode cX10_cheapest 15 = .ok (.goto 4, 3) := by decide +kernel
theorem dX10_cheapest_18 : decode cX10_cheapest 18 = .ok (.iconst 0, 1) := by decide +kernel
theorem dX10_cheapest_19 : decode cX10_cheapest 19 = .ok (.iconst 1, 1) := by decide +kernel
theorem dX10_cheapest_20 : decode cX10_cheapest 20 = .ok (.iconst 0, 1) := by decide +kernel
theorem dX10_cheapest_21 : decode cX10_cheapest 21 = .ok (.invokevirtual 164, 3) := by decide +kernel
theorem dX10_cheapest_24 : decode cX10_cheapest 24 = .ok (.ifCond .ne 26, 3) := by decide +kernel
theorem dX10_cheapest_27 : decode cX10_cheapest 27 = .ok (.aload_n 0, 1) := by decide +kernel
theorem dX10_cheapest_28 : decode cX10_cheapest 28 = .ok (.iload_n 2, 1) := by decide +kernel
theorem dX10_cheapest_29 : decode cX10_cheapest 29 = .ok (.iconst 0, 1) := by decide +kernel
theorem dX10_cheapest_30 : decode cX10_cheapest 30 = .ok (.iconst 1, 1) := by decide +kernel
theorem dX10_cheapest_31 : decode cX10_cheapest 31 = .ok (.invokestatic 122, 3) := by decide +kernel
theorem dX10_cheapest_34 : decode cX10_cheapest 34 = .ok (.ifCond .ne 7, 3) := by decide +kernel
theorem dX10_cheapest_37 : decode cX10_cheapest 37 = .ok (.iconst 1, 1) := by decide +kernel
theorem dX10_cheapest_38 : decode cX10_cheapest 38 = .ok (.goto 4, 3) := by decide +kernel
theorem dX10_cheapest_41 : decode cX10_cheapest 41 = .ok (.iconst 0, 1) := by decide +kernel
theorem dX10_cheapest_42 : decode cX10_cheapest 42 = .ok (.iconst 2, 1) := by decide +kernel
theorem dX10_cheapest_43 : decode cX10_cheapest 43 = .ok (.iconst 1, 1) := by decide +kernel
theorem dX10_cheapest_44 : decode cX10_cheapest 44 = .ok (.invokevirtual 164, 3) := by decide +kernel
theorem dX10_cheapest_47 : decode cX10_cheapest 47 = .ok (.ifCond .eq 5, 3) := by decide +kernel
theorem dX10_cheapest_50 : decode cX10_cheapest 50 = .ok (.iconst 0, 1) := by decide +kernel
theorem dX10_cheapest_51 : decode cX10_cheapest 51 = .ok (.ireturn, 1) := by decide +kernel
theorem dX10_cheapest_52 : decode cX10_cheapest 52 = .ok (.iconst (-1), 1) := by decide +kernel
theorem dX10_cheapest_53 : decode cX10_cheapest 53 = .ok (.istore_n 3, 1) := by decide +kernel
theorem dX10_cheapest_54 : decode cX10_cheapest 54 = .ok (.iconst (-1), 1) := by decide +kernel
theorem dX10_cheapest_55 : decode cX10_cheapest 55 = .ok (.istore 4, 2) := by decide +kernel
theorem dX10_cheapest_57 : decode cX10_cheapest 57 = .ok (.iconst 0, 1) := by decide +kernel
theorem dX10_cheapest_58 : decode cX10_cheapest 58 = .ok (.istore 5, 2) := by decide +kernel
theorem dX10_cheapest_60 : decode cX10_cheapest 60 = .ok (.iload 5, 2) := by decide +kernel
theorem dX10_cheapest_62 : decode cX10_cheapest 62 = .ok (.aload_n 0, 1) := by decide +kernel
theorem dX10_cheapest_63 : decode cX10_cheapest 63 = .ok (.getfield 23, 3) := by decide +kernel
theorem dX10_cheapest_66 : decode cX10_cheapest 66 = .ok (.iconst 1, 1) := by decide +kernel
theorem dX10_cheapest_67 : decode cX10_cheapest 67 = .ok (.iaload, 1) := by decide +kernel
theorem dX10_cheapest_68 : decode cX10_cheapest 68 = .ok (.if_icmp .ge 65, 3) := by decide +kernel
theorem dX10_cheapest_71 : decode cX10_cheapest 71 = .ok (.aload_n 0, 1) := by decide +kernel
theorem dX10_cheapest_72 : decode cX10_cheapest 72 = .ok (.aload_n 0, 1) := by decide +kernel
theorem dX10_cheapest_73 : decode cX10_cheapest 73 = .ok (.getfield 61, 3) := by decide +kernel
theorem dX10_cheapest_76 : decode cX10_cheapest 76 = .ok (.iconst 0, 1) := by decide +kernel
theorem dX10_cheapest_77 : decode cX10_cheapest 77 = .ok (.iload_n 1, 1) := by decide +kernel
theorem dX10_cheapest_78 : decode cX10_cheapest 78 = .ok (.iadd, 1) := by decide +kernel
theorem dX10_cheapest_79 : decode cX10_cheapest 79 = .ok (.iaload, 1) := by decide +kernel
theorem dX10_cheapest_80 : decode cX10_cheapest 80 = .ok (.iload 5, 2) := by decide +kernel
theorem dX10_cheapest_82 : decode cX10_cheapest 82 = .ok (.invokevirtual 253, 3) := by decide +kernel
theorem dX10_cheapest_85 : decode cX10_cheapest 85 = .ok (.ifCond .ne 6, 3) := by decide +kernel
theorem dX10_cheapest_88 : decode cX10_cheapest 88 = .ok (.goto 39, 3) := by decide +kernel
theorem dX10_cheapest_91 : decode cX10_cheapest 91 = .ok (.aload_n 0, 1) := by decide +kernel
theorem dX10_cheapest_92 : decode cX10_cheapest 92 = .ok (.aload_n 0, 1) := by decide +kernel
theorem dX10_cheapest_93 : decode cX10_cheapest 93 = .ok (.getfield 61, 3) := by decide +kernel
theorem dX10_cheapest_96 : decode cX10_cheapest 96 = .ok (.iload_n 1, 1) := by decide +kernel
theorem dX10_cheapest_97 : decode cX10_cheapest 97 = .ok (.iload 5, 2) := by decide +kernel
theorem dX10_cheapest_99 : decode cX10_cheapest 99 = .ok (.iconst 0, 1) := by decide +kernel
theorem dX10_cheapest_100 : decode cX10_cheapest 100 = .ok (.invokevirtual 257, 3) := by decide +kernel
theorem dX10_cheapest_103 : decode cX10_cheapest 103 = .ok (.istore 6, 2) := by decide +kernel
theorem dX10_cheapest_105 : decode cX10_cheapest 105 = .ok (.iload_n 3, 1) := by decide +kernel
theorem dX10_cheapest_106 : decode cX10_cheapest 106 = .ok (.iconst (-1), 1) := by decide +kernel
theorem dX10_cheapest_107 : decode cX10_cheapest 107 = .ok (.if_icmp .eq 13, 3) := by decide +kernel
theorem dX10_cheapest_110 : decode cX10_cheapest 110 = .ok (.iload 6, 2) := by decide +kernel
theorem dX10_cheapest_112 : decode cX10_cheapest 112 = .ok (.iload 4, 2) := by decide +kernel
theorem dX10_cheapest_114 : decode cX10_cheapest 114 = .ok (.if_icmp .lt 6, 3) := by decide +kernel
theorem dX10_cheapest_117 : decode cX10_cheapest 117 = .ok (.goto 10, 3) := by decide +kernel
theorem dX10_cheapest_120 : decode cX10_cheapest 120 = .ok (.iload 5, 2) := by decide +kernel
theorem dX10_cheapest_122 : decode cX10_cheapest 122 = .ok (.istore_n 3, 1) := by decide +kernel
theorem dX10_cheapest_123 : decode cX10_cheapest 123 = .ok (.iload 6, 2) := by decide +kernel
theorem dX10_cheapest_125 : decode cX10_cheapest 125 = .ok (.istore 4, 2) := by decide +kernel
theorem dX10_cheapest_127 : decode cX10_cheapest 127 = .ok (.iinc 5 1, 3) := by decide +kernel
theorem dX10_cheapest_130 : decode cX10_cheapest 130 = .ok (.goto (-70), 3) := by decide +kernel
theorem dX10_cheapest_133 : decode cX10_cheapest 133 = .ok (.iload_n 2, 1) := by decide +kernel
theorem dX10_cheapest_134 : decode cX10_cheapest 134 = .ok (.ifCond .ne 7, 3) := by decide +kernel
theorem dX10_cheapest_137 : decode cX10_cheapest 137 = .ok (.iload_n 3, 1) := by decide +kernel
theorem dX10_cheapest_138 : decode cX10_cheapest 138 = .ok (.goto 5, 3) := by decide +kernel
theorem dX10_cheapest_141 : decode cX10_cheapest 141 = .ok (.iload 4, 2) := by decide +kernel
theorem dX10_cheapest_143 : decode cX10_cheapest 143 = .ok (.ireturn, 1) := by decide +kernel
theorem dX10_striped_0 : decode cX10_striped 0 = .ok (.aload_n 0, 1) := by decide +kernel
theorem dX10_striped_1 : decode cX10_striped 1 = .ok (.iconst 0, 1) := by decide +kernel
theorem dX10_striped_2 : decode cX10_striped 2 = .ok (.putfield 88, 3) := by decide +kernel
theorem dX10_striped_5 : decode cX10_striped 5 = .ok (.aload_n 0, 1) := by decide +kernel
theorem dX10_striped_6 : decode cX10_striped 6 = .ok (.iload_n 1, 1) := by decide +kernel
theorem dX10_striped_7 : decode cX10_striped 7 = .ok (.iconst 0, 1) := by decide +kernel
theorem dX10_striped_8 : decode cX10_striped 8 = .ok (.bipush 7, 2) := by decide +kernel
theorem dX10_striped_10 : decode cX10_striped 10 = .ok (.invokestatic 122, 3) := by decide +kernel
theorem dX10_striped_13 : decode cX10_striped 13 = .ok (.ifCond .ne 7, 3) := by decide +kernel
theorem dX10_striped_16 : decode cX10_striped 16 = .ok (.iconst 1, 1) := by decide +kernel
theorem dX10_striped_17 : decode cX10_striped 17 = .ok (.goto 4, 3) := by decide +kernel
theorem dX10_striped_20 : decode cX10_striped 20 = .ok (.iconst 0, 1) := by decide +kernel
theorem dX10_striped_21 : decode cX10_striped 21 = .ok (.iconst 1, 1) := by decide +kernel
theorem dX10_striped_22 : decode cX10_striped 22 = .ok (.iconst 1, 1) := by decide +kernel
theorem dX10_striped_23 : decode cX10_striped 23 = .ok (.invokevirtual 164, 3) := by decide +kernel
theorem dX10_striped_26 : decode cX10_striped 26 = .ok (.ifCond .eq 5, 3) := by decide +kernel
theorem dX10_striped_29 : decode cX10_striped 29 = .ok (.iconst 0, 1) := by decide +kernel
theorem dX10_striped_30 : decode cX10_striped 30 = .ok (.ireturn, 1) := by decide +kernel
theorem dX10_striped_31 : decode cX10_striped 31 = .ok (.iconst 0, 1) := by decide +kernel
theorem dX10_striped_32 : decode cX10_striped 32 = .ok (.istore_n 2, 1) := by decide +kernel
theorem dX10_striped_33 : decode cX10_striped 33 = .ok (.iconst 0, 1) := by decide +kernel
theorem dX10_striped_34 : decode cX10_striped 34 = .ok (.istore_n 3, 1) := by decide +kernel
theorem dX10_striped_35 : decode cX10_striped 35 = .ok (.iload_n 3, 1) := by decide +kernel
theorem dX10_striped_36 : decode cX10_striped 36 = .ok (.aload_n 0, 1) := by decide +kernel
theorem dX10_striped_37 : decode cX10_striped 37 = .ok (.getfield 61, 3) := by decide +kernel
theorem dX10_striped_40 : decode cX10_striped 40 = .ok (.bipush 42, 2) := by decide +kernel
theorem dX10_striped_42 : decode cX10_striped 42 = .ok (.iaload, 1) := by decide +kernel
theorem dX10_striped_43 : decode cX10_striped 43 = .ok (.if_icmp .ge 34, 3) := by decide +kernel
theorem dX10_striped_46 : decode cX10_striped 46 = .ok (.iload_n 2, 1) := by decide +kernel
theorem dX10_striped_47 : decode cX10_striped 47 = .ok (.aload_n 0, 1) := by decide +kernel
theorem dX10_striped_48 : decode cX10_striped 48 = .ok (.getfield 61, 3) := by decide +kernel
theorem dX10_striped_51 : decode cX10_striped 51 = .ok (.iconst 0, 1) := by decide +kernel
theorem dX10_striped_52 : decode cX10_striped 52 = .ok (.iload_n 3, 1) := by decide +kernel
theorem dX10_striped_53 : decode cX10_striped 53 = .ok (.iadd, 1) := by decide +kernel
theorem dX10_striped_54 : decode cX10_striped 54 = .ok (.iaload, 1) := by decide +kernel
theorem dX10_striped_55 : decode cX10_striped 55 = .ok (.iload_n 1, 1) := by decide +kernel
theorem dX10_striped_56 : decode cX10_striped 56 = .ok (.invokestatic 322, 3) := by decide +kernel
theorem dX10_striped_59 : decode cX10_striped 59 = .ok (.ifCond .eq 9, 3) := by decide +kernel
theorem dX10_striped_62 : decode cX10_striped 62 = .ok (.iconst 1, 1) := by decide +kernel
theorem dX10_striped_63 : decode cX10_striped 63 = .ok (.iload_n 3, 1) := by decide +kernel
theorem dX10_striped_64 : decode cX10_striped 64 = .ok (.ishl, 1) := by decide +kernel
theorem dX10_striped_65 : decode cX10_striped 65 = .ok (.goto 4, 3) := by decide +kernel
theorem dX10_striped_68 : decode cX10_striped 68 = .ok (.iconst 0, 1) := by decide +kernel
theorem dX10_striped_69 : decode cX10_striped 69 = .ok (.ior, 1) := by decide +kernel
theorem dX10_striped_70 : decode cX10_striped 70 = .ok (.istore_n 2, 1) := by decide +kernel
theorem dX10_striped_71 : decode cX10_striped 71 = .ok (.iinc 3 1, 3) := by decide +kernel
theorem dX10_striped_74 : decode cX10_striped 74 = .ok (.goto (-39), 3) := by decide +kernel
theorem dX10_striped_77 : decode cX10_striped 77 = .ok (.iload_n 2, 1) := by decide +kernel
theorem dX10_striped_78 : decode cX10_striped 78 = .ok (.ireturn, 1) := by decide +kernel
theorem dX10_oldest_0 : decode cX10_oldest 0 = .ok (.aload_n 0, 1) := by decide +kernel
theorem dX10_oldest_1 : decode cX10_oldest 1 = .ok (.iconst 0, 1) := by decide +kernel
theorem dX10_oldest_2 : decode cX10_oldest 2 = .ok (.putfield 88, 3) := by decide +kernel
theorem dX10_oldest_5 : decode cX10_oldest 5 = .ok (.aload_n 0, 1) := by decide +kernel
theorem dX10_oldest_6 : decode cX10_oldest 6 = .ok (.iload_n 1, 1) := by decide +kernel
theorem dX10_oldest_7 : decode cX10_oldest 7 = .ok (.iconst 0, 1) := by decide +kernel
theorem dX10_oldest_8 : decode cX10_oldest 8 = .ok (.iconst 1, 1) := by decide +kernel
theorem dX10_oldest_9 : decode cX10_oldest 9 = .ok (.invokestatic 122, 3) := by decide +kernel
theorem dX10_oldest_12 : decode cX10_oldest 12 = .ok (.ifCond .ne 7, 3) := by decide +kernel
theorem dX10_oldest_15 : decode cX10_oldest 15 = .ok (.iconst 1, 1) := by decide +kernel
theorem dX10_oldest_16 : decode cX10_oldest 16 = .ok (.goto 4, 3) := by decide +kernel
theorem dX10_oldest_19 : decode cX10_oldest 19 = .ok (.iconst 0, 1) := by decide +kernel
theorem dX10_oldest_20 : decode cX10_oldest 20 = .ok (.iconst 1, 1) := by decide +kernel
theorem dX10_oldest_21 : decode cX10_oldest 21 = .ok (.iconst 1, 1) := by decide +kernel
theorem dX10_oldest_22 : decode cX10_oldest 22 = .ok (.invokevirtual 164, 3) := by decide +kernel
theorem dX10_oldest_25 : decode cX10_oldest 25 = .ok (.ifCond .eq 5, 3) := by decide +kernel
theorem dX10_oldest_28 : decode cX10_oldest 28 = .ok (.iconst 0, 1) := by decide +kernel
theorem dX10_oldest_29 : decode cX10_oldest 29 = .ok (.ireturn, 1) := by decide +kernel
theorem dX10_oldest_30 : decode cX10_oldest 30 = .ok (.iconst (-1), 1) := by decide +kernel
theorem dX10_oldest_31 : decode cX10_oldest 31 = .ok (.istore_n 2, 1) := by decide +kernel
theorem dX10_oldest_32 : decode cX10_oldest 32 = .ok (.iconst (-1), 1) := by decide +kernel
theorem dX10_oldest_33 : decode cX10_oldest 33 = .ok (.istore_n 3, 1) := by decide +kernel
theorem dX10_oldest_34 : decode cX10_oldest 34 = .ok (.iconst 0, 1) := by decide +kernel
theorem dX10_oldest_35 : decode cX10_oldest 35 = .ok (.istore 4, 2) := by decide +kernel
theorem dX10_oldest_37 : decode cX10_oldest 37 = .ok (.iload 4, 2) := by decide +kernel
theorem dX10_oldest_39 : decode cX10_oldest 39 = .ok (.aload_n 0, 1) := by decide +kernel
theorem dX10_oldest_40 : decode cX10_oldest 40 = .ok (.getfield 61, 3) := by decide +kernel
theorem dX10_oldest_43 : decode cX10_oldest 43 = .ok (.bipush 42, 2) := by decide +kernel
theorem dX10_oldest_45 : decode cX10_oldest 45 = .ok (.iaload, 1) := by decide +kernel
theorem dX10_oldest_46 : decode cX10_oldest 46 = .ok (.if_icmp .ge 40, 3) := by decide +kernel
theorem dX10_oldest_49 : decode cX10_oldest 49 = .ok (.aload_n 0, 1) := by decide +kernel
theorem dX10_oldest_50 : decode cX10_oldest 50 = .ok (.getfield 61, 3) := by decide +kernel
theorem dX10_oldest_53 : decode cX10_oldest 53 = .ok (.bipush 16, 2) := by decide +kernel
theorem dX10_oldest_55 : decode cX10_oldest 55 = .ok (.iload 4, 2) := by decide +kernel
theorem dX10_oldest_57 : decode cX10_oldest 57 = .ok (.iadd, 1) := by decide +kernel
theorem dX10_oldest_58 : decode cX10_oldest 58 = .ok (.iaload, 1) := by decide +kernel
theorem dX10_oldest_59 : decode cX10_oldest 59 = .ok (.iload_n 3, 1) := by decide +kernel
theorem dX10_oldest_60 : decode cX10_oldest 60 = .ok (.if_icmp .gt 6, 3) := by decide +kernel
theorem dX10_oldest_63 : decode cX10_oldest 63 = .ok (.goto 17, 3) := by decide +kernel
theorem dX10_oldest_66 : decode cX10_oldest 66 = .ok (.iload 4, 2) := by decide +kernel
theorem dX10_oldest_68 : decode cX10_oldest 68 = .ok (.istore_n 2, 1) := by decide +kernel
theorem dX10_oldest_69 : decode cX10_oldest 69 = .ok (.aload_n 0, 1) := by decide +kernel
theorem dX10_oldest_70 : decode cX10_oldest 70 = .ok (.getfield 61, 3) := by decide +kernel
theorem dX10_oldest_73 : decode cX10_oldest 73 = .ok (.bipush 16, 2) := by decide +kernel
theorem dX10_oldest_75 : decode cX10_oldest 75 = .ok (.iload 4, 2) := by decide +kernel
theorem dX10_oldest_77 : decode cX10_oldest 77 = .ok (.iadd, 1) := by decide +kernel
theorem dX10_oldest_78 : decode cX10_oldest 78 = .ok (.iaload, 1) := by decide +kernel
theorem dX10_oldest_79 : decode cX10_oldest 79 = .ok (.istore_n 3, 1) := by decide +kernel
theorem dX10_oldest_80 : decode cX10_oldest 80 = .ok (.iinc 4 1, 3) := by decide +kernel
theorem dX10_oldest_83 : decode cX10_oldest 83 = .ok (.goto (-46), 3) := by decide +kernel
theorem dX10_oldest_86 : decode cX10_oldest 86 = .ok (.iload_n 1, 1) := by decide +kernel
theorem dX10_oldest_87 : decode cX10_oldest 87 = .ok (.ifCond .ne 7, 3) := by decide +kernel
theorem dX10_oldest_90 : decode cX10_oldest 90 = .ok (.iload_n 2, 1) := by decide +kernel
theorem dX10_oldest_91 : decode cX10_oldest 91 = .ok (.goto 4, 3) := by decide +kernel
theorem dX10_oldest_94 : decode cX10_oldest 94 = .ok (.iload_n 3, 1) := by decide +kernel
theorem dX10_oldest_95 : decode cX10_oldest 95 = .ok (.ireturn, 1) := by decide +kernel
theorem dX10_richest_0 : decode cX10_richest 0 = .ok (.aload_n 0, 1) := by decide +kernel
theorem dX10_richest_1 : decode cX10_richest 1 = .ok (.iconst 0, 1) := by decide +kernel
theorem dX10_richest_2 : decode cX10_richest 2 = .ok (.putfield 88, 3) := by decide +kernel
theorem dX10_richest_5 : decode cX10_richest 5 = .ok (.aload_n 0, 1) := by decide +kernel
theorem dX10_richest_6 : decode cX10_richest 6 = .ok (.iload_n 1, 1) := by decide +kernel
theorem dX10_richest_7 : decode cX10_richest 7 = .ok (.iconst 0, 1) := by decide +kernel
theorem dX10_richest_8 : decode cX10_richest 8 = .ok (.iconst 1, 1) := by decide +kernel
theorem dX10_richest_9 : decode cX10_richest 9 = .ok (.invokestatic 122, 3) := by decide +kernel
theorem dX10_richest_12 : decode cX10_richest 12 = .ok (.ifCond .ne 7, 3) := by decide +kernel
theorem dX10_richest_15 : decode cX10_richest 15 = .ok (.iconst 1, 1) := by decide +kernel
theorem dX10_richest_16 : decode cX10_richest 16 = .ok (.goto 4, 3) := by decide +kernel
theorem dX10_richest_19 : decode cX10_richest 19 = .ok (.iconst 0, 1) := by decide +kernel
theorem dX10_richest_20 : decode cX10_richest 20 = .ok (.iconst 1, 1) := by decide +kernel
theorem dX10_richest_21 : decode cX10_richest 21 = .ok (.iconst 1, 1) := by decide +kernel
theorem dX10_richest_22 : decode cX10_richest 22 = .ok (.invokevirtual 164, 3) := by decide +kernel
theorem dX10_richest_25 : decode cX10_richest 25 = .ok (.ifCond .eq 5, 3) := by decide +kernel
theorem dX10_richest_28 : decode cX10_richest 28 = .ok (.iconst 0, 1) := by decide +kernel
theorem dX10_richest_29 : decode cX10_richest 29 = .ok (.ireturn, 1) := by decide +kernel
theorem dX10_richest_30 : decode cX10_richest 30 = .ok (.iconst (-1), 1) := by decide +kernel
theorem dX10_richest_31 : decode cX10_richest 31 = .ok (.istore_n 2, 1) := by decide +kernel
theorem dX10_richest_32 : decode cX10_richest 32 = .ok (.iconst 0, 1) := by decide +kernel
theorem dX10_richest_33 : decode cX10_richest 33 = .ok (.istore_n 3, 1) := by decide +kernel
theorem dX10_richest_34 : decode cX10_richest 34 = .ok (.iconst 0, 1) := by decide +kernel
theorem dX10_richest_35 : decode cX10_richest 35 = .ok (.istore 4, 2) := by decide +kernel
theorem dX10_richest_37 : decode cX10_richest 37 = .ok (.iload 4, 2) := by decide +kernel
theorem dX10_richest_39 : decode cX10_richest 39 = .ok (.aload_n 0, 1) := by decide +kernel
theorem dX10_richest_40 : decode cX10_richest 40 = .ok (.getfield 23, 3) := by decide +kernel
theorem dX10_richest_43 : decode cX10_richest 43 = .ok (.iconst 1, 1) := by decide +kernel
theorem dX10_richest_44 : decode cX10_richest 44 = .ok (.iaload, 1) := by decide +kernel
theorem dX10_richest_45 : decode cX10_richest 45 = .ok (.if_icmp .ge 40, 3) := by decide +kernel
theorem dX10_richest_48 : decode cX10_richest 48 = .ok (.aload_n 0, 1) := by decide +kernel
theorem dX10_richest_49 : decode cX10_richest 49 = .ok (.getfield 61, 3) := by decide +kernel
theorem dX10_richest_52 : decode cX10_richest 52 = .ok (.bipush 37, 2) := by decide +kernel
theorem dX10_richest_54 : decode cX10_richest 54 = .ok (.iload 4, 2) := by decide +kernel
theorem dX10_richest_56 : decode cX10_richest 56 = .ok (.iadd, 1) := by decide +kernel
theorem dX10_richest_57 : decode cX10_richest 57 = .ok (.iaload, 1) := by decide +kernel
theorem dX10_richest_58 : decode cX10_richest 58 = .ok (.iload_n 3, 1) := by decide +kernel
theorem dX10_richest_59 : decode cX10_richest 59 = .ok (.if_icmp .gt 6, 3) := by decide +kernel
theorem dX10_richest_62 : decode cX10_richest 62 = .ok (.goto 17, 3) := by decide +kernel
theorem dX10_richest_65 : decode cX10_richest 65 = .ok (.iload 4, 2) := by decide +kernel
theorem dX10_richest_67 : decode cX10_richest 67 = .ok (.istore_n 2, 1) := by decide +kernel
theorem dX10_richest_68 : decode cX10_richest 68 = .ok (.aload_n 0, 1) := by decide +kernel
theorem dX10_richest_69 : decode cX10_richest 69 = .ok (.getfield 61, 3) := by decide +kernel
theorem dX10_richest_72 : decode cX10_richest 72 = .ok (.bipush 37, 2) := by decide +kernel
theorem dX10_richest_74 : decode cX10_richest 74 = .ok (.iload 4, 2) := by decide +kernel
theorem dX10_richest_76 : decode cX10_richest 76 = .ok (.iadd, 1) := by decide +kernel
theorem dX10_richest_77 : decode cX10_richest 77 = .ok (.iaload, 1) := by decide +kernel
theorem dX10_richest_78 : decode cX10_richest 78 = .ok (.istore_n 3, 1) := by decide +kernel
theorem dX10_richest_79 : decode cX10_richest 79 = .ok (.iinc 4 1, 3) := by decide +kernel
theorem dX10_richest_82 : decode cX10_richest 82 = .ok (.goto (-45), 3) := by decide +kernel
theorem dX10_richest_85 : decode cX10_richest 85 = .ok (.iload_n 1, 1) := by decide +kernel
theorem dX10_richest_86 : decode cX10_richest 86 = .ok (.ifCond .eq 8, 3) := by decide +kernel
theorem dX10_richest_89 : decode cX10_richest 89 = .ok (.iload_n 2, 1) := by decide +kernel
theorem dX10_richest_90 : decode cX10_richest 90 = .ok (.iconst (-1), 1) := by decide +kernel
theorem dX10_richest_91 : decode cX10_richest 91 = .ok (.if_icmp .ne 7, 3) := by decide +kernel
theorem dX10_richest_94 : decode cX10_richest 94 = .ok (.iload_n 2, 1) := by decide +kernel
theorem dX10_richest_95 : decode cX10_richest 95 = .ok (.goto 4, 3) := by decide +kernel
theorem dX10_richest_98 : decode cX10_richest 98 = .ok (.iload_n 3, 1) := by decide +kernel
theorem dX10_richest_99 : decode cX10_richest 99 = .ok (.ireturn, 1) := by decide +kernel
theorem dX10_affords_0 : decode cX10_affords 0 = .ok (.aload_n 0, 1) := by decide +kernel
theorem dX10_affords_1 : decode cX10_affords 1 = .ok (.iconst 0, 1) := by decide +kernel
theorem dX10_affords_2 : decode cX10_affords 2 = .ok (.putfield 88, 3) := by decide +kernel
theorem dX10_affords_5 : decode cX10_affords 5 = .ok (.aload_n 0, 1) := by decide +kernel
theorem dX10_affords_6 : decode cX10_affords 6 = .ok (.aload_n 0, 1) := by decide +kernel
theorem dX10_affords_7 : decode cX10_affords 7 = .ok (.iload_n 1, 1) := by decide +kernel
theorem dX10_affords_8 : decode cX10_affords 8 = .ok (.invokevirtual 307, 3) := by decide +kernel
theorem dX10_affords_11 : decode cX10_affords 11 = .ok (.ifCond .eq 11, 3) := by decide +kernel
theorem dX10_affords_14 : decode cX10_affords 14 = .ok (.aload_n 0, 1) := by decide +kernel
theorem dX10_affords_15 : decode cX10_affords 15 = .ok (.iload_n 2, 1) := by decide +kernel
theorem dX10_affords_16 : decode cX10_affords 16 = .ok (.invokevirtual 310, 3) := by decide +kernel
theorem dX10_affords_19 : decode cX10_affords 19 = .ok (.ifCond .ne 7, 3) := by decide +kernel
theorem dX10_affords_22 : decode cX10_affords 22 = .ok (.iconst 1, 1) := by decide +kernel
theorem dX10_affords_23 : decode cX10_affords 23 = .ok (.goto 4, 3) := by decide +kernel
theorem dX10_affords_26 : decode cX10_affords 26 = .ok (.iconst 0, 1) := by decide +kernel
theorem dX10_affords_27 : decode cX10_affords 27 = .ok (.iconst 1, 1) := by decide +kernel
theorem dX10_affords_28 : decode cX10_affords 28 = .ok (.iconst 0, 1) := by decide +kernel
theorem dX10_affords_29 : decode cX10_affords 29 = .ok (.invokevirtual 164, 3) := by decide +kernel
theorem dX10_affords_32 : decode cX10_affords 32 = .ok (.ifCond .eq 5, 3) := by decide +kernel
theorem dX10_affords_35 : decode cX10_affords 35 = .ok (.iconst 0, 1) := by decide +kernel
theorem dX10_affords_36 : decode cX10_affords 36 = .ok (.ireturn, 1) := by decide +kernel
theorem dX10_affords_37 : decode cX10_affords 37 = .ok (.iconst 0, 1) := by decide +kernel
theorem dX10_affords_38 : decode cX10_affords 38 = .ok (.istore_n 3, 1) := by decide +kernel
theorem dX10_affords_39 : decode cX10_affords 39 = .ok (.aload_n 0, 1) := by decide +kernel
theorem dX10_affords_40 : decode cX10_affords 40 = .ok (.getfield 61, 3) := by decide +kernel
theorem dX10_affords_43 : decode cX10_affords 43 = .ok (.aload_n 0, 1) := by decide +kernel
theorem dX10_affords_44 : decode cX10_affords 44 = .ok (.getfield 64, 3) := by decide +kernel
theorem dX10_affords_47 : decode cX10_affords 47 = .ok (.invokestatic 296, 3) := by decide +kernel
theorem dX10_affords_50 : decode cX10_affords 50 = .ok (.iload_n 3, 1) := by decide +kernel
theorem dX10_affords_51 : decode cX10_affords 51 = .ok (.sipush 200, 3) := by decide +kernel
theorem dX10_affords_54 : decode cX10_affords 54 = .ok (.if_icmp .ge 22, 3) := by decide +kernel
theorem dX10_affords_57 : decode cX10_affords 57 = .ok (.aload_n 0, 1) := by decide +kernel
theorem dX10_affords_58 : decode cX10_affords 58 = .ok (.aload_n 0, 1) := by decide +kernel
theorem dX10_affords_59 : decode cX10_affords 59 = .ok (.getfield 64, 3) := by decide +kernel
theorem dX10_affords_62 : decode cX10_affords 62 = .ok (.iload_n 1, 1) := by decide +kernel
theorem dX10_affords_63 : decode cX10_affords 63 = .ok (.iload_n 2, 1) := by decide +kernel
theorem dX10_affords_64 : decode cX10_affords 64 = .ok (.invokevirtual 273, 3) := by decide +kernel
theorem dX10_affords_67 : decode cX10_affords 67 = .ok (.ifCond .eq 9, 3) := by decide +kernel
theorem dX10_affords_70 : decode cX10_affords 70 = .ok (.iinc 3 1, 3) := by decide +kernel
theorem dX10_affords_73 : decode cX10_affords 73 = .ok (.goto (-23), 3) := by decide +kernel
theorem dX10_affords_76 : decode cX10_affords 76 = .ok (.iload_n 3, 1) := by decide +kernel
theorem dX10_affords_77 : decode cX10_affords 77 = .ok (.ireturn, 1) := by decide +kernel
theorem dX10_strokes_0 : decode cX10_strokes 0 = .ok (.aload_n 0, 1) := by decide +kernel
theorem dX10_strokes_1 : decode cX10_strokes 1 = .ok (.iconst 0, 1) := by decide +kernel
theorem dX10_strokes_2 : decode cX10_strokes 2 = .ok (.putfield 88, 3) := by decide +kernel
theorem dX10_strokes_5 : decode cX10_strokes 5 = .ok (.aload_n 0, 1) := by decide +kernel
theorem dX10_strokes_6 : decode cX10_strokes 6 = .ok (.aload_n 0, 1) := by decide +kernel
theorem dX10_strokes_7 : decode cX10_strokes 7 = .ok (.iload_n 1, 1) := by decide +kernel
theorem dX10_strokes_8 : decode cX10_strokes 8 = .ok (.invokevirtual 307, 3) := by decide +kernel
theorem dX10_strokes_11 : decode cX10_strokes 11 = .ok (.ifCond .eq 11, 3) := by decide +kernel
theorem dX10_strokes_14 : decode cX10_strokes 14 = .ok (.aload_n 0, 1) := by decide +kernel
theorem dX10_strokes_15 : decode cX10_strokes 15 = .ok (.iload_n 2, 1) := by decide +kernel
theorem dX10_strokes_16 : decode cX10_strokes 16 = .ok (.invokevirtual 310, 3) := by decide +kernel
theorem dX10_strokes_19 : decode cX10_strokes 19 = .ok (.ifCond .ne 7, 3) := by decide +kernel
theorem dX10_strokes_22 : decode cX10_strokes 22 = .ok (.iconst 1, 1) := by decide +kernel
theorem dX10_strokes_23 : decode cX10_strokes 23 = .ok (.goto 4, 3) := by decide +kernel
theorem dX10_strokes_26 : decode cX10_strokes 26 = .ok (.iconst 0, 1) := by decide +kernel
theorem dX10_strokes_27 : decode cX10_strokes 27 = .ok (.iconst 1, 1) := by decide +kernel
theorem dX10_strokes_28 : decode cX10_strokes 28 = .ok (.iconst 0, 1) := by decide +kernel
theorem dX10_strokes_29 : decode cX10_strokes 29 = .ok (.invokevirtual 164, 3) := by decide +kernel
theorem dX10_strokes_32 : decode cX10_strokes 32 = .ok (.ifCond .ne 26, 3) := by decide +kernel
theorem dX10_strokes_35 : decode cX10_strokes 35 = .ok (.aload_n 0, 1) := by decide +kernel
theorem dX10_strokes_36 : decode cX10_strokes 36 = .ok (.iload_n 3, 1) := by decide +kernel
theorem dX10_strokes_37 : decode cX10_strokes 37 = .ok (.iconst 0, 1) := by decide +kernel
theorem dX10_strokes_38 : decode cX10_strokes 38 = .ok (.iconst 1, 1) := by decide +kernel
theorem dX10_strokes_39 : decode cX10_strokes 39 = .ok (.invokestatic 122, 3) := by decide +kernel
theorem dX10_strokes_42 : decode cX10_strokes 42 = .ok (.ifCond .ne 7, 3) := by decide +kernel
theorem dX10_strokes_45 : decode cX10_strokes 45 = .ok (.iconst 1, 1) := by decide +kernel
theorem dX10_strokes_46 : decode cX10_strokes 46 = .ok (.goto 4, 3) := by decide +kernel
theorem dX10_strokes_49 : decode cX10_strokes 49 = .ok (.iconst 0, 1) := by decide +kernel
theorem dX10_strokes_50 : decode cX10_strokes 50 = .ok (.iconst 2, 1) := by decide +kernel
theorem dX10_strokes_51 : decode cX10_strokes 51 = .ok (.iconst 1, 1) := by decide +kernel
theorem dX10_strokes_52 : decode cX10_strokes 52 = .ok (.invokevirtual 164, 3) := by decide +kernel
theorem dX10_strokes_55 : decode cX10_strokes 55 = .ok (.ifCond .eq 5, 3) := by decide +kernel
theorem dX10_strokes_58 : decode cX10_strokes 58 = .ok (.iconst 0, 1) := by decide +kernel
theorem dX10_strokes_59 : decode cX10_strokes 59 = .ok (.ireturn, 1) := by decide +kernel
theorem dX10_strokes_60 : decode cX10_strokes 60 = .ok (.iconst (-1), 1) := by decide +kernel
theorem dX10_strokes_61 : decode cX10_strokes 61 = .ok (.istore 4, 2) := by decide +kernel
theorem dX10_strokes_63 : decode cX10_strokes 63 = .ok (.sipush 255, 3) := by decide +kernel
theorem dX10_strokes_66 : decode cX10_strokes 66 = .ok (.istore 5, 2) := by decide +kernel
theorem dX10_strokes_68 : decode cX10_strokes 68 = .ok (.iload 5, 2) := by decide +kernel
theorem dX10_strokes_70 : decode cX10_strokes 70 = .ok (.ifCond .lt 56, 3) := by decide +kernel
theorem dX10_strokes_73 : decode cX10_strokes 73 = .ok (.aload_n 0, 1) := by decide +kernel
theorem dX10_strokes_74 : decode cX10_strokes 74 = .ok (.aload_n 0, 1) := by decide +kernel
theorem dX10_strokes_75 : decode cX10_strokes 75 = .ok (.getfield 61, 3) := by decide +kernel
theorem dX10_strokes_78 : decode cX10_strokes 78 = .ok (.iconst 0, 1) := by decide +kernel
theorem dX10_strokes_79 : decode cX10_strokes 79 = .ok (.iload_n 1, 1) := by decide +kernel
theorem dX10_strokes_80 : decode cX10_strokes 80 = .ok (.iadd, 1) := by decide +kernel
theorem dX10_strokes_81 : decode cX10_strokes 81 = .ok (.iaload, 1) := by decide +kernel
theorem dX10_strokes_82 : decode cX10_strokes 82 = .ok (.iload 5, 2) := by decide +kernel
theorem dX10_strokes_84 : decode cX10_strokes 84 = .ok (.ixor, 1) := by decide +kernel
theorem dX10_strokes_85 : decode cX10_strokes 85 = .ok (.iload_n 2, 1) := by decide +kernel
theorem dX10_strokes_86 : decode cX10_strokes 86 = .ok (.invokevirtual 253, 3) := by decide +kernel
theorem dX10_strokes_89 : decode cX10_strokes 89 = .ok (.ifCond .eq 27, 3) := by decide +kernel
theorem dX10_strokes_92 : decode cX10_strokes 92 = .ok (.iload 4, 2) := by decide +kernel
theorem dX10_strokes_94 : decode cX10_strokes 94 = .ok (.iconst (-1), 1) := by decide +kernel
theorem dX10_strokes_95 : decode cX10_strokes 95 = .ok (.if_icmp .eq 16, 3) := by decide +kernel
theorem dX10_strokes_98 : decode cX10_strokes 98 = .ok (.iload 5, 2) := by decide +kernel
theorem dX10_strokes_100 : decode cX10_strokes 100 = .ok (.invokestatic 240, 3) := by decide +kernel
theorem dX10_strokes_103 : decode cX10_strokes 103 = .ok (.iload 4, 2) := by decide +kernel
theorem dX10_strokes_105 : decode cX10_strokes 105 = .ok (.invokestatic 240, 3) := by decide +kernel
theorem dX10_strokes_108 : decode cX10_strokes 108 = .ok (.if_icmp .gt 8, 3) := by decide +kernel
theorem dX10_strokes_111 : decode cX10_strokes 111 = .ok (.iload 5, 2) := by decide +kernel
theorem dX10_strokes_113 : decode cX10_strokes 113 = .ok (.goto 5, 3) := by decide +kernel
theorem dX10_strokes_116 : decode cX10_strokes 116 = .ok (.iload 4, 2) := by decide +kernel
theorem dX10_strokes_118 : decode cX10_strokes 118 = .ok (.istore 4, 2) := by decide +kernel
theorem dX10_strokes_120 : decode cX10_strokes 120 = .ok (.iinc 5 (-1), 3) := by decide +kernel
theorem dX10_strokes_123 : decode cX10_strokes 123 = .ok (.goto (-55), 3) := by decide +kernel
theorem dX10_strokes_126 : decode cX10_strokes 126 = .ok (.iload_n 3, 1) := by decide +kernel
theorem dX10_strokes_127 : decode cX10_strokes 127 = .ok (.iconst 1, 1) := by decide +kernel
theorem dX10_strokes_128 : decode cX10_strokes 128 = .ok (.if_icmp .eq 9, 3) := by decide +kernel
theorem dX10_strokes_131 : decode cX10_strokes 131 = .ok (.iload 4, 2) := by decide +kernel
theorem dX10_strokes_133 : decode cX10_strokes 133 = .ok (.iconst (-1), 1) := by decide +kernel
theorem dX10_strokes_134 : decode cX10_strokes 134 = .ok (.if_icmp .ne 8, 3) := by decide +kernel
theorem dX10_strokes_137 : decode cX10_strokes 137 = .ok (.iload 4, 2) := by decide +kernel
theorem dX10_strokes_139 : decode cX10_strokes 139 = .ok (.goto 8, 3) := by decide +kernel
theorem dX10_strokes_142 : decode cX10_strokes 142 = .ok (.iload 4, 2) := by decide +kernel
theorem dX10_strokes_144 : decode cX10_strokes 144 = .ok (.invokestatic 240, 3) := by decide +kernel
theorem dX10_strokes_147 : decode cX10_strokes 147 = .ok (.ireturn, 1) := by decide +kernel
theorem dX10_twins_0 : decode cX10_twins 0 = .ok (.aload_n 0, 1) := by decide +kernel
theorem dX10_twins_1 : decode cX10_twins 1 = .ok (.iconst 0, 1) := by decide +kernel
theorem dX10_twins_2 : decode cX10_twins 2 = .ok (.putfield 88, 3) := by decide +kernel
theorem dX10_twins_5 : decode cX10_twins 5 = .ok (.aload_n 0, 1) := by decide +kernel
theorem dX10_twins_6 : decode cX10_twins 6 = .ok (.iload_n 1, 1) := by decide +kernel
theorem dX10_twins_7 : decode cX10_twins 7 = .ok (.iconst 0, 1) := by decide +kernel
theorem dX10_twins_8 : decode cX10_twins 8 = .ok (.bipush 8, 2) := by decide +kernel
theorem dX10_twins_10 : decode cX10_twins 10 = .ok (.invokestatic 122, 3) := by decide +kernel
theorem dX10_twins_13 : decode cX10_twins 13 = .ok (.ifCond .eq 12, 3) := by decide +kernel
theorem dX10_twins_16 : decode cX10_twins 16 = .ok (.iload_n 2, 1) := by decide +kernel
theorem dX10_twins_17 : decode cX10_twins 17 = .ok (.iconst 0, 1) := by decide +kernel
theorem dX10_twins_18 : decode cX10_twins 18 = .ok (.iconst 1, 1) := by decide +kernel
theorem dX10_twins_19 : decode cX10_twins 19 = .ok (.invokestatic 122, 3) := by decide +kernel
theorem dX10_twins_22 : decode cX10_twins 22 = .ok (.ifCond .ne 7, 3) := by decide +kernel
theorem dX10_twins_25 : decode cX10_twins 25 = .ok (.iconst 1, 1) := by decide +kernel
theorem dX10_twins_26 : decode cX10_twins 26 = .ok (.goto 4, 3) := by decide +kernel
theorem dX10_twins_29 : decode cX10_twins 29 = .ok (.iconst 0, 1) := by decide +kernel
theorem dX10_twins_30 : decode cX10_twins 30 = .ok (.iconst 1, 1) := by decide +kernel
theorem dX10_twins_31 : decode cX10_twins 31 = .ok (.iconst 1, 1) := by decide +kernel
theorem dX10_twins_32 : decode cX10_twins 32 = .ok (.invokevirtual 164, 3) := by decide +kernel
theorem dX10_twins_35 : decode cX10_twins 35 = .ok (.ifCond .eq 5, 3) := by decide +kernel
theorem dX10_twins_38 : decode cX10_twins 38 = .ok (.iconst 0, 1) := by decide +kernel
theorem dX10_twins_39 : decode cX10_twins 39 = .ok (.ireturn, 1) := by decide +kernel
theorem dX10_twins_40 : decode cX10_twins 40 = .ok (.iconst 0, 1) := by decide +kernel
theorem dX10_twins_41 : decode cX10_twins 41 = .ok (.istore_n 3, 1) := by decide +kernel
theorem dX10_twins_42 : decode cX10_twins 42 = .ok (.iconst (-1), 1) := by decide +kernel
theorem dX10_twins_43 : decode cX10_twins 43 = .ok (.istore 4, 2) := by decide +kernel
theorem dX10_twins_45 : decode cX10_twins 45 = .ok (.iconst 0, 1) := by decide +kernel
theorem dX10_twins_46 : decode cX10_twins 46 = .ok (.istore 5, 2) := by decide +kernel
theorem dX10_twins_48 : decode cX10_twins 48 = .ok (.iload 5, 2) := by decide +kernel
theorem dX10_twins_50 : decode cX10_twins 50 = .ok (.aload_n 0, 1) := by decide +kernel
theorem dX10_twins_51 : decode cX10_twins 51 = .ok (.getfield 61, 3) := by decide +kernel
theorem dX10_twins_54 : decode cX10_twins 54 = .ok (.bipush 42, 2) := by decide +kernel
theorem dX10_twins_56 : decode cX10_twins 56 = .ok (.iaload, 1) := by decide +kernel
theorem dX10_twins_57 : decode cX10_twins 57 = .ok (.if_icmp .ge 84, 3) := by decide +kernel
theorem dX10_twins_60 : decode cX10_twins 60 = .ok (.iload 5, 2) := by decide +kernel
theorem dX10_twins_62 : decode cX10_twins 62 = .ok (.iconst 1, 1) := by decide +kernel
theorem dX10_twins_63 : decode cX10_twins 63 = .ok (.iadd, 1) := by decide +kernel
theorem dX10_twins_64 : decode cX10_twins 64 = .ok (.istore 6, 2) := by decide +kernel
theorem dX10_twins_66 : decode cX10_twins 66 = .ok (.iload 6, 2) := by decide +kernel
theorem dX10_twins_68 : decode cX10_twins 68 = .ok (.aload_n 0, 1) := by decide +kernel
theorem dX10_twins_69 : decode cX10_twins 69 = .ok (.getfield 61, 3) := by decide +kernel
theorem dX10_twins_72 : decode cX10_twins 72 = .ok (.bipush 42, 2) := by decide +kernel
theorem dX10_twins_74 : decode cX10_twins 74 = .ok (.iaload, 1) := by decide +kernel
theorem dX10_twins_75 : decode cX10_twins 75 = .ok (.if_icmp .ge 60, 3) := by decide +kernel
theorem dX10_twins_78 : decode cX10_twins 78 = .ok (.aload_n 0, 1) := by decide +kernel
theorem dX10_twins_79 : decode cX10_twins 79 = .ok (.getfield 61, 3) := by decide +kernel
theorem dX10_twins_82 : decode cX10_twins 82 = .ok (.iconst 0, 1) := by decide +kernel
theorem dX10_twins_83 : decode cX10_twins 83 = .ok (.iload 5, 2) := by decide +kernel
theorem dX10_twins_85 : decode cX10_twins 85 = .ok (.iadd, 1) := by decide +kernel
theorem dX10_twins_86 : decode cX10_twins 86 = .ok (.iaload, 1) := by decide +kernel
theorem dX10_twins_87 : decode cX10_twins 87 = .ok (.aload_n 0, 1) := by decide +kernel
theorem dX10_twins_88 : decode cX10_twins 88 = .ok (.getfield 61, 3) := by decide +kernel
theorem dX10_twins_91 : decode cX10_twins 91 = .ok (.iconst 0, 1) := by decide +kernel
theorem dX10_twins_92 : decode cX10_twins 92 = .ok (.iload 6, 2) := by decide +kernel
theorem dX10_twins_94 : decode cX10_twins 94 = .ok (.iadd, 1) := by decide +kernel
theorem dX10_twins_95 : decode cX10_twins 95 = .ok (.iaload, 1) := by decide +kernel
theorem dX10_twins_96 : decode cX10_twins 96 = .ok (.ixor, 1) := by decide +kernel
theorem dX10_twins_97 : decode cX10_twins 97 = .ok (.invokestatic 240, 3) := by decide +kernel
theorem dX10_twins_100 : decode cX10_twins 100 = .ok (.iload_n 1, 1) := by decide +kernel
theorem dX10_twins_101 : decode cX10_twins 101 = .ok (.if_icmp .le 6, 3) := by decide +kernel
theorem dX10_twins_104 : decode cX10_twins 104 = .ok (.goto 25, 3) := by decide +kernel
theorem dX10_twins_107 : decode cX10_twins 107 = .ok (.iload_n 3, 1) := by decide +kernel
theorem dX10_twins_108 : decode cX10_twins 108 = .ok (.ifCond .ne 14, 3) := by decide +kernel
theorem dX10_twins_111 : decode cX10_twins 111 = .ok (.bipush 10, 2) := by decide +kernel
theorem dX10_twins_113 : decode cX10_twins 113 = .ok (.iload 5, 2) := by decide +kernel
theorem dX10_twins_115 : decode cX10_twins 115 = .ok (.imul, 1) := by decide +kernel
theorem dX10_twins_116 : decode cX10_twins 116 = .ok (.iload 6, 2) := by decide +kernel
theorem dX10_twins_118 : decode cX10_twins 118 = .ok (.iadd, 1) := by decide +kernel
theorem dX10_twins_119 : decode cX10_twins 119 = .ok (.goto 5, 3) := by decide +kernel
theorem dX10_twins_122 : decode cX10_twins 122 = .ok (.iload 4, 2) := by decide +kernel
theorem dX10_twins_124 : decode cX10_twins 124 = .ok (.istore 4, 2) := by decide +kernel
theorem dX10_twins_126 : decode cX10_twins 126 = .ok (.iinc 3 1, 3) := by decide +kernel
theorem dX10_twins_129 : decode cX10_twins 129 = .ok (.iinc 6 1, 3) := by decide +kernel
theorem dX10_twins_132 : decode cX10_twins 132 = .ok (.goto (-66), 3) := by decide +kernel
theorem dX10_twins_135 : decode cX10_twins 135 = .ok (.iinc 5 1, 3) := by decide +kernel
theorem dX10_twins_138 : decode cX10_twins 138 = .ok (.goto (-90), 3) := by decide +kernel
theorem dX10_twins_141 : decode cX10_twins 141 = .ok (.iload_n 2, 1) := by decide +kernel
theorem dX10_twins_142 : decode cX10_twins 142 = .ok (.ifCond .ne 7, 3) := by decide +kernel
theorem dX10_twins_145 : decode cX10_twins 145 = .ok (.iload_n 3, 1) := by decide +kernel
theorem dX10_twins_146 : decode cX10_twins 146 = .ok (.goto 5, 3) := by decide +kernel
theorem dX10_twins_149 : decode cX10_twins 149 = .ok (.iload 4, 2) := by decide +kernel
theorem dX10_twins_151 : decode cX10_twins 151 = .ok (.ireturn, 1) := by decide +kernel
theorem dX10_code_0 : decode cX10_code 0 = .ok (.aload_n 0, 1) := by decide +kernel
theorem dX10_code_1 : decode cX10_code 1 = .ok (.iconst 0, 1) := by decide +kernel
theorem dX10_code_2 : decode cX10_code 2 = .ok (.putfield 88, 3) := by decide +kernel
theorem dX10_code_5 : decode cX10_code 5 = .ok (.aload_n 0, 1) := by decide +kernel
theorem dX10_code_6 : decode cX10_code 6 = .ok (.iload_n 1, 1) := by decide +kernel
theorem dX10_code_7 : decode cX10_code 7 = .ok (.iconst 1, 1) := by decide +kernel
theorem dX10_code_8 : decode cX10_code 8 = .ok (.iconst 4, 1) := by decide +kernel
theorem dX10_code_9 : decode cX10_code 9 = .ok (.invokestatic 122, 3) := by decide +kernel
theorem dX10_code_12 : decode cX10_code 12 = .ok (.ifCond .eq 21, 3) := by decide +kernel
theorem dX10_code_15 : decode cX10_code 15 = .ok (.iload_n 2, 1) := by decide +kernel
theorem dX10_code_16 : decode cX10_code 16 = .ok (.iconst 1, 1) := by decide +kernel
theorem dX10_code_17 : decode cX10_code 17 = .ok (.iconst 4, 1) := by decide +kernel
theorem dX10_code_18 : decode cX10_code 18 = .ok (.invokestatic 122, 3) := by decide +kernel
theorem dX10_code_21 : decode cX10_code 21 = .ok (.ifCond .eq 12, 3) := by decide +kernel
theorem dX10_code_24 : decode cX10_code 24 = .ok (.iload_n 3, 1) := by decide +kernel
theorem dX10_code_25 : decode cX10_code 25 = .ok (.iconst 0, 1) := by decide +kernel
theorem dX10_code_26 : decode cX10_code 26 = .ok (.iconst 1, 1) := by decide +kernel
theorem dX10_code_27 : decode cX10_code 27 = .ok (.invokestatic 122, 3) := by decide +kernel
theorem dX10_code_30 : decode cX10_code 30 = .ok (.ifCond .ne 7, 3) := by decide +kernel
theorem dX10_code_33 : decode cX10_code 33 = .ok (.iconst 1, 1) := by decide +kernel
theorem dX10_code_34 : decode cX10_code 34 = .ok (.goto 4, 3) := by decide +kernel
theorem dX10_code_37 : decode cX10_code 37 = .ok (.iconst 0, 1) := by decide +kernel
theorem dX10_code_38 : decode cX10_code 38 = .ok (.iconst 1, 1) := by decide +kernel
theorem dX10_code_39 : decode cX10_code 39 = .ok (.iconst 1, 1) := by decide +kernel
theorem dX10_code_40 : decode cX10_code 40 = .ok (.invokevirtual 164, 3) := by decide +kernel
theorem dX10_code_43 : decode cX10_code 43 = .ok (.ifCond .eq 5, 3) := by decide +kernel
theorem dX10_code_46 : decode cX10_code 46 = .ok (.iconst 0, 1) := by decide +kernel
theorem dX10_code_47 : decode cX10_code 47 = .ok (.ireturn, 1) := by decide +kernel
theorem dX10_code_48 : decode cX10_code 48 = .ok (.iconst 1, 1) := by decide +kernel
theorem dX10_code_49 : decode cX10_code 49 = .ok (.iload_n 1, 1) := by decide +kernel
theorem dX10_code_50 : decode cX10_code 50 = .ok (.ishl, 1) := by decide +kernel
theorem dX10_code_51 : decode cX10_code 51 = .ok (.istore 4, 2) := by decide +kernel
theorem dX10_code_53 : decode cX10_code 53 = .ok (.iconst 0, 1) := by decide +kernel
theorem dX10_code_54 : decode cX10_code 54 = .ok (.istore 5, 2) := by decide +kernel
theorem dX10_code_56 : decode cX10_code 56 = .ok (.iconst 0, 1) := by decide +kernel
theorem dX10_code_57 : decode cX10_code 57 = .ok (.istore 6, 2) := by decide +kernel
theorem dX10_code_59 : decode cX10_code 59 = .ok (.iconst 0, 1) := by decide +kernel
theorem dX10_code_60 : decode cX10_code 60 = .ok (.istore 7, 2) := by decide +kernel
theorem dX10_code_62 : decode cX10_code 62 = .ok (.iload 7, 2) := by decide +kernel
theorem dX10_code_64 : decode cX10_code 64 = .ok (.iload 4, 2) := by decide +kernel
theorem dX10_code_66 : decode cX10_code 66 = .ok (.if_icmp .ge 70, 3) := by decide +kernel
theorem dX10_code_69 : decode cX10_code 69 = .ok (.aload_n 0, 1) := by decide +kernel
theorem dX10_code_70 : decode cX10_code 70 = .ok (.getfield 73, 3) := by decide +kernel
theorem dX10_code_73 : decode cX10_code 73 = .ok (.iload 7, 2) := by decide +kernel
theorem dX10_code_75 : decode cX10_code 75 = .ok (.iconst 0, 1) := by decide +kernel
theorem dX10_code_76 : decode cX10_code 76 = .ok (.iastore, 1) := by decide +kernel
theorem dX10_code_77 : decode cX10_code 77 = .ok (.iconst 0, 1) := by decide +kernel
theorem dX10_code_78 : decode cX10_code 78 = .ok (.istore 8, 2) := by decide +kernel
theorem dX10_code_80 : decode cX10_code 80 = .ok (.iload 8, 2) := by decide +kernel
theorem dX10_code_82 : decode cX10_code 82 = .ok (.iload 4, 2) := by decide +kernel
theorem dX10_code_84 : decode cX10_code 84 = .ok (.if_icmp .ge 46, 3) := by decide +kernel
theorem dX10_code_87 : decode cX10_code 87 = .ok (.aload_n 0, 1) := by decide +kernel
theorem dX10_code_88 : decode cX10_code 88 = .ok (.getfield 73, 3) := by decide +kernel
theorem dX10_code_91 : decode cX10_code 91 = .ok (.iload 7, 2) := by decide +kernel
theorem dX10_code_93 : decode cX10_code 93 = .ok (.dup2, 1) := by decide +kernel
theorem dX10_code_94 : decode cX10_code 94 = .ok (.iaload, 1) := by decide +kernel
theorem dX10_code_95 : decode cX10_code 95 = .ok (.iload 8, 2) := by decide +kernel
theorem dX10_code_97 : decode cX10_code 97 = .ok (.iload 7, 2) := by decide +kernel
theorem dX10_code_99 : decode cX10_code 99 = .ok (.if_icmp .eq 22, 3) := by decide +kernel
theorem dX10_code_102 : decode cX10_code 102 = .ok (.iload 7, 2) := by decide +kernel
theorem dX10_code_104 : decode cX10_code 104 = .ok (.iload 8, 2) := by decide +kernel
theorem dX10_code_106 : decode cX10_code 106 = .ok (.ixor, 1) := by decide +kernel
theorem dX10_code_107 : decode cX10_code 107 = .ok (.invokestatic 240, 3) := by decide +kernel
theorem dX10_code_110 : decode cX10_code 110 = .ok (.iload_n 2, 1) := by decide +kernel
theorem dX10_code_111 : decode cX10_code 111 = .ok (.if_icmp .ge 10, 3) := by decide +kernel
theorem dX10_code_114 : decode cX10_code 114 = .ok (.iconst 1, 1) := by decide +kernel
theorem dX10_code_115 : decode cX10_code 115 = .ok (.iload 8, 2) := by decide +kernel
theorem dX10_code_117 : decode cX10_code 117 = .ok (.ishl, 1) := by decide +kernel
theorem dX10_code_118 : decode cX10_code 118 = .ok (.goto 4, 3) := by decide +kernel
theorem dX10_code_121 : decode cX10_code 121 = .ok (.iconst 0, 1) := by decide +kernel
theorem dX10_code_122 : decode cX10_code 122 = .ok (.ior, 1) := by decide +kernel
theorem dX10_code_123 : decode cX10_code 123 = .ok (.iastore, 1) := by decide +kernel
theorem dX10_code_124 : decode cX10_code 124 = .ok (.iinc 8 1, 3) := by decide +kernel
theorem dX10_code_127 : decode cX10_code 127 = .ok (.goto (-47), 3) := by decide +kernel
theorem dX10_code_130 : decode cX10_code 130 = .ok (.iinc 7 1, 3) := by decide +kernel
theorem dX10_code_133 : decode cX10_code 133 = .ok (.goto (-71), 3) := by decide +kernel
theorem dX10_code_136 : decode cX10_code 136 = .ok (.iconst 0, 1) := by decide +kernel
theorem dX10_code_137 : decode cX10_code 137 = .ok (.istore 7, 2) := by decide +kernel
theorem dX10_code_139 : decode cX10_code 139 = .ok (.iload 7, 2) := by decide +kernel
theorem dX10_code_141 : decode cX10_code 141 = .ok (.iconst 1, 1) := by decide +kernel
theorem dX10_code_142 : decode cX10_code 142 = .ok (.iload 4, 2) := by decide +kernel
theorem dX10_code_144 : decode cX10_code 144 = .ok (.ishl, 1) := by decide +kernel
theorem dX10_code_145 : decode cX10_code 145 = .ok (.if_icmp .ge 95, 3) := by decide +kernel
theorem dX10_code_148 : decode cX10_code 148 = .ok (.iconst 0, 1) := by decide +kernel
theorem dX10_code_149 : decode cX10_code 149 = .ok (.istore 8, 2) := by decide +kernel
theorem dX10_code_151 : decode cX10_code 151 = .ok (.iconst 1, 1) := by decide +kernel
theorem dX10_code_152 : decode cX10_code 152 = .ok (.istore 9, 2) := by decide +kernel
theorem dX10_code_154 : decode cX10_code 154 = .ok (.iconst 0, 1) := by decide +kernel
theorem dX10_code_155 : decode cX10_code 155 = .ok (.istore 10, 2) := by decide +kernel
theorem dX10_code_157 : decode cX10_code 157 = .ok (.iload 10, 2) := by decide +kernel
theorem dX10_code_159 : decode cX10_code 159 = .ok (.iload 4, 2) := by decide +kernel
theorem dX10_code_161 : decode cX10_code 161 = .ok (.if_icmp .ge 50, 3) := by decide +kernel
theorem dX10_code_164 : decode cX10_code 164 = .ok (.iload 9, 2) := by decide +kernel
theorem dX10_code_166 : decode cX10_code 166 = .ok (.ifCond .eq 45, 3) := by decide +kernel
theorem dX10_code_169 : decode cX10_code 169 = .ok (.iload 7, 2) := by decide +kernel
theorem dX10_code_171 : decode cX10_code 171 = .ok (.iload 10, 2) := by decide +kernel
theorem dX10_code_173 : decode cX10_code 173 = .ok (.invokestatic 322, 3) := by decide +kernel
theorem dX10_code_176 : decode cX10_code 176 = .ok (.ifCond .ne 6, 3) := by decide +kernel
theorem dX10_code_179 : decode cX10_code 179 = .ok (.goto 26, 3) := by decide +kernel
theorem dX10_code_182 : decode cX10_code 182 = .ok (.iinc 8 1, 3) := by decide +kernel
theorem dX10_code_185 : decode cX10_code 185 = .ok (.iload 7, 2) := by decide +kernel
theorem dX10_code_187 : decode cX10_code 187 = .ok (.aload_n 0, 1) := by decide +kernel
theorem dX10_code_188 : decode cX10_code 188 = .ok (.getfield 73, 3) := by decide +kernel
theorem dX10_code_191 : decode cX10_code 191 = .ok (.iload 10, 2) := by decide +kernel
theorem dX10_code_193 : decode cX10_code 193 = .ok (.iaload, 1) := by decide +kernel
theorem dX10_code_194 : decode cX10_code 194 = .ok (.iand, 1) := by decide +kernel
theorem dX10_code_195 : decode cX10_code 195 = .ok (.ifCond .ne 7, 3) := by decide +kernel
theorem dX10_code_198 : decode cX10_code 198 = .ok (.iconst 1, 1) := by decide +kernel
theorem dX10_code_199 : decode cX10_code 199 = .ok (.goto 4, 3) := by decide +kernel
theorem dX10_code_202 : decode cX10_code 202 = .ok (.iconst 0, 1) := by decide +kernel
theorem dX10_code_203 : decode cX10_code 203 = .ok (.istore 9, 2) := by decide +kernel
theorem dX10_code_205 : decode cX10_code 205 = .ok (.iinc 10 1, 3) := by decide +kernel
theorem dX10_code_208 : decode cX10_code 208 = .ok (.goto (-51), 3) := by decide +kernel
theorem dX10_code_211 : decode cX10_code 211 = .ok (.iload 9, 2) := by decide +kernel
theorem dX10_code_213 : decode cX10_code 213 = .ok (.ifCond .eq 21, 3) := by decide +kernel
theorem dX10_code_216 : decode cX10_code 216 = .ok (.iload 8, 2) := by decide +kernel
theorem dX10_code_218 : decode cX10_code 218 = .ok (.iload 6, 2) := by decide +kernel
theorem dX10_code_220 : decode cX10_code 220 = .ok (.if_icmp .gt 6, 3) := by decide +kernel
theorem dX10_code_223 : decode cX10_code 223 = .ok (.goto 11, 3) := by decide +kernel
theorem dX10_code_226 : decode cX10_code 226 = .ok (.iload 7, 2) := by decide +kernel
theorem dX10_code_228 : decode cX10_code 228 = .ok (.istore 5, 2) := by decide +kernel
theorem dX10_code_230 : decode cX10_code 230 = .ok (.iload 8, 2) := by decide +kernel
theorem dX10_code_232 : decode cX10_code 232 = .ok (.istore 6, 2) := by decide +kernel
theorem dX10_code_234 : decode cX10_code 234 = .ok (.iinc 7 1, 3) := by decide +kernel
theorem dX10_code_237 : decode cX10_code 237 = .ok (.goto (-98), 3) := by decide +kernel
theorem dX10_code_240 : decode cX10_code 240 = .ok (.iload_n 3, 1) := by decide +kernel
theorem dX10_code_241 : decode cX10_code 241 = .ok (.ifCond .ne 8, 3) := by decide +kernel
theorem dX10_code_244 : decode cX10_code 244 = .ok (.iload 6, 2) := by decide +kernel
theorem dX10_code_246 : decode cX10_code 246 = .ok (.goto 5, 3) := by decide +kernel
theorem dX10_code_249 : decode cX10_code 249 = .ok (.iload 5, 2) := by decide +kernel
theorem dX10_code_251 : decode cX10_code 251 = .ok (.ireturn, 1) := by decide +kernel
theorem dX10_parents_0 : decode cX10_parents 0 = .ok (.aload_n 0, 1) := by decide +kernel
theorem dX10_parents_1 : decode cX10_parents 1 = .ok (.iconst 0, 1) := by decide +kernel
theorem dX10_parents_2 : decode cX10_parents 2 = .ok (.putfield 88, 3) := by decide +kernel
theorem dX10_parents_5 : decode cX10_parents 5 = .ok (.aload_n 0, 1) := by decide +kernel
theorem dX10_parents_6 : decode cX10_parents 6 = .ok (.iload_n 1, 1) := by decide +kernel
theorem dX10_parents_7 : decode cX10_parents 7 = .ok (.invokestatic 319, 3) := by decide +kernel
theorem dX10_parents_10 : decode cX10_parents 10 = .ok (.ifCond .eq 12, 3) := by decide +kernel
theorem dX10_parents_13 : decode cX10_parents 13 = .ok (.iload_n 2, 1) := by decide +kernel
theorem dX10_parents_14 : decode cX10_parents 14 = .ok (.iconst 0, 1) := by decide +kernel
theorem dX10_parents_15 : decode cX10_parents 15 = .ok (.iconst 1, 1) := by decide +kernel
theorem dX10_parents_16 : decode cX10_parents 16 = .ok (.invokestatic 122, 3) := by decide +kernel
theorem dX10_parents_19 : decode cX10_parents 19 = .ok (.ifCond .ne 7, 3) := by decide +kernel
theorem dX10_parents_22 : decode cX10_parents 22 = .ok (.iconst 1, 1) := by decide +kernel
theorem dX10_parents_23 : decode cX10_parents 23 = .ok (.goto 4, 3) := by decide +kernel
theorem dX10_parents_26 : decode cX10_parents 26 = .ok (.iconst 0, 1) := by decide +kernel
theorem dX10_parents_27 : decode cX10_parents 27 = .ok (.iconst 1, 1) := by decide +kernel
theorem dX10_parents_28 : decode cX10_parents 28 = .ok (.iconst 1, 1) := by decide +kernel
theorem dX10_parents_29 : decode cX10_parents 29 = .ok (.invokevirtual 164, 3) := by decide +kernel
theorem dX10_parents_32 : decode cX10_parents 32 = .ok (.ifCond .eq 5, 3) := by decide +kernel
theorem dX10_parents_35 : decode cX10_parents 35 = .ok (.iconst 0, 1) := by decide +kernel
theorem dX10_parents_36 : decode cX10_parents 36 = .ok (.ireturn, 1) := by decide +kernel
theorem dX10_parents_37 : decode cX10_parents 37 = .ok (.iconst 0, 1) := by decide +kernel
theorem dX10_parents_38 : decode cX10_parents 38 = .ok (.istore_n 3, 1) := by decide +kernel
theorem dX10_parents_39 : decode cX10_parents 39 = .ok (.iconst (-1), 1) := by decide +kernel
theorem dX10_parents_40 : decode cX10_parents 40 = .ok (.istore 4, 2) := by decide +kernel
theorem dX10_parents_42 : decode cX10_parents 42 = .ok (.iconst 0, 1) := by decide +kernel
theorem dX10_parents_43 : decode cX10_parents 43 = .ok (.istore 5, 2) := by decide +kernel
theorem dX10_parents_45 : decode cX10_parents 45 = .ok (.iload 5, 2) := by decide +kernel
theorem dX10_parents_47 : decode cX10_parents 47 = .ok (.aload_n 0, 1) := by decide +kernel
theorem dX10_parents_48 : decode cX10_parents 48 = .ok (.getfield 61, 3) := by decide +kernel
theorem dX10_parents_51 : decode cX10_parents 51 = .ok (.bipush 42, 2) := by decide +kernel
theorem dX10_parents_53 : decode cX10_parents 53 = .ok (.iaload, 1) := by decide +kernel
theorem dX10_parents_54 : decode cX10_parents 54 = .ok (.if_icmp .ge 87, 3) := by decide +kernel
theorem dX10_parents_57 : decode cX10_parents 57 = .ok (.iload 5, 2) := by decide +kernel
theorem dX10_parents_59 : decode cX10_parents 59 = .ok (.iconst 1, 1) := by decide +kernel
theorem dX10_parents_60 : decode cX10_parents 60 = .ok (.iadd, 1) := by decide +kernel
theorem dX10_parents_61 : decode cX10_parents 61 = .ok (.istore 6, 2) := by decide +kernel
theorem dX10_parents_63 : decode cX10_parents 63 = .ok (.iload 6, 2) := by decide +kernel
theorem dX10_parents_65 : decode cX10_parents 65 = .ok (.aload_n 0, 1) := by decide +kernel
theorem dX10_parents_66 : decode cX10_parents 66 = .ok (.getfield 61, 3) := by decide +kernel
theorem dX10_parents_69 : decode cX10_parents 69 = .ok (.bipush 42, 2) := by decide +kernel
theorem dX10_parents_71 : decode cX10_parents 71 = .ok (.iaload, 1) := by decide +kernel
theorem dX10_parents_72 : decode cX10_parents 72 = .ok (.if_icmp .ge 63, 3) := by decide +kernel
theorem dX10_parents_75 : decode cX10_parents 75 = .ok (.aload_n 0, 1) := by decide +kernel
theorem dX10_parents_76 : decode cX10_parents 76 = .ok (.getfield 61, 3) := by decide +kernel
theorem dX10_parents_79 : decode cX10_parents 79 = .ok (.bipush 8, 2) := by decide +kernel
theorem dX10_parents_81 : decode cX10_parents 81 = .ok (.iload 5, 2) := by decide +kernel
theorem dX10_parents_83 : decode cX10_parents 83 = .ok (.iadd, 1) := by decide +kernel
theorem dX10_parents_84 : decode cX10_parents 84 = .ok (.iaload, 1) := by decide +kernel
theorem dX10_parents_85 : decode cX10_parents 85 = .ok (.aload_n 0, 1) := by decide +kernel
theorem dX10_parents_86 : decode cX10_parents 86 = .ok (.getfield 61, 3) := by decide +kernel
theorem dX10_parents_89 : decode cX10_parents 89 = .ok (.bipush 8, 2) := by decide +kernel
theorem dX10_parents_91 : decode cX10_parents 91 = .ok (.iload 6, 2) := by decide +kernel
theorem dX10_parents_93 : decode cX10_parents 93 = .ok (.iadd, 1) := by decide +kernel
theorem dX10_parents_94 : decode cX10_parents 94 = .ok (.iaload, 1) := by decide +kernel
theorem dX10_parents_95 : decode cX10_parents 95 = .ok (.iadd, 1) := by decide +kernel
theorem dX10_parents_96 : decode cX10_parents 96 = .ok (.sipush 256, 3) := by decide +kernel
theorem dX10_parents_99 : decode cX10_parents 99 = .ok (.irem, 1) := by decide +kernel
theorem dX10_parents_100 : decode cX10_parents 100 = .ok (.iload_n 1, 1) := by decide +kernel
theorem dX10_parents_101 : decode cX10_parents 101 = .ok (.if_icmp .eq 6, 3) := by decide +kernel
theorem dX10_parents_104 : decode cX10_parents 104 = .ok (.goto 25, 3) := by decide +kernel
theorem dX10_parents_107 : decode cX10_parents 107 = .ok (.iload_n 3, 1) := by decide +kernel
theorem dX10_parents_108 : decode cX10_parents 108 = .ok (.ifCond .ne 14, 3) := by decide +kernel
theorem dX10_parents_111 : decode cX10_parents 111 = .ok (.bipush 10, 2) := by decide +kernel
theorem dX10_parents_113 : decode cX10_parents 113 = .ok (.iload 5, 2) := by decide +kernel
theorem dX10_parents_115 : decode cX10_parents 115 = .ok (.imul, 1) := by decide +kernel
theorem dX10_parents_116 : decode cX10_parents 116 = .ok (.iload 6, 2) := by decide +kernel
theorem dX10_parents_118 : decode cX10_parents 118 = .ok (.iadd, 1) := by decide +kernel
theorem dX10_parents_119 : decode cX10_parents 119 = .ok (.goto 5, 3) := by decide +kernel
theorem dX10_parents_122 : decode cX10_parents 122 = .ok (.iload 4, 2) := by decide +kernel
theorem dX10_parents_124 : decode cX10_parents 124 = .ok (.istore 4, 2) := by decide +kernel
theorem dX10_parents_126 : decode cX10_parents 126 = .ok (.iinc 3 1, 3) := by decide +kernel
theorem dX10_parents_129 : decode cX10_parents 129 = .ok (.iinc 6 1, 3) := by decide +kernel
theorem dX10_parents_132 : decode cX10_parents 132 = .ok (.goto (-69), 3) := by decide +kernel
theorem dX10_parents_135 : decode cX10_parents 135 = .ok (.iinc 5 1, 3) := by decide +kernel
theorem dX10_parents_138 : decode cX10_parents 138 = .ok (.goto (-93), 3) := by decide +kernel
theorem dX10_parents_141 : decode cX10_parents 141 = .ok (.iload_n 2, 1) := by decide +kernel
theorem dX10_parents_142 : decode cX10_parents 142 = .ok (.ifCond .ne 7, 3) := by decide +kernel
theorem dX10_parents_145 : decode cX10_parents 145 = .ok (.iload_n 3, 1) := by decide +kernel
theorem dX10_parents_146 : decode cX10_parents 146 = .ok (.goto 5, 3) := by decide +kernel
theorem dX10_parents_149 : decode cX10_parents 149 = .ok (.iload 4, 2) := by decide +kernel
theorem dX10_parents_151 : decode cX10_parents 151 = .ok (.ireturn, 1) := by decide +kernel
theorem dX10_sumOf_0 : decode cX10_sumOf 0 = .ok (.iconst 0, 1) := by decide +kernel
theorem dX10_sumOf_1 : decode cX10_sumOf 1 = .ok (.istore_n 2, 1) := by decide +kernel
theorem dX10_sumOf_2 : decode cX10_sumOf 2 = .ok (.iconst 0, 1) := by decide +kernel
theorem dX10_sumOf_3 : decode cX10_sumOf 3 = .ok (.istore_n 3, 1) := by decide +kernel
theorem dX10_sumOf_4 : decode cX10_sumOf 4 = .ok (.iload_n 3, 1) := by decide +kernel
theorem dX10_sumOf_5 : decode cX10_sumOf 5 = .ok (.aload_n 0, 1) := by decide +kernel
theorem dX10_sumOf_6 : decode cX10_sumOf 6 = .ok (.getfield 61, 3) := by decide +kernel
theorem dX10_sumOf_9 : decode cX10_sumOf 9 = .ok (.bipush 42, 2) := by decide +kernel
theorem dX10_sumOf_11 : decode cX10_sumOf 11 = .ok (.iaload, 1) := by decide +kernel
theorem dX10_sumOf_12 : decode cX10_sumOf 12 = .ok (.if_icmp .ge 32, 3) := by decide +kernel
theorem dX10_sumOf_15 : decode cX10_sumOf 15 = .ok (.iload_n 2, 1) := by decide +kernel
theorem dX10_sumOf_16 : decode cX10_sumOf 16 = .ok (.iload_n 1, 1) := by decide +kernel
theorem dX10_sumOf_17 : decode cX10_sumOf 17 = .ok (.iload_n 3, 1) := by decide +kernel
theorem dX10_sumOf_18 : decode cX10_sumOf 18 = .ok (.invokestatic 322, 3) := by decide +kernel
theorem dX10_sumOf_21 : decode cX10_sumOf 21 = .ok (.ifCond .eq 14, 3) := by decide +kernel
theorem dX10_sumOf_24 : decode cX10_sumOf 24 = .ok (.aload_n 0, 1) := by decide +kernel
theorem dX10_sumOf_25 : decode cX10_sumOf 25 = .ok (.getfield 61, 3) := by decide +kernel
theorem dX10_sumOf_28 : decode cX10_sumOf 28 = .ok (.iconst 0, 1) := by decide +kernel
theorem dX10_sumOf_29 : decode cX10_sumOf 29 = .ok (.iload_n 3, 1) := by decide +kernel
theorem dX10_sumOf_30 : decode cX10_sumOf 30 = .ok (.iadd, 1) := by decide +kernel
theorem dX10_sumOf_31 : decode cX10_sumOf 31 = .ok (.iaload, 1) := by decide +kernel
theorem dX10_sumOf_32 : decode cX10_sumOf 32 = .ok (.goto 4, 3) := by decide +kernel
theorem dX10_sumOf_35 : decode cX10_sumOf 35 = .ok (.iconst 0, 1) := by decide +kernel
theorem dX10_sumOf_36 : decode cX10_sumOf 36 = .ok (.iadd, 1) := by decide +kernel
theorem dX10_sumOf_37 : decode cX10_sumOf 37 = .ok (.istore_n 2, 1) := by decide +kernel
theorem dX10_sumOf_38 : decode cX10_sumOf 38 = .ok (.iinc 3 1, 3) := by decide +kernel
theorem dX10_sumOf_41 : decode cX10_sumOf 41 = .ok (.goto (-37), 3) := by decide +kernel
theorem dX10_sumOf_44 : decode cX10_sumOf 44 = .ok (.iload_n 2, 1) := by decide +kernel
theorem dX10_sumOf_45 : decode cX10_sumOf 45 = .ok (.ireturn, 1) := by decide +kernel
theorem dX10_herd_0 : decode cX10_herd 0 = .ok (.aload_n 0, 1) := by decide +kernel
theorem dX10_herd_1 : decode cX10_herd 1 = .ok (.iconst 0, 1) := by decide +kernel
theorem dX10_herd_2 : decode cX10_herd 2 = .ok (.putfield 88, 3) := by decide +kernel
theorem dX10_herd_5 : decode cX10_herd 5 = .ok (.aload_n 0, 1) := by decide +kernel
theorem dX10_herd_6 : decode cX10_herd 6 = .ok (.iload_n 1, 1) := by decide +kernel
theorem dX10_herd_7 : decode cX10_herd 7 = .ok (.iconst 0, 1) := by decide +kernel
theorem dX10_herd_8 : decode cX10_herd 8 = .ok (.sipush 2040, 3) := by decide +kernel
theorem dX10_herd_11 : decode cX10_herd 11 = .ok (.invokestatic 122, 3) := by decide +kernel
theorem dX10_herd_14 : decode cX10_herd 14 = .ok (.ifCond .eq 12, 3) := by decide +kernel
theorem dX10_herd_17 : decode cX10_herd 17 = .ok (.iload_n 2, 1) := by decide +kernel
theorem dX10_herd_18 : decode cX10_herd 18 = .ok (.iconst 0, 1) := by decide +kernel
theorem dX10_herd_19 : decode cX10_herd 19 = .ok (.iconst 2, 1) := by decide +kernel
theorem dX10_herd_20 : decode cX10_herd 20 = .ok (.invokestatic 122, 3) := by decide +kernel
theorem dX10_herd_23 : decode cX10_herd 23 = .ok (.ifCond .ne 7, 3) := by decide +kernel
theorem dX10_herd_26 : decode cX10_herd 26 = .ok (.iconst 1, 1) := by decide +kernel
theorem dX10_herd_27 : decode cX10_herd 27 = .ok (.goto 4, 3) := by decide +kernel
theorem dX10_herd_30 : decode cX10_herd 30 = .ok (.iconst 0, 1) := by decide +kernel
theorem dX10_herd_31 : decode cX10_herd 31 = .ok (.iconst 1, 1) := by decide +kernel
theorem dX10_herd_32 : decode cX10_herd 32 = .ok (.iconst 1, 1) := by decide +kernel
theorem dX10_herd_33 : decode cX10_herd 33 = .ok (.invokevirtual 164, 3) := by decide +kernel
theorem dX10_herd_36 : decode cX10_herd 36 = .ok (.ifCond .eq 5, 3) := by decide +kernel
theorem dX10_herd_39 : decode cX10_herd 39 = .ok (.iconst 0, 1) := by decide +kernel
theorem dX10_herd_40 : decode cX10_herd 40 = .ok (.ireturn, 1) := by decide +kernel
theorem dX10_herd_41 : decode cX10_herd 41 = .ok (.iconst 0, 1) := by decide +kernel
theorem dX10_herd_42 : decode cX10_herd 42 = .ok (.istore_n 3, 1) := by decide +kernel
theorem dX10_herd_43 : decode cX10_herd 43 = .ok (.iconst (-1), 1) := by decide +kernel
theorem dX10_herd_44 : decode cX10_herd 44 = .ok (.istore 4, 2) := by decide +kernel
theorem dX10_herd_46 : decode cX10_herd 46 = .ok (.iconst 1, 1) := by decide +kernel
theorem dX10_herd_47 : decode cX10_herd 47 = .ok (.aload_n 0, 1) := by decide +kernel
theorem dX10_herd_48 : decode cX10_herd 48 = .ok (.getfield 61, 3) := by decide +kernel
theorem dX10_herd_51 : decode cX10_herd 51 = .ok (.bipush 42, 2) := by decide +kernel
theorem dX10_herd_53 : decode cX10_herd 53 = .ok (.iaload, 1) := by decide +kernel
theorem dX10_herd_54 : decode cX10_herd 54 = .ok (.ishl, 1) := by decide +kernel
theorem dX10_herd_55 : decode cX10_herd 55 = .ok (.iconst 1, 1) := by decide +kernel
theorem dX10_herd_56 : decode cX10_herd 56 = .ok (.isub, 1) := by decide +kernel
theorem dX10_herd_57 : decode cX10_herd 57 = .ok (.istore 5, 2) := by decide +kernel
theorem dX10_herd_59 : decode cX10_herd 59 = .ok (.iconst 0, 1) := by decide +kernel
theorem dX10_herd_60 : decode cX10_herd 60 = .ok (.istore 6, 2) := by decide +kernel
theorem dX10_herd_62 : decode cX10_herd 62 = .ok (.iload 6, 2) := by decide +kernel
theorem dX10_herd_64 : decode cX10_herd 64 = .ok (.iconst 1, 1) := by decide +kernel
theorem dX10_herd_65 : decode cX10_herd 65 = .ok (.aload_n 0, 1) := by decide +kernel
theorem dX10_herd_66 : decode cX10_herd 66 = .ok (.getfield 61, 3) := by decide +kernel
theorem dX10_herd_69 : decode cX10_herd 69 = .ok (.bipush 42, 2) := by decide +kernel
theorem dX10_herd_71 : decode cX10_herd 71 = .ok (.iaload, 1) := by decide +kernel
theorem dX10_herd_72 : decode cX10_herd 72 = .ok (.ishl, 1) := by decide +kernel
theorem dX10_herd_73 : decode cX10_herd 73 = .ok (.if_icmp .ge 45, 3) := by decide +kernel
theorem dX10_herd_76 : decode cX10_herd 76 = .ok (.aload_n 0, 1) := by decide +kernel
theorem dX10_herd_77 : decode cX10_herd 77 = .ok (.iload 6, 2) := by decide +kernel
theorem dX10_herd_79 : decode cX10_herd 79 = .ok (.invokevirtual 325, 3) := by decide +kernel
theorem dX10_herd_82 : decode cX10_herd 82 = .ok (.iload_n 1, 1) := by decide +kernel
theorem dX10_herd_83 : decode cX10_herd 83 = .ok (.if_icmp .eq 6, 3) := by decide +kernel
theorem dX10_herd_86 : decode cX10_herd 86 = .ok (.goto 26, 3) := by decide +kernel
theorem dX10_herd_89 : decode cX10_herd 89 = .ok (.iload_n 3, 1) := by decide +kernel
theorem dX10_herd_90 : decode cX10_herd 90 = .ok (.ifCond .ne 8, 3) := by decide +kernel
theorem dX10_herd_93 : decode cX10_herd 93 = .ok (.iload 6, 2) := by decide +kernel
theorem dX10_herd_95 : decode cX10_herd 95 = .ok (.goto 5, 3) := by decide +kernel
theorem dX10_herd_98 : decode cX10_herd 98 = .ok (.iload 4, 2) := by decide +kernel
theorem dX10_herd_100 : decode cX10_herd 100 = .ok (.istore 4, 2) := by decide +kernel
theorem dX10_herd_102 : decode cX10_herd 102 = .ok (.iload 5, 2) := by decide +kernel
theorem dX10_herd_104 : decode cX10_herd 104 = .ok (.iload 6, 2) := by decide +kernel
theorem dX10_herd_106 : decode cX10_herd 106 = .ok (.iand, 1) := by decide +kernel
theorem dX10_herd_107 : decode cX10_herd 107 = .ok (.istore 5, 2) := by decide +kernel
theorem dX10_herd_109 : decode cX10_herd 109 = .ok (.iinc 3 1, 3) := by decide +kernel
theorem dX10_herd_112 : decode cX10_herd 112 = .ok (.iinc 6 1, 3) := by decide +kernel
theorem dX10_herd_115 : decode cX10_herd 115 = .ok (.goto (-53), 3) := by decide +kernel
theorem dX10_herd_118 : decode cX10_herd 118 = .ok (.iload_n 2, 1) := by decide +kernel
theorem dX10_herd_119 : decode cX10_herd 119 = .ok (.ifCond .ne 7, 3) := by decide +kernel
theorem dX10_herd_122 : decode cX10_herd 122 = .ok (.iload_n 3, 1) := by decide +kernel
theorem dX10_herd_123 : decode cX10_herd 123 = .ok (.goto 23, 3) := by decide +kernel
theorem dX10_herd_126 : decode cX10_herd 126 = .ok (.iload_n 2, 1) := by decide +kernel
theorem dX10_herd_127 : decode cX10_herd 127 = .ok (.iconst 1, 1) := by decide +kernel
theorem dX10_herd_128 : decode cX10_herd 128 = .ok (.if_icmp .ne 8, 3) := by decide +kernel
theorem dX10_herd_131 : decode cX10_herd 131 = .ok (.iload 4, 2) := by decide +kernel
theorem dX10_herd_133 : decode cX10_herd 133 = .ok (.goto 13, 3) := by decide +kernel
theorem dX10_herd_136 : decode cX10_herd 136 = .ok (.iload_n 3, 1) := by decide +kernel
theorem dX10_herd_137 : decode cX10_herd 137 = .ok (.ifCond .ne 7, 3) := by decide +kernel
theorem dX10_herd_140 : decode cX10_herd 140 = .ok (.iconst 0, 1) := by decide +kernel
theorem dX10_herd_141 : decode cX10_herd 141 = .ok (.goto 5, 3) := by decide +kernel
theorem dX10_herd_144 : decode cX10_herd 144 = .ok (.iload 5, 2) := by decide +kernel
theorem dX10_herd_146 : decode cX10_herd 146 = .ok (.ireturn, 1) := by decide +kernel
theorem dX10_ask_0 : decode cX10_ask 0 = .ok (.aload_n 0, 1) := by decide +kernel
theorem dX10_ask_1 : decode cX10_ask 1 = .ok (.iconst 0, 1) := by decide +kernel
theorem dX10_ask_2 : decode cX10_ask 2 = .ok (.putfield 88, 3) := by decide +kernel
theorem dX10_ask_5 : decode cX10_ask 5 = .ok (.aload_n 0, 1) := by decide +kernel
theorem dX10_ask_6 : decode cX10_ask 6 = .ok (.iload_n 1, 1) := by decide +kernel
theorem dX10_ask_7 : decode cX10_ask 7 = .ok (.iconst 0, 1) := by decide +kernel
theorem dX10_ask_8 : decode cX10_ask 8 = .ok (.sipush 2040, 3) := by decide +kernel
theorem dX10_ask_11 : decode cX10_ask 11 = .ok (.invokestatic 122, 3) := by decide +kernel
theorem dX10_ask_14 : decode cX10_ask 14 = .ok (.ifCond .eq 12, 3) := by decide +kernel
theorem dX10_ask_17 : decode cX10_ask 17 = .ok (.iload_n 2, 1) := by decide +kernel
theorem dX10_ask_18 : decode cX10_ask 18 = .ok (.iconst 0, 1) := by decide +kernel
theorem dX10_ask_19 : decode cX10_ask 19 = .ok (.iconst 1, 1) := by decide +kernel
theorem dX10_ask_20 : decode cX10_ask 20 = .ok (.invokestatic 122, 3) := by decide +kernel
theorem dX10_ask_23 : decode cX10_ask 23 = .ok (.ifCond .ne 7, 3) := by decide +kernel
theorem dX10_ask_26 : decode cX10_ask 26 = .ok (.iconst 1, 1) := by decide +kernel
theorem dX10_ask_27 : decode cX10_ask 27 = .ok (.goto 4, 3) := by decide +kernel
theorem dX10_ask_30 : decode cX10_ask 30 = .ok (.iconst 0, 1) := by decide +kernel
theorem dX10_ask_31 : decode cX10_ask 31 = .ok (.iconst 1, 1) := by decide +kernel
theorem dX10_ask_32 : decode cX10_ask 32 = .ok (.iconst 1, 1) := by decide +kernel
theorem dX10_ask_33 : decode cX10_ask 33 = .ok (.invokevirtual 164, 3) := by decide +kernel
theorem dX10_ask_36 : decode cX10_ask 36 = .ok (.ifCond .eq 5, 3) := by decide +kernel
theorem dX10_ask_39 : decode cX10_ask 39 = .ok (.iconst 0, 1) := by decide +kernel
theorem dX10_ask_40 : decode cX10_ask 40 = .ok (.ireturn, 1) := by decide +kernel
theorem dX10_ask_41 : decode cX10_ask 41 = .ok (.iconst (-1), 1) := by decide +kernel
theorem dX10_ask_42 : decode cX10_ask 42 = .ok (.istore_n 3, 1) := by decide +kernel
theorem dX10_ask_43 : decode cX10_ask 43 = .ok (.iconst (-1), 1) := by decide +kernel
theorem dX10_ask_44 : decode cX10_ask 44 = .ok (.istore 4, 2) := by decide +kernel
theorem dX10_ask_46 : decode cX10_ask 46 = .ok (.iconst 0, 1) := by decide +kernel
theorem dX10_ask_47 : decode cX10_ask 47 = .ok (.istore 5, 2) := by decide +kernel
theorem dX10_ask_49 : decode cX10_ask 49 = .ok (.iload 5, 2) := by decide +kernel
theorem dX10_ask_51 : decode cX10_ask 51 = .ok (.aload_n 0, 1) := by decide +kernel
theorem dX10_ask_52 : decode cX10_ask 52 = .ok (.getfield 61, 3) := by decide +kernel
theorem dX10_ask_55 : decode cX10_ask 55 = .ok (.bipush 42, 2) := by decide +kernel
theorem dX10_ask_57 : decode cX10_ask 57 = .ok (.iaload, 1) := by decide +kernel
theorem dX10_ask_58 : decode cX10_ask 58 = .ok (.if_icmp .ge 101, 3) := by decide +kernel
theorem dX10_ask_61 : decode cX10_ask 61 = .ok (.iconst 0, 1) := by decide +kernel
theorem dX10_ask_62 : decode cX10_ask 62 = .ok (.istore 6, 2) := by decide +kernel
theorem dX10_ask_64 : decode cX10_ask 64 = .ok (.iconst 0, 1) := by decide +kernel
theorem dX10_ask_65 : decode cX10_ask 65 = .ok (.istore 7, 2) := by decide +kernel
theorem dX10_ask_67 : decode cX10_ask 67 = .ok (.iconst 0, 1) := by decide +kernel
theorem dX10_ask_68 : decode cX10_ask 68 = .ok (.istore 8, 2) := by decide +kernel
theorem dX10_ask_70 : decode cX10_ask 70 = .ok (.iload 8, 2) := by decide +kernel
theorem dX10_ask_72 : decode cX10_ask 72 = .ok (.iconst 1, 1) := by decide +kernel
theorem dX10_ask_73 : decode cX10_ask 73 = .ok (.aload_n 0, 1) := by decide +kernel
theorem dX10_ask_74 : decode cX10_ask 74 = .ok (.getfield 61, 3) := by decide +kernel
theorem dX10_ask_77 : decode cX10_ask 77 = .ok (.bipush 42, 2) := by decide +kernel
theorem dX10_ask_79 : decode cX10_ask 79 = .ok (.iaload, 1) := by decide +kernel
theorem dX10_ask_80 : decode cX10_ask 80 = .ok (.ishl, 1) := by decide +kernel
theorem dX10_ask_81 : decode cX10_ask 81 = .ok (.if_icmp .ge 41, 3) := by decide +kernel
theorem dX10_ask_84 : decode cX10_ask 84 = .ok (.aload_n 0, 1) := by decide +kernel
theorem dX10_ask_85 : decode cX10_ask 85 = .ok (.iload 8, 2) := by decide +kernel
theorem dX10_ask_87 : decode cX10_ask 87 = .ok (.invokevirtual 325, 3) := by decide +kernel
theorem dX10_ask_90 : decode cX10_ask 90 = .ok (.iload_n 1, 1) := by decide +kernel
theorem dX10_ask_91 : decode cX10_ask 91 = .ok (.if_icmp .eq 6, 3) := by decide +kernel
theorem dX10_ask_94 : decode cX10_ask 94 = .ok (.goto 22, 3) := by decide +kernel
theorem dX10_ask_97 : decode cX10_ask 97 = .ok (.iload 8, 2) := by decide +kernel
theorem dX10_ask_99 : decode cX10_ask 99 = .ok (.iload 5, 2) := by decide +kernel
theorem dX10_ask_101 : decode cX10_ask 101 = .ok (.invokestatic 322, 3) := by decide +kernel
theorem dX10_ask_104 : decode cX10_ask 104 = .ok (.ifCond .eq 9, 3) := by decide +kernel
theorem dX10_ask_107 : decode cX10_ask 107 = .ok (.iinc 6 1, 3) := by decide +kernel
theorem dX10_ask_110 : decode cX10_ask 110 = .ok (.goto 6, 3) := by decide +kernel
theorem dX10_ask_113 : decode cX10_ask 113 = .ok (.iinc 7 1, 3) := by decide +kernel
theorem dX10_ask_116 : decode cX10_ask 116 = .ok (.iinc 8 1, 3) := by decide +kernel
theorem dX10_ask_119 : decode cX10_ask 119 = .ok (.goto (-49), 3) := by decide +kernel
theorem dX10_ask_122 : decode cX10_ask 122 = .ok (.iload 6, 2) := by decide +kernel
theorem dX10_ask_124 : decode cX10_ask 124 = .ok (.iload 7, 2) := by decide +kernel
theorem dX10_ask_126 : decode cX10_ask 126 = .ok (.invokestatic 224, 3) := by decide +kernel
theorem dX10_ask_129 : decode cX10_ask 129 = .ok (.istore 8, 2) := by decide +kernel
theorem dX10_ask_131 : decode cX10_ask 131 = .ok (.iload_n 3, 1) := by decide +kernel
theorem dX10_ask_132 : decode cX10_ask 132 = .ok (.iconst (-1), 1) := by decide +kernel
theorem dX10_ask_133 : decode cX10_ask 133 = .ok (.if_icmp .eq 13, 3) := by decide +kernel
theorem dX10_ask_136 : decode cX10_ask 136 = .ok (.iload 8, 2) := by decide +kernel
theorem dX10_ask_138 : decode cX10_ask 138 = .ok (.iload 4, 2) := by decide +kernel
theorem dX10_ask_140 : decode cX10_ask 140 = .ok (.if_icmp .lt 6, 3) := by decide +kernel
theorem dX10_ask_143 : decode cX10_ask 143 = .ok (.goto 10, 3) := by decide +kernel
theorem dX10_ask_146 : decode cX10_ask 146 = .ok (.iload 5, 2) := by decide +kernel
theorem dX10_ask_148 : decode cX10_ask 148 = .ok (.istore_n 3, 1) := by decide +kernel
theorem dX10_ask_149 : decode cX10_ask 149 = .ok (.iload 8, 2) := by decide +kernel
theorem dX10_ask_151 : decode cX10_ask 151 = .ok (.istore 4, 2) := by decide +kernel
theorem dX10_ask_153 : decode cX10_ask 153 = .ok (.iinc 5 1, 3) := by decide +kernel
theorem dX10_ask_156 : decode cX10_ask 156 = .ok (.goto (-107), 3) := by decide +kernel
theorem dX10_ask_159 : decode cX10_ask 159 = .ok (.iload_n 2, 1) := by decide +kernel
theorem dX10_ask_160 : decode cX10_ask 160 = .ok (.ifCond .ne 7, 3) := by decide +kernel
theorem dX10_ask_163 : decode cX10_ask 163 = .ok (.iload_n 3, 1) := by decide +kernel
theorem dX10_ask_164 : decode cX10_ask 164 = .ok (.goto 5, 3) := by decide +kernel
theorem dX10_ask_167 : decode cX10_ask 167 = .ok (.iload 4, 2) := by decide +kernel
theorem dX10_ask_169 : decode cX10_ask 169 = .ok (.ireturn, 1) := by decide +kernel
theorem dX10_cover_0 : decode cX10_cover 0 = .ok (.aload_n 0, 1) := by decide +kernel
theorem dX10_cover_1 : decode cX10_cover 1 = .ok (.iconst 0, 1) := by decide +kernel
theorem dX10_cover_2 : decode cX10_cover 2 = .ok (.putfield 88, 3) := by decide +kernel
theorem dX10_cover_5 : decode cX10_cover 5 = .ok (.aload_n 0, 1) := by decide +kernel
theorem dX10_cover_6 : decode cX10_cover 6 = .ok (.aload_n 0, 1) := by decide +kernel
theorem dX10_cover_7 : decode cX10_cover 7 = .ok (.iload_n 1, 1) := by decide +kernel
theorem dX10_cover_8 : decode cX10_cover 8 = .ok (.invokevirtual 328, 3) := by decide +kernel
theorem dX10_cover_11 : decode cX10_cover 11 = .ok (.ifCond .ne 7, 3) := by decide +kernel
theorem dX10_cover_14 : decode cX10_cover 14 = .ok (.iconst 1, 1) := by decide +kernel
theorem dX10_cover_15 : decode cX10_cover 15 = .ok (.goto 4, 3) := by decide +kernel
theorem dX10_cover_18 : decode cX10_cover 18 = .ok (.iconst 0, 1) := by decide +kernel
theorem dX10_cover_19 : decode cX10_cover 19 = .ok (.iconst 1, 1) := by decide +kernel
theorem dX10_cover_20 : decode cX10_cover 20 = .ok (.iconst 1, 1) := by decide +kernel
theorem dX10_cover_21 : decode cX10_cover 21 = .ok (.invokevirtual 164, 3) := by decide +kernel
theorem dX10_cover_24 : decode cX10_cover 24 = .ok (.ifCond .eq 5, 3) := by decide +kernel
theorem dX10_cover_27 : decode cX10_cover 27 = .ok (.iconst 0, 1) := by decide +kernel
theorem dX10_cover_28 : decode cX10_cover 28 = .ok (.ireturn, 1) := by decide +kernel
theorem dX10_cover_29 : decode cX10_cover 29 = .ok (.iconst (-1), 1) := by decide +kernel
theorem dX10_cover_30 : decode cX10_cover 30 = .ok (.istore_n 2, 1) := by decide +kernel
theorem dX10_cover_31 : decode cX10_cover 31 = .ok (.iconst 1, 1) := by decide +kernel
theorem dX10_cover_32 : decode cX10_cover 32 = .ok (.aload_n 0, 1) := by decide +kernel
theorem dX10_cover_33 : decode cX10_cover 33 = .ok (.getfield 23, 3) := by decide +kernel
theorem dX10_cover_36 : decode cX10_cover 36 = .ok (.iconst 1, 1) := by decide +kernel
theorem dX10_cover_37 : decode cX10_cover 37 = .ok (.iaload, 1) := by decide +kernel
theorem dX10_cover_38 : decode cX10_cover 38 = .ok (.ishl, 1) := by decide +kernel
theorem dX10_cover_39 : decode cX10_cover 39 = .ok (.iconst 1, 1) := by decide +kernel
theorem dX10_cover_40 : decode cX10_cover 40 = .ok (.isub, 1) := by decide +kernel
theorem dX10_cover_41 : decode cX10_cover 41 = .ok (.istore_n 3, 1) := by decide +kernel
theorem dX10_cover_42 : decode cX10_cover 42 = .ok (.iload_n 3, 1) := by decide +kernel
theorem dX10_cover_43 : decode cX10_cover 43 = .ok (.ifCond .lt 87, 3) := by decide +kernel
theorem dX10_cover_46 : decode cX10_cover 46 = .ok (.iconst 0, 1) := by decide +kernel
theorem dX10_cover_47 : decode cX10_cover 47 = .ok (.istore 4, 2) := by decide +kernel
theorem dX10_cover_49 : decode cX10_cover 49 = .ok (.iconst 0, 1) := by decide +kernel
theorem dX10_cover_50 : decode cX10_cover 50 = .ok (.istore 5, 2) := by decide +kernel
theorem dX10_cover_52 : decode cX10_cover 52 = .ok (.iload 5, 2) := by decide +kernel
theorem dX10_cover_54 : decode cX10_cover 54 = .ok (.aload_n 0, 1) := by decide +kernel
theorem dX10_cover_55 : decode cX10_cover 55 = .ok (.getfield 23, 3) := by decide +kernel
theorem dX10_cover_58 : decode cX10_cover 58 = .ok (.iconst 1, 1) := by decide +kernel
theorem dX10_cover_59 : decode cX10_cover 59 = .ok (.iaload, 1) := by decide +kernel
theorem dX10_cover_60 : decode cX10_cover 60 = .ok (.if_icmp .ge 33, 3) := by decide +kernel
theorem dX10_cover_63 : decode cX10_cover 63 = .ok (.iload 4, 2) := by decide +kernel
theorem dX10_cover_65 : decode cX10_cover 65 = .ok (.iload_n 3, 1) := by decide +kernel
theorem dX10_cover_66 : decode cX10_cover 66 = .ok (.iload 5, 2) := by decide +kernel
theorem dX10_cover_68 : decode cX10_cover 68 = .ok (.invokestatic 322, 3) := by decide +kernel
theorem dX10_cover_71 : decode cX10_cover 71 = .ok (.ifCond .eq 12, 3) := by decide +kernel
theorem dX10_cover_74 : decode cX10_cover 74 = .ok (.aload_n 0, 1) := by decide +kernel
theorem dX10_cover_75 : decode cX10_cover 75 = .ok (.iload 5, 2) := by decide +kernel
theorem dX10_cover_77 : decode cX10_cover 77 = .ok (.invokevirtual 316, 3) := by decide +kernel
theorem dX10_cover_80 : decode cX10_cover 80 = .ok (.goto 4, 3) := by decide +kernel
theorem dX10_cover_83 : decode cX10_cover 83 = .ok (.iconst 0, 1) := by decide +kernel
theorem dX10_cover_84 : decode cX10_cover 84 = .ok (.ior, 1) := by decide +kernel
theorem dX10_cover_85 : decode cX10_cover 85 = .ok (.istore 4, 2) := by decide +kernel
theorem dX10_cover_87 : decode cX10_cover 87 = .ok (.iinc 5 1, 3) := by decide +kernel
theorem dX10_cover_90 : decode cX10_cover 90 = .ok (.goto (-38), 3) := by decide +kernel
theorem dX10_cover_93 : decode cX10_cover 93 = .ok (.iload_n 1, 1) := by decide +kernel
theorem dX10_cover_94 : decode cX10_cover 94 = .ok (.iload 4, 2) := by decide +kernel
theorem dX10_cover_96 : decode cX10_cover 96 = .ok (.iconst (-1), 1) := by decide +kernel
theorem dX10_cover_97 : decode cX10_cover 97 = .ok (.ixor, 1) := by decide +kernel
theorem dX10_cover_98 : decode cX10_cover 98 = .ok (.iand, 1) := by decide +kernel
theorem dX10_cover_99 : decode cX10_cover 99 = .ok (.ifCond .ne 23, 3) := by decide +kernel
theorem dX10_cover_102 : decode cX10_cover 102 = .ok (.iload_n 2, 1) := by decide +kernel
theorem dX10_cover_103 : decode cX10_cover 103 = .ok (.iconst (-1), 1) := by decide +kernel
theorem dX10_cover_104 : decode cX10_cover 104 = .ok (.if_icmp .eq 14, 3) := by decide +kernel
theorem dX10_cover_107 : decode cX10_cover 107 = .ok (.iload_n 3, 1) := by decide +kernel
theorem dX10_cover_108 : decode cX10_cover 108 = .ok (.invokestatic 240, 3) := by decide +kernel
theorem dX10_cover_111 : decode cX10_cover 111 = .ok (.iload_n 2, 1) := by decide +kernel
theorem dX10_cover_112 : decode cX10_cover 112 = .ok (.invokestatic 240, 3) := by decide +kernel
theorem dX10_cover_115 : decode cX10_cover 115 = .ok (.if_icmp .gt 7, 3) := by decide +kernel
theorem dX10_cover_118 : decode cX10_cover 118 = .ok (.iload_n 3, 1) := by decide +kernel
theorem dX10_cover_119 : decode cX10_cover 119 = .ok (.goto 4, 3) := by decide +kernel
theorem dX10_cover_122 : decode cX10_cover 122 = .ok (.iload_n 2, 1) := by decide +kernel
theorem dX10_cover_123 : decode cX10_cover 123 = .ok (.istore_n 2, 1) := by decide +kernel
theorem dX10_cover_124 : decode cX10_cover 124 = .ok (.iinc 3 (-1), 3) := by decide +kernel
theorem dX10_cover_127 : decode cX10_cover 127 = .ok (.goto (-85), 3) := by decide +kernel
theorem dX10_cover_130 : decode cX10_cover 130 = .ok (.iload_n 2, 1) := by decide +kernel
theorem dX10_cover_131 : decode cX10_cover 131 = .ok (.ireturn, 1) := by decide +kernel
theorem dX10_nearTo_0 : decode cX10_nearTo 0 = .ok (.iconst 0, 1) := by decide +kernel
theorem dX10_nearTo_1 : decode cX10_nearTo 1 = .ok (.istore_n 3, 1) := by decide +kernel
theorem dX10_nearTo_2 : decode cX10_nearTo 2 = .ok (.iconst 0, 1) := by decide +kernel
theorem dX10_nearTo_3 : decode cX10_nearTo 3 = .ok (.istore 4, 2) := by decide +kernel
theorem dX10_nearTo_5 : decode cX10_nearTo 5 = .ok (.iload 4, 2) := by decide +kernel
theorem dX10_nearTo_7 : decode cX10_nearTo 7 = .ok (.aload_n 0, 1) := by decide +kernel
theorem dX10_nearTo_8 : decode cX10_nearTo 8 = .ok (.getfield 61, 3) := by decide +kernel
theorem dX10_nearTo_11 : decode cX10_nearTo 11 = .ok (.bipush 42, 2) := by decide +kernel
theorem dX10_nearTo_13 : decode cX10_nearTo 13 = .ok (.iaload, 1) := by decide +kernel
theorem dX10_nearTo_14 : decode cX10_nearTo 14 = .ok (.if_icmp .ge 38, 3) := by decide +kernel
theorem dX10_nearTo_17 : decode cX10_nearTo 17 = .ok (.iload_n 3, 1) := by decide +kernel
theorem dX10_nearTo_18 : decode cX10_nearTo 18 = .ok (.iload_n 1, 1) := by decide +kernel
theorem dX10_nearTo_19 : decode cX10_nearTo 19 = .ok (.aload_n 0, 1) := by decide +kernel
theorem dX10_nearTo_20 : decode cX10_nearTo 20 = .ok (.getfield 61, 3) := by decide +kernel
theorem dX10_nearTo_23 : decode cX10_nearTo 23 = .ok (.iconst 0, 1) := by decide +kernel
theorem dX10_nearTo_24 : decode cX10_nearTo 24 = .ok (.iload 4, 2) := by decide +kernel
theorem dX10_nearTo_26 : decode cX10_nearTo 26 = .ok (.iadd, 1) := by decide +kernel
theorem dX10_nearTo_27 : decode cX10_nearTo 27 = .ok (.iaload, 1) := by decide +kernel
theorem dX10_nearTo_28 : decode cX10_nearTo 28 = .ok (.ixor, 1) := by decide +kernel
theorem dX10_nearTo_29 : decode cX10_nearTo 29 = .ok (.invokestatic 240, 3) := by decide +kernel
theorem dX10_nearTo_32 : decode cX10_nearTo 32 = .ok (.iload_n 2, 1) := by decide +kernel
theorem dX10_nearTo_33 : decode cX10_nearTo 33 = .ok (.if_icmp .gt 10, 3) := by decide +kernel
theorem dX10_nearTo_36 : decode cX10_nearTo 36 = .ok (.iconst 1, 1) := by decide +kernel
theorem dX10_nearTo_37 : decode cX10_nearTo 37 = .ok (.iload 4, 2) := by decide +kernel
theorem dX10_nearTo_39 : decode cX10_nearTo 39 = .ok (.ishl, 1) := by decide +kernel
theorem dX10_nearTo_40 : decode cX10_nearTo 40 = .ok (.goto 4, 3) := by decide +kernel
theorem dX10_nearTo_43 : decode cX10_nearTo 43 = .ok (.iconst 0, 1) := by decide +kernel
theorem dX10_nearTo_44 : decode cX10_nearTo 44 = .ok (.ior, 1) := by decide +kernel
theorem dX10_nearTo_45 : decode cX10_nearTo 45 = .ok (.istore_n 3, 1) := by decide +kernel
theorem dX10_nearTo_46 : decode cX10_nearTo 46 = .ok (.iinc 4 1, 3) := by decide +kernel
theorem dX10_nearTo_49 : decode cX10_nearTo 49 = .ok (.goto (-44), 3) := by decide +kernel
theorem dX10_nearTo_52 : decode cX10_nearTo 52 = .ok (.iload_n 3, 1) := by decide +kernel
theorem dX10_nearTo_53 : decode cX10_nearTo 53 = .ok (.ireturn, 1) := by decide +kernel
theorem dX10_list_0 : decode cX10_list 0 = .ok (.aload_n 0, 1) := by decide +kernel
theorem dX10_list_1 : decode cX10_list 1 = .ok (.iconst 0, 1) := by decide +kernel
theorem dX10_list_2 : decode cX10_list 2 = .ok (.putfield 88, 3) := by decide +kernel
theorem dX10_list_5 : decode cX10_list 5 = .ok (.aload_n 0, 1) := by decide +kernel
theorem dX10_list_6 : decode cX10_list 6 = .ok (.aload_n 0, 1) := by decide +kernel
theorem dX10_list_7 : decode cX10_list 7 = .ok (.iload_n 1, 1) := by decide +kernel
theorem dX10_list_8 : decode cX10_list 8 = .ok (.invokevirtual 328, 3) := by decide +kernel
theorem dX10_list_11 : decode cX10_list 11 = .ok (.ifCond .eq 12, 3) := by decide +kernel
theorem dX10_list_14 : decode cX10_list 14 = .ok (.iload_n 2, 1) := by decide +kernel
theorem dX10_list_15 : decode cX10_list 15 = .ok (.iconst 0, 1) := by decide +kernel
theorem dX10_list_16 : decode cX10_list 16 = .ok (.iconst 3, 1) := by decide +kernel
theorem dX10_list_17 : decode cX10_list 17 = .ok (.invokestatic 122, 3) := by decide +kernel
theorem dX10_list_20 : decode cX10_list 20 = .ok (.ifCond .ne 7, 3) := by decide +kernel
theorem dX10_list_23 : decode cX10_list 23 = .ok (.iconst 1, 1) := by decide +kernel
theorem dX10_list_24 : decode cX10_list 24 = .ok (.goto 4, 3) := by decide +kernel
theorem dX10_list_27 : decode cX10_list 27 = .ok (.iconst 0, 1) := by decide +kernel
theorem dX10_list_28 : decode cX10_list 28 = .ok (.iconst 1, 1) := by decide +kernel
theorem dX10_list_29 : decode cX10_list 29 = .ok (.iconst 1, 1) := by decide +kernel
theorem dX10_list_30 : decode cX10_list 30 = .ok (.invokevirtual 164, 3) := by decide +kernel
theorem dX10_list_33 : decode cX10_list 33 = .ok (.ifCond .eq 5, 3) := by decide +kernel
theorem dX10_list_36 : decode cX10_list 36 = .ok (.iconst 0, 1) := by decide +kernel
theorem dX10_list_37 : decode cX10_list 37 = .ok (.ireturn, 1) := by decide +kernel
theorem dX10_list_38 : decode cX10_list 38 = .ok (.iconst 0, 1) := by decide +kernel
theorem dX10_list_39 : decode cX10_list 39 = .ok (.istore_n 3, 1) := by decide +kernel
theorem dX10_list_40 : decode cX10_list 40 = .ok (.iload_n 3, 1) := by decide +kernel
theorem dX10_list_41 : decode cX10_list 41 = .ok (.sipush 256, 3) := by decide +kernel
theorem dX10_list_44 : decode cX10_list 44 = .ok (.if_icmp .ge 24, 3) := by decide +kernel
theorem dX10_list_47 : decode cX10_list 47 = .ok (.aload_n 0, 1) := by decide +kernel
theorem dX10_list_48 : decode cX10_list 48 = .ok (.getfield 76, 3) := by decide +kernel
theorem dX10_list_51 : decode cX10_list 51 = .ok (.iload_n 3, 1) := by decide +kernel
theorem dX10_list_52 : decode cX10_list 52 = .ok (.iload_n 3, 1) := by decide +kernel
theorem dX10_list_53 : decode cX10_list 53 = .ok (.ifCond .ne 7, 3) := by decide +kernel
theorem dX10_list_56 : decode cX10_list 56 = .ok (.iconst 0, 1) := by decide +kernel
theorem dX10_list_57 : decode cX10_list 57 = .ok (.goto 4, 3) := by decide +kernel
theorem dX10_list_60 : decode cX10_list 60 = .ok (.iconst (-1), 1) := by decide +kernel
theorem dX10_list_61 : decode cX10_list 61 = .ok (.iastore, 1) := by decide +kernel
theorem dX10_list_62 : decode cX10_list 62 = .ok (.iinc 3 1, 3) := by decide +kernel
theorem dX10_list_65 : decode cX10_list 65 = .ok (.goto (-25), 3) := by decide +kernel
theorem dX10_list_68 : decode cX10_list 68 = .ok (.iconst 0, 1) := by decide +kernel
theorem dX10_list_69 : decode cX10_list 69 = .ok (.istore_n 3, 1) := by decide +kernel
theorem dX10_list_70 : decode cX10_list 70 = .ok (.iload_n 3, 1) := by decide +kernel
theorem dX10_list_71 : decode cX10_list 71 = .ok (.iconst 1, 1) := by decide +kernel
theorem dX10_list_72 : decode cX10_list 72 = .ok (.aload_n 0, 1) := by decide +kernel
theorem dX10_list_73 : decode cX10_list 73 = .ok (.getfield 61, 3) := by decide +kernel
theorem dX10_list_76 : decode cX10_list 76 = .ok (.bipush 42, 2) := by decide +kernel
theorem dX10_list_78 : decode cX10_list 78 = .ok (.iaload, 1) := by decide +kernel
theorem dX10_list_79 : decode cX10_list 79 = .ok (.ishl, 1) := by decide +kernel
theorem dX10_list_80 : decode cX10_list 80 = .ok (.if_icmp .ge 110, 3) := by decide +kernel
theorem dX10_list_83 : decode cX10_list 83 = .ok (.aload_n 0, 1) := by decide +kernel
theorem dX10_list_84 : decode cX10_list 84 = .ok (.getfield 76, 3) := by decide +kernel
theorem dX10_list_87 : decode cX10_list 87 = .ok (.iload_n 3, 1) := by decide +kernel
theorem dX10_list_88 : decode cX10_list 88 = .ok (.iaload, 1) := by decide +kernel
theorem dX10_list_89 : decode cX10_list 89 = .ok (.iconst (-1), 1) := by decide +kernel
theorem dX10_list_90 : decode cX10_list 90 = .ok (.if_icmp .ne 6, 3) := by decide +kernel
theorem dX10_list_93 : decode cX10_list 93 = .ok (.goto 91, 3) := by decide +kernel
theorem dX10_list_96 : decode cX10_list 96 = .ok (.iconst 0, 1) := by decide +kernel
theorem dX10_list_97 : decode cX10_list 97 = .ok (.istore 4, 2) := by decide +kernel
theorem dX10_list_99 : decode cX10_list 99 = .ok (.iload 4, 2) := by decide +kernel
theorem dX10_list_101 : decode cX10_list 101 = .ok (.sipush 256, 3) := by decide +kernel
theorem dX10_list_104 : decode cX10_list 104 = .ok (.if_icmp .ge 80, 3) := by decide +kernel
theorem dX10_list_107 : decode cX10_list 107 = .ok (.aload_n 0, 1) := by decide +kernel
theorem dX10_list_108 : decode cX10_list 108 = .ok (.iload 4, 2) := by decide +kernel
theorem dX10_list_110 : decode cX10_list 110 = .ok (.iload_n 2, 1) := by decide +kernel
theorem dX10_list_111 : decode cX10_list 111 = .ok (.invokevirtual 331, 3) := by decide +kernel
theorem dX10_list_114 : decode cX10_list 114 = .ok (.istore 5, 2) := by decide +kernel
theorem dX10_list_116 : decode cX10_list 116 = .ok (.iload_n 3, 1) := by decide +kernel
theorem dX10_list_117 : decode cX10_list 117 = .ok (.iload 5, 2) := by decide +kernel
theorem dX10_list_119 : decode cX10_list 119 = .ok (.ior, 1) := by decide +kernel
theorem dX10_list_120 : decode cX10_list 120 = .ok (.istore 6, 2) := by decide +kernel
theorem dX10_list_122 : decode cX10_list 122 = .ok (.iload 5, 2) := by decide +kernel
theorem dX10_list_124 : decode cX10_list 124 = .ok (.iload_n 1, 1) := by decide +kernel
theorem dX10_list_125 : decode cX10_list 125 = .ok (.iconst (-1), 1) := by decide +kernel
theorem dX10_list_126 : decode cX10_list 126 = .ok (.ixor, 1) := by decide +kernel
theorem dX10_list_127 : decode cX10_list 127 = .ok (.iand, 1) := by decide +kernel
theorem dX10_list_128 : decode cX10_list 128 = .ok (.ifCond .ne 50, 3) := by decide +kernel
theorem dX10_list_131 : decode cX10_list 131 = .ok (.aload_n 0, 1) := by decide +kernel
theorem dX10_list_132 : decode cX10_list 132 = .ok (.getfield 76, 3) := by decide +kernel
theorem dX10_list_135 : decode cX10_list 135 = .ok (.iload 6, 2) := by decide +kernel
theorem dX10_list_137 : decode cX10_list 137 = .ok (.iaload, 1) := by decide +kernel
theorem dX10_list_138 : decode cX10_list 138 = .ok (.iconst (-1), 1) := by decide +kernel
theorem dX10_list_139 : decode cX10_list 139 = .ok (.if_icmp .eq 24, 3) := by decide +kernel
theorem dX10_list_142 : decode cX10_list 142 = .ok (.aload_n 0, 1) := by decide +kernel
theorem dX10_list_143 : decode cX10_list 143 = .ok (.getfield 76, 3) := by decide +kernel
theorem dX10_list_146 : decode cX10_list 146 = .ok (.iload 6, 2) := by decide +kernel
theorem dX10_list_148 : decode cX10_list 148 = .ok (.iaload, 1) := by decide +kernel
theorem dX10_list_149 : decode cX10_list 149 = .ok (.aload_n 0, 1) := by decide +kernel
theorem dX10_list_150 : decode cX10_list 150 = .ok (.getfield 76, 3) := by decide +kernel
theorem dX10_list_153 : decode cX10_list 153 = .ok (.iload_n 3, 1) := by decide +kernel
theorem dX10_list_154 : decode cX10_list 154 = .ok (.iaload, 1) := by decide +kernel
theorem dX10_list_155 : decode cX10_list 155 = .ok (.iconst 1, 1) := by decide +kernel
theorem dX10_list_156 : decode cX10_list 156 = .ok (.iadd, 1) := by decide +kernel
theorem dX10_list_157 : decode cX10_list 157 = .ok (.if_icmp .gt 6, 3) := by decide +kernel
theorem dX10_list_160 : decode cX10_list 160 = .ok (.goto 18, 3) := by decide +kernel
theorem dX10_list_163 : decode cX10_list 163 = .ok (.aload_n 0, 1) := by decide +kernel
theorem dX10_list_164 : decode cX10_list 164 = .ok (.getfield 76, 3) := by decide +kernel
theorem dX10_list_167 : decode cX10_list 167 = .ok (.iload 6, 2) := by decide +kernel
theorem dX10_list_169 : decode cX10_list 169 = .ok (.aload_n 0, 1) := by decide +kernel
theorem dX10_list_170 : decode cX10_list 170 = .ok (.getfield 76, 3) := by decide +kernel
theorem dX10_list_173 : decode cX10_list 173 = .ok (.iload_n 3, 1) := by decide +kernel
theorem dX10_list_174 : decode cX10_list 174 = .ok (.iaload, 1) := by decide +kernel
theorem dX10_list_175 : decode cX10_list 175 = .ok (.iconst 1, 1) := by decide +kernel
theorem dX10_list_176 : decode cX10_list 176 = .ok (.iadd, 1) := by decide +kernel
theorem dX10_list_177 : decode cX10_list 177 = .ok (.iastore, 1) := by decide +kernel
theorem dX10_list_178 : decode cX10_list 178 = .ok (.iinc 4 1, 3) := by decide +kernel
theorem dX10_list_181 : decode cX10_list 181 = .ok (.goto (-82), 3) := by decide +kernel
theorem dX10_list_184 : decode cX10_list 184 = .ok (.iinc 3 1, 3) := by decide +kernel
theorem dX10_list_187 : decode cX10_list 187 = .ok (.goto (-117), 3) := by decide +kernel
theorem dX10_list_190 : decode cX10_list 190 = .ok (.aload_n 0, 1) := by decide +kernel
theorem dX10_list_191 : decode cX10_list 191 = .ok (.getfield 76, 3) := by decide +kernel
theorem dX10_list_194 : decode cX10_list 194 = .ok (.iload_n 1, 1) := by decide +kernel
theorem dX10_list_195 : decode cX10_list 195 = .ok (.iaload, 1) := by decide +kernel
theorem dX10_list_196 : decode cX10_list 196 = .ok (.ireturn, 1) := by decide +kernel
theorem dX10_laysFile_0 : decode cX10_laysFile 0 = .ok (.sipush 255, 3) := by decide +kernel
theorem dX10_laysFile_3 : decode cX10_laysFile 3 = .ok (.istore_n 3, 1) := by decide +kernel
theorem dX10_laysFile_4 : decode cX10_laysFile 4 = .ok (.iload_n 3, 1) := by decide +kernel
theorem dX10_laysFile_5 : decode cX10_laysFile 5 = .ok (.ifCond .lt 141, 3) := by decide +kernel
theorem dX10_laysFile_8 : decode cX10_laysFile 8 = .ok (.aload_n 0, 1) := by decide +kernel
theorem dX10_laysFile_9 : decode cX10_laysFile 9 = .ok (.getfield 79, 3) := by decide +kernel
theorem dX10_laysFile_12 : decode cX10_laysFile 12 = .ok (.iload_n 3, 1) := by decide +kernel
theorem dX10_laysFile_13 : decode cX10_laysFile 13 = .ok (.iload_n 3, 1) := by decide +kernel
theorem dX10_laysFile_14 : decode cX10_laysFile 14 = .ok (.iload_n 2, 1) := by decide +kernel
theorem dX10_laysFile_15 : decode cX10_laysFile 15 = .ok (.if_icmp .ne 7, 3) := by decide +kernel
theorem dX10_laysFile_18 : decode cX10_laysFile 18 = .ok (.iconst 0, 1) := by decide +kernel
theorem dX10_laysFile_19 : decode cX10_laysFile 19 = .ok (.goto 4, 3) := by decide +kernel
theorem dX10_laysFile_22 : decode cX10_laysFile 22 = .ok (.iconst (-1), 1) := by decide +kernel
theorem dX10_laysFile_23 : decode cX10_laysFile 23 = .ok (.iastore, 1) := by decide +kernel
theorem dX10_laysFile_24 : decode cX10_laysFile 24 = .ok (.iload_n 3, 1) := by decide +kernel
theorem dX10_laysFile_25 : decode cX10_laysFile 25 = .ok (.iload_n 2, 1) := by decide +kernel
theorem dX10_laysFile_26 : decode cX10_laysFile 26 = .ok (.iconst (-1), 1) := by decide +kernel
theorem dX10_laysFile_27 : decode cX10_laysFile 27 = .ok (.ixor, 1) := by decide +kernel
theorem dX10_laysFile_28 : decode cX10_laysFile 28 = .ok (.iand, 1) := by decide +kernel
theorem dX10_laysFile_29 : decode cX10_laysFile 29 = .ok (.ifCond .ne 111, 3) := by decide +kernel
theorem dX10_laysFile_32 : decode cX10_laysFile 32 = .ok (.iload_n 3, 1) := by decide +kernel
theorem dX10_laysFile_33 : decode cX10_laysFile 33 = .ok (.iload_n 2, 1) := by decide +kernel
theorem dX10_laysFile_34 : decode cX10_laysFile 34 = .ok (.if_icmp .ne 6, 3) := by decide +kernel
theorem dX10_laysFile_37 : decode cX10_laysFile 37 = .ok (.goto 103, 3) := by decide +kernel
theorem dX10_laysFile_40 : decode cX10_laysFile 40 = .ok (.iconst 0, 1) := by decide +kernel
theorem dX10_laysFile_41 : decode cX10_laysFile 41 = .ok (.istore 4, 2) := by decide +kernel
theorem dX10_laysFile_43 : decode cX10_laysFile 43 = .ok (.iload 4, 2) := by decide +kernel
theorem dX10_laysFile_45 : decode cX10_laysFile 45 = .ok (.aload_n 0, 1) := by decide +kernel
theorem dX10_laysFile_46 : decode cX10_laysFile 46 = .ok (.getfield 61, 3) := by decide +kernel
theorem dX10_laysFile_49 : decode cX10_laysFile 49 = .ok (.bipush 42, 2) := by decide +kernel
theorem dX10_laysFile_51 : decode cX10_laysFile 51 = .ok (.iaload, 1) := by decide +kernel
theorem dX10_laysFile_52 : decode cX10_laysFile 52 = .ok (.if_icmp .ge 88, 3) := by decide +kernel
theorem dX10_laysFile_55 : decode cX10_laysFile 55 = .ok (.iload_n 2, 1) := by decide +kernel
theorem dX10_laysFile_56 : decode cX10_laysFile 56 = .ok (.iload 4, 2) := by decide +kernel
theorem dX10_laysFile_58 : decode cX10_laysFile 58 = .ok (.invokestatic 322, 3) := by decide +kernel
theorem dX10_laysFile_61 : decode cX10_laysFile 61 = .ok (.ifCond .eq 73, 3) := by decide +kernel
theorem dX10_laysFile_64 : decode cX10_laysFile 64 = .ok (.iload_n 3, 1) := by decide +kernel
theorem dX10_laysFile_65 : decode cX10_laysFile 65 = .ok (.iload 4, 2) := by decide +kernel
theorem dX10_laysFile_67 : decode cX10_laysFile 67 = .ok (.invokestatic 322, 3) := by decide +kernel
theorem dX10_laysFile_70 : decode cX10_laysFile 70 = .ok (.ifCond .eq 6, 3) := by decide +kernel
theorem dX10_laysFile_73 : decode cX10_laysFile 73 = .ok (.goto 61, 3) := by decide +kernel
theorem dX10_laysFile_76 : decode cX10_laysFile 76 = .ok (.aload_n 0, 1) := by decide +kernel
theorem dX10_laysFile_77 : decode cX10_laysFile 77 = .ok (.aload_n 0, 1) := by decide +kernel
theorem dX10_laysFile_78 : decode cX10_laysFile 78 = .ok (.getfield 61, 3) := by decide +kernel
theorem dX10_laysFile_81 : decode cX10_laysFile 81 = .ok (.iload 4, 2) := by decide +kernel
theorem dX10_laysFile_83 : decode cX10_laysFile 83 = .ok (.iload_n 1, 1) := by decide +kernel
theorem dX10_laysFile_84 : decode cX10_laysFile 84 = .ok (.iload_n 3, 1) := by decide +kernel
theorem dX10_laysFile_85 : decode cX10_laysFile 85 = .ok (.invokestatic 240, 3) := by decide +kernel
theorem dX10_laysFile_88 : decode cX10_laysFile 88 = .ok (.invokevirtual 257, 3) := by decide +kernel
theorem dX10_laysFile_91 : decode cX10_laysFile 91 = .ok (.aload_n 0, 1) := by decide +kernel
theorem dX10_laysFile_92 : decode cX10_laysFile 92 = .ok (.getfield 79, 3) := by decide +kernel
theorem dX10_laysFile_95 : decode cX10_laysFile 95 = .ok (.iload_n 3, 1) := by decide +kernel
theorem dX10_laysFile_96 : decode cX10_laysFile 96 = .ok (.iconst 1, 1) := by decide +kernel
theorem dX10_laysFile_97 : decode cX10_laysFile 97 = .ok (.iload 4, 2) := by decide +kernel
theorem dX10_laysFile_99 : decode cX10_laysFile 99 = .ok (.ishl, 1) := by decide +kernel
theorem dX10_laysFile_100 : decode cX10_laysFile 100 = .ok (.ior, 1) := by decide +kernel
theorem dX10_laysFile_101 : decode cX10_laysFile 101 = .ok (.iaload, 1) := by decide +kernel
theorem dX10_laysFile_102 : decode cX10_laysFile 102 = .ok (.iadd, 1) := by decide +kernel
theorem dX10_laysFile_103 : decode cX10_laysFile 103 = .ok (.istore 5, 2) := by decide +kernel
theorem dX10_laysFile_105 : decode cX10_laysFile 105 = .ok (.aload_n 0, 1) := by decide +kernel
theorem dX10_laysFile_106 : decode cX10_laysFile 106 = .ok (.getfield 79, 3) := by decide +kernel
theorem dX10_laysFile_109 : decode cX10_laysFile 109 = .ok (.iload_n 3, 1) := by decide +kernel
theorem dX10_laysFile_110 : decode cX10_laysFile 110 = .ok (.iaload, 1) := by decide +kernel
theorem dX10_laysFile_111 : decode cX10_laysFile 111 = .ok (.iconst (-1), 1) := by decide +kernel
theorem dX10_laysFile_112 : decode cX10_laysFile 112 = .ok (.if_icmp .eq 14, 3) := by decide +kernel
theorem dX10_laysFile_115 : decode cX10_laysFile 115 = .ok (.iload 5, 2) := by decide +kernel
theorem dX10_laysFile_117 : decode cX10_laysFile 117 = .ok (.aload_n 0, 1) := by decide +kernel
theorem dX10_laysFile_118 : decode cX10_laysFile 118 = .ok (.getfield 79, 3) := by decide +kernel
theorem dX10_laysFile_121 : decode cX10_laysFile 121 = .ok (.iload_n 3, 1) := by decide +kernel
theorem dX10_laysFile_122 : decode cX10_laysFile 122 = .ok (.iaload, 1) := by decide +kernel
theorem dX10_laysFile_123 : decode cX10_laysFile 123 = .ok (.if_icmp .ge 11, 3) := by decide +kernel
theorem dX10_laysFile_126 : decode cX10_laysFile 126 = .ok (.aload_n 0, 1) := by decide +kernel
theorem dX10_laysFile_127 : decode cX10_laysFile 127 = .ok (.getfield 79, 3) := by decide +kernel
theorem dX10_laysFile_130 : decode cX10_laysFile 130 = .ok (.iload_n 3, 1) := by decide +kernel
theorem dX10_laysFile_131 : decode cX10_laysFile 131 = .ok (.iload 5, 2) := by decide +kernel
theorem dX10_laysFile_133 : decode cX10_laysFile 133 = .ok (.iastore, 1) := by decide +kernel
theorem dX10_laysFile_134 : decode cX10_laysFile 134 = .ok (.iinc 4 1, 3) := by decide +kernel
theorem dX10_laysFile_137 : decode cX10_laysFile 137 = .ok (.goto (-94), 3) := by decide +kernel
theorem dX10_laysFile_140 : decode cX10_laysFile 140 = .ok (.iinc 3 (-1), 3) := by decide +kernel
theorem dX10_laysFile_143 : decode cX10_laysFile 143 = .ok (.goto (-139), 3) := by decide +kernel
theorem dX10_laysFile_146 : decode cX10_laysFile 146 = .ok (.return_, 1) := by decide +kernel
theorem dX10_file_0 : decode cX10_file 0 = .ok (.aload_n 0, 1) := by decide +kernel
theorem dX10_file_1 : decode cX10_file 1 = .ok (.iconst 0, 1) := by decide +kernel
theorem dX10_file_2 : decode cX10_file 2 = .ok (.putfield 88, 3) := by decide +kernel
theorem dX10_file_5 : decode cX10_file 5 = .ok (.aload_n 0, 1) := by decide +kernel
theorem dX10_file_6 : decode cX10_file 6 = .ok (.aload_n 0, 1) := by decide +kernel
theorem dX10_file_7 : decode cX10_file 7 = .ok (.iload_n 1, 1) := by decide +kernel
theorem dX10_file_8 : decode cX10_file 8 = .ok (.invokevirtual 310, 3) := by decide +kernel
theorem dX10_file_11 : decode cX10_file 11 = .ok (.ifCond .ne 7, 3) := by decide +kernel
theorem dX10_file_14 : decode cX10_file 14 = .ok (.iconst 1, 1) := by decide +kernel
theorem dX10_file_15 : decode cX10_file 15 = .ok (.goto 4, 3) := by decide +kernel
theorem dX10_file_18 : decode cX10_file 18 = .ok (.iconst 0, 1) := by decide +kernel
theorem dX10_file_19 : decode cX10_file 19 = .ok (.iconst 1, 1) := by decide +kernel
theorem dX10_file_20 : decode cX10_file 20 = .ok (.iconst 0, 1) := by decide +kernel
theorem dX10_file_21 : decode cX10_file 21 = .ok (.invokevirtual 164, 3) := by decide +kernel
theorem dX10_file_24 : decode cX10_file 24 = .ok (.ifCond .ne 25, 3) := by decide +kernel
theorem dX10_file_27 : decode cX10_file 27 = .ok (.aload_n 0, 1) := by decide +kernel
theorem dX10_file_28 : decode cX10_file 28 = .ok (.aload_n 0, 1) := by decide +kernel
theorem dX10_file_29 : decode cX10_file 29 = .ok (.iload_n 2, 1) := by decide +kernel
theorem dX10_file_30 : decode cX10_file 30 = .ok (.invokevirtual 328, 3) := by decide +kernel
theorem dX10_file_33 : decode cX10_file 33 = .ok (.ifCond .ne 7, 3) := by decide +kernel
theorem dX10_file_36 : decode cX10_file 36 = .ok (.iconst 1, 1) := by decide +kernel
theorem dX10_file_37 : decode cX10_file 37 = .ok (.goto 4, 3) := by decide +kernel
theorem dX10_file_40 : decode cX10_file 40 = .ok (.iconst 0, 1) := by decide +kernel
theorem dX10_file_41 : decode cX10_file 41 = .ok (.iconst 2, 1) := by decide +kernel
theorem dX10_file_42 : decode cX10_file 42 = .ok (.iconst 1, 1) := by decide +kernel
theorem dX10_file_43 : decode cX10_file 43 = .ok (.invokevirtual 164, 3) := by decide +kernel
theorem dX10_file_46 : decode cX10_file 46 = .ok (.ifCond .eq 5, 3) := by decide +kernel
theorem dX10_file_49 : decode cX10_file 49 = .ok (.iconst 0, 1) := by decide +kernel
theorem dX10_file_50 : decode cX10_file 50 = .ok (.ireturn, 1) := by decide +kernel
theorem dX10_file_51 : decode cX10_file 51 = .ok (.aload_n 0, 1) := by decide +kernel
theorem dX10_file_52 : decode cX10_file 52 = .ok (.iload_n 1, 1) := by decide +kernel
theorem dX10_file_53 : decode cX10_file 53 = .ok (.invokevirtual 313, 3) := by decide +kernel
theorem dX10_file_56 : decode cX10_file 56 = .ok (.ifCond .ne 5, 3) := by decide +kernel
theorem dX10_file_59 : decode cX10_file 59 = .ok (.iconst (-1), 1) := by decide +kernel
theorem dX10_file_60 : decode cX10_file 60 = .ok (.ireturn, 1) := by decide +kernel
theorem dX10_file_61 : decode cX10_file 61 = .ok (.aload_n 0, 1) := by decide +kernel
theorem dX10_file_62 : decode cX10_file 62 = .ok (.iload_n 1, 1) := by decide +kernel
theorem dX10_file_63 : decode cX10_file 63 = .ok (.iload_n 2, 1) := by decide +kernel
theorem dX10_file_64 : decode cX10_file 64 = .ok (.invokevirtual 334, 3) := by decide +kernel
theorem dX10_file_67 : decode cX10_file 67 = .ok (.aload_n 0, 1) := by decide +kernel
theorem dX10_file_68 : decode cX10_file 68 = .ok (.getfield 79, 3) := by decide +kernel
theorem dX10_file_71 : decode cX10_file 71 = .ok (.iconst 0, 1) := by decide +kernel
theorem dX10_file_72 : decode cX10_file 72 = .ok (.iaload, 1) := by decide +kernel
theorem dX10_file_73 : decode cX10_file 73 = .ok (.ireturn, 1) := by decide +kernel
theorem dX10_filed_0 : decode cX10_filed 0 = .ok (.aload_n 0, 1) := by decide +kernel
theorem dX10_filed_1 : decode cX10_filed 1 = .ok (.iconst 0, 1) := by decide +kernel
theorem dX10_filed_2 : decode cX10_filed 2 = .ok (.putfield 88, 3) := by decide +kernel
theorem dX10_filed_5 : decode cX10_filed 5 = .ok (.aload_n 0, 1) := by decide +kernel
theorem dX10_filed_6 : decode cX10_filed 6 = .ok (.aload_n 0, 1) := by decide +kernel
theorem dX10_filed_7 : decode cX10_filed 7 = .ok (.iload_n 1, 1) := by decide +kernel
theorem dX10_filed_8 : decode cX10_filed 8 = .ok (.invokevirtual 310, 3) := by decide +kernel
theorem dX10_filed_11 : decode cX10_filed 11 = .ok (.ifCond .ne 7, 3) := by decide +kernel
theorem dX10_filed_14 : decode cX10_filed 14 = .ok (.iconst 1, 1) := by decide +kernel
theorem dX10_filed_15 : decode cX10_filed 15 = .ok (.goto 4, 3) := by decide +kernel
theorem dX10_filed_18 : decode cX10_filed 18 = .ok (.iconst 0, 1) := by decide +kernel
theorem dX10_filed_19 : decode cX10_filed 19 = .ok (.iconst 1, 1) := by decide +kernel
theorem dX10_filed_20 : decode cX10_filed 20 = .ok (.iconst 0, 1) := by decide +kernel
theorem dX10_filed_21 : decode cX10_filed 21 = .ok (.invokevirtual 164, 3) := by decide +kernel
theorem dX10_filed_24 : decode cX10_filed 24 = .ok (.ifCond .ne 29, 3) := by decide +kernel
theorem dX10_filed_27 : decode cX10_filed 27 = .ok (.aload_n 0, 1) := by decide +kernel
theorem dX10_filed_28 : decode cX10_filed 28 = .ok (.aload_n 0, 1) := by decide +kernel
theorem dX10_filed_29 : decode cX10_filed 29 = .ok (.iload_n 2, 1) := by decide +kernel
theorem dX10_filed_30 : decode cX10_filed 30 = .ok (.invokevirtual 328, 3) := by decide +kernel
theorem dX10_filed_33 : decode cX10_filed 33 = .ok (.ifCond .eq 7, 3) := by decide +kernel
theorem dX10_filed_36 : decode cX10_filed 36 = .ok (.iload_n 3, 1) := by decide +kernel
theorem dX10_filed_37 : decode cX10_filed 37 = .ok (.ifCond .ge 7, 3) := by decide +kernel
theorem dX10_filed_40 : decode cX10_filed 40 = .ok (.iconst 1, 1) := by decide +kernel
theorem dX10_filed_41 : decode cX10_filed 41 = .ok (.goto 4, 3) := by decide +kernel
theorem dX10_filed_44 : decode cX10_filed 44 = .ok (.iconst 0, 1) := by decide +kernel
theorem dX10_filed_45 : decode cX10_filed 45 = .ok (.iconst 2, 1) := by decide +kernel
theorem dX10_filed_46 : decode cX10_filed 46 = .ok (.iconst 1, 1) := by decide +kernel
theorem dX10_filed_47 : decode cX10_filed 47 = .ok (.invokevirtual 164, 3) := by decide +kernel
theorem dX10_filed_50 : decode cX10_filed 50 = .ok (.ifCond .eq 5, 3) := by decide +kernel
theorem dX10_filed_53 : decode cX10_filed 53 = .ok (.iconst 0, 1) := by decide +kernel
theorem dX10_filed_54 : decode cX10_filed 54 = .ok (.ireturn, 1) := by decide +kernel
theorem dX10_filed_55 : decode cX10_filed 55 = .ok (.aload_n 0, 1) := by decide +kernel
theorem dX10_filed_56 : decode cX10_filed 56 = .ok (.iload_n 1, 1) := by decide +kernel
theorem dX10_filed_57 : decode cX10_filed 57 = .ok (.invokevirtual 313, 3) := by decide +kernel
theorem dX10_filed_60 : decode cX10_filed 60 = .ok (.ifCond .eq 11, 3) := by decide +kernel
theorem dX10_filed_63 : decode cX10_filed 63 = .ok (.iload_n 3, 1) := by decide +kernel
theorem dX10_filed_64 : decode cX10_filed 64 = .ok (.iload_n 2, 1) := by decide +kernel
theorem dX10_filed_65 : decode cX10_filed 65 = .ok (.invokestatic 240, 3) := by decide +kernel
theorem dX10_filed_68 : decode cX10_filed 68 = .ok (.if_icmp .lt 5, 3) := by decide +kernel
theorem dX10_filed_71 : decode cX10_filed 71 = .ok (.iconst (-1), 1) := by decide +kernel
theorem dX10_filed_72 : decode cX10_filed 72 = .ok (.ireturn, 1) := by decide +kernel
theorem dX10_filed_73 : decode cX10_filed 73 = .ok (.aload_n 0, 1) := by decide +kernel
theorem dX10_filed_74 : decode cX10_filed 74 = .ok (.iload_n 1, 1) := by decide +kernel
theorem dX10_filed_75 : decode cX10_filed 75 = .ok (.iload_n 2, 1) := by decide +kernel
theorem dX10_filed_76 : decode cX10_filed 76 = .ok (.invokevirtual 334, 3) := by decide +kernel
theorem dX10_filed_79 : decode cX10_filed 79 = .ok (.iconst 0, 1) := by decide +kernel
theorem dX10_filed_80 : decode cX10_filed 80 = .ok (.istore 4, 2) := by decide +kernel
theorem dX10_filed_82 : decode cX10_filed 82 = .ok (.iconst 0, 1) := by decide +kernel
theorem dX10_filed_83 : decode cX10_filed 83 = .ok (.istore 5, 2) := by decide +kernel
theorem dX10_filed_85 : decode cX10_filed 85 = .ok (.iconst 0, 1) := by decide +kernel
theorem dX10_filed_86 : decode cX10_filed 86 = .ok (.istore 6, 2) := by decide +kernel
theorem dX10_filed_88 : decode cX10_filed 88 = .ok (.iload 6, 2) := by decide +kernel
theorem dX10_filed_90 : decode cX10_filed 90 = .ok (.iload_n 3, 1) := by decide +kernel
theorem dX10_filed_91 : decode cX10_filed 91 = .ok (.if_icmp .gt 85, 3) := by decide +kernel
theorem dX10_filed_94 : decode cX10_filed 94 = .ok (.iconst 0, 1) := by decide +kernel
theorem dX10_filed_95 : decode cX10_filed 95 = .ok (.istore 5, 2) := by decide +kernel
theorem dX10_filed_97 : decode cX10_filed 97 = .ok (.iload_n 2, 1) := by decide +kernel
theorem dX10_filed_98 : decode cX10_filed 98 = .ok (.iload 5, 2) := by decide +kernel
theorem dX10_filed_100 : decode cX10_filed 100 = .ok (.invokestatic 322, 3) := by decide +kernel
theorem dX10_filed_103 : decode cX10_filed 103 = .ok (.ifCond .eq 52, 3) := by decide +kernel
theorem dX10_filed_106 : decode cX10_filed 106 = .ok (.iload 4, 2) := by decide +kernel
theorem dX10_filed_108 : decode cX10_filed 108 = .ok (.iload 5, 2) := by decide +kernel
theorem dX10_filed_110 : decode cX10_filed 110 = .ok (.invokestatic 322, 3) := by decide +kernel
theorem dX10_filed_113 : decode cX10_filed 113 = .ok (.ifCond .ne 42, 3) := by decide +kernel
theorem dX10_filed_116 : decode cX10_filed 116 = .ok (.aload_n 0, 1) := by decide +kernel
theorem dX10_filed_117 : decode cX10_filed 117 = .ok (.aload_n 0, 1) := by decide +kernel
theorem dX10_filed_118 : decode cX10_filed 118 = .ok (.getfield 61, 3) := by decide +kernel
theorem dX10_filed_121 : decode cX10_filed 121 = .ok (.iload 5, 2) := by decide +kernel
theorem dX10_filed_123 : decode cX10_filed 123 = .ok (.iload_n 1, 1) := by decide +kernel
theorem dX10_filed_124 : decode cX10_filed 124 = .ok (.iload 4, 2) := by decide +kernel
theorem dX10_filed_126 : decode cX10_filed 126 = .ok (.invokestatic 240, 3) := by decide +kernel
theorem dX10_filed_129 : decode cX10_filed 129 = .ok (.invokevirtual 257, 3) := by decide +kernel
theorem dX10_filed_132 : decode cX10_filed 132 = .ok (.aload_n 0, 1) := by decide +kernel
theorem dX10_filed_133 : decode cX10_filed 133 = .ok (.getfield 79, 3) := by decide +kernel
theorem dX10_filed_136 : decode cX10_filed 136 = .ok (.iload 4, 2) := by decide +kernel
theorem dX10_filed_138 : decode cX10_filed 138 = .ok (.iconst 1, 1) := by decide +kernel
theorem dX10_filed_139 : decode cX10_filed 139 = .ok (.iload 5, 2) := by decide +kernel
theorem dX10_filed_141 : decode cX10_filed 141 = .ok (.ishl, 1) := by decide +kernel
theorem dX10_filed_142 : decode cX10_filed 142 = .ok (.ior, 1) := by decide +kernel
theorem dX10_filed_143 : decode cX10_filed 143 = .ok (.iaload, 1) := by decide +kernel
theorem dX10_filed_144 : decode cX10_filed 144 = .ok (.iadd, 1) := by decide +kernel
theorem dX10_filed_145 : decode cX10_filed 145 = .ok (.aload_n 0, 1) := by decide +kernel
theorem dX10_filed_146 : decode cX10_filed 146 = .ok (.getfield 79, 3) := by decide +kernel
theorem dX10_filed_149 : decode cX10_filed 149 = .ok (.iload 4, 2) := by decide +kernel
theorem dX10_filed_151 : decode cX10_filed 151 = .ok (.iaload, 1) := by decide +kernel
theorem dX10_filed_152 : decode cX10_filed 152 = .ok (.if_icmp .eq 9, 3) := by decide +kernel
theorem dX10_filed_155 : decode cX10_filed 155 = .ok (.iinc 5 1, 3) := by decide +kernel
theorem dX10_filed_158 : decode cX10_filed 158 = .ok (.goto (-61), 3) := by decide +kernel
theorem dX10_filed_161 : decode cX10_filed 161 = .ok (.iload 4, 2) := by decide +kernel
theorem dX10_filed_163 : decode cX10_filed 163 = .ok (.iconst 1, 1) := by decide +kernel
theorem dX10_filed_164 : decode cX10_filed 164 = .ok (.iload 5, 2) := by decide +kernel
theorem dX10_filed_166 : decode cX10_filed 166 = .ok (.ishl, 1) := by decide +kernel
theorem dX10_filed_167 : decode cX10_filed 167 = .ok (.ior, 1) := by decide +kernel
theorem dX10_filed_168 : decode cX10_filed 168 = .ok (.istore 4, 2) := by decide +kernel
theorem dX10_filed_170 : decode cX10_filed 170 = .ok (.iinc 6 1, 3) := by decide +kernel
theorem dX10_filed_173 : decode cX10_filed 173 = .ok (.goto (-85), 3) := by decide +kernel
theorem dX10_filed_176 : decode cX10_filed 176 = .ok (.iload 5, 2) := by decide +kernel
theorem dX10_filed_178 : decode cX10_filed 178 = .ok (.ireturn, 1) := by decide +kernel
theorem dX10_fog_0 : decode cX10_fog 0 = .ok (.aload_n 0, 1) := by decide +kernel
theorem dX10_fog_1 : decode cX10_fog 1 = .ok (.iconst 0, 1) := by decide +kernel
theorem dX10_fog_2 : decode cX10_fog 2 = .ok (.putfield 88, 3) := by decide +kernel
theorem dX10_fog_5 : decode cX10_fog 5 = .ok (.aload_n 0, 1) := by decide +kernel
theorem dX10_fog_6 : decode cX10_fog 6 = .ok (.aload_n 0, 1) := by decide +kernel
theorem dX10_fog_7 : decode cX10_fog 7 = .ok (.iload_n 1, 1) := by decide +kernel
theorem dX10_fog_8 : decode cX10_fog 8 = .ok (.invokevirtual 307, 3) := by decide +kernel
theorem dX10_fog_11 : decode cX10_fog 11 = .ok (.ifCond .eq 11, 3) := by decide +kernel
theorem dX10_fog_14 : decode cX10_fog 14 = .ok (.aload_n 0, 1) := by decide +kernel
theorem dX10_fog_15 : decode cX10_fog 15 = .ok (.iload_n 2, 1) := by decide +kernel
theorem dX10_fog_16 : decode cX10_fog 16 = .ok (.invokevirtual 310, 3) := by decide +kernel
theorem dX10_fog_19 : decode cX10_fog 19 = .ok (.ifCond .ne 7, 3) := by decide +kernel
theorem dX10_fog_22 : decode cX10_fog 22 = .ok (.iconst 1, 1) := by decide +kernel
theorem dX10_fog_23 : decode cX10_fog 23 = .ok (.goto 4, 3) := by decide +kernel
theorem dX10_fog_26 : decode cX10_fog 26 = .ok (.iconst 0, 1) := by decide +kernel
theorem dX10_fog_27 : decode cX10_fog 27 = .ok (.iconst 1, 1) := by decide +kernel
theorem dX10_fog_28 : decode cX10_fog 28 = .ok (.iconst 0, 1) := by decide +kernel
theorem dX10_fog_29 : decode cX10_fog 29 = .ok (.invokevirtual 164, 3) := by decide +kernel
theorem dX10_fog_32 : decode cX10_fog 32 = .ok (.ifCond .ne 37, 3) := by decide +kernel
theorem dX10_fog_35 : decode cX10_fog 35 = .ok (.aload_n 0, 1) := by decide +kernel
theorem dX10_fog_36 : decode cX10_fog 36 = .ok (.iload_n 3, 1) := by decide +kernel
theorem dX10_fog_37 : decode cX10_fog 37 = .ok (.iconst 0, 1) := by decide +kernel
theorem dX10_fog_38 : decode cX10_fog 38 = .ok (.bipush 16, 2) := by decide +kernel
theorem dX10_fog_40 : decode cX10_fog 40 = .ok (.invokestatic 122, 3) := by decide +kernel
theorem dX10_fog_43 : decode cX10_fog 43 = .ok (.ifCond .eq 13, 3) := by decide +kernel
theorem dX10_fog_46 : decode cX10_fog 46 = .ok (.iload 4, 2) := by decide +kernel
theorem dX10_fog_48 : decode cX10_fog 48 = .ok (.iconst 0, 1) := by decide +kernel
theorem dX10_fog_49 : decode cX10_fog 49 = .ok (.iconst 1, 1) := by decide +kernel
theorem dX10_fog_50 : decode cX10_fog 50 = .ok (.invokestatic 122, 3) := by decide +kernel
theorem dX10_fog_53 : decode cX10_fog 53 = .ok (.ifCond .ne 7, 3) := by decide +kernel
theorem dX10_fog_56 : decode cX10_fog 56 = .ok (.iconst 1, 1) := by decide +kernel
theorem dX10_fog_57 : decode cX10_fog 57 = .ok (.goto 4, 3) := by decide +kernel
theorem dX10_fog_60 : decode cX10_fog 60 = .ok (.iconst 0, 1) := by decide +kernel
theorem dX10_fog_61 : decode cX10_fog 61 = .ok (.iconst 2, 1) := by decide +kernel
theorem dX10_fog_62 : decode cX10_fog 62 = .ok (.iconst 1, 1) := by decide +kernel
theorem dX10_fog_63 : decode cX10_fog 63 = .ok (.invokevirtual 164, 3) := by decide +kernel
theorem dX10_fog_66 : decode cX10_fog 66 = .ok (.ifCond .eq 5, 3) := by decide +kernel
theorem dX10_fog_69 : decode cX10_fog 69 = .ok (.lconst 0, 1) := by decide +kernel
theorem dX10_fog_70 : decode cX10_fog 70 = .ok (.lreturn, 1) := by decide +kernel
theorem dX10_fog_71 : decode cX10_fog 71 = .ok (.lconst 0, 1) := by decide +kernel
theorem dX10_fog_72 : decode cX10_fog 72 = .ok (.lstore 5, 2) := by decide +kernel
theorem dX10_fog_74 : decode cX10_fog 74 = .ok (.ldc2_w 337, 3) := by decide +kernel
theorem dX10_fog_77 : decode cX10_fog 77 = .ok (.lstore 7, 2) := by decide +kernel
theorem dX10_fog_79 : decode cX10_fog 79 = .ok (.iconst 0, 1) := by decide +kernel
theorem dX10_fog_80 : decode cX10_fog 80 = .ok (.istore 9, 2) := by decide +kernel
theorem dX10_fog_82 : decode cX10_fog 82 = .ok (.iload 9, 2) := by decide +kernel
theorem dX10_fog_84 : decode cX10_fog 84 = .ok (.sipush 256, 3) := by decide +kernel
theorem dX10_fog_87 : decode cX10_fog 87 = .ok (.if_icmp .ge 82, 3) := by decide +kernel
theorem dX10_fog_90 : decode cX10_fog 90 = .ok (.aload_n 0, 1) := by decide +kernel
theorem dX10_fog_91 : decode cX10_fog 91 = .ok (.aload_n 0, 1) := by decide +kernel
theorem dX10_fog_92 : decode cX10_fog 92 = .ok (.getfield 61, 3) := by decide +kernel
theorem dX10_fog_95 : decode cX10_fog 95 = .ok (.iconst 0, 1) := by decide +kernel
theorem dX10_fog_96 : decode cX10_fog 96 = .ok (.iload_n 1, 1) := by decide +kernel
theorem dX10_fog_97 : decode cX10_fog 97 = .ok (.iadd, 1) := by decide +kernel
theorem dX10_fog_98 : decode cX10_fog 98 = .ok (.iaload, 1) := by decide +kernel
theorem dX10_fog_99 : decode cX10_fog 99 = .ok (.iload 9, 2) := by decide +kernel
theorem dX10_fog_101 : decode cX10_fog 101 = .ok (.ixor, 1) := by decide +kernel
theorem dX10_fog_102 : decode cX10_fog 102 = .ok (.iload_n 2, 1) := by decide +kernel
theorem dX10_fog_103 : decode cX10_fog 103 = .ok (.invokevirtual 253, 3) := by decide +kernel
theorem dX10_fog_106 : decode cX10_fog 106 = .ok (.ifCond .ne 6, 3) := by decide +kernel
theorem dX10_fog_109 : decode cX10_fog 109 = .ok (.goto 54, 3) := by decide +kernel
theorem dX10_fog_112 : decode cX10_fog 112 = .ok (.lconst 1, 1) := by decide +kernel
theorem dX10_fog_113 : decode cX10_fog 113 = .ok (.lstore 10, 2) := by decide +kernel
theorem dX10_fog_115 : decode cX10_fog 115 = .ok (.iconst 0, 1) := by decide +kernel
theorem dX10_fog_116 : decode cX10_fog 116 = .ok (.istore 12, 2) := by decide +kernel
theorem dX10_fog_118 : decode cX10_fog 118 = .ok (.iload 12, 2) := by decide +kernel
theorem dX10_fog_120 : decode cX10_fog 120 = .ok (.bipush 8, 2) := by decide +kernel
theorem dX10_fog_122 : decode cX10_fog 122 = .ok (.if_icmp .ge 34, 3) := by decide +kernel
theorem dX10_fog_125 : decode cX10_fog 125 = .ok (.lload 10, 2) := by decide +kernel
theorem dX10_fog_127 : decode cX10_fog 127 = .ok (.iload 9, 2) := by decide +kernel
theorem dX10_fog_129 : decode cX10_fog 129 = .ok (.iload 12, 2) := by decide +kernel
theorem dX10_fog_131 : decode cX10_fog 131 = .ok (.invokestatic 322, 3) := by decide +kernel
theorem dX10_fog_134 : decode cX10_fog 134 = .ok (.ifCond .eq 8, 3) := by decide +kernel
theorem dX10_fog_137 : decode cX10_fog 137 = .ok (.iload_n 3, 1) := by decide +kernel
theorem dX10_fog_138 : decode cX10_fog 138 = .ok (.i2l, 1) := by decide +kernel
theorem dX10_fog_139 : decode cX10_fog 139 = .ok (.goto 8, 3) := by decide +kernel
theorem dX10_fog_142 : decode cX10_fog 142 = .ok (.bipush 16, 2) := by decide +kernel
theorem dX10_fog_144 : decode cX10_fog 144 = .ok (.iload_n 3, 1) := by decide +kernel
theorem dX10_fog_145 : decode cX10_fog 145 = .ok (.isub, 1) := by decide +kernel
theorem dX10_fog_146 : decode cX10_fog 146 = .ok (.i2l, 1) := by decide +kernel
theorem dX10_fog_147 : decode cX10_fog 147 = .ok (.lmul, 1) := by decide +kernel
theorem dX10_fog_148 : decode cX10_fog 148 = .ok (.lstore 10, 2) := by decide +kernel
theorem dX10_fog_150 : decode cX10_fog 150 = .ok (.iinc 12 1, 3) := by decide +kernel
theorem dX10_fog_153 : decode cX10_fog 153 = .ok (.goto (-35), 3) := by decide +kernel
theorem dX10_fog_156 : decode cX10_fog 156 = .ok (.lload 5, 2) := by decide +kernel
theorem dX10_fog_158 : decode cX10_fog 158 = .ok (.lload 10, 2) := by decide +kernel
theorem dX10_fog_160 : decode cX10_fog 160 = .ok (.ladd, 1) := by decide +kernel
theorem dX10_fog_161 : decode cX10_fog 161 = .ok (.lstore 5, 2) := by decide +kernel
theorem dX10_fog_163 : decode cX10_fog 163 = .ok (.iinc 9 1, 3) := by decide +kernel
theorem dX10_fog_166 : decode cX10_fog 166 = .ok (.goto (-84), 3) := by decide +kernel
theorem dX10_fog_169 : decode cX10_fog 169 = .ok (.lload 7, 2) := by decide +kernel
theorem dX10_fog_171 : decode cX10_fog 171 = .ok (.lstore 9, 2) := by decide +kernel
theorem dX10_fog_173 : decode cX10_fog 173 = .ok (.lload 5, 2) := by decide +kernel
theorem dX10_fog_175 : decode cX10_fog 175 = .ok (.lstore 11, 2) := by decide +kernel
theorem dX10_fog_177 : decode cX10_fog 177 = .ok (.lload 11, 2) := by decide +kernel
theorem dX10_fog_179 : decode cX10_fog 179 = .ok (.lconst 0, 1) := by decide +kernel
theorem dX10_fog_180 : decode cX10_fog 180 = .ok (.lcmp, 1) := by decide +kernel
theorem dX10_fog_181 : decode cX10_fog 181 = .ok (.ifCond .eq 21, 3) := by decide +kernel
theorem dX10_fog_184 : decode cX10_fog 184 = .ok (.lload 9, 2) := by decide +kernel
theorem dX10_fog_186 : decode cX10_fog 186 = .ok (.lload 11, 2) := by decide +kernel
theorem dX10_fog_188 : decode cX10_fog 188 = .ok (.lrem, 1) := by decide +kernel
theorem dX10_fog_189 : decode cX10_fog 189 = .ok (.lstore 13, 2) := by decide +kernel
theorem dX10_fog_191 : decode cX10_fog 191 = .ok (.lload 11, 2) := by decide +kernel
theorem dX10_fog_193 : decode cX10_fog 193 = .ok (.lstore 9, 2) := by decide +kernel
theorem dX10_fog_195 : decode cX10_fog 195 = .ok (.lload 13, 2) := by decide +kernel
theorem dX10_fog_197 : decode cX10_fog 197 = .ok (.lstore 11, 2) := by decide +kernel
theorem dX10_fog_199 : decode cX10_fog 199 = .ok (.goto (-22), 3) := by decide +kernel
theorem dX10_fog_202 : decode cX10_fog 202 = .ok (.iload 4, 2) := by decide +kernel
theorem dX10_fog_204 : decode cX10_fog 204 = .ok (.ifCond .ne 11, 3) := by decide +kernel
theorem dX10_fog_207 : decode cX10_fog 207 = .ok (.lload 5, 2) := by decide +kernel
theorem dX10_fog_209 : decode cX10_fog 209 = .ok (.lload 9, 2) := by decide +kernel
theorem dX10_fog_211 : decode cX10_fog 211 = .ok (.ldiv, 1) := by decide +kernel
theorem dX10_fog_212 : decode cX10_fog 212 = .ok (.goto 8, 3) := by decide +kernel
theorem dX10_fog_215 : decode cX10_fog 215 = .ok (.lload 7, 2) := by decide +kernel
theorem dX10_fog_217 : decode cX10_fog 217 = .ok (.lload 9, 2) := by decide +kernel
theorem dX10_fog_219 : decode cX10_fog 219 = .ok (.ldiv, 1) := by decide +kernel
theorem dX10_fog_220 : decode cX10_fog 220 = .ok (.lreturn, 1) := by decide +kernel
theorem dX10_changed_0 : decode cX10_changed 0 = .ok (.iload_n 1, 1) := by decide +kernel
theorem dX10_changed_1 : decode cX10_changed 1 = .ok (.bipush 8, 2) := by decide +kernel
theorem dX10_changed_3 : decode cX10_changed 3 = .ok (.if_icmp .ne 7, 3) := by decide +kernel
theorem dX10_changed_6 : decode cX10_changed 6 = .ok (.iload_n 0, 1) := by decide +kernel
theorem dX10_changed_7 : decode cX10_changed 7 = .ok (.goto 8, 3) := by decide +kernel
theorem dX10_changed_10 : decode cX10_changed 10 = .ok (.iload_n 0, 1) := by decide +kernel
theorem dX10_changed_11 : decode cX10_changed 11 = .ok (.iconst 1, 1) := by decide +kernel
theorem dX10_changed_12 : decode cX10_changed 12 = .ok (.iload_n 1, 1) := by decide +kernel
theorem dX10_changed_13 : decode cX10_changed 13 = .ok (.ishl, 1) := by decide +kernel
theorem dX10_changed_14 : decode cX10_changed 14 = .ok (.ixor, 1) := by decide +kernel
theorem dX10_changed_15 : decode cX10_changed 15 = .ok (.ireturn, 1) := by decide +kernel
theorem dX10_hasOne_0 : decode cX10_hasOne 0 = .ok (.iload_n 0, 1) := by decide +kernel
theorem dX10_hasOne_1 : decode cX10_hasOne 1 = .ok (.iconst 2, 1) := by decide +kernel
theorem dX10_hasOne_2 : decode cX10_hasOne 2 = .ok (.if_icmp .ge 7, 3) := by decide +kernel
theorem dX10_hasOne_5 : decode cX10_hasOne 5 = .ok (.iconst 3, 1) := by decide +kernel
theorem dX10_hasOne_6 : decode cX10_hasOne 6 = .ok (.goto 4, 3) := by decide +kernel
theorem dX10_hasOne_9 : decode cX10_hasOne 9 = .ok (.iconst 0, 1) := by decide +kernel
theorem dX10_hasOne_10 : decode cX10_hasOne 10 = .ok (.ireturn, 1) := by decide +kernel
theorem dX10_hasOther_0 : decode cX10_hasOther 0 = .ok (.iload_n 0, 1) := by decide +kernel
theorem dX10_hasOther_1 : decode cX10_hasOther 1 = .ok (.iconst 2, 1) := by decide +kernel
theorem dX10_hasOther_2 : decode cX10_hasOther 2 = .ok (.if_icmp .ge 7, 3) := by decide +kernel
theorem dX10_hasOther_5 : decode cX10_hasOther 5 = .ok (.iconst 0, 1) := by decide +kernel
theorem dX10_hasOther_6 : decode cX10_hasOther 6 = .ok (.goto 4, 3) := by decide +kernel
theorem dX10_hasOther_9 : decode cX10_hasOther 9 = .ok (.iload_n 0, 1) := by decide +kernel
theorem dX10_hasOther_10 : decode cX10_hasOther 10 = .ok (.ireturn, 1) := by decide +kernel
theorem dX10_isRest_0 : decode cX10_isRest 0 = .ok (.iload_n 0, 1) := by decide +kernel
theorem dX10_isRest_1 : decode cX10_isRest 1 = .ok (.iload_n 2, 1) := by decide +kernel
theorem dX10_isRest_2 : decode cX10_isRest 2 = .ok (.invokestatic 339, 3) := by decide +kernel
theorem dX10_isRest_5 : decode cX10_isRest 5 = .ok (.iload_n 1, 1) := by decide +kernel
theorem dX10_isRest_6 : decode cX10_isRest 6 = .ok (.iload_n 3, 1) := by decide +kernel
theorem dX10_isRest_7 : decode cX10_isRest 7 = .ok (.invokestatic 339, 3) := by decide +kernel
theorem dX10_isRest_10 : decode cX10_isRest 10 = .ok (.ixor, 1) := by decide +kernel
theorem dX10_isRest_11 : decode cX10_isRest 11 = .ok (.invokestatic 240, 3) := by decide +kernel
theorem dX10_isRest_14 : decode cX10_isRest 14 = .ok (.istore 4, 2) := by decide +kernel
theorem dX10_isRest_16 : decode cX10_isRest 16 = .ok (.iconst 0, 1) := by decide +kernel
theorem dX10_isRest_17 : decode cX10_isRest 17 = .ok (.istore 5, 2) := by decide +kernel
theorem dX10_isRest_19 : decode cX10_isRest 19 = .ok (.iload 5, 2) := by decide +kernel
theorem dX10_isRest_21 : decode cX10_isRest 21 = .ok (.bipush 8, 2) := by decide +kernel
theorem dX10_isRest_23 : decode cX10_isRest 23 = .ok (.if_icmp .gt 63, 3) := by decide +kernel
theorem dX10_isRest_26 : decode cX10_isRest 26 = .ok (.iload_n 0, 1) := by decide +kernel
theorem dX10_isRest_27 : decode cX10_isRest 27 = .ok (.iload 5, 2) := by decide +kernel
theorem dX10_isRest_29 : decode cX10_isRest 29 = .ok (.invokestatic 339, 3) := by decide +kernel
theorem dX10_isRest_32 : decode cX10_isRest 32 = .ok (.iload_n 1, 1) := by decide +kernel
theorem dX10_isRest_33 : decode cX10_isRest 33 = .ok (.iload_n 3, 1) := by decide +kernel
theorem dX10_isRest_34 : decode cX10_isRest 34 = .ok (.invokestatic 339, 3) := by decide +kernel
theorem dX10_isRest_37 : decode cX10_isRest 37 = .ok (.ixor, 1) := by decide +kernel
theorem dX10_isRest_38 : decode cX10_isRest 38 = .ok (.invokestatic 240, 3) := by decide +kernel
theorem dX10_isRest_41 : decode cX10_isRest 41 = .ok (.invokestatic 342, 3) := by decide +kernel
theorem dX10_isRest_44 : decode cX10_isRest 44 = .ok (.iload 4, 2) := by decide +kernel
theorem dX10_isRest_46 : decode cX10_isRest 46 = .ok (.invokestatic 342, 3) := by decide +kernel
theorem dX10_isRest_49 : decode cX10_isRest 49 = .ok (.if_icmp .gt 29, 3) := by decide +kernel
theorem dX10_isRest_52 : decode cX10_isRest 52 = .ok (.iload_n 0, 1) := by decide +kernel
theorem dX10_isRest_53 : decode cX10_isRest 53 = .ok (.iload_n 2, 1) := by decide +kernel
theorem dX10_isRest_54 : decode cX10_isRest 54 = .ok (.invokestatic 339, 3) := by decide +kernel
theorem dX10_isRest_57 : decode cX10_isRest 57 = .ok (.iload_n 1, 1) := by decide +kernel
theorem dX10_isRest_58 : decode cX10_isRest 58 = .ok (.iload 5, 2) := by decide +kernel
theorem dX10_isRest_60 : decode cX10_isRest 60 = .ok (.invokestatic 339, 3) := by decide +kernel
theorem dX10_isRest_63 : decode cX10_isRest 63 = .ok (.ixor, 1) := by decide +kernel
theorem dX10_isRest_64 : decode cX10_isRest 64 = .ok (.invokestatic 240, 3) := by decide +kernel
theorem dX10_isRest_67 : decode cX10_isRest 67 = .ok (.invokestatic 345, 3) := by decide +kernel
theorem dX10_isRest_70 : decode cX10_isRest 70 = .ok (.iload 4, 2) := by decide +kernel
theorem dX10_isRest_72 : decode cX10_isRest 72 = .ok (.invokestatic 345, 3) := by decide +kernel
theorem dX10_isRest_75 : decode cX10_isRest 75 = .ok (.if_icmp .le 5, 3) := by decide +kernel
theorem dX10_isRest_78 : decode cX10_isRest 78 = .ok (.iconst 0, 1) := by decide +kernel
theorem dX10_isRest_79 : decode cX10_isRest 79 = .ok (.ireturn, 1) := by decide +kernel
theorem dX10_isRest_80 : decode cX10_isRest 80 = .ok (.iinc 5 1, 3) := by decide +kernel
theorem dX10_isRest_83 : decode cX10_isRest 83 = .ok (.goto (-64), 3) := by decide +kernel
theorem dX10_isRest_86 : decode cX10_isRest 86 = .ok (.iconst 1, 1) := by decide +kernel
theorem dX10_isRest_87 : decode cX10_isRest 87 = .ok (.ireturn, 1) := by decide +kernel
theorem dX10_dealers_0 : decode cX10_dealers 0 = .ok (.aload_n 0, 1) := by decide +kernel
theorem dX10_dealers_1 : decode cX10_dealers 1 = .ok (.iconst 0, 1) := by decide +kernel
theorem dX10_dealers_2 : decode cX10_dealers 2 = .ok (.putfield 88, 3) := by decide +kernel
theorem dX10_dealers_5 : decode cX10_dealers 5 = .ok (.aload_n 0, 1) := by decide +kernel
theorem dX10_dealers_6 : decode cX10_dealers 6 = .ok (.aload_n 0, 1) := by decide +kernel
theorem dX10_dealers_7 : decode cX10_dealers 7 = .ok (.iload_n 1, 1) := by decide +kernel
theorem dX10_dealers_8 : decode cX10_dealers 8 = .ok (.invokevirtual 307, 3) := by decide +kernel
theorem dX10_dealers_11 : decode cX10_dealers 11 = .ok (.ifCond .eq 11, 3) := by decide +kernel
theorem dX10_dealers_14 : decode cX10_dealers 14 = .ok (.aload_n 0, 1) := by decide +kernel
theorem dX10_dealers_15 : decode cX10_dealers 15 = .ok (.iload_n 2, 1) := by decide +kernel
theorem dX10_dealers_16 : decode cX10_dealers 16 = .ok (.invokevirtual 307, 3) := by decide +kernel
theorem dX10_dealers_19 : decode cX10_dealers 19 = .ok (.ifCond .ne 7, 3) := by decide +kernel
theorem dX10_dealers_22 : decode cX10_dealers 22 = .ok (.iconst 1, 1) := by decide +kernel
theorem dX10_dealers_23 : decode cX10_dealers 23 = .ok (.goto 4, 3) := by decide +kernel
theorem dX10_dealers_26 : decode cX10_dealers 26 = .ok (.iconst 0, 1) := by decide +kernel
theorem dX10_dealers_27 : decode cX10_dealers 27 = .ok (.iconst 1, 1) := by decide +kernel
theorem dX10_dealers_28 : decode cX10_dealers 28 = .ok (.iconst 0, 1) := by decide +kernel
theorem dX10_dealers_29 : decode cX10_dealers 29 = .ok (.invokevirtual 164, 3) := by decide +kernel
theorem dX10_dealers_32 : decode cX10_dealers 32 = .ok (.ifCond .ne 31, 3) := by decide +kernel
theorem dX10_dealers_35 : decode cX10_dealers 35 = .ok (.aload_n 0, 1) := by decide +kernel
theorem dX10_dealers_36 : decode cX10_dealers 36 = .ok (.iload_n 1, 1) := by decide +kernel
theorem dX10_dealers_37 : decode cX10_dealers 37 = .ok (.iload_n 2, 1) := by decide +kernel
theorem dX10_dealers_38 : decode cX10_dealers 38 = .ok (.if_icmp .eq 12, 3) := by decide +kernel
theorem dX10_dealers_41 : decode cX10_dealers 41 = .ok (.iload_n 3, 1) := by decide +kernel
theorem dX10_dealers_42 : decode cX10_dealers 42 = .ok (.iconst 0, 1) := by decide +kernel
theorem dX10_dealers_43 : decode cX10_dealers 43 = .ok (.iconst 2, 1) := by decide +kernel
theorem dX10_dealers_44 : decode cX10_dealers 44 = .ok (.invokestatic 122, 3) := by decide +kernel
theorem dX10_dealers_47 : decode cX10_dealers 47 = .ok (.ifCond .ne 7, 3) := by decide +kernel
theorem dX10_dealers_50 : decode cX10_dealers 50 = .ok (.iconst 1, 1) := by decide +kernel
theorem dX10_dealers_51 : decode cX10_dealers 51 = .ok (.goto 4, 3) := by decide +kernel
theorem dX10_dealers_54 : decode cX10_dealers 54 = .ok (.iconst 0, 1) := by decide +kernel
theorem dX10_dealers_55 : decode cX10_dealers 55 = .ok (.iconst 2, 1) := by decide +kernel
theorem dX10_dealers_56 : decode cX10_dealers 56 = .ok (.iconst 1, 1) := by decide +kernel
theorem dX10_dealers_57 : decode cX10_dealers 57 = .ok (.invokevirtual 164, 3) := by decide +kernel
theorem dX10_dealers_60 : decode cX10_dealers 60 = .ok (.ifCond .eq 5, 3) := by decide +kernel
theorem dX10_dealers_63 : decode cX10_dealers 63 = .ok (.iconst 0, 1) := by decide +kernel
theorem dX10_dealers_64 : decode cX10_dealers 64 = .ok (.ireturn, 1) := by decide +kernel
theorem dX10_dealers_65 : decode cX10_dealers 65 = .ok (.iconst 0, 1) := by decide +kernel
theorem dX10_dealers_66 : decode cX10_dealers 66 = .ok (.istore 4, 2) := by decide +kernel
theorem dX10_dealers_68 : decode cX10_dealers 68 = .ok (.iconst (-1), 1) := by decide +kernel
theorem dX10_dealers_69 : decode cX10_dealers 69 = .ok (.istore 5, 2) := by decide +kernel
theorem dX10_dealers_71 : decode cX10_dealers 71 = .ok (.iconst 0, 1) := by decide +kernel
theorem dX10_dealers_72 : decode cX10_dealers 72 = .ok (.istore 6, 2) := by decide +kernel
theorem dX10_dealers_74 : decode cX10_dealers 74 = .ok (.aload_n 0, 1) := by decide +kernel
theorem dX10_dealers_75 : decode cX10_dealers 75 = .ok (.getfield 61, 3) := by decide +kernel
theorem dX10_dealers_78 : decode cX10_dealers 78 = .ok (.iconst 0, 1) := by decide +kernel
theorem dX10_dealers_79 : decode cX10_dealers 79 = .ok (.iload_n 1, 1) := by decide +kernel
theorem dX10_dealers_80 : decode cX10_dealers 80 = .ok (.iadd, 1) := by decide +kernel
theorem dX10_dealers_81 : decode cX10_dealers 81 = .ok (.iaload, 1) := by decide +kernel
theorem dX10_dealers_82 : decode cX10_dealers 82 = .ok (.istore 7, 2) := by decide +kernel
theorem dX10_dealers_84 : decode cX10_dealers 84 = .ok (.aload_n 0, 1) := by decide +kernel
theorem dX10_dealers_85 : decode cX10_dealers 85 = .ok (.getfield 61, 3) := by decide +kernel
theorem dX10_dealers_88 : decode cX10_dealers 88 = .ok (.iconst 0, 1) := by decide +kernel
theorem dX10_dealers_89 : decode cX10_dealers 89 = .ok (.iload_n 2, 1) := by decide +kernel
theorem dX10_dealers_90 : decode cX10_dealers 90 = .ok (.iadd, 1) := by decide +kernel
theorem dX10_dealers_91 : decode cX10_dealers 91 = .ok (.iaload, 1) := by decide +kernel
theorem dX10_dealers_92 : decode cX10_dealers 92 = .ok (.istore 8, 2) := by decide +kernel
theorem dX10_dealers_94 : decode cX10_dealers 94 = .ok (.iconst 0, 1) := by decide +kernel
theorem dX10_dealers_95 : decode cX10_dealers 95 = .ok (.istore 9, 2) := by decide +kernel
theorem dX10_dealers_97 : decode cX10_dealers 97 = .ok (.iload 9, 2) := by decide +kernel
theorem dX10_dealers_99 : decode cX10_dealers 99 = .ok (.bipush 8, 2) := by decide +kernel
theorem dX10_dealers_101 : decode cX10_dealers 101 = .ok (.if_icmp .gt 108, 3) := by decide +kernel
theorem dX10_dealers_104 : decode cX10_dealers 104 = .ok (.iconst 0, 1) := by decide +kernel
theorem dX10_dealers_105 : decode cX10_dealers 105 = .ok (.istore 10, 2) := by decide +kernel
theorem dX10_dealers_107 : decode cX10_dealers 107 = .ok (.iload 10, 2) := by decide +kernel
theorem dX10_dealers_109 : decode cX10_dealers 109 = .ok (.bipush 8, 2) := by decide +kernel
theorem dX10_dealers_111 : decode cX10_dealers 111 = .ok (.if_icmp .gt 92, 3) := by decide +kernel
theorem dX10_dealers_114 : decode cX10_dealers 114 = .ok (.iload 7, 2) := by decide +kernel
theorem dX10_dealers_116 : decode cX10_dealers 116 = .ok (.iload 8, 2) := by decide +kernel
theorem dX10_dealers_118 : decode cX10_dealers 118 = .ok (.iload 9, 2) := by decide +kernel
theorem dX10_dealers_120 : decode cX10_dealers 120 = .ok (.iload 10, 2) := by decide +kernel
theorem dX10_dealers_122 : decode cX10_dealers 122 = .ok (.invokestatic 348, 3) := by decide +kernel
theorem dX10_dealers_125 : decode cX10_dealers 125 = .ok (.ifCond .ne 6, 3) := by decide +kernel
theorem dX10_dealers_128 : decode cX10_dealers 128 = .ok (.goto 69, 3) := by decide +kernel
theorem dX10_dealers_131 : decode cX10_dealers 131 = .ok (.iload 7, 2) := by decide +kernel
theorem dX10_dealers_133 : decode cX10_dealers 133 = .ok (.iload 9, 2) := by decide +kernel
theorem dX10_dealers_135 : decode cX10_dealers 135 = .ok (.invokestatic 339, 3) := by decide +kernel
theorem dX10_dealers_138 : decode cX10_dealers 138 = .ok (.iload 8, 2) := by decide +kernel
theorem dX10_dealers_140 : decode cX10_dealers 140 = .ok (.iload 10, 2) := by decide +kernel
theorem dX10_dealers_142 : decode cX10_dealers 142 = .ok (.invokestatic 339, 3) := by decide +kernel
theorem dX10_dealers_145 : decode cX10_dealers 145 = .ok (.ixor, 1) := by decide +kernel
theorem dX10_dealers_146 : decode cX10_dealers 146 = .ok (.invokestatic 240, 3) := by decide +kernel
theorem dX10_dealers_149 : decode cX10_dealers 149 = .ok (.istore 11, 2) := by decide +kernel
theorem dX10_dealers_151 : decode cX10_dealers 151 = .ok (.iload 4, 2) := by decide +kernel
theorem dX10_dealers_153 : decode cX10_dealers 153 = .ok (.ifCond .ne 17, 3) := by decide +kernel
theorem dX10_dealers_156 : decode cX10_dealers 156 = .ok (.iload 11, 2) := by decide +kernel
theorem dX10_dealers_158 : decode cX10_dealers 158 = .ok (.invokestatic 342, 3) := by decide +kernel
theorem dX10_dealers_161 : decode cX10_dealers 161 = .ok (.iload 11, 2) := by decide +kernel
theorem dX10_dealers_163 : decode cX10_dealers 163 = .ok (.invokestatic 345, 3) := by decide +kernel
theorem dX10_dealers_166 : decode cX10_dealers 166 = .ok (.iadd, 1) := by decide +kernel
theorem dX10_dealers_167 : decode cX10_dealers 167 = .ok (.goto 5, 3) := by decide +kernel
theorem dX10_dealers_170 : decode cX10_dealers 170 = .ok (.iload 6, 2) := by decide +kernel
theorem dX10_dealers_172 : decode cX10_dealers 172 = .ok (.istore 6, 2) := by decide +kernel
theorem dX10_dealers_174 : decode cX10_dealers 174 = .ok (.iload 4, 2) := by decide +kernel
theorem dX10_dealers_176 : decode cX10_dealers 176 = .ok (.ifCond .ne 14, 3) := by decide +kernel
theorem dX10_dealers_179 : decode cX10_dealers 179 = .ok (.bipush 10, 2) := by decide +kernel
theorem dX10_dealers_181 : decode cX10_dealers 181 = .ok (.iload 9, 2) := by decide +kernel
theorem dX10_dealers_183 : decode cX10_dealers 183 = .ok (.imul, 1) := by decide +kernel
theorem dX10_dealers_184 : decode cX10_dealers 184 = .ok (.iload 10, 2) := by decide +kernel
theorem dX10_dealers_186 : decode cX10_dealers 186 = .ok (.iadd, 1) := by decide +kernel
theorem dX10_dealers_187 : decode cX10_dealers 187 = .ok (.goto 5, 3) := by decide +kernel
theorem dX10_dealers_190 : decode cX10_dealers 190 = .ok (.iload 5, 2) := by decide +kernel
theorem dX10_dealers_192 : decode cX10_dealers 192 = .ok (.istore 5, 2) := by decide +kernel
theorem dX10_dealers_194 : decode cX10_dealers 194 = .ok (.iinc 4 1, 3) := by decide +kernel
theorem dX10_dealers_197 : decode cX10_dealers 197 = .ok (.iinc 10 1, 3) := by decide +kernel
theorem dX10_dealers_200 : decode cX10_dealers 200 = .ok (.goto (-93), 3) := by decide +kernel
theorem dX10_dealers_203 : decode cX10_dealers 203 = .ok (.iinc 9 1, 3) := by decide +kernel
theorem dX10_dealers_206 : decode cX10_dealers 206 = .ok (.goto (-109), 3) := by decide +kernel
theorem dX10_dealers_209 : decode cX10_dealers 209 = .ok (.iload_n 3, 1) := by decide +kernel
theorem dX10_dealers_210 : decode cX10_dealers 210 = .ok (.ifCond .ne 8, 3) := by decide +kernel
theorem dX10_dealers_213 : decode cX10_dealers 213 = .ok (.iload 4, 2) := by decide +kernel
theorem dX10_dealers_215 : decode cX10_dealers 215 = .ok (.goto 15, 3) := by decide +kernel
theorem dX10_dealers_218 : decode cX10_dealers 218 = .ok (.iload_n 3, 1) := by decide +kernel
theorem dX10_dealers_219 : decode cX10_dealers 219 = .ok (.iconst 1, 1) := by decide +kernel
theorem dX10_dealers_220 : decode cX10_dealers 220 = .ok (.if_icmp .ne 8, 3) := by decide +kernel
theorem dX10_dealers_223 : decode cX10_dealers 223 = .ok (.iload 5, 2) := by decide +kernel
theorem dX10_dealers_225 : decode cX10_dealers 225 = .ok (.goto 5, 3) := by decide +kernel
theorem dX10_dealers_228 : decode cX10_dealers 228 = .ok (.iload 6, 2) := by decide +kernel
theorem dX10_dealers_230 : decode cX10_dealers 230 = .ok (.ireturn, 1) := by decide +kernel
theorem dX10_givenBy_0 : decode cX10_givenBy 0 = .ok (.iconst 0, 1) := by decide +kernel
theorem dX10_givenBy_1 : decode cX10_givenBy 1 = .ok (.istore_n 3, 1) := by decide +kernel
theorem dX10_givenBy_2 : decode cX10_givenBy 2 = .ok (.iconst 0, 1) := by decide +kernel
theorem dX10_givenBy_3 : decode cX10_givenBy 3 = .ok (.istore 4, 2) := by decide +kernel
theorem dX10_givenBy_5 : decode cX10_givenBy 5 = .ok (.iload 4, 2) := by decide +kernel
theorem dX10_givenBy_7 : decode cX10_givenBy 7 = .ok (.aload_n 0, 1) := by decide +kernel
theorem dX10_givenBy_8 : decode cX10_givenBy 8 = .ok (.getfield 23, 3) := by decide +kernel
theorem dX10_givenBy_11 : decode cX10_givenBy 11 = .ok (.iconst 1, 1) := by decide +kernel
theorem dX10_givenBy_12 : decode cX10_givenBy 12 = .ok (.iaload, 1) := by decide +kernel
theorem dX10_givenBy_13 : decode cX10_givenBy 13 = .ok (.if_icmp .ge 39, 3) := by decide +kernel
theorem dX10_givenBy_16 : decode cX10_givenBy 16 = .ok (.iload_n 3, 1) := by decide +kernel
theorem dX10_givenBy_17 : decode cX10_givenBy 17 = .ok (.iload_n 1, 1) := by decide +kernel
theorem dX10_givenBy_18 : decode cX10_givenBy 18 = .ok (.iload 4, 2) := by decide +kernel
theorem dX10_givenBy_20 : decode cX10_givenBy 20 = .ok (.invokestatic 322, 3) := by decide +kernel
theorem dX10_givenBy_23 : decode cX10_givenBy 23 = .ok (.ifCond .eq 20, 3) := by decide +kernel
theorem dX10_givenBy_26 : decode cX10_givenBy 26 = .ok (.iload_n 2, 1) := by decide +kernel
theorem dX10_givenBy_27 : decode cX10_givenBy 27 = .ok (.aload_n 0, 1) := by decide +kernel
theorem dX10_givenBy_28 : decode cX10_givenBy 28 = .ok (.getfield 61, 3) := by decide +kernel
theorem dX10_givenBy_31 : decode cX10_givenBy 31 = .ok (.bipush 37, 2) := by decide +kernel
theorem dX10_givenBy_33 : decode cX10_givenBy 33 = .ok (.iload 4, 2) := by decide +kernel
theorem dX10_givenBy_35 : decode cX10_givenBy 35 = .ok (.iadd, 1) := by decide +kernel
theorem dX10_givenBy_36 : decode cX10_givenBy 36 = .ok (.iaload, 1) := by decide +kernel
theorem dX10_givenBy_37 : decode cX10_givenBy 37 = .ok (.invokestatic 221, 3) := by decide +kernel
theorem dX10_givenBy_40 : decode cX10_givenBy 40 = .ok (.goto 4, 3) := by decide +kernel
theorem dX10_givenBy_43 : decode cX10_givenBy 43 = .ok (.iconst 0, 1) := by decide +kernel
theorem dX10_givenBy_44 : decode cX10_givenBy 44 = .ok (.iadd, 1) := by decide +kernel
theorem dX10_givenBy_45 : decode cX10_givenBy 45 = .ok (.istore_n 3, 1) := by decide +kernel
theorem dX10_givenBy_46 : decode cX10_givenBy 46 = .ok (.iinc 4 1, 3) := by decide +kernel
theorem dX10_givenBy_49 : decode cX10_givenBy 49 = .ok (.goto (-44), 3) := by decide +kernel
theorem dX10_givenBy_52 : decode cX10_givenBy 52 = .ok (.iload_n 3, 1) := by decide +kernel
theorem dX10_givenBy_53 : decode cX10_givenBy 53 = .ok (.ireturn, 1) := by decide +kernel
theorem dX10_share_0 : decode cX10_share 0 = .ok (.aload_n 0, 1) := by decide +kernel
theorem dX10_share_1 : decode cX10_share 1 = .ok (.iconst 0, 1) := by decide +kernel
theorem dX10_share_2 : decode cX10_share 2 = .ok (.putfield 88, 3) := by decide +kernel
theorem dX10_share_5 : decode cX10_share 5 = .ok (.aload_n 0, 1) := by decide +kernel
theorem dX10_share_6 : decode cX10_share 6 = .ok (.aload_n 0, 1) := by decide +kernel
theorem dX10_share_7 : decode cX10_share 7 = .ok (.iload_n 1, 1) := by decide +kernel
theorem dX10_share_8 : decode cX10_share 8 = .ok (.invokevirtual 310, 3) := by decide +kernel
theorem dX10_share_11 : decode cX10_share 11 = .ok (.ifCond .ne 7, 3) := by decide +kernel
theorem dX10_share_14 : decode cX10_share 14 = .ok (.iconst 1, 1) := by decide +kernel
theorem dX10_share_15 : decode cX10_share 15 = .ok (.goto 4, 3) := by decide +kernel
theorem dX10_share_18 : decode cX10_share 18 = .ok (.iconst 0, 1) := by decide +kernel
theorem dX10_share_19 : decode cX10_share 19 = .ok (.iconst 1, 1) := by decide +kernel
theorem dX10_share_20 : decode cX10_share 20 = .ok (.iconst 0, 1) := by decide +kernel
theorem dX10_share_21 : decode cX10_share 21 = .ok (.invokevirtual 164, 3) := by decide +kernel
theorem dX10_share_24 : decode cX10_share 24 = .ok (.ifCond .ne 46, 3) := by decide +kernel
theorem dX10_share_27 : decode cX10_share 27 = .ok (.aload_n 0, 1) := by decide +kernel
theorem dX10_share_28 : decode cX10_share 28 = .ok (.iload_n 2, 1) := by decide +kernel
theorem dX10_share_29 : decode cX10_share 29 = .ok (.iconst 0, 1) := by decide +kernel
theorem dX10_share_30 : decode cX10_share 30 = .ok (.iconst 1, 1) := by decide +kernel
theorem dX10_share_31 : decode cX10_share 31 = .ok (.aload_n 0, 1) := by decide +kernel
theorem dX10_share_32 : decode cX10_share 32 = .ok (.getfield 23, 3) := by decide +kernel
theorem dX10_share_35 : decode cX10_share 35 = .ok (.iconst 1, 1) := by decide +kernel
theorem dX10_share_36 : decode cX10_share 36 = .ok (.iaload, 1) := by decide +kernel
theorem dX10_share_37 : decode cX10_share 37 = .ok (.ishl, 1) := by decide +kernel
theorem dX10_share_38 : decode cX10_share 38 = .ok (.iconst 1, 1) := by decide +kernel
theorem dX10_share_39 : decode cX10_share 39 = .ok (.isub, 1) := by decide +kernel
theorem dX10_share_40 : decode cX10_share 40 = .ok (.invokestatic 122, 3) := by decide +kernel
theorem dX10_share_43 : decode cX10_share 43 = .ok (.ifCond .eq 14, 3) := by decide +kernel
theorem dX10_share_46 : decode cX10_share 46 = .ok (.iload_n 3, 1) := by decide +kernel
theorem dX10_share_47 : decode cX10_share 47 = .ok (.iconst 0, 1) := by decide +kernel
theorem dX10_share_48 : decode cX10_share 48 = .ok (.sipush 999, 3) := by decide +kernel
theorem dX10_share_51 : decode cX10_share 51 = .ok (.invokestatic 122, 3) := by decide +kernel
theorem dX10_share_54 : decode cX10_share 54 = .ok (.ifCond .ne 7, 3) := by decide +kernel
theorem dX10_share_57 : decode cX10_share 57 = .ok (.iconst 1, 1) := by decide +kernel
theorem dX10_share_58 : decode cX10_share 58 = .ok (.goto 4, 3) := by decide +kernel
theorem dX10_share_61 : decode cX10_share 61 = .ok (.iconst 0, 1) := by decide +kernel
theorem dX10_share_62 : decode cX10_share 62 = .ok (.iconst 2, 1) := by decide +kernel
theorem dX10_share_63 : decode cX10_share 63 = .ok (.iconst 1, 1) := by decide +kernel
theorem dX10_share_64 : decode cX10_share 64 = .ok (.invokevirtual 164, 3) := by decide +kernel
theorem dX10_share_67 : decode cX10_share 67 = .ok (.ifCond .eq 5, 3) := by decide +kernel
theorem dX10_share_70 : decode cX10_share 70 = .ok (.iconst 0, 1) := by decide +kernel
theorem dX10_share_71 : decode cX10_share 71 = .ok (.ireturn, 1) := by decide +kernel
theorem dX10_share_72 : decode cX10_share 72 = .ok (.iconst 0, 1) := by decide +kernel
theorem dX10_share_73 : decode cX10_share 73 = .ok (.istore 4, 2) := by decide +kernel
theorem dX10_share_75 : decode cX10_share 75 = .ok (.iload 4, 2) := by decide +kernel
theorem dX10_share_77 : decode cX10_share 77 = .ok (.aload_n 0, 1) := by decide +kernel
theorem dX10_share_78 : decode cX10_share 78 = .ok (.getfield 61, 3) := by decide +kernel
theorem dX10_share_81 : decode cX10_share 81 = .ok (.bipush 37, 2) := by decide +kernel
theorem dX10_share_83 : decode cX10_share 83 = .ok (.iload_n 1, 1) := by decide +kernel
theorem dX10_share_84 : decode cX10_share 84 = .ok (.iadd, 1) := by decide +kernel
theorem dX10_share_85 : decode cX10_share 85 = .ok (.iaload, 1) := by decide +kernel
theorem dX10_share_86 : decode cX10_share 86 = .ok (.if_icmp .ge 22, 3) := by decide +kernel
theorem dX10_share_89 : decode cX10_share 89 = .ok (.aload_n 0, 1) := by decide +kernel
theorem dX10_share_90 : decode cX10_share 90 = .ok (.iload_n 2, 1) := by decide +kernel
theorem dX10_share_91 : decode cX10_share 91 = .ok (.iload 4, 2) := by decide +kernel
theorem dX10_share_93 : decode cX10_share 93 = .ok (.iconst 1, 1) := by decide +kernel
theorem dX10_share_94 : decode cX10_share 94 = .ok (.iadd, 1) := by decide +kernel
theorem dX10_share_95 : decode cX10_share 95 = .ok (.invokevirtual 352, 3) := by decide +kernel
theorem dX10_share_98 : decode cX10_share 98 = .ok (.iload_n 3, 1) := by decide +kernel
theorem dX10_share_99 : decode cX10_share 99 = .ok (.if_icmp .gt 9, 3) := by decide +kernel
theorem dX10_share_102 : decode cX10_share 102 = .ok (.iinc 4 1, 3) := by decide +kernel
theorem dX10_share_105 : decode cX10_share 105 = .ok (.goto (-30), 3) := by decide +kernel
theorem dX10_share_108 : decode cX10_share 108 = .ok (.iload_n 2, 1) := by decide +kernel
theorem dX10_share_109 : decode cX10_share 109 = .ok (.iload_n 1, 1) := by decide +kernel
theorem dX10_share_110 : decode cX10_share 110 = .ok (.invokestatic 322, 3) := by decide +kernel
theorem dX10_share_113 : decode cX10_share 113 = .ok (.ifCond .eq 8, 3) := by decide +kernel
theorem dX10_share_116 : decode cX10_share 116 = .ok (.iload 4, 2) := by decide +kernel
theorem dX10_share_118 : decode cX10_share 118 = .ok (.goto 4, 3) := by decide +kernel
theorem dX10_share_121 : decode cX10_share 121 = .ok (.iconst 0, 1) := by decide +kernel
theorem dX10_share_122 : decode cX10_share 122 = .ok (.ireturn, 1) := by decide +kernel
theorem dX10_draw_0 : decode cX10_draw 0 = .ok (.aload_n 0, 1) := by decide +kernel
theorem dX10_draw_1 : decode cX10_draw 1 = .ok (.aload_n 0, 1) := by decide +kernel
theorem dX10_draw_2 : decode cX10_draw 2 = .ok (.getfield 355, 3) := by decide +kernel
theorem dX10_draw_5 : decode cX10_draw 5 = .ok (.ldc_w 358, 3) := by decide +kernel
theorem dX10_draw_8 : decode cX10_draw 8 = .ok (.imul, 1) := by decide +kernel
theorem dX10_draw_9 : decode cX10_draw 9 = .ok (.sipush 12345, 3) := by decide +kernel
theorem dX10_draw_12 : decode cX10_draw 12 = .ok (.iadd, 1) := by decide +kernel
theorem dX10_draw_13 : decode cX10_draw 13 = .ok (.putfield 355, 3) := by decide +kernel
theorem dX10_draw_16 : decode cX10_draw 16 = .ok (.aload_n 0, 1) := by decide +kernel
theorem dX10_draw_17 : decode cX10_draw 17 = .ok (.getfield 355, 3) := by decide +kernel
theorem dX10_draw_20 : decode cX10_draw 20 = .ok (.bipush 16, 2) := by decide +kernel
theorem dX10_draw_22 : decode cX10_draw 22 = .ok (.ishr, 1) := by decide +kernel
theorem dX10_draw_23 : decode cX10_draw 23 = .ok (.sipush 32767, 3) := by decide +kernel
theorem dX10_draw_26 : decode cX10_draw 26 = .ok (.iand, 1) := by decide +kernel
theorem dX10_draw_27 : decode cX10_draw 27 = .ok (.iload_n 1, 1) := by decide +kernel
theorem dX10_draw_28 : decode cX10_draw 28 = .ok (.irem, 1) := by decide +kernel
theorem dX10_draw_29 : decode cX10_draw 29 = .ok (.ireturn, 1) := by decide +kernel
theorem dX10_yearsBy_0 : decode cX10_yearsBy 0 = .ok (.aload_n 0, 1) := by decide +kernel
theorem dX10_yearsBy_1 : decode cX10_yearsBy 1 = .ok (.getfield 61, 3) := by decide +kernel
theorem dX10_yearsBy_4 : decode cX10_yearsBy 4 = .ok (.aload_n 0, 1) := by decide +kernel
theorem dX10_yearsBy_5 : decode cX10_yearsBy 5 = .ok (.getfield 64, 3) := by decide +kernel
theorem dX10_yearsBy_8 : decode cX10_yearsBy 8 = .ok (.invokestatic 296, 3) := by decide +kernel
theorem dX10_yearsBy_11 : decode cX10_yearsBy 11 = .ok (.aload_n 0, 1) := by decide +kernel
theorem dX10_yearsBy_12 : decode cX10_yearsBy 12 = .ok (.iload_n 1, 1) := by decide +kernel
theorem dX10_yearsBy_13 : decode cX10_yearsBy 13 = .ok (.putfield 355, 3) := by decide +kernel
theorem dX10_yearsBy_16 : decode cX10_yearsBy 16 = .ok (.aload_n 0, 1) := by decide +kernel
theorem dX10_yearsBy_17 : decode cX10_yearsBy 17 = .ok (.iconst 0, 1) := by decide +kernel
theorem dX10_yearsBy_18 : decode cX10_yearsBy 18 = .ok (.putfield 359, 3) := by decide +kernel
theorem dX10_yearsBy_21 : decode cX10_yearsBy 21 = .ok (.aload_n 0, 1) := by decide +kernel
theorem dX10_yearsBy_22 : decode cX10_yearsBy 22 = .ok (.getfield 61, 3) := by decide +kernel
theorem dX10_yearsBy_25 : decode cX10_yearsBy 25 = .ok (.bipush 42, 2) := by decide +kernel
theorem dX10_yearsBy_27 : decode cX10_yearsBy 27 = .ok (.iaload, 1) := by decide +kernel
theorem dX10_yearsBy_28 : decode cX10_yearsBy 28 = .ok (.ifCond .eq 12, 3) := by decide +kernel
theorem dX10_yearsBy_31 : decode cX10_yearsBy 31 = .ok (.aload_n 0, 1) := by decide +kernel
theorem dX10_yearsBy_32 : decode cX10_yearsBy 32 = .ok (.getfield 23, 3) := by decide +kernel
theorem dX10_yearsBy_35 : decode cX10_yearsBy 35 = .ok (.iconst 1, 1) := by decide +kernel
theorem dX10_yearsBy_36 : decode cX10_yearsBy 36 = .ok (.iaload, 1) := by decide +kernel
theorem dX10_yearsBy_37 : decode cX10_yearsBy 37 = .ok (.ifCond .ne 4, 3) := by decide +kernel
theorem dX10_yearsBy_40 : decode cX10_yearsBy 40 = .ok (.return_, 1) := by decide +kernel
theorem dX10_yearsBy_41 : decode cX10_yearsBy 41 = .ok (.iconst 1, 1) := by decide +kernel
theorem dX10_yearsBy_42 : decode cX10_yearsBy 42 = .ok (.istore 5, 2) := by decide +kernel
theorem dX10_yearsBy_44 : decode cX10_yearsBy 44 = .ok (.iload 5, 2) := by decide +kernel
theorem dX10_yearsBy_46 : decode cX10_yearsBy 46 = .ok (.iload_n 2, 1) := by decide +kernel
theorem dX10_yearsBy_47 : decode cX10_yearsBy 47 = .ok (.if_icmp .gt 125, 3) := by decide +kernel
theorem dX10_yearsBy_50 : decode cX10_yearsBy 50 = .ok (.aload_n 0, 1) := by decide +kernel
theorem dX10_yearsBy_51 : decode cX10_yearsBy 51 = .ok (.aload_n 0, 1) := by decide +kernel
theorem dX10_yearsBy_52 : decode cX10_yearsBy 52 = .ok (.getfield 61, 3) := by decide +kernel
theorem dX10_yearsBy_55 : decode cX10_yearsBy 55 = .ok (.bipush 42, 2) := by decide +kernel
theorem dX10_yearsBy_57 : decode cX10_yearsBy 57 = .ok (.iaload, 1) := by decide +kernel
theorem dX10_yearsBy_58 : decode cX10_yearsBy 58 = .ok (.invokevirtual 362, 3) := by decide +kernel
theorem dX10_yearsBy_61 : decode cX10_yearsBy 61 = .ok (.istore 6, 2) := by decide +kernel
theorem dX10_yearsBy_63 : decode cX10_yearsBy 63 = .ok (.aload_n 0, 1) := by decide +kernel
theorem dX10_yearsBy_64 : decode cX10_yearsBy 64 = .ok (.aload_n 0, 1) := by decide +kernel
theorem dX10_yearsBy_65 : decode cX10_yearsBy 65 = .ok (.getfield 23, 3) := by decide +kernel
theorem dX10_yearsBy_68 : decode cX10_yearsBy 68 = .ok (.iconst 1, 1) := by decide +kernel
theorem dX10_yearsBy_69 : decode cX10_yearsBy 69 = .ok (.iaload, 1) := by decide +kernel
theorem dX10_yearsBy_70 : decode cX10_yearsBy 70 = .ok (.invokevirtual 362, 3) := by decide +kernel
theorem dX10_yearsBy_73 : decode cX10_yearsBy 73 = .ok (.istore 7, 2) := by decide +kernel
theorem dX10_yearsBy_75 : decode cX10_yearsBy 75 = .ok (.aload_n 0, 1) := by decide +kernel
theorem dX10_yearsBy_76 : decode cX10_yearsBy 76 = .ok (.aload_n 0, 1) := by decide +kernel
theorem dX10_yearsBy_77 : decode cX10_yearsBy 77 = .ok (.getfield 64, 3) := by decide +kernel
theorem dX10_yearsBy_80 : decode cX10_yearsBy 80 = .ok (.iload 6, 2) := by decide +kernel
theorem dX10_yearsBy_82 : decode cX10_yearsBy 82 = .ok (.iload 7, 2) := by decide +kernel
theorem dX10_yearsBy_84 : decode cX10_yearsBy 84 = .ok (.invokevirtual 273, 3) := by decide +kernel
theorem dX10_yearsBy_87 : decode cX10_yearsBy 87 = .ok (.pop, 1) := by decide +kernel
theorem dX10_yearsBy_88 : decode cX10_yearsBy 88 = .ok (.aload_n 0, 1) := by decide +kernel
theorem dX10_yearsBy_89 : decode cX10_yearsBy 89 = .ok (.bipush 16, 2) := by decide +kernel
theorem dX10_yearsBy_91 : decode cX10_yearsBy 91 = .ok (.invokevirtual 362, 3) := by decide +kernel
theorem dX10_yearsBy_94 : decode cX10_yearsBy 94 = .ok (.iload_n 3, 1) := by decide +kernel
theorem dX10_yearsBy_95 : decode cX10_yearsBy 95 = .ok (.if_icmp .ge 36, 3) := by decide +kernel
theorem dX10_yearsBy_98 : decode cX10_yearsBy 98 = .ok (.aload_n 0, 1) := by decide +kernel
theorem dX10_yearsBy_99 : decode cX10_yearsBy 99 = .ok (.dup, 1) := by decide +kernel
theorem dX10_yearsBy_100 : decode cX10_yearsBy 100 = .ok (.getfield 359, 3) := by decide +kernel
theorem dX10_yearsBy_103 : decode cX10_yearsBy 103 = .ok (.aload_n 0, 1) := by decide +kernel
theorem dX10_yearsBy_104 : decode cX10_yearsBy 104 = .ok (.getfield 64, 3) := by decide +kernel
theorem dX10_yearsBy_107 : decode cX10_yearsBy 107 = .ok (.iload 6, 2) := by decide +kernel
theorem dX10_yearsBy_109 : decode cX10_yearsBy 109 = .ok (.aload_n 0, 1) := by decide +kernel
theorem dX10_yearsBy_110 : decode cX10_yearsBy 110 = .ok (.bipush 8, 2) := by decide +kernel
theorem dX10_yearsBy_112 : decode cX10_yearsBy 112 = .ok (.invokevirtual 362, 3) := by decide +kernel
theorem dX10_yearsBy_115 : decode cX10_yearsBy 115 = .ok (.iconst 1, 1) := by decide +kernel
theorem dX10_yearsBy_116 : decode cX10_yearsBy 116 = .ok (.invokestatic 265, 3) := by decide +kernel
theorem dX10_yearsBy_119 : decode cX10_yearsBy 119 = .ok (.ifCond .eq 7, 3) := by decide +kernel
theorem dX10_yearsBy_122 : decode cX10_yearsBy 122 = .ok (.iconst 1, 1) := by decide +kernel
theorem dX10_yearsBy_123 : decode cX10_yearsBy 123 = .ok (.goto 4, 3) := by decide +kernel
theorem dX10_yearsBy_126 : decode cX10_yearsBy 126 = .ok (.iconst 0, 1) := by decide +kernel
theorem dX10_yearsBy_127 : decode cX10_yearsBy 127 = .ok (.iadd, 1) := by decide +kernel
theorem dX10_yearsBy_128 : decode cX10_yearsBy 128 = .ok (.putfield 359, 3) := by decide +kernel
theorem dX10_yearsBy_131 : decode cX10_yearsBy 131 = .ok (.aload_n 0, 1) := by decide +kernel
theorem dX10_yearsBy_132 : decode cX10_yearsBy 132 = .ok (.bipush 16, 2) := by decide +kernel
theorem dX10_yearsBy_134 : decode cX10_yearsBy 134 = .ok (.invokevirtual 362, 3) := by decide +kernel
theorem dX10_yearsBy_137 : decode cX10_yearsBy 137 = .ok (.iload 4, 2) := by decide +kernel
theorem dX10_yearsBy_139 : decode cX10_yearsBy 139 = .ok (.if_icmp .ge 13, 3) := by decide +kernel
theorem dX10_yearsBy_142 : decode cX10_yearsBy 142 = .ok (.aload_n 0, 1) := by decide +kernel
theorem dX10_yearsBy_143 : decode cX10_yearsBy 143 = .ok (.getfield 64, 3) := by decide +kernel
theorem dX10_yearsBy_146 : decode cX10_yearsBy 146 = .ok (.iload 6, 2) := by decide +kernel
theorem dX10_yearsBy_148 : decode cX10_yearsBy 148 = .ok (.invokestatic 269, 3) := by decide +kernel
theorem dX10_yearsBy_151 : decode cX10_yearsBy 151 = .ok (.pop, 1) := by decide +kernel
theorem dX10_yearsBy_152 : decode cX10_yearsBy 152 = .ok (.iload 5, 2) := by decide +kernel
theorem dX10_yearsBy_154 : decode cX10_yearsBy 154 = .ok (.iconst 4, 1) := by decide +kernel
theorem dX10_yearsBy_155 : decode cX10_yearsBy 155 = .ok (.irem, 1) := by decide +kernel
theorem dX10_yearsBy_156 : decode cX10_yearsBy 156 = .ok (.ifCond .ne 10, 3) := by decide +kernel
theorem dX10_yearsBy_159 : decode cX10_yearsBy 159 = .ok (.aload_n 0, 1) := by decide +kernel
theorem dX10_yearsBy_160 : decode cX10_yearsBy 160 = .ok (.getfield 64, 3) := by decide +kernel
theorem dX10_yearsBy_163 : decode cX10_yearsBy 163 = .ok (.invokestatic 279, 3) := by decide +kernel
theorem dX10_yearsBy_166 : decode cX10_yearsBy 166 = .ok (.iinc 5 1, 3) := by decide +kernel
theorem dX10_yearsBy_169 : decode cX10_yearsBy 169 = .ok (.goto (-125), 3) := by decide +kernel
theorem dX10_yearsBy_172 : decode cX10_yearsBy 172 = .ok (.return_, 1) := by decide +kernel
theorem dX10_areYears_0 : decode cX10_areYears 0 = .ok (.iload_n 0, 1) := by decide +kernel
theorem dX10_areYears_1 : decode cX10_areYears 1 = .ok (.iconst 1, 1) := by decide +kernel
theorem dX10_areYears_2 : decode cX10_areYears 2 = .ok (.bipush 96, 2) := by decide +kernel
theorem dX10_areYears_4 : decode cX10_areYears 4 = .ok (.invokestatic 122, 3) := by decide +kernel
theorem dX10_areYears_7 : decode cX10_areYears 7 = .ok (.ifCond .eq 27, 3) := by decide +kernel
theorem dX10_areYears_10 : decode cX10_areYears 10 = .ok (.iload_n 1, 1) := by decide +kernel
theorem dX10_areYears_11 : decode cX10_areYears 11 = .ok (.iconst 0, 1) := by decide +kernel
theorem dX10_areYears_12 : decode cX10_areYears 12 = .ok (.bipush 16, 2) := by decide +kernel
theorem dX10_areYears_14 : decode cX10_areYears 14 = .ok (.invokestatic 122, 3) := by decide +kernel
theorem dX10_areYears_17 : decode cX10_areYears 17 = .ok (.ifCond .eq 17, 3) := by decide +kernel
theorem dX10_areYears_20 : decode cX10_areYears 20 = .ok (.iload_n 2, 1) := by decide +kernel
theorem dX10_areYears_21 : decode cX10_areYears 21 = .ok (.iconst 0, 1) := by decide +kernel
theorem dX10_areYears_22 : decode cX10_areYears 22 = .ok (.bipush 16, 2) := by decide +kernel
theorem dX10_areYears_24 : decode cX10_areYears 24 = .ok (.invokestatic 122, 3) := by decide +kernel
theorem dX10_areYears_27 : decode cX10_areYears 27 = .ok (.ifCond .eq 7, 3) := by decide +kernel
theorem dX10_areYears_30 : decode cX10_areYears 30 = .ok (.iconst 1, 1) := by decide +kernel
theorem dX10_areYears_31 : decode cX10_areYears 31 = .ok (.goto 4, 3) := by decide +kernel
theorem dX10_areYears_34 : decode cX10_areYears 34 = .ok (.iconst 0, 1) := by decide +kernel
theorem dX10_areYears_35 : decode cX10_areYears 35 = .ok (.ireturn, 1) := by decide +kernel
theorem dX10_years_0 : decode cX10_years 0 = .ok (.aload_n 0, 1) := by decide +kernel
theorem dX10_years_1 : decode cX10_years 1 = .ok (.iconst 0, 1) := by decide +kernel
theorem dX10_years_2 : decode cX10_years 2 = .ok (.putfield 88, 3) := by decide +kernel
theorem dX10_years_5 : decode cX10_years 5 = .ok (.aload_n 0, 1) := by decide +kernel
theorem dX10_years_6 : decode cX10_years 6 = .ok (.iload_n 2, 1) := by decide +kernel
theorem dX10_years_7 : decode cX10_years 7 = .ok (.iload_n 3, 1) := by decide +kernel
theorem dX10_years_8 : decode cX10_years 8 = .ok (.iload 4, 2) := by decide +kernel
theorem dX10_years_10 : decode cX10_years 10 = .ok (.invokestatic 365, 3) := by decide +kernel
theorem dX10_years_13 : decode cX10_years 13 = .ok (.ifCond .eq 13, 3) := by decide +kernel
theorem dX10_years_16 : decode cX10_years 16 = .ok (.iload 5, 2) := by decide +kernel
theorem dX10_years_18 : decode cX10_years 18 = .ok (.iconst 0, 1) := by decide +kernel
theorem dX10_years_19 : decode cX10_years 19 = .ok (.iconst 3, 1) := by decide +kernel
theorem dX10_years_20 : decode cX10_years 20 = .ok (.invokestatic 122, 3) := by decide +kernel
theorem dX10_years_23 : decode cX10_years 23 = .ok (.ifCond .ne 7, 3) := by decide +kernel
theorem dX10_years_26 : decode cX10_years 26 = .ok (.iconst 1, 1) := by decide +kernel
theorem dX10_years_27 : decode cX10_years 27 = .ok (.goto 4, 3) := by decide +kernel
theorem dX10_years_30 : decode cX10_years 30 = .ok (.iconst 0, 1) := by decide +kernel
theorem dX10_years_31 : decode cX10_years 31 = .ok (.iconst 1, 1) := by decide +kernel
theorem dX10_years_32 : decode cX10_years 32 = .ok (.iconst 1, 1) := by decide +kernel
theorem dX10_years_33 : decode cX10_years 33 = .ok (.invokevirtual 164, 3) := by decide +kernel
theorem dX10_years_36 : decode cX10_years 36 = .ok (.ifCond .eq 5, 3) := by decide +kernel
theorem dX10_years_39 : decode cX10_years 39 = .ok (.iconst 0, 1) := by decide +kernel
theorem dX10_years_40 : decode cX10_years 40 = .ok (.ireturn, 1) := by decide +kernel
theorem dX10_years_41 : decode cX10_years 41 = .ok (.aload_n 0, 1) := by decide +kernel
theorem dX10_years_42 : decode cX10_years 42 = .ok (.iload_n 1, 1) := by decide +kernel
theorem dX10_years_43 : decode cX10_years 43 = .ok (.iload_n 2, 1) := by decide +kernel
theorem dX10_years_44 : decode cX10_years 44 = .ok (.iload_n 3, 1) := by decide +kernel
theorem dX10_years_45 : decode cX10_years 45 = .ok (.iload 4, 2) := by decide +kernel
theorem dX10_years_47 : decode cX10_years 47 = .ok (.invokevirtual 368, 3) := by decide +kernel
theorem dX10_years_50 : decode cX10_years 50 = .ok (.iload 5, 2) := by decide +kernel
theorem dX10_years_52 : decode cX10_years 52 = .ok (.tableswitch 60 0 2 #[28, 44, 52], 28) := by decide +kernel
theorem dX10_years_80 : decode cX10_years 80 = .ok (.aload_n 0, 1) := by decide +kernel
theorem dX10_years_81 : decode cX10_years 81 = .ok (.getfield 64, 3) := by decide +kernel
theorem dX10_years_84 : decode cX10_years 84 = .ok (.bipush 45, 2) := by decide +kernel
theorem dX10_years_86 : decode cX10_years 86 = .ok (.iaload, 1) := by decide +kernel
theorem dX10_years_87 : decode cX10_years 87 = .ok (.aload_n 0, 1) := by decide +kernel
theorem dX10_years_88 : decode cX10_years 88 = .ok (.getfield 61, 3) := by decide +kernel
theorem dX10_years_91 : decode cX10_years 91 = .ok (.bipush 45, 2) := by decide +kernel
theorem dX10_years_93 : decode cX10_years 93 = .ok (.iaload, 1) := by decide +kernel
theorem dX10_years_94 : decode cX10_years 94 = .ok (.isub, 1) := by decide +kernel
theorem dX10_years_95 : decode cX10_years 95 = .ok (.ireturn, 1) := by decide +kernel
theorem dX10_years_96 : decode cX10_years 96 = .ok (.aload_n 0, 1) := by decide +kernel
theorem dX10_years_97 : decode cX10_years 97 = .ok (.getfield 64, 3) := by decide +kernel
theorem dX10_years_100 : decode cX10_years 100 = .ok (.bipush 43, 2) := by decide +kernel
theorem dX10_years_102 : decode cX10_years 102 = .ok (.iaload, 1) := by decide +kernel
theorem dX10_years_103 : decode cX10_years 103 = .ok (.ireturn, 1) := by decide +kernel
theorem dX10_years_104 : decode cX10_years 104 = .ok (.aload_n 0, 1) := by decide +kernel
theorem dX10_years_105 : decode cX10_years 105 = .ok (.getfield 64, 3) := by decide +kernel
theorem dX10_years_108 : decode cX10_years 108 = .ok (.invokestatic 303, 3) := by decide +kernel
theorem dX10_years_111 : decode cX10_years 111 = .ok (.ireturn, 1) := by decide +kernel
theorem dX10_years_112 : decode cX10_years 112 = .ok (.aload_n 0, 1) := by decide +kernel
theorem dX10_years_113 : decode cX10_years 113 = .ok (.getfield 359, 3) := by decide +kernel
theorem dX10_years_116 : decode cX10_years 116 = .ok (.ireturn, 1) := by decide +kernel
theorem dX10_span_0 : decode cX10_span 0 = .ok (.aload_n 0, 1) := by decide +kernel
theorem dX10_span_1 : decode cX10_span 1 = .ok (.iconst 0, 1) := by decide +kernel
theorem dX10_span_2 : decode cX10_span 2 = .ok (.putfield 88, 3) := by decide +kernel
theorem dX10_span_5 : decode cX10_span 5 = .ok (.aload_n 0, 1) := by decide +kernel
theorem dX10_span_6 : decode cX10_span 6 = .ok (.iload_n 2, 1) := by decide +kernel
theorem dX10_span_7 : decode cX10_span 7 = .ok (.iconst 1, 1) := by decide +kernel
theorem dX10_span_8 : decode cX10_span 8 = .ok (.bipush 20, 2) := by decide +kernel
theorem dX10_span_10 : decode cX10_span 10 = .ok (.invokestatic 122, 3) := by decide +kernel
theorem dX10_span_13 : decode cX10_span 13 = .ok (.ifCond .eq 33, 3) := by decide +kernel
theorem dX10_span_16 : decode cX10_span 16 = .ok (.iload_n 3, 1) := by decide +kernel
theorem dX10_span_17 : decode cX10_span 17 = .ok (.iload 4, 2) := by decide +kernel
theorem dX10_span_19 : decode cX10_span 19 = .ok (.iload 5, 2) := by decide +kernel
theorem dX10_span_21 : decode cX10_span 21 = .ok (.invokestatic 365, 3) := by decide +kernel
theorem dX10_span_24 : decode cX10_span 24 = .ok (.ifCond .eq 22, 3) := by decide +kernel
theorem dX10_span_27 : decode cX10_span 27 = .ok (.iload 6, 2) := by decide +kernel
theorem dX10_span_29 : decode cX10_span 29 = .ok (.iconst 0, 1) := by decide +kernel
theorem dX10_span_30 : decode cX10_span 30 = .ok (.iconst 2, 1) := by decide +kernel
theorem dX10_span_31 : decode cX10_span 31 = .ok (.invokestatic 122, 3) := by decide +kernel
theorem dX10_span_34 : decode cX10_span 34 = .ok (.ifCond .eq 12, 3) := by decide +kernel
theorem dX10_span_37 : decode cX10_span 37 = .ok (.aload_n 0, 1) := by decide +kernel
theorem dX10_span_38 : decode cX10_span 38 = .ok (.iload 7, 2) := by decide +kernel
theorem dX10_span_40 : decode cX10_span 40 = .ok (.invokevirtual 307, 3) := by decide +kernel
theorem dX10_span_43 : decode cX10_span 43 = .ok (.ifCond .ne 7, 3) := by decide +kernel
theorem dX10_span_46 : decode cX10_span 46 = .ok (.iconst 1, 1) := by decide +kernel
theorem dX10_span_47 : decode cX10_span 47 = .ok (.goto 4, 3) := by decide +kernel
theorem dX10_span_50 : decode cX10_span 50 = .ok (.iconst 0, 1) := by decide +kernel
theorem dX10_span_51 : decode cX10_span 51 = .ok (.iconst 1, 1) := by decide +kernel
theorem dX10_span_52 : decode cX10_span 52 = .ok (.iconst 1, 1) := by decide +kernel
theorem dX10_span_53 : decode cX10_span 53 = .ok (.invokevirtual 164, 3) := by decide +kernel
theorem dX10_span_56 : decode cX10_span 56 = .ok (.ifCond .eq 5, 3) := by decide +kernel
theorem dX10_span_59 : decode cX10_span 59 = .ok (.iconst 0, 1) := by decide +kernel
theorem dX10_span_60 : decode cX10_span 60 = .ok (.ireturn, 1) := by decide +kernel
theorem dX10_span_61 : decode cX10_span 61 = .ok (.iconst (-1), 1) := by decide +kernel
theorem dX10_span_62 : decode cX10_span 62 = .ok (.istore 8, 2) := by decide +kernel
theorem dX10_span_64 : decode cX10_span 64 = .ok (.iconst 0, 1) := by decide +kernel
theorem dX10_span_65 : decode cX10_span 65 = .ok (.istore 9, 2) := by decide +kernel
theorem dX10_span_67 : decode cX10_span 67 = .ok (.iconst 0, 1) := by decide +kernel
theorem dX10_span_68 : decode cX10_span 68 = .ok (.istore 10, 2) := by decide +kernel
theorem dX10_span_70 : decode cX10_span 70 = .ok (.iconst 0, 1) := by decide +kernel
theorem dX10_span_71 : decode cX10_span 71 = .ok (.istore 11, 2) := by decide +kernel
theorem dX10_span_73 : decode cX10_span 73 = .ok (.iload 11, 2) := by decide +kernel
theorem dX10_span_75 : decode cX10_span 75 = .ok (.iload_n 2, 1) := by decide +kernel
theorem dX10_span_76 : decode cX10_span 76 = .ok (.if_icmp .ge 93, 3) := by decide +kernel
theorem dX10_span_79 : decode cX10_span 79 = .ok (.aload_n 0, 1) := by decide +kernel
theorem dX10_span_80 : decode cX10_span 80 = .ok (.iload_n 1, 1) := by decide +kernel
theorem dX10_span_81 : decode cX10_span 81 = .ok (.iload 11, 2) := by decide +kernel
theorem dX10_span_83 : decode cX10_span 83 = .ok (.iadd, 1) := by decide +kernel
theorem dX10_span_84 : decode cX10_span 84 = .ok (.iload_n 3, 1) := by decide +kernel
theorem dX10_span_85 : decode cX10_span 85 = .ok (.iload 4, 2) := by decide +kernel
theorem dX10_span_87 : decode cX10_span 87 = .ok (.iload 5, 2) := by decide +kernel
theorem dX10_span_89 : decode cX10_span 89 = .ok (.invokevirtual 368, 3) := by decide +kernel
theorem dX10_span_92 : decode cX10_span 92 = .ok (.aload_n 0, 1) := by decide +kernel
theorem dX10_span_93 : decode cX10_span 93 = .ok (.getfield 64, 3) := by decide +kernel
theorem dX10_span_96 : decode cX10_span 96 = .ok (.bipush 45, 2) := by decide +kernel
theorem dX10_span_98 : decode cX10_span 98 = .ok (.iaload, 1) := by decide +kernel
theorem dX10_span_99 : decode cX10_span 99 = .ok (.aload_n 0, 1) := by decide +kernel
theorem dX10_span_100 : decode cX10_span 100 = .ok (.getfield 61, 3) := by decide +kernel
theorem dX10_span_103 : decode cX10_span 103 = .ok (.bipush 45, 2) := by decide +kernel
theorem dX10_span_105 : decode cX10_span 105 = .ok (.iaload, 1) := by decide +kernel
theorem dX10_span_106 : decode cX10_span 106 = .ok (.isub, 1) := by decide +kernel
theorem dX10_span_107 : decode cX10_span 107 = .ok (.istore 12, 2) := by decide +kernel
theorem dX10_span_109 : decode cX10_span 109 = .ok (.iload 8, 2) := by decide +kernel
theorem dX10_span_111 : decode cX10_span 111 = .ok (.iconst (-1), 1) := by decide +kernel
theorem dX10_span_112 : decode cX10_span 112 = .ok (.if_icmp .ne 8, 3) := by decide +kernel
theorem dX10_span_115 : decode cX10_span 115 = .ok (.iload 12, 2) := by decide +kernel
theorem dX10_span_117 : decode cX10_span 117 = .ok (.goto 10, 3) := by decide +kernel
theorem dX10_span_120 : decode cX10_span 120 = .ok (.iload 8, 2) := by decide +kernel
theorem dX10_span_122 : decode cX10_span 122 = .ok (.iload 12, 2) := by decide +kernel
theorem dX10_span_124 : decode cX10_span 124 = .ok (.invokestatic 221, 3) := by decide +kernel
theorem dX10_span_127 : decode cX10_span 127 = .ok (.istore 8, 2) := by decide +kernel
theorem dX10_span_129 : decode cX10_span 129 = .ok (.iload 9, 2) := by decide +kernel
theorem dX10_span_131 : decode cX10_span 131 = .ok (.iload 12, 2) := by decide +kernel
theorem dX10_span_133 : decode cX10_span 133 = .ok (.invokestatic 224, 3) := by decide +kernel
theorem dX10_span_136 : decode cX10_span 136 = .ok (.istore 9, 2) := by decide +kernel
theorem dX10_span_138 : decode cX10_span 138 = .ok (.iload 10, 2) := by decide +kernel
theorem dX10_span_140 : decode cX10_span 140 = .ok (.aload_n 0, 1) := by decide +kernel
theorem dX10_span_141 : decode cX10_span 141 = .ok (.getfield 64, 3) := by decide +kernel
theorem dX10_span_144 : decode cX10_span 144 = .ok (.invokestatic 303, 3) := by decide +kernel
theorem dX10_span_147 : decode cX10_span 147 = .ok (.iload 7, 2) := by decide +kernel
theorem dX10_span_149 : decode cX10_span 149 = .ok (.invokestatic 322, 3) := by decide +kernel
theorem dX10_span_152 : decode cX10_span 152 = .ok (.ifCond .eq 7, 3) := by decide +kernel
theorem dX10_span_155 : decode cX10_span 155 = .ok (.iconst 0, 1) := by decide +kernel
theorem dX10_span_156 : decode cX10_span 156 = .ok (.goto 4, 3) := by decide +kernel
theorem dX10_span_159 : decode cX10_span 159 = .ok (.iconst 1, 1) := by decide +kernel
theorem dX10_span_160 : decode cX10_span 160 = .ok (.iadd, 1) := by decide +kernel
theorem dX10_span_161 : decode cX10_span 161 = .ok (.istore 10, 2) := by decide +kernel
theorem dX10_span_163 : decode cX10_span 163 = .ok (.iinc 11 1, 3) := by decide +kernel
theorem dX10_span_166 : decode cX10_span 166 = .ok (.goto (-93), 3) := by decide +kernel
theorem dX10_span_169 : decode cX10_span 169 = .ok (.iload 6, 2) := by decide +kernel
theorem dX10_span_171 : decode cX10_span 171 = .ok (.ifCond .ne 8, 3) := by decide +kernel
theorem dX10_span_174 : decode cX10_span 174 = .ok (.iload 8, 2) := by decide +kernel
theorem dX10_span_176 : decode cX10_span 176 = .ok (.goto 16, 3) := by decide +kernel
theorem dX10_span_179 : decode cX10_span 179 = .ok (.iload 6, 2) := by decide +kernel
theorem dX10_span_181 : decode cX10_span 181 = .ok (.iconst 1, 1) := by decide +kernel
theorem dX10_span_182 : decode cX10_span 182 = .ok (.if_icmp .ne 8, 3) := by decide +kernel
theorem dX10_span_185 : decode cX10_span 185 = .ok (.iload 9, 2) := by decide +kernel
theorem dX10_span_187 : decode cX10_span 187 = .ok (.goto 5, 3) := by decide +kernel
theorem dX10_span_190 : decode cX10_span 190 = .ok (.iload 10, 2) := by decide +kernel
theorem dX10_span_192 : decode cX10_span 192 = .ok (.ireturn, 1) := by decide +kernel
theorem dX10_puts_0 : decode cX10_puts 0 = .ok (.iload_n 3, 1) := by decide +kernel
theorem dX10_puts_1 : decode cX10_puts 1 = .ok (.ifCond .ne 10, 3) := by decide +kernel
theorem dX10_puts_4 : decode cX10_puts 4 = .ok (.aload_n 1, 1) := by decide +kernel
theorem dX10_puts_5 : decode cX10_puts 5 = .ok (.aload_n 0, 1) := by decide +kernel
theorem dX10_puts_6 : decode cX10_puts 6 = .ok (.getfield 372, 3) := by decide +kernel
theorem dX10_puts_9 : decode cX10_puts 9 = .ok (.iload_n 2, 1) := by decide +kernel
theorem dX10_puts_10 : decode cX10_puts 10 = .ok (.iastore, 1) := by decide +kernel
theorem dX10_puts_11 : decode cX10_puts 11 = .ok (.aload_n 0, 1) := by decide +kernel
theorem dX10_puts_12 : decode cX10_puts 12 = .ok (.dup, 1) := by decide +kernel
theorem dX10_puts_13 : decode cX10_puts 13 = .ok (.getfield 372, 3) := by decide +kernel
theorem dX10_puts_16 : decode cX10_puts 16 = .ok (.iconst 1, 1) := by decide +kernel
theorem dX10_puts_17 : decode cX10_puts 17 = .ok (.iadd, 1) := by decide +kernel
theorem dX10_puts_18 : decode cX10_puts 18 = .ok (.putfield 372, 3) := by decide +kernel
theorem dX10_puts_21 : decode cX10_puts 21 = .ok (.aload_n 1, 1) := by decide +kernel
theorem dX10_puts_22 : decode cX10_puts 22 = .ok (.aload_n 0, 1) := by decide +kernel
theorem dX10_puts_23 : decode cX10_puts 23 = .ok (.getfield 372, 3) := by decide +kernel
theorem dX10_puts_26 : decode cX10_puts 26 = .ok (.iconst 1, 1) := by decide +kernel
theorem dX10_puts_27 : decode cX10_puts 27 = .ok (.isub, 1) := by decide +kernel
theorem dX10_puts_28 : decode cX10_puts 28 = .ok (.iaload, 1) := by decide +kernel
theorem dX10_puts_29 : decode cX10_puts 29 = .ok (.ireturn, 1) := by decide +kernel
theorem dX10_putsAll_0 : decode cX10_putsAll 0 = .ok (.aload_n 0, 1) := by decide +kernel
theorem dX10_putsAll_1 : decode cX10_putsAll 1 = .ok (.iconst 0, 1) := by decide +kernel
theorem dX10_putsAll_2 : decode cX10_putsAll 2 = .ok (.putfield 372, 3) := by decide +kernel
theorem dX10_putsAll_5 : decode cX10_putsAll 5 = .ok (.aload_n 0, 1) := by decide +kernel
theorem dX10_putsAll_6 : decode cX10_putsAll 6 = .ok (.aload_n 0, 1) := by decide +kernel
theorem dX10_putsAll_7 : decode cX10_putsAll 7 = .ok (.aload_n 1, 1) := by decide +kernel
theorem dX10_putsAll_8 : decode cX10_putsAll 8 = .ok (.aload_n 0, 1) := by decide +kernel
theorem dX10_putsAll_9 : decode cX10_putsAll 9 = .ok (.getfield 184, 3) := by decide +kernel
theorem dX10_putsAll_12 : decode cX10_putsAll 12 = .ok (.iload_n 2, 1) := by decide +kernel
theorem dX10_putsAll_13 : decode cX10_putsAll 13 = .ok (.invokevirtual 375, 3) := by decide +kernel
theorem dX10_putsAll_16 : decode cX10_putsAll 16 = .ok (.putfield 184, 3) := by decide +kernel
theorem dX10_putsAll_19 : decode cX10_putsAll 19 = .ok (.iconst 0, 1) := by decide +kernel
theorem dX10_putsAll_20 : decode cX10_putsAll 20 = .ok (.istore_n 3, 1) := by decide +kernel
theorem dX10_putsAll_21 : decode cX10_putsAll 21 = .ok (.iload_n 3, 1) := by decide +kernel
theorem dX10_putsAll_22 : decode cX10_putsAll 22 = .ok (.bipush 46, 2) := by decide +kernel
theorem dX10_putsAll_24 : decode cX10_putsAll 24 = .ok (.if_icmp .ge 27, 3) := by decide +kernel
theorem dX10_putsAll_27 : decode cX10_putsAll 27 = .ok (.aload_n 0, 1) := by decide +kernel
theorem dX10_putsAll_28 : decode cX10_putsAll 28 = .ok (.getfield 61, 3) := by decide +kernel
theorem dX10_putsAll_31 : decode cX10_putsAll 31 = .ok (.iload_n 3, 1) := by decide +kernel
theorem dX10_putsAll_32 : decode cX10_putsAll 32 = .ok (.aload_n 0, 1) := by decide +kernel
theorem dX10_putsAll_33 : decode cX10_putsAll 33 = .ok (.aload_n 1, 1) := by decide +kernel
theorem dX10_putsAll_34 : decode cX10_putsAll 34 = .ok (.aload_n 0, 1) := by decide +kernel
theorem dX10_putsAll_35 : decode cX10_putsAll 35 = .ok (.getfield 61, 3) := by decide +kernel
theorem dX10_putsAll_38 : decode cX10_putsAll 38 = .ok (.iload_n 3, 1) := by decide +kernel
theorem dX10_putsAll_39 : decode cX10_putsAll 39 = .ok (.iaload, 1) := by decide +kernel
theorem dX10_putsAll_40 : decode cX10_putsAll 40 = .ok (.iload_n 2, 1) := by decide +kernel
theorem dX10_putsAll_41 : decode cX10_putsAll 41 = .ok (.invokevirtual 375, 3) := by decide +kernel
theorem dX10_putsAll_44 : decode cX10_putsAll 44 = .ok (.iastore, 1) := by decide +kernel
theorem dX10_putsAll_45 : decode cX10_putsAll 45 = .ok (.iinc 3 1, 3) := by decide +kernel
theorem dX10_putsAll_48 : decode cX10_putsAll 48 = .ok (.goto (-27), 3) := by decide +kernel
theorem dX10_putsAll_51 : decode cX10_putsAll 51 = .ok (.iconst 0, 1) := by decide +kernel
theorem dX10_putsAll_52 : decode cX10_putsAll 52 = .ok (.istore_n 3, 1) := by decide +kernel
theorem dX10_putsAll_53 : decode cX10_putsAll 53 = .ok (.iload_n 3, 1) := by decide +kernel
theorem dX10_putsAll_54 : decode cX10_putsAll 54 = .ok (.bipush 16, 2) := by decide +kernel
theorem dX10_putsAll_56 : decode cX10_putsAll 56 = .ok (.if_icmp .ge 49, 3) := by decide +kernel
theorem dX10_putsAll_59 : decode cX10_putsAll 59 = .ok (.iconst 0, 1) := by decide +kernel
theorem dX10_putsAll_60 : decode cX10_putsAll 60 = .ok (.istore 4, 2) := by decide +kernel
theorem dX10_putsAll_62 : decode cX10_putsAll 62 = .ok (.iload 4, 2) := by decide +kernel
theorem dX10_putsAll_64 : decode cX10_putsAll 64 = .ok (.bipush 46, 2) := by decide +kernel
theorem dX10_putsAll_66 : decode cX10_putsAll 66 = .ok (.if_icmp .ge 33, 3) := by decide +kernel
theorem dX10_putsAll_69 : decode cX10_putsAll 69 = .ok (.aload_n 0, 1) := by decide +kernel
theorem dX10_putsAll_70 : decode cX10_putsAll 70 = .ok (.getfield 67, 3) := by decide +kernel
theorem dX10_putsAll_73 : decode cX10_putsAll 73 = .ok (.iload_n 3, 1) := by decide +kernel
theorem dX10_putsAll_74 : decode cX10_putsAll 74 = .ok (.aaload, 1) := by decide +kernel
theorem dX10_putsAll_75 : decode cX10_putsAll 75 = .ok (.iload 4, 2) := by decide +kernel
theorem dX10_putsAll_77 : decode cX10_putsAll 77 = .ok (.aload_n 0, 1) := by decide +kernel
theorem dX10_putsAll_78 : decode cX10_putsAll 78 = .ok (.aload_n 1, 1) := by decide +kernel
theorem dX10_putsAll_79 : decode cX10_putsAll 79 = .ok (.aload_n 0, 1) := by decide +kernel
theorem dX10_putsAll_80 : decode cX10_putsAll 80 = .ok (.getfield 67, 3) := by decide +kernel
theorem dX10_putsAll_83 : decode cX10_putsAll 83 = .ok (.iload_n 3, 1) := by decide +kernel
theorem dX10_putsAll_84 : decode cX10_putsAll 84 = .ok (.aaload, 1) := by decide +kernel
theorem dX10_putsAll_85 : decode cX10_putsAll 85 = .ok (.iload 4, 2) := by decide +kernel
theorem dX10_putsAll_87 : decode cX10_putsAll 87 = .ok (.iaload, 1) := by decide +kernel
theorem dX10_putsAll_88 : decode cX10_putsAll 88 = .ok (.iload_n 2, 1) := by decide +kernel
theorem dX10_putsAll_89 : decode cX10_putsAll 89 = .ok (.invokevirtual 375, 3) := by decide +kernel
theorem dX10_putsAll_92 : decode cX10_putsAll 92 = .ok (.iastore, 1) := by decide +kernel
theorem dX10_putsAll_93 : decode cX10_putsAll 93 = .ok (.iinc 4 1, 3) := by decide +kernel
theorem dX10_putsAll_96 : decode cX10_putsAll 96 = .ok (.goto (-34), 3) := by decide +kernel
theorem dX10_putsAll_99 : decode cX10_putsAll 99 = .ok (.iinc 3 1, 3) := by decide +kernel
theorem dX10_putsAll_102 : decode cX10_putsAll 102 = .ok (.goto (-49), 3) := by decide +kernel
theorem dX10_putsAll_105 : decode cX10_putsAll 105 = .ok (.return_, 1) := by decide +kernel
theorem dX10_image_0 : decode cX10_image 0 = .ok (.aload_n 0, 1) := by decide +kernel
theorem dX10_image_1 : decode cX10_image 1 = .ok (.iconst 0, 1) := by decide +kernel
theorem dX10_image_2 : decode cX10_image 2 = .ok (.putfield 88, 3) := by decide +kernel
theorem dX10_image_5 : decode cX10_image 5 = .ok (.aload_n 0, 1) := by decide +kernel
theorem dX10_image_6 : decode cX10_image 6 = .ok (.getfield 190, 3) := by decide +kernel
theorem dX10_image_9 : decode cX10_image 9 = .ok (.iconst 3, 1) := by decide +kernel
theorem dX10_image_10 : decode cX10_image 10 = .ok (.if_icmp .ne 5, 3) := by decide +kernel
theorem dX10_image_13 : decode cX10_image 13 = .ok (.iconst (-1), 1) := by decide +kernel
theorem dX10_image_14 : decode cX10_image 14 = .ok (.ireturn, 1) := by decide +kernel
theorem dX10_image_15 : decode cX10_image 15 = .ok (.aload_n 0, 1) := by decide +kernel
theorem dX10_image_16 : decode cX10_image 16 = .ok (.aload_n 0, 1) := by decide +kernel
theorem dX10_image_17 : decode cX10_image 17 = .ok (.getfield 70, 3) := by decide +kernel
theorem dX10_image_20 : decode cX10_image 20 = .ok (.aload_n 0, 1) := by decide +kernel
theorem dX10_image_21 : decode cX10_image 21 = .ok (.getfield 190, 3) := by decide +kernel
theorem dX10_image_24 : decode cX10_image 24 = .ok (.aaload, 1) := by decide +kernel
theorem dX10_image_25 : decode cX10_image 25 = .ok (.iconst 0, 1) := by decide +kernel
theorem dX10_image_26 : decode cX10_image 26 = .ok (.invokevirtual 379, 3) := by decide +kernel
theorem dX10_image_29 : decode cX10_image 29 = .ok (.aload_n 0, 1) := by decide +kernel
theorem dX10_image_30 : decode cX10_image 30 = .ok (.dup, 1) := by decide +kernel
theorem dX10_image_31 : decode cX10_image 31 = .ok (.getfield 190, 3) := by decide +kernel
theorem dX10_image_34 : decode cX10_image 34 = .ok (.iconst 1, 1) := by decide +kernel
theorem dX10_image_35 : decode cX10_image 35 = .ok (.iadd, 1) := by decide +kernel
theorem dX10_image_36 : decode cX10_image 36 = .ok (.putfield 190, 3) := by decide +kernel
theorem dX10_image_39 : decode cX10_image 39 = .ok (.aload_n 0, 1) := by decide +kernel
theorem dX10_image_40 : decode cX10_image 40 = .ok (.getfield 190, 3) := by decide +kernel
theorem dX10_image_43 : decode cX10_image 43 = .ok (.ireturn, 1) := by decide +kernel
theorem dX10_restore_0 : decode cX10_restore 0 = .ok (.aload_n 0, 1) := by decide +kernel
theorem dX10_restore_1 : decode cX10_restore 1 = .ok (.iconst 0, 1) := by decide +kernel
theorem dX10_restore_2 : decode cX10_restore 2 = .ok (.putfield 88, 3) := by decide +kernel
theorem dX10_restore_5 : decode cX10_restore 5 = .ok (.aload_n 0, 1) := by decide +kernel
theorem dX10_restore_6 : decode cX10_restore 6 = .ok (.getfield 190, 3) := by decide +kernel
theorem dX10_restore_9 : decode cX10_restore 9 = .ok (.ifCond .ne 5, 3) := by decide +kernel
theorem dX10_restore_12 : decode cX10_restore 12 = .ok (.iconst (-1), 1) := by decide +kernel
theorem dX10_restore_13 : decode cX10_restore 13 = .ok (.ireturn, 1) := by decide +kernel
theorem dX10_restore_14 : decode cX10_restore 14 = .ok (.aload_n 0, 1) := by decide +kernel
theorem dX10_restore_15 : decode cX10_restore 15 = .ok (.dup, 1) := by decide +kernel
theorem dX10_restore_16 : decode cX10_restore 16 = .ok (.getfield 190, 3) := by decide +kernel
theorem dX10_restore_19 : decode cX10_restore 19 = .ok (.iconst 1, 1) := by decide +kernel
theorem dX10_restore_20 : decode cX10_restore 20 = .ok (.isub, 1) := by decide +kernel
theorem dX10_restore_21 : decode cX10_restore 21 = .ok (.putfield 190, 3) := by decide +kernel
theorem dX10_restore_24 : decode cX10_restore 24 = .ok (.aload_n 0, 1) := by decide +kernel
theorem dX10_restore_25 : decode cX10_restore 25 = .ok (.aload_n 0, 1) := by decide +kernel
theorem dX10_restore_26 : decode cX10_restore 26 = .ok (.getfield 70, 3) := by decide +kernel
theorem dX10_restore_29 : decode cX10_restore 29 = .ok (.aload_n 0, 1) := by decide +kernel
theorem dX10_restore_30 : decode cX10_restore 30 = .ok (.getfield 190, 3) := by decide +kernel
theorem dX10_restore_33 : decode cX10_restore 33 = .ok (.aaload, 1) := by decide +kernel
theorem dX10_restore_34 : decode cX10_restore 34 = .ok (.iconst 1, 1) := by decide +kernel
theorem dX10_restore_35 : decode cX10_restore 35 = .ok (.invokevirtual 379, 3) := by decide +kernel
theorem dX10_restore_38 : decode cX10_restore 38 = .ok (.aload_n 0, 1) := by decide +kernel
theorem dX10_restore_39 : decode cX10_restore 39 = .ok (.iconst 0, 1) := by decide +kernel
theorem dX10_restore_40 : decode cX10_restore 40 = .ok (.putfield 187, 3) := by decide +kernel
theorem dX10_restore_43 : decode cX10_restore 43 = .ok (.aload_n 0, 1) := by decide +kernel
theorem dX10_restore_44 : decode cX10_restore 44 = .ok (.getfield 190, 3) := by decide +kernel
theorem dX10_restore_47 : decode cX10_restore 47 = .ok (.ireturn, 1) := by decide +kernel
theorem dX10_status_0 : decode cX10_status 0 = .ok (.aload_n 0, 1) := by decide +kernel
theorem dX10_status_1 : decode cX10_status 1 = .ok (.iconst 0, 1) := by decide +kernel
theorem dX10_status_2 : decode cX10_status 2 = .ok (.putfield 88, 3) := by decide +kernel
theorem dX10_status_5 : decode cX10_status 5 = .ok (.iload_n 1, 1) := by decide +kernel
theorem dX10_status_6 : decode cX10_status 6 = .ok (.iconst 0, 1) := by decide +kernel
theorem dX10_status_7 : decode cX10_status 7 = .ok (.iconst 1, 1) := by decide +kernel
theorem dX10_status_8 : decode cX10_status 8 = .ok (.invokestatic 122, 3) := by decide +kernel
theorem dX10_status_11 : decode cX10_status 11 = .ok (.ifCond .eq 12, 3) := by decide +kernel
theorem dX10_status_14 : decode cX10_status 14 = .ok (.aload_n 0, 1) := by decide +kernel
theorem dX10_status_15 : decode cX10_status 15 = .ok (.getfield 17, 3) := by decide +kernel
theorem dX10_status_18 : decode cX10_status 18 = .ok (.iload_n 1, 1) := by decide +kernel
theorem dX10_status_19 : decode cX10_status 19 = .ok (.iaload, 1) := by decide +kernel
theorem dX10_status_20 : decode cX10_status 20 = .ok (.goto 4, 3) := by decide +kernel
theorem dX10_status_23 : decode cX10_status 23 = .ok (.iconst (-1), 1) := by decide +kernel
theorem dX10_status_24 : decode cX10_status 24 = .ok (.ireturn, 1) := by decide +kernel
theorem dX10_count_0 : decode cX10_count 0 = .ok (.aload_n 0, 1) := by decide +kernel
theorem dX10_count_1 : decode cX10_count 1 = .ok (.iconst 0, 1) := by decide +kernel
theorem dX10_count_2 : decode cX10_count 2 = .ok (.putfield 88, 3) := by decide +kernel
theorem dX10_count_5 : decode cX10_count 5 = .ok (.iload_n 1, 1) := by decide +kernel
theorem dX10_count_6 : decode cX10_count 6 = .ok (.ifCond .ne 10, 3) := by decide +kernel
theorem dX10_count_9 : decode cX10_count 9 = .ok (.aload_n 0, 1) := by decide +kernel
theorem dX10_count_10 : decode cX10_count 10 = .ok (.getfield 190, 3) := by decide +kernel
theorem dX10_count_13 : decode cX10_count 13 = .ok (.goto 28, 3) := by decide +kernel
theorem dX10_count_16 : decode cX10_count 16 = .ok (.iload_n 1, 1) := by decide +kernel
theorem dX10_count_17 : decode cX10_count 17 = .ok (.iconst 1, 1) := by decide +kernel
theorem dX10_count_18 : decode cX10_count 18 = .ok (.if_icmp .ne 10, 3) := by decide +kernel
theorem dX10_count_21 : decode cX10_count 21 = .ok (.aload_n 0, 1) := by decide +kernel
theorem dX10_count_22 : decode cX10_count 22 = .ok (.getfield 91, 3) := by decide +kernel
theorem dX10_count_25 : decode cX10_count 25 = .ok (.goto 16, 3) := by decide +kernel
theorem dX10_count_28 : decode cX10_count 28 = .ok (.iload_n 1, 1) := by decide +kernel
theorem dX10_count_29 : decode cX10_count 29 = .ok (.iconst 2, 1) := by decide +kernel
theorem dX10_count_30 : decode cX10_count 30 = .ok (.if_icmp .ne 10, 3) := by decide +kernel
theorem dX10_count_33 : decode cX10_count 33 = .ok (.aload_n 0, 1) := by decide +kernel
theorem dX10_count_34 : decode cX10_count 34 = .ok (.getfield 184, 3) := by decide +kernel
theorem dX10_count_37 : decode cX10_count 37 = .ok (.goto 4, 3) := by decide +kernel
theorem dX10_count_40 : decode cX10_count 40 = .ok (.iconst (-1), 1) := by decide +kernel
theorem dX10_count_41 : decode cX10_count 41 = .ok (.ireturn, 1) := by decide +kernel
