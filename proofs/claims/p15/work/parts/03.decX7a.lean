theorem dX7_init_0 : decode cX7_init 0 = .ok (.aload_n 0, 1) := by decide +kernel
theorem dX7_init_1 : decode cX7_init 1 = .ok (.invokespecial 1, 3) := by decide +kernel
theorem dX7_init_4 : decode cX7_init 4 = .ok (.aload_n 0, 1) := by decide +kernel
theorem dX7_init_5 : decode cX7_init 5 = .ok (.sipush 800, 3) := by decide +kernel
theorem dX7_init_8 : decode cX7_init 8 = .ok (.newarray .int, 2) := by decide +kernel
theorem dX7_init_10 : decode cX7_init 10 = .ok (.putfield 7, 3) := by decide +kernel
theorem dX7_init_13 : decode cX7_init 13 = .ok (.aload_n 0, 1) := by decide +kernel
theorem dX7_init_14 : decode cX7_init 14 = .ok (.iconst (-1), 1) := by decide +kernel
theorem dX7_init_15 : decode cX7_init 15 = .ok (.putfield 13, 3) := by decide +kernel
theorem dX7_init_18 : decode cX7_init 18 = .ok (.aload_n 0, 1) := by decide +kernel
theorem dX7_init_19 : decode cX7_init 19 = .ok (.bipush 8, 2) := by decide +kernel
theorem dX7_init_21 : decode cX7_init 21 = .ok (.newarray .int, 2) := by decide +kernel
theorem dX7_init_23 : decode cX7_init 23 = .ok (.putfield 17, 3) := by decide +kernel
theorem dX7_init_26 : decode cX7_init 26 = .ok (.aload_n 0, 1) := by decide +kernel
theorem dX7_init_27 : decode cX7_init 27 = .ok (.bipush 8, 2) := by decide +kernel
theorem dX7_init_29 : decode cX7_init 29 = .ok (.newarray .int, 2) := by decide +kernel
theorem dX7_init_31 : decode cX7_init 31 = .ok (.putfield 20, 3) := by decide +kernel
theorem dX7_init_34 : decode cX7_init 34 = .ok (.aload_n 0, 1) := by decide +kernel
theorem dX7_init_35 : decode cX7_init 35 = .ok (.sipush 2400, 3) := by decide +kernel
theorem dX7_init_38 : decode cX7_init 38 = .ok (.newarray .int, 2) := by decide +kernel
theorem dX7_init_40 : decode cX7_init 40 = .ok (.putfield 23, 3) := by decide +kernel
theorem dX7_init_43 : decode cX7_init 43 = .ok (.aload_n 0, 1) := by decide +kernel
theorem dX7_init_44 : decode cX7_init 44 = .ok (.sipush 300, 3) := by decide +kernel
theorem dX7_init_47 : decode cX7_init 47 = .ok (.newarray .int, 2) := by decide +kernel
theorem dX7_init_49 : decode cX7_init 49 = .ok (.putfield 26, 3) := by decide +kernel
theorem dX7_init_52 : decode cX7_init 52 = .ok (.aload_n 0, 1) := by decide +kernel
theorem dX7_init_53 : decode cX7_init 53 = .ok (.bipush 9, 2) := by decide +kernel
theorem dX7_init_55 : decode cX7_init 55 = .ok (.newarray .int, 2) := by decide +kernel
theorem dX7_init_57 : decode cX7_init 57 = .ok (.putfield 29, 3) := by decide +kernel
theorem dX7_init_60 : decode cX7_init 60 = .ok (.aload_n 0, 1) := by decide +kernel
theorem dX7_init_61 : decode cX7_init 61 = .ok (.bipush 9, 2) := by decide +kernel
theorem dX7_init_63 : decode cX7_init 63 = .ok (.newarray .int, 2) := by decide +kernel
theorem dX7_init_65 : decode cX7_init 65 = .ok (.putfield 32, 3) := by decide +kernel
theorem dX7_init_68 : decode cX7_init 68 = .ok (.aload_n 0, 1) := by decide +kernel
theorem dX7_init_69 : decode cX7_init 69 = .ok (.sipush 4808, 3) := by decide +kernel
theorem dX7_init_72 : decode cX7_init 72 = .ok (.newarray .int, 2) := by decide +kernel
theorem dX7_init_74 : decode cX7_init 74 = .ok (.putfield 35, 3) := by decide +kernel
theorem dX7_init_77 : decode cX7_init 77 = .ok (.aload_n 0, 1) := by decide +kernel
theorem dX7_init_78 : decode cX7_init 78 = .ok (.bipush 8, 2) := by decide +kernel
theorem dX7_init_80 : decode cX7_init 80 = .ok (.newarray .int, 2) := by decide +kernel
theorem dX7_init_82 : decode cX7_init 82 = .ok (.putfield 38, 3) := by decide +kernel
theorem dX7_init_85 : decode cX7_init 85 = .ok (.aload_n 0, 1) := by decide +kernel
theorem dX7_init_86 : decode cX7_init 86 = .ok (.sipush 4808, 3) := by decide +kernel
theorem dX7_init_89 : decode cX7_init 89 = .ok (.newarray .int, 2) := by decide +kernel
theorem dX7_init_91 : decode cX7_init 91 = .ok (.putfield 41, 3) := by decide +kernel
theorem dX7_init_94 : decode cX7_init 94 = .ok (.aload_n 0, 1) := by decide +kernel
theorem dX7_init_95 : decode cX7_init 95 = .ok (.bipush 8, 2) := by decide +kernel
theorem dX7_init_97 : decode cX7_init 97 = .ok (.newarray .int, 2) := by decide +kernel
theorem dX7_init_99 : decode cX7_init 99 = .ok (.putfield 44, 3) := by decide +kernel
theorem dX7_init_102 : decode cX7_init 102 = .ok (.aload_n 0, 1) := by decide +kernel
theorem dX7_init_103 : decode cX7_init 103 = .ok (.bipush 8, 2) := by decide +kernel
theorem dX7_init_105 : decode cX7_init 105 = .ok (.newarray .int, 2) := by decide +kernel
theorem dX7_init_107 : decode cX7_init 107 = .ok (.putfield 47, 3) := by decide +kernel
theorem dX7_init_110 : decode cX7_init 110 = .ok (.aload_n 0, 1) := by decide +kernel
theorem dX7_init_111 : decode cX7_init 111 = .ok (.sipush 300, 3) := by decide +kernel
theorem dX7_init_114 : decode cX7_init 114 = .ok (.newarray .int, 2) := by decide +kernel
theorem dX7_init_116 : decode cX7_init 116 = .ok (.putfield 50, 3) := by decide +kernel
theorem dX7_init_119 : decode cX7_init 119 = .ok (.aload_n 0, 1) := by decide +kernel
theorem dX7_init_120 : decode cX7_init 120 = .ok (.bipush 40, 2) := by decide +kernel
theorem dX7_init_122 : decode cX7_init 122 = .ok (.newarray .int, 2) := by decide +kernel
theorem dX7_init_124 : decode cX7_init 124 = .ok (.putfield 53, 3) := by decide +kernel
theorem dX7_init_127 : decode cX7_init 127 = .ok (.aload_n 0, 1) := by decide +kernel
theorem dX7_init_128 : decode cX7_init 128 = .ok (.bipush 40, 2) := by decide +kernel
theorem dX7_init_130 : decode cX7_init 130 = .ok (.newarray .int, 2) := by decide +kernel
theorem dX7_init_132 : decode cX7_init 132 = .ok (.putfield 56, 3) := by decide +kernel
theorem dX7_init_135 : decode cX7_init 135 = .ok (.aload_n 0, 1) := by decide +kernel
theorem dX7_init_136 : decode cX7_init 136 = .ok (.bipush 40, 2) := by decide +kernel
theorem dX7_init_138 : decode cX7_init 138 = .ok (.newarray .int, 2) := by decide +kernel
theorem dX7_init_140 : decode cX7_init 140 = .ok (.putfield 59, 3) := by decide +kernel
theorem dX7_init_143 : decode cX7_init 143 = .ok (.aload_n 0, 1) := by decide +kernel
theorem dX7_init_144 : decode cX7_init 144 = .ok (.bipush 60, 2) := by decide +kernel
theorem dX7_init_146 : decode cX7_init 146 = .ok (.newarray .int, 2) := by decide +kernel
theorem dX7_init_148 : decode cX7_init 148 = .ok (.putfield 62, 3) := by decide +kernel
theorem dX7_init_151 : decode cX7_init 151 = .ok (.aload_n 0, 1) := by decide +kernel
theorem dX7_init_152 : decode cX7_init 152 = .ok (.bipush 60, 2) := by decide +kernel
theorem dX7_init_154 : decode cX7_init 154 = .ok (.newarray .int, 2) := by decide +kernel
theorem dX7_init_156 : decode cX7_init 156 = .ok (.putfield 65, 3) := by decide +kernel
theorem dX7_init_159 : decode cX7_init 159 = .ok (.aload_n 0, 1) := by decide +kernel
theorem dX7_init_160 : decode cX7_init 160 = .ok (.bipush 60, 2) := by decide +kernel
theorem dX7_init_162 : decode cX7_init 162 = .ok (.newarray .int, 2) := by decide +kernel
theorem dX7_init_164 : decode cX7_init 164 = .ok (.putfield 68, 3) := by decide +kernel
theorem dX7_init_167 : decode cX7_init 167 = .ok (.aload_n 0, 1) := by decide +kernel
theorem dX7_init_168 : decode cX7_init 168 = .ok (.bipush 60, 2) := by decide +kernel
theorem dX7_init_170 : decode cX7_init 170 = .ok (.newarray .int, 2) := by decide +kernel
theorem dX7_init_172 : decode cX7_init 172 = .ok (.putfield 71, 3) := by decide +kernel
theorem dX7_init_175 : decode cX7_init 175 = .ok (.aload_n 0, 1) := by decide +kernel
theorem dX7_init_176 : decode cX7_init 176 = .ok (.bipush 60, 2) := by decide +kernel
theorem dX7_init_178 : decode cX7_init 178 = .ok (.newarray .int, 2) := by decide +kernel
theorem dX7_init_180 : decode cX7_init 180 = .ok (.putfield 74, 3) := by decide +kernel
theorem dX7_init_183 : decode cX7_init 183 = .ok (.aload_n 0, 1) := by decide +kernel
theorem dX7_init_184 : decode cX7_init 184 = .ok (.bipush 60, 2) := by decide +kernel
theorem dX7_init_186 : decode cX7_init 186 = .ok (.newarray .int, 2) := by decide +kernel
theorem dX7_init_188 : decode cX7_init 188 = .ok (.putfield 77, 3) := by decide +kernel
theorem dX7_init_191 : decode cX7_init 191 = .ok (.aload_n 0, 1) := by decide +kernel
theorem dX7_init_192 : decode cX7_init 192 = .ok (.bipush 60, 2) := by decide +kernel
theorem dX7_init_194 : decode cX7_init 194 = .ok (.newarray .int, 2) := by decide +kernel
theorem dX7_init_196 : decode cX7_init 196 = .ok (.putfield 80, 3) := by decide +kernel
theorem dX7_init_199 : decode cX7_init 199 = .ok (.aload_n 0, 1) := by decide +kernel
theorem dX7_init_200 : decode cX7_init 200 = .ok (.bipush 60, 2) := by decide +kernel
theorem dX7_init_202 : decode cX7_init 202 = .ok (.newarray .int, 2) := by decide +kernel
theorem dX7_init_204 : decode cX7_init 204 = .ok (.putfield 83, 3) := by decide +kernel
theorem dX7_init_207 : decode cX7_init 207 = .ok (.aload_n 0, 1) := by decide +kernel
theorem dX7_init_208 : decode cX7_init 208 = .ok (.bipush 60, 2) := by decide +kernel
theorem dX7_init_210 : decode cX7_init 210 = .ok (.newarray .int, 2) := by decide +kernel
theorem dX7_init_212 : decode cX7_init 212 = .ok (.putfield 86, 3) := by decide +kernel
theorem dX7_init_215 : decode cX7_init 215 = .ok (.aload_n 0, 1) := by decide +kernel
theorem dX7_init_216 : decode cX7_init 216 = .ok (.bipush 8, 2) := by decide +kernel
theorem dX7_init_218 : decode cX7_init 218 = .ok (.newarray .int, 2) := by decide +kernel
theorem dX7_init_220 : decode cX7_init 220 = .ok (.putfield 89, 3) := by decide +kernel
theorem dX7_init_223 : decode cX7_init 223 = .ok (.aload_n 0, 1) := by decide +kernel
theorem dX7_init_224 : decode cX7_init 224 = .ok (.bipush 8, 2) := by decide +kernel
theorem dX7_init_226 : decode cX7_init 226 = .ok (.newarray .int, 2) := by decide +kernel
theorem dX7_init_228 : decode cX7_init 228 = .ok (.putfield 92, 3) := by decide +kernel
theorem dX7_init_231 : decode cX7_init 231 = .ok (.return_, 1) := by decide +kernel
theorem dX7_thrown_0 : decode cX7_thrown 0 = .ok (.aload_n 0, 1) := by decide +kernel
theorem dX7_thrown_1 : decode cX7_thrown 1 = .ok (.getfield 95, 3) := by decide +kernel
theorem dX7_thrown_4 : decode cX7_thrown 4 = .ok (.ireturn, 1) := by decide +kernel
theorem dX7_right_0 : decode cX7_right 0 = .ok (.aload_n 0, 1) := by decide +kernel
theorem dX7_right_1 : decode cX7_right 1 = .ok (.getfield 95, 3) := by decide +kernel
theorem dX7_right_4 : decode cX7_right 4 = .ok (.ifCond .ne 12, 3) := by decide +kernel
theorem dX7_right_7 : decode cX7_right 7 = .ok (.iload_n 1, 1) := by decide +kernel
theorem dX7_right_8 : decode cX7_right 8 = .ok (.ifCond .ne 8, 3) := by decide +kernel
theorem dX7_right_11 : decode cX7_right 11 = .ok (.aload_n 0, 1) := by decide +kernel
theorem dX7_right_12 : decode cX7_right 12 = .ok (.iload_n 2, 1) := by decide +kernel
theorem dX7_right_13 : decode cX7_right 13 = .ok (.putfield 95, 3) := by decide +kernel
theorem dX7_right_16 : decode cX7_right 16 = .ok (.aload_n 0, 1) := by decide +kernel
theorem dX7_right_17 : decode cX7_right 17 = .ok (.getfield 95, 3) := by decide +kernel
theorem dX7_right_20 : decode cX7_right 20 = .ok (.ifCond .ne 7, 3) := by decide +kernel
theorem dX7_right_23 : decode cX7_right 23 = .ok (.iconst 1, 1) := by decide +kernel
theorem dX7_right_24 : decode cX7_right 24 = .ok (.goto 4, 3) := by decide +kernel
theorem dX7_right_27 : decode cX7_right 27 = .ok (.iconst 0, 1) := by decide +kernel
theorem dX7_right_28 : decode cX7_right 28 = .ok (.ireturn, 1) := by decide +kernel
theorem dX7_feed_0 : decode cX7_feed 0 = .ok (.aload_n 0, 1) := by decide +kernel
theorem dX7_feed_1 : decode cX7_feed 1 = .ok (.iconst 0, 1) := by decide +kernel
theorem dX7_feed_2 : decode cX7_feed 2 = .ok (.putfield 95, 3) := by decide +kernel
theorem dX7_feed_5 : decode cX7_feed 5 = .ok (.aload_n 0, 1) := by decide +kernel
theorem dX7_feed_6 : decode cX7_feed 6 = .ok (.getfield 98, 3) := by decide +kernel
theorem dX7_feed_9 : decode cX7_feed 9 = .ok (.bipush 20, 2) := by decide +kernel
theorem dX7_feed_11 : decode cX7_feed 11 = .ok (.iadd, 1) := by decide +kernel
theorem dX7_feed_12 : decode cX7_feed 12 = .ok (.sipush 800, 3) := by decide +kernel
theorem dX7_feed_15 : decode cX7_feed 15 = .ok (.if_icmp .le 5, 3) := by decide +kernel
theorem dX7_feed_18 : decode cX7_feed 18 = .ok (.iconst (-1), 1) := by decide +kernel
theorem dX7_feed_19 : decode cX7_feed 19 = .ok (.ireturn, 1) := by decide +kernel
theorem dX7_feed_20 : decode cX7_feed 20 = .ok (.aload_n 0, 1) := by decide +kernel
theorem dX7_feed_21 : decode cX7_feed 21 = .ok (.iload_n 1, 1) := by decide +kernel
theorem dX7_feed_22 : decode cX7_feed 22 = .ok (.invokevirtual 101, 3) := by decide +kernel
theorem dX7_feed_25 : decode cX7_feed 25 = .ok (.aload_n 0, 1) := by decide +kernel
theorem dX7_feed_26 : decode cX7_feed 26 = .ok (.iload_n 2, 1) := by decide +kernel
theorem dX7_feed_27 : decode cX7_feed 27 = .ok (.invokevirtual 101, 3) := by decide +kernel
theorem dX7_feed_30 : decode cX7_feed 30 = .ok (.aload_n 0, 1) := by decide +kernel
theorem dX7_feed_31 : decode cX7_feed 31 = .ok (.iload_n 3, 1) := by decide +kernel
theorem dX7_feed_32 : decode cX7_feed 32 = .ok (.invokevirtual 101, 3) := by decide +kernel
theorem dX7_feed_35 : decode cX7_feed 35 = .ok (.aload_n 0, 1) := by decide +kernel
theorem dX7_feed_36 : decode cX7_feed 36 = .ok (.iload 4, 2) := by decide +kernel
theorem dX7_feed_38 : decode cX7_feed 38 = .ok (.invokevirtual 101, 3) := by decide +kernel
theorem dX7_feed_41 : decode cX7_feed 41 = .ok (.aload_n 0, 1) := by decide +kernel
theorem dX7_feed_42 : decode cX7_feed 42 = .ok (.iload 5, 2) := by decide +kernel
theorem dX7_feed_44 : decode cX7_feed 44 = .ok (.invokevirtual 101, 3) := by decide +kernel
theorem dX7_feed_47 : decode cX7_feed 47 = .ok (.aload_n 0, 1) := by decide +kernel
theorem dX7_feed_48 : decode cX7_feed 48 = .ok (.getfield 98, 3) := by decide +kernel
theorem dX7_feed_51 : decode cX7_feed 51 = .ok (.ireturn, 1) := by decide +kernel
theorem dX7_lays_0 : decode cX7_lays 0 = .ok (.bipush 24, 2) := by decide +kernel
theorem dX7_lays_2 : decode cX7_lays 2 = .ok (.istore_n 2, 1) := by decide +kernel
theorem dX7_lays_3 : decode cX7_lays 3 = .ok (.iload_n 2, 1) := by decide +kernel
theorem dX7_lays_4 : decode cX7_lays 4 = .ok (.ifCond .lt 35, 3) := by decide +kernel
theorem dX7_lays_7 : decode cX7_lays 7 = .ok (.aload_n 0, 1) := by decide +kernel
theorem dX7_lays_8 : decode cX7_lays 8 = .ok (.getfield 7, 3) := by decide +kernel
theorem dX7_lays_11 : decode cX7_lays 11 = .ok (.aload_n 0, 1) := by decide +kernel
theorem dX7_lays_12 : decode cX7_lays 12 = .ok (.getfield 98, 3) := by decide +kernel
theorem dX7_lays_15 : decode cX7_lays 15 = .ok (.iload_n 1, 1) := by decide +kernel
theorem dX7_lays_16 : decode cX7_lays 16 = .ok (.iload_n 2, 1) := by decide +kernel
theorem dX7_lays_17 : decode cX7_lays 17 = .ok (.ishr, 1) := by decide +kernel
theorem dX7_lays_18 : decode cX7_lays 18 = .ok (.sipush 255, 3) := by decide +kernel
theorem dX7_lays_21 : decode cX7_lays 21 = .ok (.iand, 1) := by decide +kernel
theorem dX7_lays_22 : decode cX7_lays 22 = .ok (.iastore, 1) := by decide +kernel
theorem dX7_lays_23 : decode cX7_lays 23 = .ok (.aload_n 0, 1) := by decide +kernel
theorem dX7_lays_24 : decode cX7_lays 24 = .ok (.dup, 1) := by decide +kernel
theorem dX7_lays_25 : decode cX7_lays 25 = .ok (.getfield 98, 3) := by decide +kernel
theorem dX7_lays_28 : decode cX7_lays 28 = .ok (.iconst 1, 1) := by decide +kernel
theorem dX7_lays_29 : decode cX7_lays 29 = .ok (.iadd, 1) := by decide +kernel
theorem dX7_lays_30 : decode cX7_lays 30 = .ok (.putfield 98, 3) := by decide +kernel
theorem dX7_lays_33 : decode cX7_lays 33 = .ok (.iinc 2 (-8), 3) := by decide +kernel
theorem dX7_lays_36 : decode cX7_lays 36 = .ok (.goto (-33), 3) := by decide +kernel
theorem dX7_lays_39 : decode cX7_lays 39 = .ok (.return_, 1) := by decide +kernel
theorem dX7_wrong_0 : decode cX7_wrong 0 = .ok (.aload_n 0, 1) := by decide +kernel
theorem dX7_wrong_1 : decode cX7_wrong 1 = .ok (.getfield 105, 3) := by decide +kernel
theorem dX7_wrong_4 : decode cX7_wrong 4 = .ok (.ifCond .ne 13, 3) := by decide +kernel
theorem dX7_wrong_7 : decode cX7_wrong 7 = .ok (.aload_n 0, 1) := by decide +kernel
theorem dX7_wrong_8 : decode cX7_wrong 8 = .ok (.iload_n 1, 1) := by decide +kernel
theorem dX7_wrong_9 : decode cX7_wrong 9 = .ok (.putfield 105, 3) := by decide +kernel
theorem dX7_wrong_12 : decode cX7_wrong 12 = .ok (.aload_n 0, 1) := by decide +kernel
theorem dX7_wrong_13 : decode cX7_wrong 13 = .ok (.iload_n 2, 1) := by decide +kernel
theorem dX7_wrong_14 : decode cX7_wrong 14 = .ok (.putfield 13, 3) := by decide +kernel
theorem dX7_wrong_17 : decode cX7_wrong 17 = .ok (.iconst 0, 1) := by decide +kernel
theorem dX7_wrong_18 : decode cX7_wrong 18 = .ok (.ireturn, 1) := by decide +kernel
theorem dX7_skip_0 : decode cX7_skip 0 = .ok (.aload_n 0, 1) := by decide +kernel
theorem dX7_skip_1 : decode cX7_skip 1 = .ok (.getfield 108, 3) := by decide +kernel
theorem dX7_skip_4 : decode cX7_skip 4 = .ok (.aload_n 0, 1) := by decide +kernel
theorem dX7_skip_5 : decode cX7_skip 5 = .ok (.getfield 111, 3) := by decide +kernel
theorem dX7_skip_8 : decode cX7_skip 8 = .ok (.if_icmp .ge 44, 3) := by decide +kernel
theorem dX7_skip_11 : decode cX7_skip 11 = .ok (.aload_n 0, 1) := by decide +kernel
theorem dX7_skip_12 : decode cX7_skip 12 = .ok (.getfield 7, 3) := by decide +kernel
theorem dX7_skip_15 : decode cX7_skip 15 = .ok (.aload_n 0, 1) := by decide +kernel
theorem dX7_skip_16 : decode cX7_skip 16 = .ok (.getfield 108, 3) := by decide +kernel
theorem dX7_skip_19 : decode cX7_skip 19 = .ok (.iaload, 1) := by decide +kernel
theorem dX7_skip_20 : decode cX7_skip 20 = .ok (.bipush 32, 2) := by decide +kernel
theorem dX7_skip_22 : decode cX7_skip 22 = .ok (.if_icmp .eq 17, 3) := by decide +kernel
theorem dX7_skip_25 : decode cX7_skip 25 = .ok (.aload_n 0, 1) := by decide +kernel
theorem dX7_skip_26 : decode cX7_skip 26 = .ok (.getfield 7, 3) := by decide +kernel
theorem dX7_skip_29 : decode cX7_skip 29 = .ok (.aload_n 0, 1) := by decide +kernel
theorem dX7_skip_30 : decode cX7_skip 30 = .ok (.getfield 108, 3) := by decide +kernel
theorem dX7_skip_33 : decode cX7_skip 33 = .ok (.iaload, 1) := by decide +kernel
theorem dX7_skip_34 : decode cX7_skip 34 = .ok (.bipush 10, 2) := by decide +kernel
theorem dX7_skip_36 : decode cX7_skip 36 = .ok (.if_icmp .ne 16, 3) := by decide +kernel
theorem dX7_skip_39 : decode cX7_skip 39 = .ok (.aload_n 0, 1) := by decide +kernel
theorem dX7_skip_40 : decode cX7_skip 40 = .ok (.dup, 1) := by decide +kernel
theorem dX7_skip_41 : decode cX7_skip 41 = .ok (.getfield 108, 3) := by decide +kernel
theorem dX7_skip_44 : decode cX7_skip 44 = .ok (.iconst 1, 1) := by decide +kernel
theorem dX7_skip_45 : decode cX7_skip 45 = .ok (.iadd, 1) := by decide +kernel
theorem dX7_skip_46 : decode cX7_skip 46 = .ok (.putfield 108, 3) := by decide +kernel
theorem dX7_skip_49 : decode cX7_skip 49 = .ok (.goto (-49), 3) := by decide +kernel
theorem dX7_skip_52 : decode cX7_skip 52 = .ok (.return_, 1) := by decide +kernel
theorem dX7_now_0 : decode cX7_now 0 = .ok (.aload_n 0, 1) := by decide +kernel
theorem dX7_now_1 : decode cX7_now 1 = .ok (.getfield 108, 3) := by decide +kernel
theorem dX7_now_4 : decode cX7_now 4 = .ok (.aload_n 0, 1) := by decide +kernel
theorem dX7_now_5 : decode cX7_now 5 = .ok (.getfield 111, 3) := by decide +kernel
theorem dX7_now_8 : decode cX7_now 8 = .ok (.if_icmp .ge 15, 3) := by decide +kernel
theorem dX7_now_11 : decode cX7_now 11 = .ok (.aload_n 0, 1) := by decide +kernel
theorem dX7_now_12 : decode cX7_now 12 = .ok (.getfield 7, 3) := by decide +kernel
theorem dX7_now_15 : decode cX7_now 15 = .ok (.aload_n 0, 1) := by decide +kernel
theorem dX7_now_16 : decode cX7_now 16 = .ok (.getfield 108, 3) := by decide +kernel
theorem dX7_now_19 : decode cX7_now 19 = .ok (.iaload, 1) := by decide +kernel
theorem dX7_now_20 : decode cX7_now 20 = .ok (.goto 4, 3) := by decide +kernel
theorem dX7_now_23 : decode cX7_now 23 = .ok (.iconst 0, 1) := by decide +kernel
theorem dX7_now_24 : decode cX7_now 24 = .ok (.ireturn, 1) := by decide +kernel
theorem dX7_isDigit_0 : decode cX7_isDigit 0 = .ok (.iload_n 0, 1) := by decide +kernel
theorem dX7_isDigit_1 : decode cX7_isDigit 1 = .ok (.bipush 48, 2) := by decide +kernel
theorem dX7_isDigit_3 : decode cX7_isDigit 3 = .ok (.if_icmp .lt 13, 3) := by decide +kernel
theorem dX7_isDigit_6 : decode cX7_isDigit 6 = .ok (.iload_n 0, 1) := by decide +kernel
theorem dX7_isDigit_7 : decode cX7_isDigit 7 = .ok (.bipush 57, 2) := by decide +kernel
theorem dX7_isDigit_9 : decode cX7_isDigit 9 = .ok (.if_icmp .gt 7, 3) := by decide +kernel
theorem dX7_isDigit_12 : decode cX7_isDigit 12 = .ok (.iconst 1, 1) := by decide +kernel
theorem dX7_isDigit_13 : decode cX7_isDigit 13 = .ok (.goto 4, 3) := by decide +kernel
theorem dX7_isDigit_16 : decode cX7_isDigit 16 = .ok (.iconst 0, 1) := by decide +kernel
theorem dX7_isDigit_17 : decode cX7_isDigit 17 = .ok (.ireturn, 1) := by decide +kernel
theorem dX7_number_0 : decode cX7_number 0 = .ok (.iconst 0, 1) := by decide +kernel
theorem dX7_number_1 : decode cX7_number 1 = .ok (.istore_n 1, 1) := by decide +kernel
theorem dX7_number_2 : decode cX7_number 2 = .ok (.aload_n 0, 1) := by decide +kernel
theorem dX7_number_3 : decode cX7_number 3 = .ok (.aload_n 0, 1) := by decide +kernel
theorem dX7_number_4 : decode cX7_number 4 = .ok (.getfield 108, 3) := by decide +kernel
theorem dX7_number_7 : decode cX7_number 7 = .ok (.putfield 114, 3) := by decide +kernel
theorem dX7_number_10 : decode cX7_number 10 = .ok (.aload_n 0, 1) := by decide +kernel
theorem dX7_number_11 : decode cX7_number 11 = .ok (.iconst 0, 1) := by decide +kernel
theorem dX7_number_12 : decode cX7_number 12 = .ok (.putfield 117, 3) := by decide +kernel
theorem dX7_number_15 : decode cX7_number 15 = .ok (.aload_n 0, 1) := by decide +kernel
theorem dX7_number_16 : decode cX7_number 16 = .ok (.invokevirtual 120, 3) := by decide +kernel
theorem dX7_number_19 : decode cX7_number 19 = .ok (.invokestatic 124, 3) := by decide +kernel
theorem dX7_number_22 : decode cX7_number 22 = .ok (.ifCond .eq 50, 3) := by decide +kernel
theorem dX7_number_25 : decode cX7_number 25 = .ok (.iload_n 1, 1) := by decide +kernel
theorem dX7_number_26 : decode cX7_number 26 = .ok (.sipush 1000, 3) := by decide +kernel
theorem dX7_number_29 : decode cX7_number 29 = .ok (.if_icmp .le 7, 3) := by decide +kernel
theorem dX7_number_32 : decode cX7_number 32 = .ok (.iload_n 1, 1) := by decide +kernel
theorem dX7_number_33 : decode cX7_number 33 = .ok (.goto 15, 3) := by decide +kernel
theorem dX7_number_36 : decode cX7_number 36 = .ok (.bipush 10, 2) := by decide +kernel
theorem dX7_number_38 : decode cX7_number 38 = .ok (.iload_n 1, 1) := by decide +kernel
theorem dX7_number_39 : decode cX7_number 39 = .ok (.imul, 1) := by decide +kernel
theorem dX7_number_40 : decode cX7_number 40 = .ok (.aload_n 0, 1) := by decide +kernel
theorem dX7_number_41 : decode cX7_number 41 = .ok (.invokevirtual 120, 3) := by decide +kernel
theorem dX7_number_44 : decode cX7_number 44 = .ok (.iadd, 1) := by decide +kernel
theorem dX7_number_45 : decode cX7_number 45 = .ok (.bipush 48, 2) := by decide +kernel
theorem dX7_number_47 : decode cX7_number 47 = .ok (.isub, 1) := by decide +kernel
theorem dX7_number_48 : decode cX7_number 48 = .ok (.istore_n 1, 1) := by decide +kernel
theorem dX7_number_49 : decode cX7_number 49 = .ok (.aload_n 0, 1) := by decide +kernel
theorem dX7_number_50 : decode cX7_number 50 = .ok (.dup, 1) := by decide +kernel
theorem dX7_number_51 : decode cX7_number 51 = .ok (.getfield 117, 3) := by decide +kernel
theorem dX7_number_54 : decode cX7_number 54 = .ok (.iconst 1, 1) := by decide +kernel
theorem dX7_number_55 : decode cX7_number 55 = .ok (.iadd, 1) := by decide +kernel
theorem dX7_number_56 : decode cX7_number 56 = .ok (.putfield 117, 3) := by decide +kernel
theorem dX7_number_59 : decode cX7_number 59 = .ok (.aload_n 0, 1) := by decide +kernel
theorem dX7_number_60 : decode cX7_number 60 = .ok (.dup, 1) := by decide +kernel
theorem dX7_number_61 : decode cX7_number 61 = .ok (.getfield 108, 3) := by decide +kernel
theorem dX7_number_64 : decode cX7_number 64 = .ok (.iconst 1, 1) := by decide +kernel
theorem dX7_number_65 : decode cX7_number 65 = .ok (.iadd, 1) := by decide +kernel
theorem dX7_number_66 : decode cX7_number 66 = .ok (.putfield 108, 3) := by decide +kernel
theorem dX7_number_69 : decode cX7_number 69 = .ok (.goto (-54), 3) := by decide +kernel
theorem dX7_number_72 : decode cX7_number 72 = .ok (.iload_n 1, 1) := by decide +kernel
theorem dX7_number_73 : decode cX7_number 73 = .ok (.ireturn, 1) := by decide +kernel
theorem dX7_opens_0 : decode cX7_opens 0 = .ok (.aload_n 0, 1) := by decide +kernel
theorem dX7_opens_1 : decode cX7_opens 1 = .ok (.getfield 128, 3) := by decide +kernel
theorem dX7_opens_4 : decode cX7_opens 4 = .ok (.bipush 8, 2) := by decide +kernel
theorem dX7_opens_6 : decode cX7_opens 6 = .ok (.if_icmp .ne 13, 3) := by decide +kernel
theorem dX7_opens_9 : decode cX7_opens 9 = .ok (.aload_n 0, 1) := by decide +kernel
theorem dX7_opens_10 : decode cX7_opens 10 = .ok (.iconst 2, 1) := by decide +kernel
theorem dX7_opens_11 : decode cX7_opens 11 = .ok (.aload_n 0, 1) := by decide +kernel
theorem dX7_opens_12 : decode cX7_opens 12 = .ok (.getfield 108, 3) := by decide +kernel
theorem dX7_opens_15 : decode cX7_opens 15 = .ok (.invokevirtual 131, 3) := by decide +kernel
theorem dX7_opens_18 : decode cX7_opens 18 = .ok (.ireturn, 1) := by decide +kernel
theorem dX7_opens_19 : decode cX7_opens 19 = .ok (.aload_n 0, 1) := by decide +kernel
theorem dX7_opens_20 : decode cX7_opens 20 = .ok (.getfield 29, 3) := by decide +kernel
theorem dX7_opens_23 : decode cX7_opens 23 = .ok (.aload_n 0, 1) := by decide +kernel
theorem dX7_opens_24 : decode cX7_opens 24 = .ok (.getfield 128, 3) := by decide +kernel
theorem dX7_opens_27 : decode cX7_opens 27 = .ok (.iload_n 1, 1) := by decide +kernel
theorem dX7_opens_28 : decode cX7_opens 28 = .ok (.iastore, 1) := by decide +kernel
theorem dX7_opens_29 : decode cX7_opens 29 = .ok (.aload_n 0, 1) := by decide +kernel
theorem dX7_opens_30 : decode cX7_opens 30 = .ok (.getfield 32, 3) := by decide +kernel
theorem dX7_opens_33 : decode cX7_opens 33 = .ok (.aload_n 0, 1) := by decide +kernel
theorem dX7_opens_34 : decode cX7_opens 34 = .ok (.getfield 128, 3) := by decide +kernel
theorem dX7_opens_37 : decode cX7_opens 37 = .ok (.aload_n 0, 1) := by decide +kernel
theorem dX7_opens_38 : decode cX7_opens 38 = .ok (.getfield 135, 3) := by decide +kernel
theorem dX7_opens_41 : decode cX7_opens 41 = .ok (.iastore, 1) := by decide +kernel
theorem dX7_opens_42 : decode cX7_opens 42 = .ok (.aload_n 0, 1) := by decide +kernel
theorem dX7_opens_43 : decode cX7_opens 43 = .ok (.dup, 1) := by decide +kernel
theorem dX7_opens_44 : decode cX7_opens 44 = .ok (.getfield 128, 3) := by decide +kernel
theorem dX7_opens_47 : decode cX7_opens 47 = .ok (.iconst 1, 1) := by decide +kernel
theorem dX7_opens_48 : decode cX7_opens 48 = .ok (.iadd, 1) := by decide +kernel
theorem dX7_opens_49 : decode cX7_opens 49 = .ok (.putfield 128, 3) := by decide +kernel
theorem dX7_opens_52 : decode cX7_opens 52 = .ok (.aload_n 0, 1) := by decide +kernel
theorem dX7_opens_53 : decode cX7_opens 53 = .ok (.dup, 1) := by decide +kernel
theorem dX7_opens_54 : decode cX7_opens 54 = .ok (.getfield 108, 3) := by decide +kernel
theorem dX7_opens_57 : decode cX7_opens 57 = .ok (.iconst 1, 1) := by decide +kernel
theorem dX7_opens_58 : decode cX7_opens 58 = .ok (.iadd, 1) := by decide +kernel
theorem dX7_opens_59 : decode cX7_opens 59 = .ok (.putfield 108, 3) := by decide +kernel
theorem dX7_opens_62 : decode cX7_opens 62 = .ok (.iconst 1, 1) := by decide +kernel
theorem dX7_opens_63 : decode cX7_opens 63 = .ok (.ireturn, 1) := by decide +kernel
theorem dX7_closes_0 : decode cX7_closes 0 = .ok (.aload_n 0, 1) := by decide +kernel
theorem dX7_closes_1 : decode cX7_closes 1 = .ok (.getfield 128, 3) := by decide +kernel
theorem dX7_closes_4 : decode cX7_closes 4 = .ok (.ifCond .ne 13, 3) := by decide +kernel
theorem dX7_closes_7 : decode cX7_closes 7 = .ok (.aload_n 0, 1) := by decide +kernel
theorem dX7_closes_8 : decode cX7_closes 8 = .ok (.iconst 1, 1) := by decide +kernel
theorem dX7_closes_9 : decode cX7_closes 9 = .ok (.aload_n 0, 1) := by decide +kernel
theorem dX7_closes_10 : decode cX7_closes 10 = .ok (.getfield 108, 3) := by decide +kernel
theorem dX7_closes_13 : decode cX7_closes 13 = .ok (.invokevirtual 131, 3) := by decide +kernel
theorem dX7_closes_16 : decode cX7_closes 16 = .ok (.ireturn, 1) := by decide +kernel
theorem dX7_closes_17 : decode cX7_closes 17 = .ok (.aload_n 0, 1) := by decide +kernel
theorem dX7_closes_18 : decode cX7_closes 18 = .ok (.getfield 29, 3) := by decide +kernel
theorem dX7_closes_21 : decode cX7_closes 21 = .ok (.aload_n 0, 1) := by decide +kernel
theorem dX7_closes_22 : decode cX7_closes 22 = .ok (.getfield 128, 3) := by decide +kernel
theorem dX7_closes_25 : decode cX7_closes 25 = .ok (.iconst 1, 1) := by decide +kernel
theorem dX7_closes_26 : decode cX7_closes 26 = .ok (.isub, 1) := by decide +kernel
theorem dX7_closes_27 : decode cX7_closes 27 = .ok (.iaload, 1) := by decide +kernel
theorem dX7_closes_28 : decode cX7_closes 28 = .ok (.istore_n 1, 1) := by decide +kernel
theorem dX7_closes_29 : decode cX7_closes 29 = .ok (.aload_n 0, 1) := by decide +kernel
theorem dX7_closes_30 : decode cX7_closes 30 = .ok (.getfield 32, 3) := by decide +kernel
theorem dX7_closes_33 : decode cX7_closes 33 = .ok (.aload_n 0, 1) := by decide +kernel
theorem dX7_closes_34 : decode cX7_closes 34 = .ok (.getfield 128, 3) := by decide +kernel
theorem dX7_closes_37 : decode cX7_closes 37 = .ok (.iconst 1, 1) := by decide +kernel
theorem dX7_closes_38 : decode cX7_closes 38 = .ok (.isub, 1) := by decide +kernel
theorem dX7_closes_39 : decode cX7_closes 39 = .ok (.iaload, 1) := by decide +kernel
theorem dX7_closes_40 : decode cX7_closes 40 = .ok (.istore_n 2, 1) := by decide +kernel
theorem dX7_closes_41 : decode cX7_closes 41 = .ok (.aload_n 0, 1) := by decide +kernel
theorem dX7_closes_42 : decode cX7_closes 42 = .ok (.getfield 135, 3) := by decide +kernel
theorem dX7_closes_45 : decode cX7_closes 45 = .ok (.iload_n 2, 1) := by decide +kernel
theorem dX7_closes_46 : decode cX7_closes 46 = .ok (.isub, 1) := by decide +kernel
theorem dX7_closes_47 : decode cX7_closes 47 = .ok (.istore_n 3, 1) := by decide +kernel
theorem dX7_closes_48 : decode cX7_closes 48 = .ok (.iload_n 1, 1) := by decide +kernel
theorem dX7_closes_49 : decode cX7_closes 49 = .ok (.bipush 100, 2) := by decide +kernel
theorem dX7_closes_51 : decode cX7_closes 51 = .ok (.if_icmp .ge 24, 3) := by decide +kernel
theorem dX7_closes_54 : decode cX7_closes 54 = .ok (.iload_n 2, 1) := by decide +kernel
theorem dX7_closes_55 : decode cX7_closes 55 = .ok (.iload_n 3, 1) := by decide +kernel
theorem dX7_closes_56 : decode cX7_closes 56 = .ok (.iload_n 1, 1) := by decide +kernel
theorem dX7_closes_57 : decode cX7_closes 57 = .ok (.imul, 1) := by decide +kernel
theorem dX7_closes_58 : decode cX7_closes 58 = .ok (.iadd, 1) := by decide +kernel
theorem dX7_closes_59 : decode cX7_closes 59 = .ok (.sipush 300, 3) := by decide +kernel
theorem dX7_closes_62 : decode cX7_closes 62 = .ok (.if_icmp .le 13, 3) := by decide +kernel
theorem dX7_closes_65 : decode cX7_closes 65 = .ok (.aload_n 0, 1) := by decide +kernel
theorem dX7_closes_66 : decode cX7_closes 66 = .ok (.iconst 2, 1) := by decide +kernel
theorem dX7_closes_67 : decode cX7_closes 67 = .ok (.aload_n 0, 1) := by decide +kernel
theorem dX7_closes_68 : decode cX7_closes 68 = .ok (.getfield 108, 3) := by decide +kernel
theorem dX7_closes_71 : decode cX7_closes 71 = .ok (.invokevirtual 131, 3) := by decide +kernel
theorem dX7_closes_74 : decode cX7_closes 74 = .ok (.ireturn, 1) := by decide +kernel
theorem dX7_closes_75 : decode cX7_closes 75 = .ok (.aload_n 0, 1) := by decide +kernel
theorem dX7_closes_76 : decode cX7_closes 76 = .ok (.dup, 1) := by decide +kernel
theorem dX7_closes_77 : decode cX7_closes 77 = .ok (.getfield 128, 3) := by decide +kernel
theorem dX7_closes_80 : decode cX7_closes 80 = .ok (.iconst 1, 1) := by decide +kernel
theorem dX7_closes_81 : decode cX7_closes 81 = .ok (.isub, 1) := by decide +kernel
theorem dX7_closes_82 : decode cX7_closes 82 = .ok (.putfield 128, 3) := by decide +kernel
theorem dX7_closes_85 : decode cX7_closes 85 = .ok (.aload_n 0, 1) := by decide +kernel
theorem dX7_closes_86 : decode cX7_closes 86 = .ok (.dup, 1) := by decide +kernel
theorem dX7_closes_87 : decode cX7_closes 87 = .ok (.getfield 108, 3) := by decide +kernel
theorem dX7_closes_90 : decode cX7_closes 90 = .ok (.iconst 1, 1) := by decide +kernel
theorem dX7_closes_91 : decode cX7_closes 91 = .ok (.iadd, 1) := by decide +kernel
theorem dX7_closes_92 : decode cX7_closes 92 = .ok (.putfield 108, 3) := by decide +kernel
theorem dX7_closes_95 : decode cX7_closes 95 = .ok (.iload_n 1, 1) := by decide +kernel
theorem dX7_closes_96 : decode cX7_closes 96 = .ok (.bipush 100, 2) := by decide +kernel
theorem dX7_closes_98 : decode cX7_closes 98 = .ok (.if_icmp .ge 51, 3) := by decide +kernel
theorem dX7_closes_101 : decode cX7_closes 101 = .ok (.iload_n 3, 1) := by decide +kernel
theorem dX7_closes_102 : decode cX7_closes 102 = .ok (.istore 4, 2) := by decide +kernel
theorem dX7_closes_104 : decode cX7_closes 104 = .ok (.iload 4, 2) := by decide +kernel
theorem dX7_closes_106 : decode cX7_closes 106 = .ok (.iload_n 3, 1) := by decide +kernel
theorem dX7_closes_107 : decode cX7_closes 107 = .ok (.iload_n 1, 1) := by decide +kernel
theorem dX7_closes_108 : decode cX7_closes 108 = .ok (.imul, 1) := by decide +kernel
theorem dX7_closes_109 : decode cX7_closes 109 = .ok (.if_icmp .ge 29, 3) := by decide +kernel
theorem dX7_closes_112 : decode cX7_closes 112 = .ok (.aload_n 0, 1) := by decide +kernel
theorem dX7_closes_113 : decode cX7_closes 113 = .ok (.getfield 26, 3) := by decide +kernel
theorem dX7_closes_116 : decode cX7_closes 116 = .ok (.iload_n 2, 1) := by decide +kernel
theorem dX7_closes_117 : decode cX7_closes 117 = .ok (.iload 4, 2) := by decide +kernel
theorem dX7_closes_119 : decode cX7_closes 119 = .ok (.iadd, 1) := by decide +kernel
theorem dX7_closes_120 : decode cX7_closes 120 = .ok (.aload_n 0, 1) := by decide +kernel
theorem dX7_closes_121 : decode cX7_closes 121 = .ok (.getfield 26, 3) := by decide +kernel
theorem dX7_closes_124 : decode cX7_closes 124 = .ok (.iload_n 2, 1) := by decide +kernel
theorem dX7_closes_125 : decode cX7_closes 125 = .ok (.iload 4, 2) := by decide +kernel
theorem dX7_closes_127 : decode cX7_closes 127 = .ok (.iadd, 1) := by decide +kernel
theorem dX7_closes_128 : decode cX7_closes 128 = .ok (.iload_n 3, 1) := by decide +kernel
theorem dX7_closes_129 : decode cX7_closes 129 = .ok (.isub, 1) := by decide +kernel
theorem dX7_closes_130 : decode cX7_closes 130 = .ok (.iaload, 1) := by decide +kernel
theorem dX7_closes_131 : decode cX7_closes 131 = .ok (.iastore, 1) := by decide +kernel
theorem dX7_closes_132 : decode cX7_closes 132 = .ok (.iinc 4 1, 3) := by decide +kernel
theorem dX7_closes_135 : decode cX7_closes 135 = .ok (.goto (-31), 3) := by decide +kernel
theorem dX7_closes_138 : decode cX7_closes 138 = .ok (.aload_n 0, 1) := by decide +kernel
theorem dX7_closes_139 : decode cX7_closes 139 = .ok (.iload_n 2, 1) := by decide +kernel
theorem dX7_closes_140 : decode cX7_closes 140 = .ok (.iload_n 3, 1) := by decide +kernel
theorem dX7_closes_141 : decode cX7_closes 141 = .ok (.iload_n 1, 1) := by decide +kernel
theorem dX7_closes_142 : decode cX7_closes 142 = .ok (.imul, 1) := by decide +kernel
theorem dX7_closes_143 : decode cX7_closes 143 = .ok (.iadd, 1) := by decide +kernel
theorem dX7_closes_144 : decode cX7_closes 144 = .ok (.putfield 135, 3) := by decide +kernel
theorem dX7_closes_147 : decode cX7_closes 147 = .ok (.iconst 1, 1) := by decide +kernel
theorem dX7_closes_148 : decode cX7_closes 148 = .ok (.ireturn, 1) := by decide +kernel
theorem dX7_closes_149 : decode cX7_closes 149 = .ok (.iconst 0, 1) := by decide +kernel
theorem dX7_closes_150 : decode cX7_closes 150 = .ok (.istore 4, 2) := by decide +kernel
theorem dX7_closes_152 : decode cX7_closes 152 = .ok (.iload 4, 2) := by decide +kernel
theorem dX7_closes_154 : decode cX7_closes 154 = .ok (.iload_n 3, 1) := by decide +kernel
theorem dX7_closes_155 : decode cX7_closes 155 = .ok (.if_icmp .ge 70, 3) := by decide +kernel
theorem dX7_closes_158 : decode cX7_closes 158 = .ok (.iload_n 1, 1) := by decide +kernel
theorem dX7_closes_159 : decode cX7_closes 159 = .ok (.bipush 117, 2) := by decide +kernel
theorem dX7_closes_161 : decode cX7_closes 161 = .ok (.if_icmp .eq 64, 3) := by decide +kernel
theorem dX7_closes_164 : decode cX7_closes 164 = .ok (.aload_n 0, 1) := by decide +kernel
theorem dX7_closes_165 : decode cX7_closes 165 = .ok (.getfield 26, 3) := by decide +kernel
theorem dX7_closes_168 : decode cX7_closes 168 = .ok (.iload_n 2, 1) := by decide +kernel
theorem dX7_closes_169 : decode cX7_closes 169 = .ok (.iload 4, 2) := by decide +kernel
theorem dX7_closes_171 : decode cX7_closes 171 = .ok (.iadd, 1) := by decide +kernel
theorem dX7_closes_172 : decode cX7_closes 172 = .ok (.iaload, 1) := by decide +kernel
theorem dX7_closes_173 : decode cX7_closes 173 = .ok (.istore 5, 2) := by decide +kernel
theorem dX7_closes_175 : decode cX7_closes 175 = .ok (.aload_n 0, 1) := by decide +kernel
theorem dX7_closes_176 : decode cX7_closes 176 = .ok (.getfield 26, 3) := by decide +kernel
theorem dX7_closes_179 : decode cX7_closes 179 = .ok (.iload_n 2, 1) := by decide +kernel
theorem dX7_closes_180 : decode cX7_closes 180 = .ok (.iload 4, 2) := by decide +kernel
theorem dX7_closes_182 : decode cX7_closes 182 = .ok (.iadd, 1) := by decide +kernel
theorem dX7_closes_183 : decode cX7_closes 183 = .ok (.iload_n 1, 1) := by decide +kernel
theorem dX7_closes_184 : decode cX7_closes 184 = .ok (.bipush 109, 2) := by decide +kernel
theorem dX7_closes_186 : decode cX7_closes 186 = .ok (.if_icmp .ne 9, 3) := by decide +kernel
theorem dX7_closes_189 : decode cX7_closes 189 = .ok (.iload 5, 2) := by decide +kernel
theorem dX7_closes_191 : decode cX7_closes 191 = .ok (.ineg, 1) := by decide +kernel
theorem dX7_closes_192 : decode cX7_closes 192 = .ok (.goto 26, 3) := by decide +kernel
theorem dX7_closes_195 : decode cX7_closes 195 = .ok (.iload 5, 2) := by decide +kernel
theorem dX7_closes_197 : decode cX7_closes 197 = .ok (.ifCond .le 13, 3) := by decide +kernel
theorem dX7_closes_200 : decode cX7_closes 200 = .ok (.aload_n 0, 1) := by decide +kernel
theorem dX7_closes_201 : decode cX7_closes 201 = .ok (.getfield 138, 3) := by decide +kernel
theorem dX7_closes_204 : decode cX7_closes 204 = .ok (.iload 5, 2) := by decide +kernel
theorem dX7_closes_206 : decode cX7_closes 206 = .ok (.isub, 1) := by decide +kernel
theorem dX7_closes_207 : decode cX7_closes 207 = .ok (.goto 11, 3) := by decide +kernel
theorem dX7_closes_210 : decode cX7_closes 210 = .ok (.aload_n 0, 1) := by decide +kernel
theorem dX7_closes_211 : decode cX7_closes 211 = .ok (.getfield 138, 3) := by decide +kernel
theorem dX7_closes_214 : decode cX7_closes 214 = .ok (.ineg, 1) := by decide +kernel
theorem dX7_closes_215 : decode cX7_closes 215 = .ok (.iload 5, 2) := by decide +kernel
theorem dX7_closes_217 : decode cX7_closes 217 = .ok (.isub, 1) := by decide +kernel
theorem dX7_closes_218 : decode cX7_closes 218 = .ok (.iastore, 1) := by decide +kernel
theorem dX7_closes_219 : decode cX7_closes 219 = .ok (.iinc 4 1, 3) := by decide +kernel
theorem dX7_closes_222 : decode cX7_closes 222 = .ok (.goto (-70), 3) := by decide +kernel
theorem dX7_closes_225 : decode cX7_closes 225 = .ok (.iconst 0, 1) := by decide +kernel
theorem dX7_closes_226 : decode cX7_closes 226 = .ok (.istore 4, 2) := by decide +kernel
theorem dX7_closes_228 : decode cX7_closes 228 = .ok (.iconst 2, 1) := by decide +kernel
theorem dX7_closes_229 : decode cX7_closes 229 = .ok (.iload 4, 2) := by decide +kernel
theorem dX7_closes_231 : decode cX7_closes 231 = .ok (.imul, 1) := by decide +kernel
theorem dX7_closes_232 : decode cX7_closes 232 = .ok (.iload_n 3, 1) := by decide +kernel
theorem dX7_closes_233 : decode cX7_closes 233 = .ok (.if_icmp .ge 67, 3) := by decide +kernel
theorem dX7_closes_236 : decode cX7_closes 236 = .ok (.iload_n 1, 1) := by decide +kernel
theorem dX7_closes_237 : decode cX7_closes 237 = .ok (.bipush 117, 2) := by decide +kernel
theorem dX7_closes_239 : decode cX7_closes 239 = .ok (.if_icmp .ne 61, 3) := by decide +kernel
theorem dX7_closes_242 : decode cX7_closes 242 = .ok (.aload_n 0, 1) := by decide +kernel
theorem dX7_closes_243 : decode cX7_closes 243 = .ok (.getfield 26, 3) := by decide +kernel
theorem dX7_closes_246 : decode cX7_closes 246 = .ok (.iload_n 2, 1) := by decide +kernel
theorem dX7_closes_247 : decode cX7_closes 247 = .ok (.iload 4, 2) := by decide +kernel
theorem dX7_closes_249 : decode cX7_closes 249 = .ok (.iadd, 1) := by decide +kernel
theorem dX7_closes_250 : decode cX7_closes 250 = .ok (.iaload, 1) := by decide +kernel
theorem dX7_closes_251 : decode cX7_closes 251 = .ok (.istore 5, 2) := by decide +kernel
theorem dX7_closes_253 : decode cX7_closes 253 = .ok (.aload_n 0, 1) := by decide +kernel
theorem dX7_closes_254 : decode cX7_closes 254 = .ok (.getfield 26, 3) := by decide +kernel
theorem dX7_closes_257 : decode cX7_closes 257 = .ok (.iload_n 2, 1) := by decide +kernel
theorem dX7_closes_258 : decode cX7_closes 258 = .ok (.iload 4, 2) := by decide +kernel
theorem dX7_closes_260 : decode cX7_closes 260 = .ok (.iadd, 1) := by decide +kernel
theorem dX7_closes_261 : decode cX7_closes 261 = .ok (.aload_n 0, 1) := by decide +kernel
theorem dX7_closes_262 : decode cX7_closes 262 = .ok (.getfield 26, 3) := by decide +kernel
theorem dX7_closes_265 : decode cX7_closes 265 = .ok (.aload_n 0, 1) := by decide +kernel
theorem dX7_closes_266 : decode cX7_closes 266 = .ok (.getfield 135, 3) := by decide +kernel
theorem dX7_closes_269 : decode cX7_closes 269 = .ok (.iconst 1, 1) := by decide +kernel
theorem dX7_closes_270 : decode cX7_closes 270 = .ok (.isub, 1) := by decide +kernel
theorem dX7_closes_271 : decode cX7_closes 271 = .ok (.iload 4, 2) := by decide +kernel
theorem dX7_closes_273 : decode cX7_closes 273 = .ok (.isub, 1) := by decide +kernel
theorem dX7_closes_274 : decode cX7_closes 274 = .ok (.iaload, 1) := by decide +kernel
theorem dX7_closes_275 : decode cX7_closes 275 = .ok (.ineg, 1) := by decide +kernel
theorem dX7_closes_276 : decode cX7_closes 276 = .ok (.iastore, 1) := by decide +kernel
theorem dX7_closes_277 : decode cX7_closes 277 = .ok (.aload_n 0, 1) := by decide +kernel
theorem dX7_closes_278 : decode cX7_closes 278 = .ok (.getfield 26, 3) := by decide +kernel
theorem dX7_closes_281 : decode cX7_closes 281 = .ok (.aload_n 0, 1) := by decide +kernel
theorem dX7_closes_282 : decode cX7_closes 282 = .ok (.getfield 135, 3) := by decide +kernel
theorem dX7_closes_285 : decode cX7_closes 285 = .ok (.iconst 1, 1) := by decide +kernel
theorem dX7_closes_286 : decode cX7_closes 286 = .ok (.isub, 1) := by decide +kernel
theorem dX7_closes_287 : decode cX7_closes 287 = .ok (.iload 4, 2) := by decide +kernel
theorem dX7_closes_289 : decode cX7_closes 289 = .ok (.isub, 1) := by decide +kernel
theorem dX7_closes_290 : decode cX7_closes 290 = .ok (.iload 5, 2) := by decide +kernel
theorem dX7_closes_292 : decode cX7_closes 292 = .ok (.ineg, 1) := by decide +kernel
theorem dX7_closes_293 : decode cX7_closes 293 = .ok (.iastore, 1) := by decide +kernel
theorem dX7_closes_294 : decode cX7_closes 294 = .ok (.iinc 4 1, 3) := by decide +kernel
theorem dX7_closes_297 : decode cX7_closes 297 = .ok (.goto (-69), 3) := by decide +kernel
theorem dX7_closes_300 : decode cX7_closes 300 = .ok (.iconst 1, 1) := by decide +kernel
theorem dX7_closes_301 : decode cX7_closes 301 = .ok (.ireturn, 1) := by decide +kernel
theorem dX7_item_0 : decode cX7_item 0 = .ok (.aload_n 0, 1) := by decide +kernel
theorem dX7_item_1 : decode cX7_item 1 = .ok (.invokevirtual 120, 3) := by decide +kernel
theorem dX7_item_4 : decode cX7_item 4 = .ok (.istore_n 1, 1) := by decide +kernel
theorem dX7_item_5 : decode cX7_item 5 = .ok (.iload_n 1, 1) := by decide +kernel
theorem dX7_item_6 : decode cX7_item 6 = .ok (.bipush 41, 2) := by decide +kernel
theorem dX7_item_8 : decode cX7_item 8 = .ok (.if_icmp .ne 8, 3) := by decide +kernel
theorem dX7_item_11 : decode cX7_item 11 = .ok (.aload_n 0, 1) := by decide +kernel
theorem dX7_item_12 : decode cX7_item 12 = .ok (.invokevirtual 141, 3) := by decide +kernel
theorem dX7_item_15 : decode cX7_item 15 = .ok (.ireturn, 1) := by decide +kernel
theorem dX7_item_16 : decode cX7_item 16 = .ok (.iload_n 1, 1) := by decide +kernel
theorem dX7_item_17 : decode cX7_item 17 = .ok (.bipush 117, 2) := by decide +kernel
theorem dX7_item_19 : decode cX7_item 19 = .ok (.if_icmp .eq 15, 3) := by decide +kernel
theorem dX7_item_22 : decode cX7_item 22 = .ok (.iload_n 1, 1) := by decide +kernel
theorem dX7_item_23 : decode cX7_item 23 = .ok (.bipush 109, 2) := by decide +kernel
theorem dX7_item_25 : decode cX7_item 25 = .ok (.if_icmp .eq 9, 3) := by decide +kernel
theorem dX7_item_28 : decode cX7_item 28 = .ok (.iload_n 1, 1) := by decide +kernel
theorem dX7_item_29 : decode cX7_item 29 = .ok (.bipush 116, 2) := by decide +kernel
theorem dX7_item_31 : decode cX7_item 31 = .ok (.if_icmp .ne 44, 3) := by decide +kernel
theorem dX7_item_34 : decode cX7_item 34 = .ok (.aload_n 0, 1) := by decide +kernel
theorem dX7_item_35 : decode cX7_item 35 = .ok (.dup, 1) := by decide +kernel
theorem dX7_item_36 : decode cX7_item 36 = .ok (.getfield 108, 3) := by decide +kernel
theorem dX7_item_39 : decode cX7_item 39 = .ok (.iconst 1, 1) := by decide +kernel
theorem dX7_item_40 : decode cX7_item 40 = .ok (.iadd, 1) := by decide +kernel
theorem dX7_item_41 : decode cX7_item 41 = .ok (.putfield 108, 3) := by decide +kernel
theorem dX7_item_44 : decode cX7_item 44 = .ok (.aload_n 0, 1) := by decide +kernel
theorem dX7_item_45 : decode cX7_item 45 = .ok (.invokevirtual 145, 3) := by decide +kernel
theorem dX7_item_48 : decode cX7_item 48 = .ok (.aload_n 0, 1) := by decide +kernel
theorem dX7_item_49 : decode cX7_item 49 = .ok (.invokevirtual 120, 3) := by decide +kernel
theorem dX7_item_52 : decode cX7_item 52 = .ok (.bipush 40, 2) := by decide +kernel
theorem dX7_item_54 : decode cX7_item 54 = .ok (.if_icmp .ne 11, 3) := by decide +kernel
theorem dX7_item_57 : decode cX7_item 57 = .ok (.aload_n 0, 1) := by decide +kernel
theorem dX7_item_58 : decode cX7_item 58 = .ok (.iload_n 1, 1) := by decide +kernel
theorem dX7_item_59 : decode cX7_item 59 = .ok (.invokevirtual 148, 3) := by decide +kernel
theorem dX7_item_62 : decode cX7_item 62 = .ok (.goto 12, 3) := by decide +kernel
theorem dX7_item_65 : decode cX7_item 65 = .ok (.aload_n 0, 1) := by decide +kernel
theorem dX7_item_66 : decode cX7_item 66 = .ok (.iconst 1, 1) := by decide +kernel
theorem dX7_item_67 : decode cX7_item 67 = .ok (.aload_n 0, 1) := by decide +kernel
theorem dX7_item_68 : decode cX7_item 68 = .ok (.getfield 108, 3) := by decide +kernel
theorem dX7_item_71 : decode cX7_item 71 = .ok (.invokevirtual 131, 3) := by decide +kernel
theorem dX7_item_74 : decode cX7_item 74 = .ok (.ireturn, 1) := by decide +kernel
theorem dX7_item_75 : decode cX7_item 75 = .ok (.iload_n 1, 1) := by decide +kernel
theorem dX7_item_76 : decode cX7_item 76 = .ok (.bipush 112, 2) := by decide +kernel
theorem dX7_item_78 : decode cX7_item 78 = .ok (.if_icmp .ne 8, 3) := by decide +kernel
theorem dX7_item_81 : decode cX7_item 81 = .ok (.aload_n 0, 1) := by decide +kernel
theorem dX7_item_82 : decode cX7_item 82 = .ok (.invokevirtual 151, 3) := by decide +kernel
theorem dX7_item_85 : decode cX7_item 85 = .ok (.ireturn, 1) := by decide +kernel
theorem dX7_item_86 : decode cX7_item 86 = .ok (.iload_n 1, 1) := by decide +kernel
theorem dX7_item_87 : decode cX7_item 87 = .ok (.invokestatic 124, 3) := by decide +kernel
theorem dX7_item_90 : decode cX7_item 90 = .ok (.ifCond .ne 13, 3) := by decide +kernel
theorem dX7_item_93 : decode cX7_item 93 = .ok (.aload_n 0, 1) := by decide +kernel
theorem dX7_item_94 : decode cX7_item 94 = .ok (.iconst 1, 1) := by decide +kernel
theorem dX7_item_95 : decode cX7_item 95 = .ok (.aload_n 0, 1) := by decide +kernel
theorem dX7_item_96 : decode cX7_item 96 = .ok (.getfield 108, 3) := by decide +kernel
theorem dX7_item_99 : decode cX7_item 99 = .ok (.invokevirtual 131, 3) := by decide +kernel
theorem dX7_item_102 : decode cX7_item 102 = .ok (.ireturn, 1) := by decide +kernel
theorem dX7_item_103 : decode cX7_item 103 = .ok (.aload_n 0, 1) := by decide +kernel
theorem dX7_item_104 : decode cX7_item 104 = .ok (.invokevirtual 154, 3) := by decide +kernel
theorem dX7_item_107 : decode cX7_item 107 = .ok (.istore_n 2, 1) := by decide +kernel
theorem dX7_item_108 : decode cX7_item 108 = .ok (.aload_n 0, 1) := by decide +kernel
theorem dX7_item_109 : decode cX7_item 109 = .ok (.getfield 114, 3) := by decide +kernel
theorem dX7_item_112 : decode cX7_item 112 = .ok (.istore_n 3, 1) := by decide +kernel
theorem dX7_item_113 : decode cX7_item 113 = .ok (.aload_n 0, 1) := by decide +kernel
theorem dX7_item_114 : decode cX7_item 114 = .ok (.invokevirtual 145, 3) := by decide +kernel
theorem dX7_item_117 : decode cX7_item 117 = .ok (.aload_n 0, 1) := by decide +kernel
theorem dX7_item_118 : decode cX7_item 118 = .ok (.invokevirtual 120, 3) := by decide +kernel
theorem dX7_item_121 : decode cX7_item 121 = .ok (.istore_n 1, 1) := by decide +kernel
theorem dX7_item_122 : decode cX7_item 122 = .ok (.iload_n 1, 1) := by decide +kernel
theorem dX7_item_123 : decode cX7_item 123 = .ok (.bipush 40, 2) := by decide +kernel
theorem dX7_item_125 : decode cX7_item 125 = .ok (.if_icmp .ne 29, 3) := by decide +kernel
theorem dX7_item_128 : decode cX7_item 128 = .ok (.iload_n 2, 1) := by decide +kernel
theorem dX7_item_129 : decode cX7_item 129 = .ok (.iconst 1, 1) := by decide +kernel
theorem dX7_item_130 : decode cX7_item 130 = .ok (.if_icmp .lt 17, 3) := by decide +kernel
theorem dX7_item_133 : decode cX7_item 133 = .ok (.iload_n 2, 1) := by decide +kernel
theorem dX7_item_134 : decode cX7_item 134 = .ok (.bipush 50, 2) := by decide +kernel
theorem dX7_item_136 : decode cX7_item 136 = .ok (.if_icmp .gt 11, 3) := by decide +kernel
theorem dX7_item_139 : decode cX7_item 139 = .ok (.aload_n 0, 1) := by decide +kernel
theorem dX7_item_140 : decode cX7_item 140 = .ok (.iload_n 2, 1) := by decide +kernel
theorem dX7_item_141 : decode cX7_item 141 = .ok (.invokevirtual 148, 3) := by decide +kernel
theorem dX7_item_144 : decode cX7_item 144 = .ok (.goto 9, 3) := by decide +kernel
theorem dX7_item_147 : decode cX7_item 147 = .ok (.aload_n 0, 1) := by decide +kernel
theorem dX7_item_148 : decode cX7_item 148 = .ok (.iconst 2, 1) := by decide +kernel
theorem dX7_item_149 : decode cX7_item 149 = .ok (.iload_n 3, 1) := by decide +kernel
theorem dX7_item_150 : decode cX7_item 150 = .ok (.invokevirtual 131, 3) := by decide +kernel
theorem dX7_item_153 : decode cX7_item 153 = .ok (.ireturn, 1) := by decide +kernel
theorem dX7_item_154 : decode cX7_item 154 = .ok (.iload_n 1, 1) := by decide +kernel
theorem dX7_item_155 : decode cX7_item 155 = .ok (.bipush 43, 2) := by decide +kernel
theorem dX7_item_157 : decode cX7_item 157 = .ok (.if_icmp .eq 19, 3) := by decide +kernel
theorem dX7_item_160 : decode cX7_item 160 = .ok (.iload_n 1, 1) := by decide +kernel
theorem dX7_item_161 : decode cX7_item 161 = .ok (.bipush 45, 2) := by decide +kernel
theorem dX7_item_163 : decode cX7_item 163 = .ok (.if_icmp .eq 13, 3) := by decide +kernel
theorem dX7_item_166 : decode cX7_item 166 = .ok (.aload_n 0, 1) := by decide +kernel
theorem dX7_item_167 : decode cX7_item 167 = .ok (.iconst 1, 1) := by decide +kernel
theorem dX7_item_168 : decode cX7_item 168 = .ok (.aload_n 0, 1) := by decide +kernel
theorem dX7_item_169 : decode cX7_item 169 = .ok (.getfield 108, 3) := by decide +kernel
theorem dX7_item_172 : decode cX7_item 172 = .ok (.invokevirtual 131, 3) := by decide +kernel
theorem dX7_item_175 : decode cX7_item 175 = .ok (.ireturn, 1) := by decide +kernel
theorem dX7_item_176 : decode cX7_item 176 = .ok (.iload_n 2, 1) := by decide +kernel
theorem dX7_item_177 : decode cX7_item 177 = .ok (.iconst 1, 1) := by decide +kernel
theorem dX7_item_178 : decode cX7_item 178 = .ok (.if_icmp .lt 11, 3) := by decide +kernel
theorem dX7_item_181 : decode cX7_item 181 = .ok (.iload_n 2, 1) := by decide +kernel
theorem dX7_item_182 : decode cX7_item 182 = .ok (.aload_n 0, 1) := by decide +kernel
theorem dX7_item_183 : decode cX7_item 183 = .ok (.getfield 138, 3) := by decide +kernel
theorem dX7_item_186 : decode cX7_item 186 = .ok (.if_icmp .lt 10, 3) := by decide +kernel
theorem dX7_item_189 : decode cX7_item 189 = .ok (.aload_n 0, 1) := by decide +kernel
theorem dX7_item_190 : decode cX7_item 190 = .ok (.iconst 2, 1) := by decide +kernel
theorem dX7_item_191 : decode cX7_item 191 = .ok (.iload_n 3, 1) := by decide +kernel
theorem dX7_item_192 : decode cX7_item 192 = .ok (.invokevirtual 131, 3) := by decide +kernel
theorem dX7_item_195 : decode cX7_item 195 = .ok (.ireturn, 1) := by decide +kernel
theorem dX7_item_196 : decode cX7_item 196 = .ok (.aload_n 0, 1) := by decide +kernel
theorem dX7_item_197 : decode cX7_item 197 = .ok (.getfield 135, 3) := by decide +kernel
theorem dX7_item_200 : decode cX7_item 200 = .ok (.sipush 300, 3) := by decide +kernel
theorem dX7_item_203 : decode cX7_item 203 = .ok (.if_icmp .ne 13, 3) := by decide +kernel
theorem dX7_item_206 : decode cX7_item 206 = .ok (.aload_n 0, 1) := by decide +kernel
theorem dX7_item_207 : decode cX7_item 207 = .ok (.iconst 2, 1) := by decide +kernel
theorem dX7_item_208 : decode cX7_item 208 = .ok (.aload_n 0, 1) := by decide +kernel
theorem dX7_item_209 : decode cX7_item 209 = .ok (.getfield 108, 3) := by decide +kernel
theorem dX7_item_212 : decode cX7_item 212 = .ok (.invokevirtual 131, 3) := by decide +kernel
theorem dX7_item_215 : decode cX7_item 215 = .ok (.ireturn, 1) := by decide +kernel
theorem dX7_item_216 : decode cX7_item 216 = .ok (.aload_n 0, 1) := by decide +kernel
theorem dX7_item_217 : decode cX7_item 217 = .ok (.getfield 26, 3) := by decide +kernel
theorem dX7_item_220 : decode cX7_item 220 = .ok (.aload_n 0, 1) := by decide +kernel
theorem dX7_item_221 : decode cX7_item 221 = .ok (.getfield 135, 3) := by decide +kernel
theorem dX7_item_224 : decode cX7_item 224 = .ok (.iload_n 1, 1) := by decide +kernel
theorem dX7_item_225 : decode cX7_item 225 = .ok (.bipush 43, 2) := by decide +kernel
theorem dX7_item_227 : decode cX7_item 227 = .ok (.if_icmp .ne 7, 3) := by decide +kernel
theorem dX7_item_230 : decode cX7_item 230 = .ok (.iload_n 2, 1) := by decide +kernel
theorem dX7_item_231 : decode cX7_item 231 = .ok (.goto 5, 3) := by decide +kernel
theorem dX7_item_234 : decode cX7_item 234 = .ok (.iload_n 2, 1) := by decide +kernel
theorem dX7_item_235 : decode cX7_item 235 = .ok (.ineg, 1) := by decide +kernel
theorem dX7_item_236 : decode cX7_item 236 = .ok (.iastore, 1) := by decide +kernel
theorem dX7_item_237 : decode cX7_item 237 = .ok (.aload_n 0, 1) := by decide +kernel
theorem dX7_item_238 : decode cX7_item 238 = .ok (.dup, 1) := by decide +kernel
theorem dX7_item_239 : decode cX7_item 239 = .ok (.getfield 135, 3) := by decide +kernel
theorem dX7_item_242 : decode cX7_item 242 = .ok (.iconst 1, 1) := by decide +kernel
theorem dX7_item_243 : decode cX7_item 243 = .ok (.iadd, 1) := by decide +kernel
theorem dX7_item_244 : decode cX7_item 244 = .ok (.putfield 135, 3) := by decide +kernel
theorem dX7_item_247 : decode cX7_item 247 = .ok (.aload_n 0, 1) := by decide +kernel
theorem dX7_item_248 : decode cX7_item 248 = .ok (.dup, 1) := by decide +kernel
theorem dX7_item_249 : decode cX7_item 249 = .ok (.getfield 108, 3) := by decide +kernel
theorem dX7_item_252 : decode cX7_item 252 = .ok (.iconst 1, 1) := by decide +kernel
theorem dX7_item_253 : decode cX7_item 253 = .ok (.iadd, 1) := by decide +kernel
theorem dX7_item_254 : decode cX7_item 254 = .ok (.putfield 108, 3) := by decide +kernel
theorem dX7_item_257 : decode cX7_item 257 = .ok (.iconst 1, 1) := by decide +kernel
theorem dX7_item_258 : decode cX7_item 258 = .ok (.ireturn, 1) := by decide +kernel
theorem dX7_pattern_0 : decode cX7_pattern 0 = .ok (.aload_n 0, 1) := by decide +kernel
theorem dX7_pattern_1 : decode cX7_pattern 1 = .ok (.dup, 1) := by decide +kernel
theorem dX7_pattern_2 : decode cX7_pattern 2 = .ok (.getfield 108, 3) := by decide +kernel
theorem dX7_pattern_5 : decode cX7_pattern 5 = .ok (.iconst 1, 1) := by decide +kernel
theorem dX7_pattern_6 : decode cX7_pattern 6 = .ok (.iadd, 1) := by decide +kernel
theorem dX7_pattern_7 : decode cX7_pattern 7 = .ok (.putfield 108, 3) := by decide +kernel
theorem dX7_pattern_10 : decode cX7_pattern 10 = .ok (.aload_n 0, 1) := by decide +kernel
theorem dX7_pattern_11 : decode cX7_pattern 11 = .ok (.invokevirtual 145, 3) := by decide +kernel
theorem dX7_pattern_14 : decode cX7_pattern 14 = .ok (.aload_n 0, 1) := by decide +kernel
theorem dX7_pattern_15 : decode cX7_pattern 15 = .ok (.invokevirtual 120, 3) := by decide +kernel
theorem dX7_pattern_18 : decode cX7_pattern 18 = .ok (.invokestatic 124, 3) := by decide +kernel
theorem dX7_pattern_21 : decode cX7_pattern 21 = .ok (.ifCond .ne 13, 3) := by decide +kernel
theorem dX7_pattern_24 : decode cX7_pattern 24 = .ok (.aload_n 0, 1) := by decide +kernel
theorem dX7_pattern_25 : decode cX7_pattern 25 = .ok (.iconst 1, 1) := by decide +kernel
theorem dX7_pattern_26 : decode cX7_pattern 26 = .ok (.aload_n 0, 1) := by decide +kernel
theorem dX7_pattern_27 : decode cX7_pattern 27 = .ok (.getfield 108, 3) := by decide +kernel
theorem dX7_pattern_30 : decode cX7_pattern 30 = .ok (.invokevirtual 131, 3) := by decide +kernel
theorem dX7_pattern_33 : decode cX7_pattern 33 = .ok (.ireturn, 1) := by decide +kernel
theorem dX7_pattern_34 : decode cX7_pattern 34 = .ok (.aload_n 0, 1) := by decide +kernel
theorem dX7_pattern_35 : decode cX7_pattern 35 = .ok (.invokevirtual 154, 3) := by decide +kernel
theorem dX7_pattern_38 : decode cX7_pattern 38 = .ok (.istore_n 1, 1) := by decide +kernel
theorem dX7_pattern_39 : decode cX7_pattern 39 = .ok (.iload_n 1, 1) := by decide +kernel
theorem dX7_pattern_40 : decode cX7_pattern 40 = .ok (.bipush 7, 2) := by decide +kernel
theorem dX7_pattern_42 : decode cX7_pattern 42 = .ok (.if_icmp .gt 11, 3) := by decide +kernel
theorem dX7_pattern_45 : decode cX7_pattern 45 = .ok (.aload_n 0, 1) := by decide +kernel
theorem dX7_pattern_46 : decode cX7_pattern 46 = .ok (.getfield 117, 3) := by decide +kernel
theorem dX7_pattern_49 : decode cX7_pattern 49 = .ok (.iconst 2, 1) := by decide +kernel
theorem dX7_pattern_50 : decode cX7_pattern 50 = .ok (.if_icmp .le 13, 3) := by decide +kernel
theorem dX7_pattern_53 : decode cX7_pattern 53 = .ok (.aload_n 0, 1) := by decide +kernel
theorem dX7_pattern_54 : decode cX7_pattern 54 = .ok (.iconst 2, 1) := by decide +kernel
theorem dX7_pattern_55 : decode cX7_pattern 55 = .ok (.aload_n 0, 1) := by decide +kernel
theorem dX7_pattern_56 : decode cX7_pattern 56 = .ok (.getfield 114, 3) := by decide +kernel
theorem dX7_pattern_59 : decode cX7_pattern 59 = .ok (.invokevirtual 131, 3) := by decide +kernel
theorem dX7_pattern_62 : decode cX7_pattern 62 = .ok (.ireturn, 1) := by decide +kernel
theorem dX7_pattern_63 : decode cX7_pattern 63 = .ok (.aload_n 0, 1) := by decide +kernel
theorem dX7_pattern_64 : decode cX7_pattern 64 = .ok (.getfield 17, 3) := by decide +kernel
theorem dX7_pattern_67 : decode cX7_pattern 67 = .ok (.iload_n 1, 1) := by decide +kernel
theorem dX7_pattern_68 : decode cX7_pattern 68 = .ok (.iaload, 1) := by decide +kernel
theorem dX7_pattern_69 : decode cX7_pattern 69 = .ok (.aload_n 0, 1) := by decide +kernel
theorem dX7_pattern_70 : decode cX7_pattern 70 = .ok (.getfield 138, 3) := by decide +kernel
theorem dX7_pattern_73 : decode cX7_pattern 73 = .ok (.if_icmp .eq 13, 3) := by decide +kernel
theorem dX7_pattern_76 : decode cX7_pattern 76 = .ok (.aload_n 0, 1) := by decide +kernel
theorem dX7_pattern_77 : decode cX7_pattern 77 = .ok (.iconst 3, 1) := by decide +kernel
theorem dX7_pattern_78 : decode cX7_pattern 78 = .ok (.aload_n 0, 1) := by decide +kernel
theorem dX7_pattern_79 : decode cX7_pattern 79 = .ok (.getfield 114, 3) := by decide +kernel
theorem dX7_pattern_82 : decode cX7_pattern 82 = .ok (.invokevirtual 131, 3) := by decide +kernel
theorem dX7_pattern_85 : decode cX7_pattern 85 = .ok (.ireturn, 1) := by decide +kernel
theorem dX7_pattern_86 : decode cX7_pattern 86 = .ok (.aload_n 0, 1) := by decide +kernel
theorem dX7_pattern_87 : decode cX7_pattern 87 = .ok (.getfield 135, 3) := by decide +kernel
theorem dX7_pattern_90 : decode cX7_pattern 90 = .ok (.aload_n 0, 1) := by decide +kernel
