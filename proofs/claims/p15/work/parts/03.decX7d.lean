theorem dX7_about_2 : decode cX7_about 2 = .ok (.invokevirtual 164, 3) := by decide +kernel
theorem dX7_about_5 : decode cX7_about 5 = .ok (.ifCond .eq 26, 3) := by decide +kernel
theorem dX7_about_8 : decode cX7_about 8 = .ok (.aload_n 0, 1) := by decide +kernel
theorem dX7_about_9 : decode cX7_about 9 = .ok (.iload_n 2, 1) := by decide +kernel
theorem dX7_about_10 : decode cX7_about 10 = .ok (.ifCond .lt 13, 3) := by decide +kernel
theorem dX7_about_13 : decode cX7_about 13 = .ok (.iload_n 2, 1) := by decide +kernel
theorem dX7_about_14 : decode cX7_about 14 = .ok (.bipush 6, 2) := by decide +kernel
theorem dX7_about_16 : decode cX7_about 16 = .ok (.if_icmp .gt 7, 3) := by decide +kernel
theorem dX7_about_19 : decode cX7_about 19 = .ok (.iconst 1, 1) := by decide +kernel
theorem dX7_about_20 : decode cX7_about 20 = .ok (.goto 4, 3) := by decide +kernel
theorem dX7_about_23 : decode cX7_about 23 = .ok (.iconst 0, 1) := by decide +kernel
theorem dX7_about_24 : decode cX7_about 24 = .ok (.iconst 1, 1) := by decide +kernel
theorem dX7_about_25 : decode cX7_about 25 = .ok (.invokevirtual 157, 3) := by decide +kernel
theorem dX7_about_28 : decode cX7_about 28 = .ok (.ifCond .ne 5, 3) := by decide +kernel
theorem dX7_about_31 : decode cX7_about 31 = .ok (.iconst 0, 1) := by decide +kernel
theorem dX7_about_32 : decode cX7_about 32 = .ok (.ireturn, 1) := by decide +kernel
theorem dX7_about_33 : decode cX7_about 33 = .ok (.iload_n 2, 1) := by decide +kernel
theorem dX7_about_34 : decode cX7_about 34 = .ok (.tableswitch 73 0 4 #[34, 41, 47, 53, 67], 34) := by decide +kernel
theorem dX7_about_68 : decode cX7_about 68 = .ok (.aload_n 0, 1) := by decide +kernel
theorem dX7_about_69 : decode cX7_about 69 = .ok (.getfield 17, 3) := by decide +kernel
theorem dX7_about_72 : decode cX7_about 72 = .ok (.iload_n 1, 1) := by decide +kernel
theorem dX7_about_73 : decode cX7_about 73 = .ok (.iaload, 1) := by decide +kernel
theorem dX7_about_74 : decode cX7_about 74 = .ok (.ireturn, 1) := by decide +kernel
theorem dX7_about_75 : decode cX7_about 75 = .ok (.aload_n 0, 1) := by decide +kernel
theorem dX7_about_76 : decode cX7_about 76 = .ok (.iload_n 1, 1) := by decide +kernel
theorem dX7_about_77 : decode cX7_about 77 = .ok (.invokevirtual 214, 3) := by decide +kernel
theorem dX7_about_80 : decode cX7_about 80 = .ok (.ireturn, 1) := by decide +kernel
theorem dX7_about_81 : decode cX7_about 81 = .ok (.aload_n 0, 1) := by decide +kernel
theorem dX7_about_82 : decode cX7_about 82 = .ok (.iload_n 1, 1) := by decide +kernel
theorem dX7_about_83 : decode cX7_about 83 = .ok (.invokevirtual 225, 3) := by decide +kernel
theorem dX7_about_86 : decode cX7_about 86 = .ok (.ireturn, 1) := by decide +kernel
theorem dX7_about_87 : decode cX7_about 87 = .ok (.aload_n 0, 1) := by decide +kernel
theorem dX7_about_88 : decode cX7_about 88 = .ok (.iload_n 1, 1) := by decide +kernel
theorem dX7_about_89 : decode cX7_about 89 = .ok (.invokevirtual 228, 3) := by decide +kernel
theorem dX7_about_92 : decode cX7_about 92 = .ok (.ifCond .eq 7, 3) := by decide +kernel
theorem dX7_about_95 : decode cX7_about 95 = .ok (.iconst 1, 1) := by decide +kernel
theorem dX7_about_96 : decode cX7_about 96 = .ok (.goto 4, 3) := by decide +kernel
theorem dX7_about_99 : decode cX7_about 99 = .ok (.iconst 0, 1) := by decide +kernel
theorem dX7_about_100 : decode cX7_about 100 = .ok (.ireturn, 1) := by decide +kernel
theorem dX7_about_101 : decode cX7_about 101 = .ok (.aload_n 0, 1) := by decide +kernel
theorem dX7_about_102 : decode cX7_about 102 = .ok (.iload_n 1, 1) := by decide +kernel
theorem dX7_about_103 : decode cX7_about 103 = .ok (.invokevirtual 222, 3) := by decide +kernel
theorem dX7_about_106 : decode cX7_about 106 = .ok (.ireturn, 1) := by decide +kernel
theorem dX7_about_107 : decode cX7_about 107 = .ok (.aload_n 0, 1) := by decide +kernel
theorem dX7_about_108 : decode cX7_about 108 = .ok (.iload_n 1, 1) := by decide +kernel
theorem dX7_about_109 : decode cX7_about 109 = .ok (.iconst 1, 1) := by decide +kernel
theorem dX7_about_110 : decode cX7_about 110 = .ok (.invokevirtual 199, 3) := by decide +kernel
theorem dX7_about_113 : decode cX7_about 113 = .ok (.iload_n 2, 1) := by decide +kernel
theorem dX7_about_114 : decode cX7_about 114 = .ok (.iconst 5, 1) := by decide +kernel
theorem dX7_about_115 : decode cX7_about 115 = .ok (.if_icmp .ne 10, 3) := by decide +kernel
theorem dX7_about_118 : decode cX7_about 118 = .ok (.aload_n 0, 1) := by decide +kernel
theorem dX7_about_119 : decode cX7_about 119 = .ok (.getfield 184, 3) := by decide +kernel
theorem dX7_about_122 : decode cX7_about 122 = .ok (.goto 7, 3) := by decide +kernel
theorem dX7_about_125 : decode cX7_about 125 = .ok (.aload_n 0, 1) := by decide +kernel
theorem dX7_about_126 : decode cX7_about 126 = .ok (.getfield 178, 3) := by decide +kernel
theorem dX7_about_129 : decode cX7_about 129 = .ok (.ireturn, 1) := by decide +kernel
theorem dX7_isPlace_0 : decode cX7_isPlace 0 = .ok (.aload_n 0, 1) := by decide +kernel
theorem dX7_isPlace_1 : decode cX7_isPlace 1 = .ok (.iload_n 2, 1) := by decide +kernel
theorem dX7_isPlace_2 : decode cX7_isPlace 2 = .ok (.iconst 1, 1) := by decide +kernel
theorem dX7_isPlace_3 : decode cX7_isPlace 3 = .ok (.if_icmp .lt 17, 3) := by decide +kernel
theorem dX7_isPlace_6 : decode cX7_isPlace 6 = .ok (.iload_n 2, 1) := by decide +kernel
theorem dX7_isPlace_7 : decode cX7_isPlace 7 = .ok (.aload_n 0, 1) := by decide +kernel
theorem dX7_isPlace_8 : decode cX7_isPlace 8 = .ok (.getfield 17, 3) := by decide +kernel
theorem dX7_isPlace_11 : decode cX7_isPlace 11 = .ok (.iload_n 1, 1) := by decide +kernel
theorem dX7_isPlace_12 : decode cX7_isPlace 12 = .ok (.iaload, 1) := by decide +kernel
theorem dX7_isPlace_13 : decode cX7_isPlace 13 = .ok (.if_icmp .gt 7, 3) := by decide +kernel
theorem dX7_isPlace_16 : decode cX7_isPlace 16 = .ok (.iconst 1, 1) := by decide +kernel
theorem dX7_isPlace_17 : decode cX7_isPlace 17 = .ok (.goto 4, 3) := by decide +kernel
theorem dX7_isPlace_20 : decode cX7_isPlace 20 = .ok (.iconst 0, 1) := by decide +kernel
theorem dX7_isPlace_21 : decode cX7_isPlace 21 = .ok (.iconst 1, 1) := by decide +kernel
theorem dX7_isPlace_22 : decode cX7_isPlace 22 = .ok (.invokevirtual 157, 3) := by decide +kernel
theorem dX7_isPlace_25 : decode cX7_isPlace 25 = .ok (.ireturn, 1) := by decide +kernel
theorem dX7_goes_0 : decode cX7_goes 0 = .ok (.aload_n 0, 1) := by decide +kernel
theorem dX7_goes_1 : decode cX7_goes 1 = .ok (.iload_n 1, 1) := by decide +kernel
theorem dX7_goes_2 : decode cX7_goes 2 = .ok (.invokevirtual 164, 3) := by decide +kernel
theorem dX7_goes_5 : decode cX7_goes 5 = .ok (.ifCond .eq 21, 3) := by decide +kernel
theorem dX7_goes_8 : decode cX7_goes 8 = .ok (.aload_n 0, 1) := by decide +kernel
theorem dX7_goes_9 : decode cX7_goes 9 = .ok (.iload_n 1, 1) := by decide +kernel
theorem dX7_goes_10 : decode cX7_goes 10 = .ok (.iload_n 2, 1) := by decide +kernel
theorem dX7_goes_11 : decode cX7_goes 11 = .ok (.invokevirtual 231, 3) := by decide +kernel
theorem dX7_goes_14 : decode cX7_goes 14 = .ok (.ifCond .eq 12, 3) := by decide +kernel
theorem dX7_goes_17 : decode cX7_goes 17 = .ok (.aload_n 0, 1) := by decide +kernel
theorem dX7_goes_18 : decode cX7_goes 18 = .ok (.iload_n 1, 1) := by decide +kernel
theorem dX7_goes_19 : decode cX7_goes 19 = .ok (.iload_n 2, 1) := by decide +kernel
theorem dX7_goes_20 : decode cX7_goes 20 = .ok (.invokevirtual 211, 3) := by decide +kernel
theorem dX7_goes_23 : decode cX7_goes 23 = .ok (.goto 4, 3) := by decide +kernel
theorem dX7_goes_26 : decode cX7_goes 26 = .ok (.iconst 0, 1) := by decide +kernel
theorem dX7_goes_27 : decode cX7_goes 27 = .ok (.ireturn, 1) := by decide +kernel
theorem dX7_twine_0 : decode cX7_twine 0 = .ok (.aload_n 0, 1) := by decide +kernel
theorem dX7_twine_1 : decode cX7_twine 1 = .ok (.iload_n 1, 1) := by decide +kernel
theorem dX7_twine_2 : decode cX7_twine 2 = .ok (.invokevirtual 164, 3) := by decide +kernel
theorem dX7_twine_5 : decode cX7_twine 5 = .ok (.ifCond .eq 39, 3) := by decide +kernel
theorem dX7_twine_8 : decode cX7_twine 8 = .ok (.aload_n 0, 1) := by decide +kernel
theorem dX7_twine_9 : decode cX7_twine 9 = .ok (.iload_n 1, 1) := by decide +kernel
theorem dX7_twine_10 : decode cX7_twine 10 = .ok (.iload_n 2, 1) := by decide +kernel
theorem dX7_twine_11 : decode cX7_twine 11 = .ok (.invokevirtual 231, 3) := by decide +kernel
theorem dX7_twine_14 : decode cX7_twine 14 = .ok (.ifCond .eq 30, 3) := by decide +kernel
theorem dX7_twine_17 : decode cX7_twine 17 = .ok (.aload_n 0, 1) := by decide +kernel
theorem dX7_twine_18 : decode cX7_twine 18 = .ok (.iload_n 1, 1) := by decide +kernel
theorem dX7_twine_19 : decode cX7_twine 19 = .ok (.iload_n 3, 1) := by decide +kernel
theorem dX7_twine_20 : decode cX7_twine 20 = .ok (.invokevirtual 231, 3) := by decide +kernel
theorem dX7_twine_23 : decode cX7_twine 23 = .ok (.ifCond .eq 21, 3) := by decide +kernel
theorem dX7_twine_26 : decode cX7_twine 26 = .ok (.aload_n 0, 1) := by decide +kernel
theorem dX7_twine_27 : decode cX7_twine 27 = .ok (.iload_n 2, 1) := by decide +kernel
theorem dX7_twine_28 : decode cX7_twine 28 = .ok (.iload_n 3, 1) := by decide +kernel
theorem dX7_twine_29 : decode cX7_twine 29 = .ok (.if_icmp .eq 7, 3) := by decide +kernel
theorem dX7_twine_32 : decode cX7_twine 32 = .ok (.iconst 1, 1) := by decide +kernel
theorem dX7_twine_33 : decode cX7_twine 33 = .ok (.goto 4, 3) := by decide +kernel
theorem dX7_twine_36 : decode cX7_twine 36 = .ok (.iconst 0, 1) := by decide +kernel
theorem dX7_twine_37 : decode cX7_twine 37 = .ok (.iconst 1, 1) := by decide +kernel
theorem dX7_twine_38 : decode cX7_twine 38 = .ok (.invokevirtual 157, 3) := by decide +kernel
theorem dX7_twine_41 : decode cX7_twine 41 = .ok (.ifCond .ne 5, 3) := by decide +kernel
theorem dX7_twine_44 : decode cX7_twine 44 = .ok (.iconst 0, 1) := by decide +kernel
theorem dX7_twine_45 : decode cX7_twine 45 = .ok (.ireturn, 1) := by decide +kernel
theorem dX7_twine_46 : decode cX7_twine 46 = .ok (.aload_n 0, 1) := by decide +kernel
theorem dX7_twine_47 : decode cX7_twine 47 = .ok (.iload_n 1, 1) := by decide +kernel
theorem dX7_twine_48 : decode cX7_twine 48 = .ok (.invokevirtual 214, 3) := by decide +kernel
theorem dX7_twine_51 : decode cX7_twine 51 = .ok (.istore 4, 2) := by decide +kernel
theorem dX7_twine_53 : decode cX7_twine 53 = .ok (.iload_n 2, 1) := by decide +kernel
theorem dX7_twine_54 : decode cX7_twine 54 = .ok (.istore 5, 2) := by decide +kernel
theorem dX7_twine_56 : decode cX7_twine 56 = .ok (.iload_n 3, 1) := by decide +kernel
theorem dX7_twine_57 : decode cX7_twine 57 = .ok (.istore 6, 2) := by decide +kernel
theorem dX7_twine_59 : decode cX7_twine 59 = .ok (.iconst 0, 1) := by decide +kernel
theorem dX7_twine_60 : decode cX7_twine 60 = .ok (.istore 7, 2) := by decide +kernel
theorem dX7_twine_62 : decode cX7_twine 62 = .ok (.iconst 0, 1) := by decide +kernel
theorem dX7_twine_63 : decode cX7_twine 63 = .ok (.istore 8, 2) := by decide +kernel
theorem dX7_twine_65 : decode cX7_twine 65 = .ok (.iload 8, 2) := by decide +kernel
theorem dX7_twine_67 : decode cX7_twine 67 = .ok (.iload 4, 2) := by decide +kernel
theorem dX7_twine_69 : decode cX7_twine 69 = .ok (.if_icmp .ge 176, 3) := by decide +kernel
theorem dX7_twine_72 : decode cX7_twine 72 = .ok (.iconst 0, 1) := by decide +kernel
theorem dX7_twine_73 : decode cX7_twine 73 = .ok (.istore 9, 2) := by decide +kernel
theorem dX7_twine_75 : decode cX7_twine 75 = .ok (.iload 9, 2) := by decide +kernel
theorem dX7_twine_77 : decode cX7_twine 77 = .ok (.aload_n 0, 1) := by decide +kernel
theorem dX7_twine_78 : decode cX7_twine 78 = .ok (.getfield 20, 3) := by decide +kernel
theorem dX7_twine_81 : decode cX7_twine 81 = .ok (.iload_n 1, 1) := by decide +kernel
theorem dX7_twine_82 : decode cX7_twine 82 = .ok (.iaload, 1) := by decide +kernel
theorem dX7_twine_83 : decode cX7_twine 83 = .ok (.if_icmp .ge 156, 3) := by decide +kernel
theorem dX7_twine_86 : decode cX7_twine 86 = .ok (.aload_n 0, 1) := by decide +kernel
theorem dX7_twine_87 : decode cX7_twine 87 = .ok (.getfield 23, 3) := by decide +kernel
theorem dX7_twine_90 : decode cX7_twine 90 = .ok (.sipush 300, 3) := by decide +kernel
theorem dX7_twine_93 : decode cX7_twine 93 = .ok (.iload_n 1, 1) := by decide +kernel
theorem dX7_twine_94 : decode cX7_twine 94 = .ok (.imul, 1) := by decide +kernel
theorem dX7_twine_95 : decode cX7_twine 95 = .ok (.iload 9, 2) := by decide +kernel
theorem dX7_twine_97 : decode cX7_twine 97 = .ok (.iadd, 1) := by decide +kernel
theorem dX7_twine_98 : decode cX7_twine 98 = .ok (.iaload, 1) := by decide +kernel
theorem dX7_twine_99 : decode cX7_twine 99 = .ok (.istore 10, 2) := by decide +kernel
theorem dX7_twine_101 : decode cX7_twine 101 = .ok (.iload 10, 2) := by decide +kernel
theorem dX7_twine_103 : decode cX7_twine 103 = .ok (.ifCond .le 8, 3) := by decide +kernel
theorem dX7_twine_106 : decode cX7_twine 106 = .ok (.iload 10, 2) := by decide +kernel
theorem dX7_twine_108 : decode cX7_twine 108 = .ok (.goto 6, 3) := by decide +kernel
theorem dX7_twine_111 : decode cX7_twine 111 = .ok (.iload 10, 2) := by decide +kernel
theorem dX7_twine_113 : decode cX7_twine 113 = .ok (.ineg, 1) := by decide +kernel
theorem dX7_twine_114 : decode cX7_twine 114 = .ok (.istore 11, 2) := by decide +kernel
theorem dX7_twine_116 : decode cX7_twine 116 = .ok (.iload 5, 2) := by decide +kernel
theorem dX7_twine_118 : decode cX7_twine 118 = .ok (.iload 11, 2) := by decide +kernel
theorem dX7_twine_120 : decode cX7_twine 120 = .ok (.if_icmp .eq 12, 3) := by decide +kernel
theorem dX7_twine_123 : decode cX7_twine 123 = .ok (.iload 5, 2) := by decide +kernel
theorem dX7_twine_125 : decode cX7_twine 125 = .ok (.iload 11, 2) := by decide +kernel
theorem dX7_twine_127 : decode cX7_twine 127 = .ok (.iconst 1, 1) := by decide +kernel
theorem dX7_twine_128 : decode cX7_twine 128 = .ok (.iadd, 1) := by decide +kernel
theorem dX7_twine_129 : decode cX7_twine 129 = .ok (.if_icmp .ne 7, 3) := by decide +kernel
theorem dX7_twine_132 : decode cX7_twine 132 = .ok (.iconst 1, 1) := by decide +kernel
theorem dX7_twine_133 : decode cX7_twine 133 = .ok (.goto 4, 3) := by decide +kernel
theorem dX7_twine_136 : decode cX7_twine 136 = .ok (.iconst 0, 1) := by decide +kernel
theorem dX7_twine_137 : decode cX7_twine 137 = .ok (.istore 12, 2) := by decide +kernel
theorem dX7_twine_139 : decode cX7_twine 139 = .ok (.iload 6, 2) := by decide +kernel
theorem dX7_twine_141 : decode cX7_twine 141 = .ok (.iload 11, 2) := by decide +kernel
theorem dX7_twine_143 : decode cX7_twine 143 = .ok (.if_icmp .eq 12, 3) := by decide +kernel
theorem dX7_twine_146 : decode cX7_twine 146 = .ok (.iload 6, 2) := by decide +kernel
theorem dX7_twine_148 : decode cX7_twine 148 = .ok (.iload 11, 2) := by decide +kernel
theorem dX7_twine_150 : decode cX7_twine 150 = .ok (.iconst 1, 1) := by decide +kernel
theorem dX7_twine_151 : decode cX7_twine 151 = .ok (.iadd, 1) := by decide +kernel
theorem dX7_twine_152 : decode cX7_twine 152 = .ok (.if_icmp .ne 7, 3) := by decide +kernel
theorem dX7_twine_155 : decode cX7_twine 155 = .ok (.iconst 1, 1) := by decide +kernel
theorem dX7_twine_156 : decode cX7_twine 156 = .ok (.goto 4, 3) := by decide +kernel
theorem dX7_twine_159 : decode cX7_twine 159 = .ok (.iconst 0, 1) := by decide +kernel
theorem dX7_twine_160 : decode cX7_twine 160 = .ok (.istore 13, 2) := by decide +kernel
theorem dX7_twine_162 : decode cX7_twine 162 = .ok (.iload 12, 2) := by decide +kernel
theorem dX7_twine_164 : decode cX7_twine 164 = .ok (.ifCond .eq 23, 3) := by decide +kernel
theorem dX7_twine_167 : decode cX7_twine 167 = .ok (.iload 13, 2) := by decide +kernel
theorem dX7_twine_169 : decode cX7_twine 169 = .ok (.ifCond .eq 18, 3) := by decide +kernel
theorem dX7_twine_172 : decode cX7_twine 172 = .ok (.iload 7, 2) := by decide +kernel
theorem dX7_twine_174 : decode cX7_twine 174 = .ok (.iload 10, 2) := by decide +kernel
theorem dX7_twine_176 : decode cX7_twine 176 = .ok (.ifCond .le 7, 3) := by decide +kernel
theorem dX7_twine_179 : decode cX7_twine 179 = .ok (.iconst 1, 1) := by decide +kernel
theorem dX7_twine_180 : decode cX7_twine 180 = .ok (.goto 4, 3) := by decide +kernel
theorem dX7_twine_183 : decode cX7_twine 183 = .ok (.iconst (-1), 1) := by decide +kernel
theorem dX7_twine_184 : decode cX7_twine 184 = .ok (.iadd, 1) := by decide +kernel
theorem dX7_twine_185 : decode cX7_twine 185 = .ok (.istore 7, 2) := by decide +kernel
theorem dX7_twine_187 : decode cX7_twine 187 = .ok (.iload 12, 2) := by decide +kernel
theorem dX7_twine_189 : decode cX7_twine 189 = .ok (.ifCond .eq 21, 3) := by decide +kernel
theorem dX7_twine_192 : decode cX7_twine 192 = .ok (.iload 5, 2) := by decide +kernel
theorem dX7_twine_194 : decode cX7_twine 194 = .ok (.iload 11, 2) := by decide +kernel
theorem dX7_twine_196 : decode cX7_twine 196 = .ok (.if_icmp .ne 10, 3) := by decide +kernel
theorem dX7_twine_199 : decode cX7_twine 199 = .ok (.iload 11, 2) := by decide +kernel
theorem dX7_twine_201 : decode cX7_twine 201 = .ok (.iconst 1, 1) := by decide +kernel
theorem dX7_twine_202 : decode cX7_twine 202 = .ok (.iadd, 1) := by decide +kernel
theorem dX7_twine_203 : decode cX7_twine 203 = .ok (.goto 5, 3) := by decide +kernel
theorem dX7_twine_206 : decode cX7_twine 206 = .ok (.iload 11, 2) := by decide +kernel
theorem dX7_twine_208 : decode cX7_twine 208 = .ok (.istore 5, 2) := by decide +kernel
theorem dX7_twine_210 : decode cX7_twine 210 = .ok (.iload 13, 2) := by decide +kernel
theorem dX7_twine_212 : decode cX7_twine 212 = .ok (.ifCond .eq 21, 3) := by decide +kernel
theorem dX7_twine_215 : decode cX7_twine 215 = .ok (.iload 6, 2) := by decide +kernel
theorem dX7_twine_217 : decode cX7_twine 217 = .ok (.iload 11, 2) := by decide +kernel
theorem dX7_twine_219 : decode cX7_twine 219 = .ok (.if_icmp .ne 10, 3) := by decide +kernel
theorem dX7_twine_222 : decode cX7_twine 222 = .ok (.iload 11, 2) := by decide +kernel
theorem dX7_twine_224 : decode cX7_twine 224 = .ok (.iconst 1, 1) := by decide +kernel
theorem dX7_twine_225 : decode cX7_twine 225 = .ok (.iadd, 1) := by decide +kernel
theorem dX7_twine_226 : decode cX7_twine 226 = .ok (.goto 5, 3) := by decide +kernel
theorem dX7_twine_229 : decode cX7_twine 229 = .ok (.iload 11, 2) := by decide +kernel
theorem dX7_twine_231 : decode cX7_twine 231 = .ok (.istore 6, 2) := by decide +kernel
theorem dX7_twine_233 : decode cX7_twine 233 = .ok (.iinc 9 1, 3) := by decide +kernel
theorem dX7_twine_236 : decode cX7_twine 236 = .ok (.goto (-161), 3) := by decide +kernel
theorem dX7_twine_239 : decode cX7_twine 239 = .ok (.iinc 8 1, 3) := by decide +kernel
theorem dX7_twine_242 : decode cX7_twine 242 = .ok (.goto (-177), 3) := by decide +kernel
theorem dX7_twine_245 : decode cX7_twine 245 = .ok (.iload 7, 2) := by decide +kernel
theorem dX7_twine_247 : decode cX7_twine 247 = .ok (.ireturn, 1) := by decide +kernel
theorem dX7_use_0 : decode cX7_use 0 = .ok (.aload_n 0, 1) := by decide +kernel
theorem dX7_use_1 : decode cX7_use 1 = .ok (.iload_n 1, 1) := by decide +kernel
theorem dX7_use_2 : decode cX7_use 2 = .ok (.invokevirtual 164, 3) := by decide +kernel
theorem dX7_use_5 : decode cX7_use 5 = .ok (.ifCond .eq 21, 3) := by decide +kernel
theorem dX7_use_8 : decode cX7_use 8 = .ok (.aload_n 0, 1) := by decide +kernel
theorem dX7_use_9 : decode cX7_use 9 = .ok (.iload_n 1, 1) := by decide +kernel
theorem dX7_use_10 : decode cX7_use 10 = .ok (.iload_n 2, 1) := by decide +kernel
theorem dX7_use_11 : decode cX7_use 11 = .ok (.invokevirtual 231, 3) := by decide +kernel
theorem dX7_use_14 : decode cX7_use 14 = .ok (.ifCond .eq 12, 3) := by decide +kernel
theorem dX7_use_17 : decode cX7_use 17 = .ok (.aload_n 0, 1) := by decide +kernel
theorem dX7_use_18 : decode cX7_use 18 = .ok (.iload_n 1, 1) := by decide +kernel
theorem dX7_use_19 : decode cX7_use 19 = .ok (.iload_n 2, 1) := by decide +kernel
theorem dX7_use_20 : decode cX7_use 20 = .ok (.invokevirtual 234, 3) := by decide +kernel
theorem dX7_use_23 : decode cX7_use 23 = .ok (.goto 4, 3) := by decide +kernel
theorem dX7_use_26 : decode cX7_use 26 = .ok (.iconst 0, 1) := by decide +kernel
theorem dX7_use_27 : decode cX7_use 27 = .ok (.ireturn, 1) := by decide +kernel
theorem dX7_bundle_0 : decode cX7_bundle 0 = .ok (.aload_n 0, 1) := by decide +kernel
theorem dX7_bundle_1 : decode cX7_bundle 1 = .ok (.iconst 0, 1) := by decide +kernel
theorem dX7_bundle_2 : decode cX7_bundle 2 = .ok (.putfield 95, 3) := by decide +kernel
theorem dX7_bundle_5 : decode cX7_bundle 5 = .ok (.aload_n 0, 1) := by decide +kernel
theorem dX7_bundle_6 : decode cX7_bundle 6 = .ok (.getfield 237, 3) := by decide +kernel
theorem dX7_bundle_9 : decode cX7_bundle 9 = .ok (.bipush 40, 2) := by decide +kernel
theorem dX7_bundle_11 : decode cX7_bundle 11 = .ok (.if_icmp .eq 36, 3) := by decide +kernel
theorem dX7_bundle_14 : decode cX7_bundle 14 = .ok (.iload_n 1, 1) := by decide +kernel
theorem dX7_bundle_15 : decode cX7_bundle 15 = .ok (.ifCond .lt 32, 3) := by decide +kernel
theorem dX7_bundle_18 : decode cX7_bundle 18 = .ok (.iload_n 1, 1) := by decide +kernel
theorem dX7_bundle_19 : decode cX7_bundle 19 = .ok (.bipush 31, 2) := by decide +kernel
theorem dX7_bundle_21 : decode cX7_bundle 21 = .ok (.if_icmp .gt 26, 3) := by decide +kernel
theorem dX7_bundle_24 : decode cX7_bundle 24 = .ok (.iload_n 2, 1) := by decide +kernel
theorem dX7_bundle_25 : decode cX7_bundle 25 = .ok (.iconst 1, 1) := by decide +kernel
theorem dX7_bundle_26 : decode cX7_bundle 26 = .ok (.if_icmp .lt 21, 3) := by decide +kernel
theorem dX7_bundle_29 : decode cX7_bundle 29 = .ok (.iload_n 2, 1) := by decide +kernel
theorem dX7_bundle_30 : decode cX7_bundle 30 = .ok (.bipush 9, 2) := by decide +kernel
theorem dX7_bundle_32 : decode cX7_bundle 32 = .ok (.if_icmp .gt 15, 3) := by decide +kernel
theorem dX7_bundle_35 : decode cX7_bundle 35 = .ok (.iload_n 3, 1) := by decide +kernel
theorem dX7_bundle_36 : decode cX7_bundle 36 = .ok (.iconst 1, 1) := by decide +kernel
theorem dX7_bundle_37 : decode cX7_bundle 37 = .ok (.if_icmp .lt 10, 3) := by decide +kernel
theorem dX7_bundle_40 : decode cX7_bundle 40 = .ok (.iload_n 3, 1) := by decide +kernel
theorem dX7_bundle_41 : decode cX7_bundle 41 = .ok (.sipush 5000, 3) := by decide +kernel
theorem dX7_bundle_44 : decode cX7_bundle 44 = .ok (.if_icmp .le 5, 3) := by decide +kernel
theorem dX7_bundle_47 : decode cX7_bundle 47 = .ok (.iconst (-1), 1) := by decide +kernel
theorem dX7_bundle_48 : decode cX7_bundle 48 = .ok (.ireturn, 1) := by decide +kernel
theorem dX7_bundle_49 : decode cX7_bundle 49 = .ok (.aload_n 0, 1) := by decide +kernel
theorem dX7_bundle_50 : decode cX7_bundle 50 = .ok (.getfield 53, 3) := by decide +kernel
theorem dX7_bundle_53 : decode cX7_bundle 53 = .ok (.aload_n 0, 1) := by decide +kernel
theorem dX7_bundle_54 : decode cX7_bundle 54 = .ok (.getfield 237, 3) := by decide +kernel
theorem dX7_bundle_57 : decode cX7_bundle 57 = .ok (.iload_n 1, 1) := by decide +kernel
theorem dX7_bundle_58 : decode cX7_bundle 58 = .ok (.iastore, 1) := by decide +kernel
theorem dX7_bundle_59 : decode cX7_bundle 59 = .ok (.aload_n 0, 1) := by decide +kernel
theorem dX7_bundle_60 : decode cX7_bundle 60 = .ok (.getfield 56, 3) := by decide +kernel
theorem dX7_bundle_63 : decode cX7_bundle 63 = .ok (.aload_n 0, 1) := by decide +kernel
theorem dX7_bundle_64 : decode cX7_bundle 64 = .ok (.getfield 237, 3) := by decide +kernel
theorem dX7_bundle_67 : decode cX7_bundle 67 = .ok (.iload_n 2, 1) := by decide +kernel
theorem dX7_bundle_68 : decode cX7_bundle 68 = .ok (.iastore, 1) := by decide +kernel
theorem dX7_bundle_69 : decode cX7_bundle 69 = .ok (.aload_n 0, 1) := by decide +kernel
theorem dX7_bundle_70 : decode cX7_bundle 70 = .ok (.getfield 59, 3) := by decide +kernel
theorem dX7_bundle_73 : decode cX7_bundle 73 = .ok (.aload_n 0, 1) := by decide +kernel
theorem dX7_bundle_74 : decode cX7_bundle 74 = .ok (.getfield 237, 3) := by decide +kernel
theorem dX7_bundle_77 : decode cX7_bundle 77 = .ok (.iload_n 3, 1) := by decide +kernel
theorem dX7_bundle_78 : decode cX7_bundle 78 = .ok (.iastore, 1) := by decide +kernel
theorem dX7_bundle_79 : decode cX7_bundle 79 = .ok (.aload_n 0, 1) := by decide +kernel
theorem dX7_bundle_80 : decode cX7_bundle 80 = .ok (.dup, 1) := by decide +kernel
theorem dX7_bundle_81 : decode cX7_bundle 81 = .ok (.getfield 237, 3) := by decide +kernel
theorem dX7_bundle_84 : decode cX7_bundle 84 = .ok (.iconst 1, 1) := by decide +kernel
theorem dX7_bundle_85 : decode cX7_bundle 85 = .ok (.iadd, 1) := by decide +kernel
theorem dX7_bundle_86 : decode cX7_bundle 86 = .ok (.putfield 237, 3) := by decide +kernel
theorem dX7_bundle_89 : decode cX7_bundle 89 = .ok (.aload_n 0, 1) := by decide +kernel
theorem dX7_bundle_90 : decode cX7_bundle 90 = .ok (.getfield 237, 3) := by decide +kernel
theorem dX7_bundle_93 : decode cX7_bundle 93 = .ok (.iconst 1, 1) := by decide +kernel
theorem dX7_bundle_94 : decode cX7_bundle 94 = .ok (.isub, 1) := by decide +kernel
theorem dX7_bundle_95 : decode cX7_bundle 95 = .ok (.ireturn, 1) := by decide +kernel
theorem dX7_left_0 : decode cX7_left 0 = .ok (.aload_n 0, 1) := by decide +kernel
theorem dX7_left_1 : decode cX7_left 1 = .ok (.iconst 0, 1) := by decide +kernel
theorem dX7_left_2 : decode cX7_left 2 = .ok (.putfield 95, 3) := by decide +kernel
theorem dX7_left_5 : decode cX7_left 5 = .ok (.aload_n 0, 1) := by decide +kernel
theorem dX7_left_6 : decode cX7_left 6 = .ok (.iload_n 1, 1) := by decide +kernel
theorem dX7_left_7 : decode cX7_left 7 = .ok (.ifCond .lt 15, 3) := by decide +kernel
theorem dX7_left_10 : decode cX7_left 10 = .ok (.iload_n 1, 1) := by decide +kernel
theorem dX7_left_11 : decode cX7_left 11 = .ok (.aload_n 0, 1) := by decide +kernel
theorem dX7_left_12 : decode cX7_left 12 = .ok (.getfield 237, 3) := by decide +kernel
theorem dX7_left_15 : decode cX7_left 15 = .ok (.if_icmp .ge 7, 3) := by decide +kernel
theorem dX7_left_18 : decode cX7_left 18 = .ok (.iconst 1, 1) := by decide +kernel
theorem dX7_left_19 : decode cX7_left 19 = .ok (.goto 4, 3) := by decide +kernel
theorem dX7_left_22 : decode cX7_left 22 = .ok (.iconst 0, 1) := by decide +kernel
theorem dX7_left_23 : decode cX7_left 23 = .ok (.iconst 1, 1) := by decide +kernel
theorem dX7_left_24 : decode cX7_left 24 = .ok (.invokevirtual 157, 3) := by decide +kernel
theorem dX7_left_27 : decode cX7_left 27 = .ok (.ifCond .eq 12, 3) := by decide +kernel
theorem dX7_left_30 : decode cX7_left 30 = .ok (.aload_n 0, 1) := by decide +kernel
theorem dX7_left_31 : decode cX7_left 31 = .ok (.getfield 59, 3) := by decide +kernel
theorem dX7_left_34 : decode cX7_left 34 = .ok (.iload_n 1, 1) := by decide +kernel
theorem dX7_left_35 : decode cX7_left 35 = .ok (.iaload, 1) := by decide +kernel
theorem dX7_left_36 : decode cX7_left 36 = .ok (.goto 4, 3) := by decide +kernel
theorem dX7_left_39 : decode cX7_left 39 = .ok (.iconst 0, 1) := by decide +kernel
theorem dX7_left_40 : decode cX7_left 40 = .ok (.ireturn, 1) := by decide +kernel
theorem dX7_score_0 : decode cX7_score 0 = .ok (.aload_n 0, 1) := by decide +kernel
theorem dX7_score_1 : decode cX7_score 1 = .ok (.iconst 0, 1) := by decide +kernel
theorem dX7_score_2 : decode cX7_score 2 = .ok (.putfield 95, 3) := by decide +kernel
theorem dX7_score_5 : decode cX7_score 5 = .ok (.aload_n 0, 1) := by decide +kernel
theorem dX7_score_6 : decode cX7_score 6 = .ok (.getfield 240, 3) := by decide +kernel
theorem dX7_score_9 : decode cX7_score 9 = .ok (.bipush 60, 2) := by decide +kernel
theorem dX7_score_11 : decode cX7_score 11 = .ok (.if_icmp .eq 53, 3) := by decide +kernel
theorem dX7_score_14 : decode cX7_score 14 = .ok (.iload_n 1, 1) := by decide +kernel
theorem dX7_score_15 : decode cX7_score 15 = .ok (.ifCond .lt 49, 3) := by decide +kernel
theorem dX7_score_18 : decode cX7_score 18 = .ok (.iload_n 1, 1) := by decide +kernel
theorem dX7_score_19 : decode cX7_score 19 = .ok (.bipush 7, 2) := by decide +kernel
theorem dX7_score_21 : decode cX7_score 21 = .ok (.if_icmp .gt 43, 3) := by decide +kernel
theorem dX7_score_24 : decode cX7_score 24 = .ok (.aload_n 0, 1) := by decide +kernel
theorem dX7_score_25 : decode cX7_score 25 = .ok (.getfield 17, 3) := by decide +kernel
theorem dX7_score_28 : decode cX7_score 28 = .ok (.iload_n 1, 1) := by decide +kernel
theorem dX7_score_29 : decode cX7_score 29 = .ok (.iaload, 1) := by decide +kernel
theorem dX7_score_30 : decode cX7_score 30 = .ok (.ifCond .eq 34, 3) := by decide +kernel
theorem dX7_score_33 : decode cX7_score 33 = .ok (.iload_n 2, 1) := by decide +kernel
theorem dX7_score_34 : decode cX7_score 34 = .ok (.iconst 1, 1) := by decide +kernel
theorem dX7_score_35 : decode cX7_score 35 = .ok (.if_icmp .lt 29, 3) := by decide +kernel
theorem dX7_score_38 : decode cX7_score 38 = .ok (.iload_n 2, 1) := by decide +kernel
theorem dX7_score_39 : decode cX7_score 39 = .ok (.sipush 200, 3) := by decide +kernel
theorem dX7_score_42 : decode cX7_score 42 = .ok (.if_icmp .gt 22, 3) := by decide +kernel
theorem dX7_score_45 : decode cX7_score 45 = .ok (.iload_n 3, 1) := by decide +kernel
theorem dX7_score_46 : decode cX7_score 46 = .ok (.iconst 1, 1) := by decide +kernel
theorem dX7_score_47 : decode cX7_score 47 = .ok (.if_icmp .lt 17, 3) := by decide +kernel
theorem dX7_score_50 : decode cX7_score 50 = .ok (.iload_n 3, 1) := by decide +kernel
theorem dX7_score_51 : decode cX7_score 51 = .ok (.bipush 9, 2) := by decide +kernel
theorem dX7_score_53 : decode cX7_score 53 = .ok (.if_icmp .gt 11, 3) := by decide +kernel
theorem dX7_score_56 : decode cX7_score 56 = .ok (.aload_n 0, 1) := by decide +kernel
theorem dX7_score_57 : decode cX7_score 57 = .ok (.iload_n 1, 1) := by decide +kernel
theorem dX7_score_58 : decode cX7_score 58 = .ok (.invokevirtual 228, 3) := by decide +kernel
theorem dX7_score_61 : decode cX7_score 61 = .ok (.ifCond .ne 5, 3) := by decide +kernel
theorem dX7_score_64 : decode cX7_score 64 = .ok (.iconst (-1), 1) := by decide +kernel
theorem dX7_score_65 : decode cX7_score 65 = .ok (.ireturn, 1) := by decide +kernel
theorem dX7_score_66 : decode cX7_score 66 = .ok (.iconst 1, 1) := by decide +kernel
theorem dX7_score_67 : decode cX7_score 67 = .ok (.istore 4, 2) := by decide +kernel
theorem dX7_score_69 : decode cX7_score 69 = .ok (.iload 4, 2) := by decide +kernel
theorem dX7_score_71 : decode cX7_score 71 = .ok (.aload_n 0, 1) := by decide +kernel
theorem dX7_score_72 : decode cX7_score 72 = .ok (.getfield 17, 3) := by decide +kernel
theorem dX7_score_75 : decode cX7_score 75 = .ok (.iload_n 1, 1) := by decide +kernel
theorem dX7_score_76 : decode cX7_score 76 = .ok (.iaload, 1) := by decide +kernel
theorem dX7_score_77 : decode cX7_score 77 = .ok (.if_icmp .gt 37, 3) := by decide +kernel
theorem dX7_score_80 : decode cX7_score 80 = .ok (.aload_n 0, 1) := by decide +kernel
theorem dX7_score_81 : decode cX7_score 81 = .ok (.getfield 89, 3) := by decide +kernel
theorem dX7_score_84 : decode cX7_score 84 = .ok (.iload 4, 2) := by decide +kernel
theorem dX7_score_86 : decode cX7_score 86 = .ok (.aload_n 0, 1) := by decide +kernel
theorem dX7_score_87 : decode cX7_score 87 = .ok (.iload_n 1, 1) := by decide +kernel
theorem dX7_score_88 : decode cX7_score 88 = .ok (.iload 4, 2) := by decide +kernel
theorem dX7_score_90 : decode cX7_score 90 = .ok (.invokevirtual 234, 3) := by decide +kernel
theorem dX7_score_93 : decode cX7_score 93 = .ok (.iastore, 1) := by decide +kernel
theorem dX7_score_94 : decode cX7_score 94 = .ok (.aload_n 0, 1) := by decide +kernel
theorem dX7_score_95 : decode cX7_score 95 = .ok (.getfield 92, 3) := by decide +kernel
theorem dX7_score_98 : decode cX7_score 98 = .ok (.iload 4, 2) := by decide +kernel
theorem dX7_score_100 : decode cX7_score 100 = .ok (.aload_n 0, 1) := by decide +kernel
theorem dX7_score_101 : decode cX7_score 101 = .ok (.iload_n 1, 1) := by decide +kernel
theorem dX7_score_102 : decode cX7_score 102 = .ok (.iload 4, 2) := by decide +kernel
theorem dX7_score_104 : decode cX7_score 104 = .ok (.invokevirtual 211, 3) := by decide +kernel
theorem dX7_score_107 : decode cX7_score 107 = .ok (.iastore, 1) := by decide +kernel
theorem dX7_score_108 : decode cX7_score 108 = .ok (.iinc 4 1, 3) := by decide +kernel
theorem dX7_score_111 : decode cX7_score 111 = .ok (.goto (-42), 3) := by decide +kernel
theorem dX7_score_114 : decode cX7_score 114 = .ok (.iconst 0, 1) := by decide +kernel
theorem dX7_score_115 : decode cX7_score 115 = .ok (.istore 4, 2) := by decide +kernel
theorem dX7_score_117 : decode cX7_score 117 = .ok (.iconst 1, 1) := by decide +kernel
theorem dX7_score_118 : decode cX7_score 118 = .ok (.istore 5, 2) := by decide +kernel
theorem dX7_score_120 : decode cX7_score 120 = .ok (.iload 5, 2) := by decide +kernel
theorem dX7_score_122 : decode cX7_score 122 = .ok (.aload_n 0, 1) := by decide +kernel
theorem dX7_score_123 : decode cX7_score 123 = .ok (.getfield 17, 3) := by decide +kernel
theorem dX7_score_126 : decode cX7_score 126 = .ok (.iload_n 1, 1) := by decide +kernel
theorem dX7_score_127 : decode cX7_score 127 = .ok (.iaload, 1) := by decide +kernel
theorem dX7_score_128 : decode cX7_score 128 = .ok (.if_icmp .gt 65, 3) := by decide +kernel
theorem dX7_score_131 : decode cX7_score 131 = .ok (.iload 5, 2) := by decide +kernel
theorem dX7_score_133 : decode cX7_score 133 = .ok (.istore 6, 2) := by decide +kernel
theorem dX7_score_135 : decode cX7_score 135 = .ok (.iconst 0, 1) := by decide +kernel
theorem dX7_score_136 : decode cX7_score 136 = .ok (.istore 7, 2) := by decide +kernel
theorem dX7_score_138 : decode cX7_score 138 = .ok (.iconst 0, 1) := by decide +kernel
theorem dX7_score_139 : decode cX7_score 139 = .ok (.istore 8, 2) := by decide +kernel
theorem dX7_score_141 : decode cX7_score 141 = .ok (.iload 8, 2) := by decide +kernel
theorem dX7_score_143 : decode cX7_score 143 = .ok (.iload_n 2, 1) := by decide +kernel
theorem dX7_score_144 : decode cX7_score 144 = .ok (.if_icmp .ge 30, 3) := by decide +kernel
theorem dX7_score_147 : decode cX7_score 147 = .ok (.iload 7, 2) := by decide +kernel
theorem dX7_score_149 : decode cX7_score 149 = .ok (.aload_n 0, 1) := by decide +kernel
theorem dX7_score_150 : decode cX7_score 150 = .ok (.getfield 89, 3) := by decide +kernel
theorem dX7_score_153 : decode cX7_score 153 = .ok (.iload 6, 2) := by decide +kernel
theorem dX7_score_155 : decode cX7_score 155 = .ok (.iaload, 1) := by decide +kernel
theorem dX7_score_156 : decode cX7_score 156 = .ok (.iadd, 1) := by decide +kernel
theorem dX7_score_157 : decode cX7_score 157 = .ok (.istore 7, 2) := by decide +kernel
theorem dX7_score_159 : decode cX7_score 159 = .ok (.aload_n 0, 1) := by decide +kernel
theorem dX7_score_160 : decode cX7_score 160 = .ok (.getfield 92, 3) := by decide +kernel
theorem dX7_score_163 : decode cX7_score 163 = .ok (.iload 6, 2) := by decide +kernel
theorem dX7_score_165 : decode cX7_score 165 = .ok (.iaload, 1) := by decide +kernel
theorem dX7_score_166 : decode cX7_score 166 = .ok (.istore 6, 2) := by decide +kernel
theorem dX7_score_168 : decode cX7_score 168 = .ok (.iinc 8 1, 3) := by decide +kernel
theorem dX7_score_171 : decode cX7_score 171 = .ok (.goto (-30), 3) := by decide +kernel
theorem dX7_score_174 : decode cX7_score 174 = .ok (.iload 4, 2) := by decide +kernel
theorem dX7_score_176 : decode cX7_score 176 = .ok (.iload 7, 2) := by decide +kernel
theorem dX7_score_178 : decode cX7_score 178 = .ok (.bipush 99, 2) := by decide +kernel
theorem dX7_score_180 : decode cX7_score 180 = .ok (.iadd, 1) := by decide +kernel
theorem dX7_score_181 : decode cX7_score 181 = .ok (.bipush 100, 2) := by decide +kernel
theorem dX7_score_183 : decode cX7_score 183 = .ok (.idiv, 1) := by decide +kernel
theorem dX7_score_184 : decode cX7_score 184 = .ok (.iadd, 1) := by decide +kernel
theorem dX7_score_185 : decode cX7_score 185 = .ok (.istore 4, 2) := by decide +kernel
theorem dX7_score_187 : decode cX7_score 187 = .ok (.iinc 5 1, 3) := by decide +kernel
theorem dX7_score_190 : decode cX7_score 190 = .ok (.goto (-70), 3) := by decide +kernel
theorem dX7_score_193 : decode cX7_score 193 = .ok (.iconst 0, 1) := by decide +kernel
theorem dX7_score_194 : decode cX7_score 194 = .ok (.istore 5, 2) := by decide +kernel
theorem dX7_score_196 : decode cX7_score 196 = .ok (.iconst 0, 1) := by decide +kernel
theorem dX7_score_197 : decode cX7_score 197 = .ok (.istore 6, 2) := by decide +kernel
theorem dX7_score_199 : decode cX7_score 199 = .ok (.iload 6, 2) := by decide +kernel
theorem dX7_score_201 : decode cX7_score 201 = .ok (.aload_n 0, 1) := by decide +kernel
theorem dX7_score_202 : decode cX7_score 202 = .ok (.getfield 237, 3) := by decide +kernel
theorem dX7_score_205 : decode cX7_score 205 = .ok (.if_icmp .ge 32, 3) := by decide +kernel
theorem dX7_score_208 : decode cX7_score 208 = .ok (.aload_n 0, 1) := by decide +kernel
theorem dX7_score_209 : decode cX7_score 209 = .ok (.getfield 56, 3) := by decide +kernel
theorem dX7_score_212 : decode cX7_score 212 = .ok (.iload 6, 2) := by decide +kernel
theorem dX7_score_214 : decode cX7_score 214 = .ok (.iaload, 1) := by decide +kernel
theorem dX7_score_215 : decode cX7_score 215 = .ok (.iload_n 3, 1) := by decide +kernel
theorem dX7_score_216 : decode cX7_score 216 = .ok (.if_icmp .ne 15, 3) := by decide +kernel
theorem dX7_score_219 : decode cX7_score 219 = .ok (.iload 5, 2) := by decide +kernel
theorem dX7_score_221 : decode cX7_score 221 = .ok (.aload_n 0, 1) := by decide +kernel
theorem dX7_score_222 : decode cX7_score 222 = .ok (.getfield 59, 3) := by decide +kernel
theorem dX7_score_225 : decode cX7_score 225 = .ok (.iload 6, 2) := by decide +kernel
theorem dX7_score_227 : decode cX7_score 227 = .ok (.iaload, 1) := by decide +kernel
theorem dX7_score_228 : decode cX7_score 228 = .ok (.iadd, 1) := by decide +kernel
theorem dX7_score_229 : decode cX7_score 229 = .ok (.istore 5, 2) := by decide +kernel
theorem dX7_score_231 : decode cX7_score 231 = .ok (.iinc 6 1, 3) := by decide +kernel
theorem dX7_score_234 : decode cX7_score 234 = .ok (.goto (-35), 3) := by decide +kernel
theorem dX7_score_237 : decode cX7_score 237 = .ok (.iload 5, 2) := by decide +kernel
theorem dX7_score_239 : decode cX7_score 239 = .ok (.iload 4, 2) := by decide +kernel
theorem dX7_score_241 : decode cX7_score 241 = .ok (.if_icmp .ge 5, 3) := by decide +kernel
theorem dX7_score_244 : decode cX7_score 244 = .ok (.iconst (-1), 1) := by decide +kernel
theorem dX7_score_245 : decode cX7_score 245 = .ok (.ireturn, 1) := by decide +kernel
theorem dX7_score_246 : decode cX7_score 246 = .ok (.iconst 0, 1) := by decide +kernel
theorem dX7_score_247 : decode cX7_score 247 = .ok (.istore 6, 2) := by decide +kernel
theorem dX7_score_249 : decode cX7_score 249 = .ok (.iload 4, 2) := by decide +kernel
theorem dX7_score_251 : decode cX7_score 251 = .ok (.istore 7, 2) := by decide +kernel
theorem dX7_score_253 : decode cX7_score 253 = .ok (.iconst 0, 1) := by decide +kernel
theorem dX7_score_254 : decode cX7_score 254 = .ok (.istore 8, 2) := by decide +kernel
theorem dX7_score_256 : decode cX7_score 256 = .ok (.iload 8, 2) := by decide +kernel
theorem dX7_score_258 : decode cX7_score 258 = .ok (.aload_n 0, 1) := by decide +kernel
theorem dX7_score_259 : decode cX7_score 259 = .ok (.getfield 237, 3) := by decide +kernel
theorem dX7_score_262 : decode cX7_score 262 = .ok (.if_icmp .ge 97, 3) := by decide +kernel
theorem dX7_score_265 : decode cX7_score 265 = .ok (.iload 7, 2) := by decide +kernel
theorem dX7_score_267 : decode cX7_score 267 = .ok (.ifCond .le 92, 3) := by decide +kernel
theorem dX7_score_270 : decode cX7_score 270 = .ok (.aload_n 0, 1) := by decide +kernel
theorem dX7_score_271 : decode cX7_score 271 = .ok (.getfield 56, 3) := by decide +kernel
theorem dX7_score_274 : decode cX7_score 274 = .ok (.iload 8, 2) := by decide +kernel
theorem dX7_score_276 : decode cX7_score 276 = .ok (.iaload, 1) := by decide +kernel
theorem dX7_score_277 : decode cX7_score 277 = .ok (.iload_n 3, 1) := by decide +kernel
theorem dX7_score_278 : decode cX7_score 278 = .ok (.if_icmp .ne 75, 3) := by decide +kernel
theorem dX7_score_281 : decode cX7_score 281 = .ok (.aload_n 0, 1) := by decide +kernel
theorem dX7_score_282 : decode cX7_score 282 = .ok (.getfield 59, 3) := by decide +kernel
theorem dX7_score_285 : decode cX7_score 285 = .ok (.iload 8, 2) := by decide +kernel
theorem dX7_score_287 : decode cX7_score 287 = .ok (.iaload, 1) := by decide +kernel
theorem dX7_score_288 : decode cX7_score 288 = .ok (.ifCond .ne 6, 3) := by decide +kernel
theorem dX7_score_291 : decode cX7_score 291 = .ok (.goto 62, 3) := by decide +kernel
theorem dX7_score_294 : decode cX7_score 294 = .ok (.aload_n 0, 1) := by decide +kernel
theorem dX7_score_295 : decode cX7_score 295 = .ok (.getfield 59, 3) := by decide +kernel
theorem dX7_score_298 : decode cX7_score 298 = .ok (.iload 8, 2) := by decide +kernel
theorem dX7_score_300 : decode cX7_score 300 = .ok (.iaload, 1) := by decide +kernel
theorem dX7_score_301 : decode cX7_score 301 = .ok (.iload 7, 2) := by decide +kernel
theorem dX7_score_303 : decode cX7_score 303 = .ok (.if_icmp .ge 13, 3) := by decide +kernel
theorem dX7_score_306 : decode cX7_score 306 = .ok (.aload_n 0, 1) := by decide +kernel
theorem dX7_score_307 : decode cX7_score 307 = .ok (.getfield 59, 3) := by decide +kernel
theorem dX7_score_310 : decode cX7_score 310 = .ok (.iload 8, 2) := by decide +kernel
theorem dX7_score_312 : decode cX7_score 312 = .ok (.iaload, 1) := by decide +kernel
theorem dX7_score_313 : decode cX7_score 313 = .ok (.goto 5, 3) := by decide +kernel
theorem dX7_score_316 : decode cX7_score 316 = .ok (.iload 7, 2) := by decide +kernel
theorem dX7_score_318 : decode cX7_score 318 = .ok (.istore 9, 2) := by decide +kernel
theorem dX7_score_320 : decode cX7_score 320 = .ok (.aload_n 0, 1) := by decide +kernel
theorem dX7_score_321 : decode cX7_score 321 = .ok (.getfield 59, 3) := by decide +kernel
theorem dX7_score_324 : decode cX7_score 324 = .ok (.iload 8, 2) := by decide +kernel
theorem dX7_score_326 : decode cX7_score 326 = .ok (.dup2, 1) := by decide +kernel
theorem dX7_score_327 : decode cX7_score 327 = .ok (.iaload, 1) := by decide +kernel
theorem dX7_score_328 : decode cX7_score 328 = .ok (.iload 9, 2) := by decide +kernel
theorem dX7_score_330 : decode cX7_score 330 = .ok (.isub, 1) := by decide +kernel
theorem dX7_score_331 : decode cX7_score 331 = .ok (.iastore, 1) := by decide +kernel
theorem dX7_score_332 : decode cX7_score 332 = .ok (.iload 7, 2) := by decide +kernel
theorem dX7_score_334 : decode cX7_score 334 = .ok (.iload 9, 2) := by decide +kernel
theorem dX7_score_336 : decode cX7_score 336 = .ok (.isub, 1) := by decide +kernel
theorem dX7_score_337 : decode cX7_score 337 = .ok (.istore 7, 2) := by decide +kernel
theorem dX7_score_339 : decode cX7_score 339 = .ok (.iload 6, 2) := by decide +kernel
theorem dX7_score_341 : decode cX7_score 341 = .ok (.iconst 1, 1) := by decide +kernel
theorem dX7_score_342 : decode cX7_score 342 = .ok (.aload_n 0, 1) := by decide +kernel
theorem dX7_score_343 : decode cX7_score 343 = .ok (.getfield 53, 3) := by decide +kernel
theorem dX7_score_346 : decode cX7_score 346 = .ok (.iload 8, 2) := by decide +kernel
theorem dX7_score_348 : decode cX7_score 348 = .ok (.iaload, 1) := by decide +kernel
theorem dX7_score_349 : decode cX7_score 349 = .ok (.ishl, 1) := by decide +kernel
theorem dX7_score_350 : decode cX7_score 350 = .ok (.ior, 1) := by decide +kernel
theorem dX7_score_351 : decode cX7_score 351 = .ok (.istore 6, 2) := by decide +kernel
theorem dX7_score_353 : decode cX7_score 353 = .ok (.iinc 8 1, 3) := by decide +kernel
theorem dX7_score_356 : decode cX7_score 356 = .ok (.goto (-100), 3) := by decide +kernel
theorem dX7_score_359 : decode cX7_score 359 = .ok (.aload_n 0, 1) := by decide +kernel
theorem dX7_score_360 : decode cX7_score 360 = .ok (.getfield 62, 3) := by decide +kernel
theorem dX7_score_363 : decode cX7_score 363 = .ok (.aload_n 0, 1) := by decide +kernel
theorem dX7_score_364 : decode cX7_score 364 = .ok (.getfield 240, 3) := by decide +kernel
theorem dX7_score_367 : decode cX7_score 367 = .ok (.iconst 2, 1) := by decide +kernel
theorem dX7_score_368 : decode cX7_score 368 = .ok (.aload_n 0, 1) := by decide +kernel
theorem dX7_score_369 : decode cX7_score 369 = .ok (.iload_n 1, 1) := by decide +kernel
theorem dX7_score_370 : decode cX7_score 370 = .ok (.invokevirtual 222, 3) := by decide +kernel
theorem dX7_score_373 : decode cX7_score 373 = .ok (.imul, 1) := by decide +kernel
theorem dX7_score_374 : decode cX7_score 374 = .ok (.iload_n 2, 1) := by decide +kernel
theorem dX7_score_375 : decode cX7_score 375 = .ok (.imul, 1) := by decide +kernel
theorem dX7_score_376 : decode cX7_score 376 = .ok (.iastore, 1) := by decide +kernel
theorem dX7_score_377 : decode cX7_score 377 = .ok (.aload_n 0, 1) := by decide +kernel
theorem dX7_score_378 : decode cX7_score 378 = .ok (.getfield 65, 3) := by decide +kernel
theorem dX7_score_381 : decode cX7_score 381 = .ok (.aload_n 0, 1) := by decide +kernel
theorem dX7_score_382 : decode cX7_score 382 = .ok (.getfield 240, 3) := by decide +kernel
theorem dX7_score_385 : decode cX7_score 385 = .ok (.aload_n 0, 1) := by decide +kernel
theorem dX7_score_386 : decode cX7_score 386 = .ok (.getfield 62, 3) := by decide +kernel
theorem dX7_score_389 : decode cX7_score 389 = .ok (.aload_n 0, 1) := by decide +kernel
theorem dX7_score_390 : decode cX7_score 390 = .ok (.getfield 240, 3) := by decide +kernel
theorem dX7_score_393 : decode cX7_score 393 = .ok (.iaload, 1) := by decide +kernel
theorem dX7_score_394 : decode cX7_score 394 = .ok (.iastore, 1) := by decide +kernel
theorem dX7_score_395 : decode cX7_score 395 = .ok (.aload_n 0, 1) := by decide +kernel
theorem dX7_score_396 : decode cX7_score 396 = .ok (.getfield 68, 3) := by decide +kernel
theorem dX7_score_399 : decode cX7_score 399 = .ok (.aload_n 0, 1) := by decide +kernel
theorem dX7_score_400 : decode cX7_score 400 = .ok (.getfield 240, 3) := by decide +kernel
theorem dX7_score_403 : decode cX7_score 403 = .ok (.iload_n 3, 1) := by decide +kernel
theorem dX7_score_404 : decode cX7_score 404 = .ok (.iastore, 1) := by decide +kernel
theorem dX7_score_405 : decode cX7_score 405 = .ok (.aload_n 0, 1) := by decide +kernel
theorem dX7_score_406 : decode cX7_score 406 = .ok (.getfield 71, 3) := by decide +kernel
theorem dX7_score_409 : decode cX7_score 409 = .ok (.aload_n 0, 1) := by decide +kernel
theorem dX7_score_410 : decode cX7_score 410 = .ok (.getfield 240, 3) := by decide +kernel
theorem dX7_score_413 : decode cX7_score 413 = .ok (.iload 6, 2) := by decide +kernel
theorem dX7_score_415 : decode cX7_score 415 = .ok (.iastore, 1) := by decide +kernel
theorem dX7_score_416 : decode cX7_score 416 = .ok (.aload_n 0, 1) := by decide +kernel
theorem dX7_score_417 : decode cX7_score 417 = .ok (.getfield 74, 3) := by decide +kernel
theorem dX7_score_420 : decode cX7_score 420 = .ok (.aload_n 0, 1) := by decide +kernel
theorem dX7_score_421 : decode cX7_score 421 = .ok (.getfield 240, 3) := by decide +kernel
theorem dX7_score_424 : decode cX7_score 424 = .ok (.iload 4, 2) := by decide +kernel
theorem dX7_score_426 : decode cX7_score 426 = .ok (.iastore, 1) := by decide +kernel
theorem dX7_score_427 : decode cX7_score 427 = .ok (.aload_n 0, 1) := by decide +kernel
theorem dX7_score_428 : decode cX7_score 428 = .ok (.dup, 1) := by decide +kernel
theorem dX7_score_429 : decode cX7_score 429 = .ok (.getfield 240, 3) := by decide +kernel
theorem dX7_score_432 : decode cX7_score 432 = .ok (.iconst 1, 1) := by decide +kernel
theorem dX7_score_433 : decode cX7_score 433 = .ok (.iadd, 1) := by decide +kernel
theorem dX7_score_434 : decode cX7_score 434 = .ok (.putfield 240, 3) := by decide +kernel
theorem dX7_score_437 : decode cX7_score 437 = .ok (.aload_n 0, 1) := by decide +kernel
theorem dX7_score_438 : decode cX7_score 438 = .ok (.getfield 240, 3) := by decide +kernel
theorem dX7_score_441 : decode cX7_score 441 = .ok (.iconst 1, 1) := by decide +kernel
theorem dX7_score_442 : decode cX7_score 442 = .ok (.isub, 1) := by decide +kernel
theorem dX7_score_443 : decode cX7_score 443 = .ok (.ireturn, 1) := by decide +kernel
theorem dX7_scored_0 : decode cX7_scored 0 = .ok (.aload_n 0, 1) := by decide +kernel
theorem dX7_scored_1 : decode cX7_scored 1 = .ok (.iconst 0, 1) := by decide +kernel
theorem dX7_scored_2 : decode cX7_scored 2 = .ok (.putfield 95, 3) := by decide +kernel
theorem dX7_scored_5 : decode cX7_scored 5 = .ok (.aload_n 0, 1) := by decide +kernel
theorem dX7_scored_6 : decode cX7_scored 6 = .ok (.iload_n 1, 1) := by decide +kernel
theorem dX7_scored_7 : decode cX7_scored 7 = .ok (.ifCond .lt 24, 3) := by decide +kernel
theorem dX7_scored_10 : decode cX7_scored 10 = .ok (.iload_n 1, 1) := by decide +kernel
theorem dX7_scored_11 : decode cX7_scored 11 = .ok (.aload_n 0, 1) := by decide +kernel
theorem dX7_scored_12 : decode cX7_scored 12 = .ok (.getfield 240, 3) := by decide +kernel
theorem dX7_scored_15 : decode cX7_scored 15 = .ok (.if_icmp .ge 16, 3) := by decide +kernel
theorem dX7_scored_18 : decode cX7_scored 18 = .ok (.iload_n 2, 1) := by decide +kernel
theorem dX7_scored_19 : decode cX7_scored 19 = .ok (.ifCond .lt 12, 3) := by decide +kernel
theorem dX7_scored_22 : decode cX7_scored 22 = .ok (.iload_n 2, 1) := by decide +kernel
theorem dX7_scored_23 : decode cX7_scored 23 = .ok (.iconst 4, 1) := by decide +kernel
theorem dX7_scored_24 : decode cX7_scored 24 = .ok (.if_icmp .gt 7, 3) := by decide +kernel
theorem dX7_scored_27 : decode cX7_scored 27 = .ok (.iconst 1, 1) := by decide +kernel
theorem dX7_scored_28 : decode cX7_scored 28 = .ok (.goto 4, 3) := by decide +kernel
theorem dX7_scored_31 : decode cX7_scored 31 = .ok (.iconst 0, 1) := by decide +kernel
theorem dX7_scored_32 : decode cX7_scored 32 = .ok (.iconst 1, 1) := by decide +kernel
theorem dX7_scored_33 : decode cX7_scored 33 = .ok (.invokevirtual 157, 3) := by decide +kernel
theorem dX7_scored_36 : decode cX7_scored 36 = .ok (.ifCond .ne 5, 3) := by decide +kernel
theorem dX7_scored_39 : decode cX7_scored 39 = .ok (.iconst 0, 1) := by decide +kernel
theorem dX7_scored_40 : decode cX7_scored 40 = .ok (.ireturn, 1) := by decide +kernel
theorem dX7_scored_41 : decode cX7_scored 41 = .ok (.iload_n 2, 1) := by decide +kernel
theorem dX7_scored_42 : decode cX7_scored 42 = .ok (.ifCond .ne 12, 3) := by decide +kernel
theorem dX7_scored_45 : decode cX7_scored 45 = .ok (.aload_n 0, 1) := by decide +kernel
theorem dX7_scored_46 : decode cX7_scored 46 = .ok (.getfield 62, 3) := by decide +kernel
theorem dX7_scored_49 : decode cX7_scored 49 = .ok (.iload_n 1, 1) := by decide +kernel
theorem dX7_scored_50 : decode cX7_scored 50 = .ok (.iaload, 1) := by decide +kernel
theorem dX7_scored_51 : decode cX7_scored 51 = .ok (.goto 51, 3) := by decide +kernel
theorem dX7_scored_54 : decode cX7_scored 54 = .ok (.iload_n 2, 1) := by decide +kernel
theorem dX7_scored_55 : decode cX7_scored 55 = .ok (.iconst 1, 1) := by decide +kernel
theorem dX7_scored_56 : decode cX7_scored 56 = .ok (.if_icmp .ne 12, 3) := by decide +kernel
theorem dX7_scored_59 : decode cX7_scored 59 = .ok (.aload_n 0, 1) := by decide +kernel
theorem dX7_scored_60 : decode cX7_scored 60 = .ok (.getfield 65, 3) := by decide +kernel
theorem dX7_scored_63 : decode cX7_scored 63 = .ok (.iload_n 1, 1) := by decide +kernel
theorem dX7_scored_64 : decode cX7_scored 64 = .ok (.iaload, 1) := by decide +kernel
theorem dX7_scored_65 : decode cX7_scored 65 = .ok (.goto 37, 3) := by decide +kernel
theorem dX7_scored_68 : decode cX7_scored 68 = .ok (.iload_n 2, 1) := by decide +kernel
theorem dX7_scored_69 : decode cX7_scored 69 = .ok (.iconst 2, 1) := by decide +kernel
theorem dX7_scored_70 : decode cX7_scored 70 = .ok (.if_icmp .ne 12, 3) := by decide +kernel
theorem dX7_scored_73 : decode cX7_scored 73 = .ok (.aload_n 0, 1) := by decide +kernel
theorem dX7_scored_74 : decode cX7_scored 74 = .ok (.getfield 68, 3) := by decide +kernel
theorem dX7_scored_77 : decode cX7_scored 77 = .ok (.iload_n 1, 1) := by decide +kernel
theorem dX7_scored_78 : decode cX7_scored 78 = .ok (.iaload, 1) := by decide +kernel
theorem dX7_scored_79 : decode cX7_scored 79 = .ok (.goto 23, 3) := by decide +kernel
theorem dX7_scored_82 : decode cX7_scored 82 = .ok (.iload_n 2, 1) := by decide +kernel
theorem dX7_scored_83 : decode cX7_scored 83 = .ok (.iconst 3, 1) := by decide +kernel
theorem dX7_scored_84 : decode cX7_scored 84 = .ok (.if_icmp .ne 12, 3) := by decide +kernel
theorem dX7_scored_87 : decode cX7_scored 87 = .ok (.aload_n 0, 1) := by decide +kernel
theorem dX7_scored_88 : decode cX7_scored 88 = .ok (.getfield 71, 3) := by decide +kernel
theorem dX7_scored_91 : decode cX7_scored 91 = .ok (.iload_n 1, 1) := by decide +kernel
theorem dX7_scored_92 : decode cX7_scored 92 = .ok (.iaload, 1) := by decide +kernel
theorem dX7_scored_93 : decode cX7_scored 93 = .ok (.goto 9, 3) := by decide +kernel
theorem dX7_scored_96 : decode cX7_scored 96 = .ok (.aload_n 0, 1) := by decide +kernel
theorem dX7_scored_97 : decode cX7_scored 97 = .ok (.getfield 74, 3) := by decide +kernel
theorem dX7_scored_100 : decode cX7_scored 100 = .ok (.iload_n 1, 1) := by decide +kernel
theorem dX7_scored_101 : decode cX7_scored 101 = .ok (.iaload, 1) := by decide +kernel
theorem dX7_scored_102 : decode cX7_scored 102 = .ok (.ireturn, 1) := by decide +kernel
theorem dX7_hat_0 : decode cX7_hat 0 = .ok (.aload_n 0, 1) := by decide +kernel
theorem dX7_hat_1 : decode cX7_hat 1 = .ok (.iconst 0, 1) := by decide +kernel
theorem dX7_hat_2 : decode cX7_hat 2 = .ok (.putfield 95, 3) := by decide +kernel
theorem dX7_hat_5 : decode cX7_hat 5 = .ok (.aload_n 0, 1) := by decide +kernel
theorem dX7_hat_6 : decode cX7_hat 6 = .ok (.getfield 243, 3) := by decide +kernel
theorem dX7_hat_9 : decode cX7_hat 9 = .ok (.bipush 60, 2) := by decide +kernel
theorem dX7_hat_11 : decode cX7_hat 11 = .ok (.if_icmp .eq 32, 3) := by decide +kernel
theorem dX7_hat_14 : decode cX7_hat 14 = .ok (.iload_n 1, 1) := by decide +kernel
theorem dX7_hat_15 : decode cX7_hat 15 = .ok (.iconst 1, 1) := by decide +kernel
theorem dX7_hat_16 : decode cX7_hat 16 = .ok (.if_icmp .lt 27, 3) := by decide +kernel
theorem dX7_hat_19 : decode cX7_hat 19 = .ok (.iload_n 1, 1) := by decide +kernel
theorem dX7_hat_20 : decode cX7_hat 20 = .ok (.bipush 9, 2) := by decide +kernel
theorem dX7_hat_22 : decode cX7_hat 22 = .ok (.if_icmp .gt 21, 3) := by decide +kernel
theorem dX7_hat_25 : decode cX7_hat 25 = .ok (.iload_n 2, 1) := by decide +kernel
theorem dX7_hat_26 : decode cX7_hat 26 = .ok (.iconst 1, 1) := by decide +kernel
theorem dX7_hat_27 : decode cX7_hat 27 = .ok (.if_icmp .lt 16, 3) := by decide +kernel
theorem dX7_hat_30 : decode cX7_hat 30 = .ok (.iload_n 2, 1) := by decide +kernel
theorem dX7_hat_31 : decode cX7_hat 31 = .ok (.sipush 400, 3) := by decide +kernel
theorem dX7_hat_34 : decode cX7_hat 34 = .ok (.if_icmp .gt 9, 3) := by decide +kernel
theorem dX7_hat_37 : decode cX7_hat 37 = .ok (.iload_n 2, 1) := by decide +kernel
theorem dX7_hat_38 : decode cX7_hat 38 = .ok (.iload_n 1, 1) := by decide +kernel
theorem dX7_hat_39 : decode cX7_hat 39 = .ok (.irem, 1) := by decide +kernel
theorem dX7_hat_40 : decode cX7_hat 40 = .ok (.ifCond .eq 5, 3) := by decide +kernel
theorem dX7_hat_43 : decode cX7_hat 43 = .ok (.iconst (-1), 1) := by decide +kernel
theorem dX7_hat_44 : decode cX7_hat 44 = .ok (.ireturn, 1) := by decide +kernel
theorem dX7_hat_45 : decode cX7_hat 45 = .ok (.iconst 0, 1) := by decide +kernel
theorem dX7_hat_46 : decode cX7_hat 46 = .ok (.istore_n 3, 1) := by decide +kernel
theorem dX7_hat_47 : decode cX7_hat 47 = .ok (.iconst 1, 1) := by decide +kernel
theorem dX7_hat_48 : decode cX7_hat 48 = .ok (.istore 4, 2) := by decide +kernel
theorem dX7_hat_50 : decode cX7_hat 50 = .ok (.iload 4, 2) := by decide +kernel
theorem dX7_hat_52 : decode cX7_hat 52 = .ok (.iload_n 2, 1) := by decide +kernel
theorem dX7_hat_53 : decode cX7_hat 53 = .ok (.iload_n 1, 1) := by decide +kernel
theorem dX7_hat_54 : decode cX7_hat 54 = .ok (.idiv, 1) := by decide +kernel
theorem dX7_hat_55 : decode cX7_hat 55 = .ok (.if_icmp .gt 30, 3) := by decide +kernel
theorem dX7_hat_58 : decode cX7_hat 58 = .ok (.iload_n 3, 1) := by decide +kernel
theorem dX7_hat_59 : decode cX7_hat 59 = .ok (.sipush 710, 3) := by decide +kernel
theorem dX7_hat_62 : decode cX7_hat 62 = .ok (.iconst 2, 1) := by decide +kernel
theorem dX7_hat_63 : decode cX7_hat 63 = .ok (.iload 4, 2) := by decide +kernel
theorem dX7_hat_65 : decode cX7_hat 65 = .ok (.imul, 1) := by decide +kernel
theorem dX7_hat_66 : decode cX7_hat 66 = .ok (.iconst 1, 1) := by decide +kernel
theorem dX7_hat_67 : decode cX7_hat 67 = .ok (.isub, 1) := by decide +kernel
theorem dX7_hat_68 : decode cX7_hat 68 = .ok (.imul, 1) := by decide +kernel
theorem dX7_hat_69 : decode cX7_hat 69 = .ok (.iload_n 1, 1) := by decide +kernel
theorem dX7_hat_70 : decode cX7_hat 70 = .ok (.imul, 1) := by decide +kernel
theorem dX7_hat_71 : decode cX7_hat 71 = .ok (.sipush 226, 3) := by decide +kernel
theorem dX7_hat_74 : decode cX7_hat 74 = .ok (.idiv, 1) := by decide +kernel
theorem dX7_hat_75 : decode cX7_hat 75 = .ok (.iconst 1, 1) := by decide +kernel
theorem dX7_hat_76 : decode cX7_hat 76 = .ok (.iadd, 1) := by decide +kernel
theorem dX7_hat_77 : decode cX7_hat 77 = .ok (.iadd, 1) := by decide +kernel
theorem dX7_hat_78 : decode cX7_hat 78 = .ok (.istore_n 3, 1) := by decide +kernel
theorem dX7_hat_79 : decode cX7_hat 79 = .ok (.iinc 4 1, 3) := by decide +kernel
theorem dX7_hat_82 : decode cX7_hat 82 = .ok (.goto (-32), 3) := by decide +kernel
theorem dX7_hat_85 : decode cX7_hat 85 = .ok (.iconst 0, 1) := by decide +kernel
theorem dX7_hat_86 : decode cX7_hat 86 = .ok (.istore 4, 2) := by decide +kernel
theorem dX7_hat_88 : decode cX7_hat 88 = .ok (.iconst 0, 1) := by decide +kernel
theorem dX7_hat_89 : decode cX7_hat 89 = .ok (.istore 5, 2) := by decide +kernel
theorem dX7_hat_91 : decode cX7_hat 91 = .ok (.iload 5, 2) := by decide +kernel
theorem dX7_hat_93 : decode cX7_hat 93 = .ok (.aload_n 0, 1) := by decide +kernel
theorem dX7_hat_94 : decode cX7_hat 94 = .ok (.getfield 240, 3) := by decide +kernel
theorem dX7_hat_97 : decode cX7_hat 97 = .ok (.if_icmp .ge 32, 3) := by decide +kernel
theorem dX7_hat_100 : decode cX7_hat 100 = .ok (.aload_n 0, 1) := by decide +kernel
theorem dX7_hat_101 : decode cX7_hat 101 = .ok (.getfield 68, 3) := by decide +kernel
theorem dX7_hat_104 : decode cX7_hat 104 = .ok (.iload 5, 2) := by decide +kernel
theorem dX7_hat_106 : decode cX7_hat 106 = .ok (.iaload, 1) := by decide +kernel
theorem dX7_hat_107 : decode cX7_hat 107 = .ok (.iload_n 1, 1) := by decide +kernel
theorem dX7_hat_108 : decode cX7_hat 108 = .ok (.if_icmp .ne 15, 3) := by decide +kernel
theorem dX7_hat_111 : decode cX7_hat 111 = .ok (.iload 4, 2) := by decide +kernel
theorem dX7_hat_113 : decode cX7_hat 113 = .ok (.aload_n 0, 1) := by decide +kernel
theorem dX7_hat_114 : decode cX7_hat 114 = .ok (.getfield 65, 3) := by decide +kernel
theorem dX7_hat_117 : decode cX7_hat 117 = .ok (.iload 5, 2) := by decide +kernel
theorem dX7_hat_119 : decode cX7_hat 119 = .ok (.iaload, 1) := by decide +kernel
theorem dX7_hat_120 : decode cX7_hat 120 = .ok (.iadd, 1) := by decide +kernel
theorem dX7_hat_121 : decode cX7_hat 121 = .ok (.istore 4, 2) := by decide +kernel
theorem dX7_hat_123 : decode cX7_hat 123 = .ok (.iinc 5 1, 3) := by decide +kernel
theorem dX7_hat_126 : decode cX7_hat 126 = .ok (.goto (-35), 3) := by decide +kernel
theorem dX7_hat_129 : decode cX7_hat 129 = .ok (.iload 4, 2) := by decide +kernel
theorem dX7_hat_131 : decode cX7_hat 131 = .ok (.iload_n 3, 1) := by decide +kernel
theorem dX7_hat_132 : decode cX7_hat 132 = .ok (.if_icmp .ge 5, 3) := by decide +kernel
theorem dX7_hat_135 : decode cX7_hat 135 = .ok (.iconst (-1), 1) := by decide +kernel
theorem dX7_hat_136 : decode cX7_hat 136 = .ok (.ireturn, 1) := by decide +kernel
theorem dX7_hat_137 : decode cX7_hat 137 = .ok (.iconst 0, 1) := by decide +kernel
theorem dX7_hat_138 : decode cX7_hat 138 = .ok (.istore 5, 2) := by decide +kernel
theorem dX7_hat_140 : decode cX7_hat 140 = .ok (.iconst 0, 1) := by decide +kernel
theorem dX7_hat_141 : decode cX7_hat 141 = .ok (.istore 6, 2) := by decide +kernel
theorem dX7_hat_143 : decode cX7_hat 143 = .ok (.iload_n 3, 1) := by decide +kernel
theorem dX7_hat_144 : decode cX7_hat 144 = .ok (.istore 7, 2) := by decide +kernel
theorem dX7_hat_146 : decode cX7_hat 146 = .ok (.iconst 0, 1) := by decide +kernel
