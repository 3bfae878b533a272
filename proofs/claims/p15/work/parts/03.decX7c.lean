theorem dX7_form_310 : decode cX7_form 310 = .ok (.iastore, 1) := by decide +kernel
theorem dX7_form_311 : decode cX7_form 311 = .ok (.iinc 8 1, 3) := by decide +kernel
theorem dX7_form_314 : decode cX7_form 314 = .ok (.goto (-33), 3) := by decide +kernel
theorem dX7_form_317 : decode cX7_form 317 = .ok (.iinc 7 1, 3) := by decide +kernel
theorem dX7_form_320 : decode cX7_form 320 = .ok (.goto (-51), 3) := by decide +kernel
theorem dX7_form_323 : decode cX7_form 323 = .ok (.aload_n 0, 1) := by decide +kernel
theorem dX7_form_324 : decode cX7_form 324 = .ok (.dup, 1) := by decide +kernel
theorem dX7_form_325 : decode cX7_form 325 = .ok (.getfield 178, 3) := by decide +kernel
theorem dX7_form_328 : decode cX7_form 328 = .ok (.iload 6, 2) := by decide +kernel
theorem dX7_form_330 : decode cX7_form 330 = .ok (.isub, 1) := by decide +kernel
theorem dX7_form_331 : decode cX7_form 331 = .ok (.putfield 178, 3) := by decide +kernel
theorem dX7_form_334 : decode cX7_form 334 = .ok (.return_, 1) := by decide +kernel
theorem dX7_coded_0 : decode cX7_coded 0 = .ok (.iconst 0, 1) := by decide +kernel
theorem dX7_coded_1 : decode cX7_coded 1 = .ok (.istore_n 3, 1) := by decide +kernel
theorem dX7_coded_2 : decode cX7_coded 2 = .ok (.iconst 1, 1) := by decide +kernel
theorem dX7_coded_3 : decode cX7_coded 3 = .ok (.istore 4, 2) := by decide +kernel
theorem dX7_coded_5 : decode cX7_coded 5 = .ok (.iload 4, 2) := by decide +kernel
theorem dX7_coded_7 : decode cX7_coded 7 = .ok (.iload_n 2, 1) := by decide +kernel
theorem dX7_coded_8 : decode cX7_coded 8 = .ok (.if_icmp .gt 26, 3) := by decide +kernel
theorem dX7_coded_11 : decode cX7_coded 11 = .ok (.iload_n 3, 1) := by decide +kernel
theorem dX7_coded_12 : decode cX7_coded 12 = .ok (.aload_n 0, 1) := by decide +kernel
theorem dX7_coded_13 : decode cX7_coded 13 = .ok (.iload_n 1, 1) := by decide +kernel
theorem dX7_coded_14 : decode cX7_coded 14 = .ok (.iload 4, 2) := by decide +kernel
theorem dX7_coded_16 : decode cX7_coded 16 = .ok (.invokevirtual 167, 3) := by decide +kernel
theorem dX7_coded_19 : decode cX7_coded 19 = .ok (.iconst 3, 1) := by decide +kernel
theorem dX7_coded_20 : decode cX7_coded 20 = .ok (.iload 4, 2) := by decide +kernel
theorem dX7_coded_22 : decode cX7_coded 22 = .ok (.imul, 1) := by decide +kernel
theorem dX7_coded_23 : decode cX7_coded 23 = .ok (.iconst 3, 1) := by decide +kernel
theorem dX7_coded_24 : decode cX7_coded 24 = .ok (.isub, 1) := by decide +kernel
theorem dX7_coded_25 : decode cX7_coded 25 = .ok (.ishl, 1) := by decide +kernel
theorem dX7_coded_26 : decode cX7_coded 26 = .ok (.ior, 1) := by decide +kernel
theorem dX7_coded_27 : decode cX7_coded 27 = .ok (.istore_n 3, 1) := by decide +kernel
theorem dX7_coded_28 : decode cX7_coded 28 = .ok (.iinc 4 1, 3) := by decide +kernel
theorem dX7_coded_31 : decode cX7_coded 31 = .ok (.goto (-26), 3) := by decide +kernel
theorem dX7_coded_34 : decode cX7_coded 34 = .ok (.iload_n 3, 1) := by decide +kernel
theorem dX7_coded_35 : decode cX7_coded 35 = .ok (.ireturn, 1) := by decide +kernel
theorem dX7_factor_0 : decode cX7_factor 0 = .ok (.aload_n 0, 1) := by decide +kernel
theorem dX7_factor_1 : decode cX7_factor 1 = .ok (.iload_n 1, 1) := by decide +kernel
theorem dX7_factor_2 : decode cX7_factor 2 = .ok (.invokevirtual 164, 3) := by decide +kernel
theorem dX7_factor_5 : decode cX7_factor 5 = .ok (.ifCond .ne 5, 3) := by decide +kernel
theorem dX7_factor_8 : decode cX7_factor 8 = .ok (.iconst 0, 1) := by decide +kernel
theorem dX7_factor_9 : decode cX7_factor 9 = .ok (.ireturn, 1) := by decide +kernel
theorem dX7_factor_10 : decode cX7_factor 10 = .ok (.aload_n 0, 1) := by decide +kernel
theorem dX7_factor_11 : decode cX7_factor 11 = .ok (.iload_n 1, 1) := by decide +kernel
theorem dX7_factor_12 : decode cX7_factor 12 = .ok (.iconst 1, 1) := by decide +kernel
theorem dX7_factor_13 : decode cX7_factor 13 = .ok (.invokevirtual 199, 3) := by decide +kernel
theorem dX7_factor_16 : decode cX7_factor 16 = .ok (.aload_n 0, 1) := by decide +kernel
theorem dX7_factor_17 : decode cX7_factor 17 = .ok (.iload_n 2, 1) := by decide +kernel
theorem dX7_factor_18 : decode cX7_factor 18 = .ok (.ifCond .lt 15, 3) := by decide +kernel
theorem dX7_factor_21 : decode cX7_factor 21 = .ok (.iload_n 2, 1) := by decide +kernel
theorem dX7_factor_22 : decode cX7_factor 22 = .ok (.aload_n 0, 1) := by decide +kernel
theorem dX7_factor_23 : decode cX7_factor 23 = .ok (.getfield 178, 3) := by decide +kernel
theorem dX7_factor_26 : decode cX7_factor 26 = .ok (.if_icmp .ge 7, 3) := by decide +kernel
theorem dX7_factor_29 : decode cX7_factor 29 = .ok (.iconst 1, 1) := by decide +kernel
theorem dX7_factor_30 : decode cX7_factor 30 = .ok (.goto 4, 3) := by decide +kernel
theorem dX7_factor_33 : decode cX7_factor 33 = .ok (.iconst 0, 1) := by decide +kernel
theorem dX7_factor_34 : decode cX7_factor 34 = .ok (.iconst 1, 1) := by decide +kernel
theorem dX7_factor_35 : decode cX7_factor 35 = .ok (.invokevirtual 157, 3) := by decide +kernel
theorem dX7_factor_38 : decode cX7_factor 38 = .ok (.ifCond .eq 17, 3) := by decide +kernel
theorem dX7_factor_41 : decode cX7_factor 41 = .ok (.aload_n 0, 1) := by decide +kernel
theorem dX7_factor_42 : decode cX7_factor 42 = .ok (.iload_n 2, 1) := by decide +kernel
theorem dX7_factor_43 : decode cX7_factor 43 = .ok (.aload_n 0, 1) := by decide +kernel
theorem dX7_factor_44 : decode cX7_factor 44 = .ok (.getfield 17, 3) := by decide +kernel
theorem dX7_factor_47 : decode cX7_factor 47 = .ok (.iload_n 1, 1) := by decide +kernel
theorem dX7_factor_48 : decode cX7_factor 48 = .ok (.iaload, 1) := by decide +kernel
theorem dX7_factor_49 : decode cX7_factor 49 = .ok (.invokevirtual 202, 3) := by decide +kernel
theorem dX7_factor_52 : decode cX7_factor 52 = .ok (.goto 4, 3) := by decide +kernel
theorem dX7_factor_55 : decode cX7_factor 55 = .ok (.iconst 0, 1) := by decide +kernel
theorem dX7_factor_56 : decode cX7_factor 56 = .ok (.ireturn, 1) := by decide +kernel
theorem dX7_alike_0 : decode cX7_alike 0 = .ok (.aload_n 0, 1) := by decide +kernel
theorem dX7_alike_1 : decode cX7_alike 1 = .ok (.iload_n 1, 1) := by decide +kernel
theorem dX7_alike_2 : decode cX7_alike 2 = .ok (.invokevirtual 164, 3) := by decide +kernel
theorem dX7_alike_5 : decode cX7_alike 5 = .ok (.ifCond .eq 26, 3) := by decide +kernel
theorem dX7_alike_8 : decode cX7_alike 8 = .ok (.aload_n 0, 1) := by decide +kernel
theorem dX7_alike_9 : decode cX7_alike 9 = .ok (.iload_n 2, 1) := by decide +kernel
theorem dX7_alike_10 : decode cX7_alike 10 = .ok (.invokevirtual 164, 3) := by decide +kernel
theorem dX7_alike_13 : decode cX7_alike 13 = .ok (.ifCond .eq 18, 3) := by decide +kernel
theorem dX7_alike_16 : decode cX7_alike 16 = .ok (.aload_n 0, 1) := by decide +kernel
theorem dX7_alike_17 : decode cX7_alike 17 = .ok (.getfield 17, 3) := by decide +kernel
theorem dX7_alike_20 : decode cX7_alike 20 = .ok (.iload_n 1, 1) := by decide +kernel
theorem dX7_alike_21 : decode cX7_alike 21 = .ok (.iaload, 1) := by decide +kernel
theorem dX7_alike_22 : decode cX7_alike 22 = .ok (.aload_n 0, 1) := by decide +kernel
theorem dX7_alike_23 : decode cX7_alike 23 = .ok (.getfield 17, 3) := by decide +kernel
theorem dX7_alike_26 : decode cX7_alike 26 = .ok (.iload_n 2, 1) := by decide +kernel
theorem dX7_alike_27 : decode cX7_alike 27 = .ok (.iaload, 1) := by decide +kernel
theorem dX7_alike_28 : decode cX7_alike 28 = .ok (.if_icmp .eq 5, 3) := by decide +kernel
theorem dX7_alike_31 : decode cX7_alike 31 = .ok (.iconst 0, 1) := by decide +kernel
theorem dX7_alike_32 : decode cX7_alike 32 = .ok (.ireturn, 1) := by decide +kernel
theorem dX7_alike_33 : decode cX7_alike 33 = .ok (.aload_n 0, 1) := by decide +kernel
theorem dX7_alike_34 : decode cX7_alike 34 = .ok (.iload_n 1, 1) := by decide +kernel
theorem dX7_alike_35 : decode cX7_alike 35 = .ok (.iconst 1, 1) := by decide +kernel
theorem dX7_alike_36 : decode cX7_alike 36 = .ok (.invokevirtual 199, 3) := by decide +kernel
theorem dX7_alike_39 : decode cX7_alike 39 = .ok (.aload_n 0, 1) := by decide +kernel
theorem dX7_alike_40 : decode cX7_alike 40 = .ok (.aload_n 0, 1) := by decide +kernel
theorem dX7_alike_41 : decode cX7_alike 41 = .ok (.getfield 178, 3) := by decide +kernel
theorem dX7_alike_44 : decode cX7_alike 44 = .ok (.putfield 205, 3) := by decide +kernel
theorem dX7_alike_47 : decode cX7_alike 47 = .ok (.aload_n 0, 1) := by decide +kernel
theorem dX7_alike_48 : decode cX7_alike 48 = .ok (.aload_n 0, 1) := by decide +kernel
theorem dX7_alike_49 : decode cX7_alike 49 = .ok (.getfield 184, 3) := by decide +kernel
theorem dX7_alike_52 : decode cX7_alike 52 = .ok (.putfield 208, 3) := by decide +kernel
theorem dX7_alike_55 : decode cX7_alike 55 = .ok (.iconst 0, 1) := by decide +kernel
theorem dX7_alike_56 : decode cX7_alike 56 = .ok (.istore_n 3, 1) := by decide +kernel
theorem dX7_alike_57 : decode cX7_alike 57 = .ok (.iload_n 3, 1) := by decide +kernel
theorem dX7_alike_58 : decode cX7_alike 58 = .ok (.aload_n 0, 1) := by decide +kernel
theorem dX7_alike_59 : decode cX7_alike 59 = .ok (.getfield 178, 3) := by decide +kernel
theorem dX7_alike_62 : decode cX7_alike 62 = .ok (.if_icmp .ge 26, 3) := by decide +kernel
theorem dX7_alike_65 : decode cX7_alike 65 = .ok (.aload_n 0, 1) := by decide +kernel
theorem dX7_alike_66 : decode cX7_alike 66 = .ok (.getfield 41, 3) := by decide +kernel
theorem dX7_alike_69 : decode cX7_alike 69 = .ok (.iload_n 3, 1) := by decide +kernel
theorem dX7_alike_70 : decode cX7_alike 70 = .ok (.aload_n 0, 1) := by decide +kernel
theorem dX7_alike_71 : decode cX7_alike 71 = .ok (.iload_n 3, 1) := by decide +kernel
theorem dX7_alike_72 : decode cX7_alike 72 = .ok (.aload_n 0, 1) := by decide +kernel
theorem dX7_alike_73 : decode cX7_alike 73 = .ok (.getfield 17, 3) := by decide +kernel
theorem dX7_alike_76 : decode cX7_alike 76 = .ok (.iload_n 1, 1) := by decide +kernel
theorem dX7_alike_77 : decode cX7_alike 77 = .ok (.iaload, 1) := by decide +kernel
theorem dX7_alike_78 : decode cX7_alike 78 = .ok (.invokevirtual 202, 3) := by decide +kernel
theorem dX7_alike_81 : decode cX7_alike 81 = .ok (.iastore, 1) := by decide +kernel
theorem dX7_alike_82 : decode cX7_alike 82 = .ok (.iinc 3 1, 3) := by decide +kernel
theorem dX7_alike_85 : decode cX7_alike 85 = .ok (.goto (-28), 3) := by decide +kernel
theorem dX7_alike_88 : decode cX7_alike 88 = .ok (.aload_n 0, 1) := by decide +kernel
theorem dX7_alike_89 : decode cX7_alike 89 = .ok (.iload_n 2, 1) := by decide +kernel
theorem dX7_alike_90 : decode cX7_alike 90 = .ok (.iconst 1, 1) := by decide +kernel
theorem dX7_alike_91 : decode cX7_alike 91 = .ok (.invokevirtual 199, 3) := by decide +kernel
theorem dX7_alike_94 : decode cX7_alike 94 = .ok (.aload_n 0, 1) := by decide +kernel
theorem dX7_alike_95 : decode cX7_alike 95 = .ok (.getfield 205, 3) := by decide +kernel
theorem dX7_alike_98 : decode cX7_alike 98 = .ok (.aload_n 0, 1) := by decide +kernel
theorem dX7_alike_99 : decode cX7_alike 99 = .ok (.getfield 178, 3) := by decide +kernel
theorem dX7_alike_102 : decode cX7_alike 102 = .ok (.if_icmp .ne 18, 3) := by decide +kernel
theorem dX7_alike_105 : decode cX7_alike 105 = .ok (.aload_n 0, 1) := by decide +kernel
theorem dX7_alike_106 : decode cX7_alike 106 = .ok (.getfield 208, 3) := by decide +kernel
theorem dX7_alike_109 : decode cX7_alike 109 = .ok (.aload_n 0, 1) := by decide +kernel
theorem dX7_alike_110 : decode cX7_alike 110 = .ok (.getfield 184, 3) := by decide +kernel
theorem dX7_alike_113 : decode cX7_alike 113 = .ok (.if_icmp .ne 7, 3) := by decide +kernel
theorem dX7_alike_116 : decode cX7_alike 116 = .ok (.iconst 1, 1) := by decide +kernel
theorem dX7_alike_117 : decode cX7_alike 117 = .ok (.goto 4, 3) := by decide +kernel
theorem dX7_alike_120 : decode cX7_alike 120 = .ok (.iconst 0, 1) := by decide +kernel
theorem dX7_alike_121 : decode cX7_alike 121 = .ok (.istore_n 3, 1) := by decide +kernel
theorem dX7_alike_122 : decode cX7_alike 122 = .ok (.iconst 0, 1) := by decide +kernel
theorem dX7_alike_123 : decode cX7_alike 123 = .ok (.istore 4, 2) := by decide +kernel
theorem dX7_alike_125 : decode cX7_alike 125 = .ok (.iload 4, 2) := by decide +kernel
theorem dX7_alike_127 : decode cX7_alike 127 = .ok (.aload_n 0, 1) := by decide +kernel
theorem dX7_alike_128 : decode cX7_alike 128 = .ok (.getfield 178, 3) := by decide +kernel
theorem dX7_alike_131 : decode cX7_alike 131 = .ok (.if_icmp .ge 41, 3) := by decide +kernel
theorem dX7_alike_134 : decode cX7_alike 134 = .ok (.iload_n 3, 1) := by decide +kernel
theorem dX7_alike_135 : decode cX7_alike 135 = .ok (.ifCond .eq 37, 3) := by decide +kernel
theorem dX7_alike_138 : decode cX7_alike 138 = .ok (.aload_n 0, 1) := by decide +kernel
theorem dX7_alike_139 : decode cX7_alike 139 = .ok (.getfield 41, 3) := by decide +kernel
theorem dX7_alike_142 : decode cX7_alike 142 = .ok (.iload 4, 2) := by decide +kernel
theorem dX7_alike_144 : decode cX7_alike 144 = .ok (.iaload, 1) := by decide +kernel
theorem dX7_alike_145 : decode cX7_alike 145 = .ok (.aload_n 0, 1) := by decide +kernel
theorem dX7_alike_146 : decode cX7_alike 146 = .ok (.iload 4, 2) := by decide +kernel
theorem dX7_alike_148 : decode cX7_alike 148 = .ok (.aload_n 0, 1) := by decide +kernel
theorem dX7_alike_149 : decode cX7_alike 149 = .ok (.getfield 17, 3) := by decide +kernel
theorem dX7_alike_152 : decode cX7_alike 152 = .ok (.iload_n 2, 1) := by decide +kernel
theorem dX7_alike_153 : decode cX7_alike 153 = .ok (.iaload, 1) := by decide +kernel
theorem dX7_alike_154 : decode cX7_alike 154 = .ok (.invokevirtual 202, 3) := by decide +kernel
theorem dX7_alike_157 : decode cX7_alike 157 = .ok (.if_icmp .ne 7, 3) := by decide +kernel
theorem dX7_alike_160 : decode cX7_alike 160 = .ok (.iconst 1, 1) := by decide +kernel
theorem dX7_alike_161 : decode cX7_alike 161 = .ok (.goto 4, 3) := by decide +kernel
theorem dX7_alike_164 : decode cX7_alike 164 = .ok (.iconst 0, 1) := by decide +kernel
theorem dX7_alike_165 : decode cX7_alike 165 = .ok (.istore_n 3, 1) := by decide +kernel
theorem dX7_alike_166 : decode cX7_alike 166 = .ok (.iinc 4 1, 3) := by decide +kernel
theorem dX7_alike_169 : decode cX7_alike 169 = .ok (.goto (-44), 3) := by decide +kernel
theorem dX7_alike_172 : decode cX7_alike 172 = .ok (.iload_n 3, 1) := by decide +kernel
theorem dX7_alike_173 : decode cX7_alike 173 = .ok (.ireturn, 1) := by decide +kernel
theorem dX7_untwined_0 : decode cX7_untwined 0 = .ok (.aload_n 0, 1) := by decide +kernel
theorem dX7_untwined_1 : decode cX7_untwined 1 = .ok (.iload_n 1, 1) := by decide +kernel
theorem dX7_untwined_2 : decode cX7_untwined 2 = .ok (.invokevirtual 164, 3) := by decide +kernel
theorem dX7_untwined_5 : decode cX7_untwined 5 = .ok (.ifCond .ne 5, 3) := by decide +kernel
theorem dX7_untwined_8 : decode cX7_untwined 8 = .ok (.iconst 0, 1) := by decide +kernel
theorem dX7_untwined_9 : decode cX7_untwined 9 = .ok (.ireturn, 1) := by decide +kernel
theorem dX7_untwined_10 : decode cX7_untwined 10 = .ok (.iconst 1, 1) := by decide +kernel
theorem dX7_untwined_11 : decode cX7_untwined 11 = .ok (.istore_n 2, 1) := by decide +kernel
theorem dX7_untwined_12 : decode cX7_untwined 12 = .ok (.iload_n 2, 1) := by decide +kernel
theorem dX7_untwined_13 : decode cX7_untwined 13 = .ok (.bipush 12, 2) := by decide +kernel
theorem dX7_untwined_15 : decode cX7_untwined 15 = .ok (.if_icmp .gt 47, 3) := by decide +kernel
theorem dX7_untwined_18 : decode cX7_untwined 18 = .ok (.iload_n 2, 1) := by decide +kernel
theorem dX7_untwined_19 : decode cX7_untwined 19 = .ok (.aload_n 0, 1) := by decide +kernel
theorem dX7_untwined_20 : decode cX7_untwined 20 = .ok (.getfield 20, 3) := by decide +kernel
theorem dX7_untwined_23 : decode cX7_untwined 23 = .ok (.iload_n 1, 1) := by decide +kernel
theorem dX7_untwined_24 : decode cX7_untwined 24 = .ok (.iaload, 1) := by decide +kernel
theorem dX7_untwined_25 : decode cX7_untwined 25 = .ok (.imul, 1) := by decide +kernel
theorem dX7_untwined_26 : decode cX7_untwined 26 = .ok (.sipush 600, 3) := by decide +kernel
theorem dX7_untwined_29 : decode cX7_untwined 29 = .ok (.if_icmp .gt 33, 3) := by decide +kernel
theorem dX7_untwined_32 : decode cX7_untwined 32 = .ok (.aload_n 0, 1) := by decide +kernel
theorem dX7_untwined_33 : decode cX7_untwined 33 = .ok (.iload_n 1, 1) := by decide +kernel
theorem dX7_untwined_34 : decode cX7_untwined 34 = .ok (.iload_n 2, 1) := by decide +kernel
theorem dX7_untwined_35 : decode cX7_untwined 35 = .ok (.invokevirtual 199, 3) := by decide +kernel
theorem dX7_untwined_38 : decode cX7_untwined 38 = .ok (.aload_n 0, 1) := by decide +kernel
theorem dX7_untwined_39 : decode cX7_untwined 39 = .ok (.getfield 178, 3) := by decide +kernel
theorem dX7_untwined_42 : decode cX7_untwined 42 = .ok (.ifCond .ne 14, 3) := by decide +kernel
theorem dX7_untwined_45 : decode cX7_untwined 45 = .ok (.aload_n 0, 1) := by decide +kernel
theorem dX7_untwined_46 : decode cX7_untwined 46 = .ok (.getfield 184, 3) := by decide +kernel
theorem dX7_untwined_49 : decode cX7_untwined 49 = .ok (.iconst 2, 1) := by decide +kernel
theorem dX7_untwined_50 : decode cX7_untwined 50 = .ok (.irem, 1) := by decide +kernel
theorem dX7_untwined_51 : decode cX7_untwined 51 = .ok (.ifCond .ne 5, 3) := by decide +kernel
theorem dX7_untwined_54 : decode cX7_untwined 54 = .ok (.iload_n 2, 1) := by decide +kernel
theorem dX7_untwined_55 : decode cX7_untwined 55 = .ok (.ireturn, 1) := by decide +kernel
theorem dX7_untwined_56 : decode cX7_untwined 56 = .ok (.iinc 2 1, 3) := by decide +kernel
theorem dX7_untwined_59 : decode cX7_untwined 59 = .ok (.goto (-47), 3) := by decide +kernel
theorem dX7_untwined_62 : decode cX7_untwined 62 = .ok (.iconst (-1), 1) := by decide +kernel
theorem dX7_untwined_63 : decode cX7_untwined 63 = .ok (.ireturn, 1) := by decide +kernel
theorem dX7_goesTo_0 : decode cX7_goesTo 0 = .ok (.iload_n 2, 1) := by decide +kernel
theorem dX7_goesTo_1 : decode cX7_goesTo 1 = .ok (.istore_n 3, 1) := by decide +kernel
theorem dX7_goesTo_2 : decode cX7_goesTo 2 = .ok (.iconst 0, 1) := by decide +kernel
theorem dX7_goesTo_3 : decode cX7_goesTo 3 = .ok (.istore 4, 2) := by decide +kernel
theorem dX7_goesTo_5 : decode cX7_goesTo 5 = .ok (.iload 4, 2) := by decide +kernel
theorem dX7_goesTo_7 : decode cX7_goesTo 7 = .ok (.aload_n 0, 1) := by decide +kernel
theorem dX7_goesTo_8 : decode cX7_goesTo 8 = .ok (.getfield 20, 3) := by decide +kernel
theorem dX7_goesTo_11 : decode cX7_goesTo 11 = .ok (.iload_n 1, 1) := by decide +kernel
theorem dX7_goesTo_12 : decode cX7_goesTo 12 = .ok (.iaload, 1) := by decide +kernel
theorem dX7_goesTo_13 : decode cX7_goesTo 13 = .ok (.if_icmp .ge 67, 3) := by decide +kernel
theorem dX7_goesTo_16 : decode cX7_goesTo 16 = .ok (.aload_n 0, 1) := by decide +kernel
theorem dX7_goesTo_17 : decode cX7_goesTo 17 = .ok (.getfield 23, 3) := by decide +kernel
theorem dX7_goesTo_20 : decode cX7_goesTo 20 = .ok (.sipush 300, 3) := by decide +kernel
theorem dX7_goesTo_23 : decode cX7_goesTo 23 = .ok (.iload_n 1, 1) := by decide +kernel
theorem dX7_goesTo_24 : decode cX7_goesTo 24 = .ok (.imul, 1) := by decide +kernel
theorem dX7_goesTo_25 : decode cX7_goesTo 25 = .ok (.iload 4, 2) := by decide +kernel
theorem dX7_goesTo_27 : decode cX7_goesTo 27 = .ok (.iadd, 1) := by decide +kernel
theorem dX7_goesTo_28 : decode cX7_goesTo 28 = .ok (.iaload, 1) := by decide +kernel
theorem dX7_goesTo_29 : decode cX7_goesTo 29 = .ok (.istore 5, 2) := by decide +kernel
theorem dX7_goesTo_31 : decode cX7_goesTo 31 = .ok (.iload 5, 2) := by decide +kernel
theorem dX7_goesTo_33 : decode cX7_goesTo 33 = .ok (.ifCond .le 8, 3) := by decide +kernel
theorem dX7_goesTo_36 : decode cX7_goesTo 36 = .ok (.iload 5, 2) := by decide +kernel
theorem dX7_goesTo_38 : decode cX7_goesTo 38 = .ok (.goto 6, 3) := by decide +kernel
theorem dX7_goesTo_41 : decode cX7_goesTo 41 = .ok (.iload 5, 2) := by decide +kernel
theorem dX7_goesTo_43 : decode cX7_goesTo 43 = .ok (.ineg, 1) := by decide +kernel
theorem dX7_goesTo_44 : decode cX7_goesTo 44 = .ok (.istore 6, 2) := by decide +kernel
theorem dX7_goesTo_46 : decode cX7_goesTo 46 = .ok (.iload_n 3, 1) := by decide +kernel
theorem dX7_goesTo_47 : decode cX7_goesTo 47 = .ok (.iload 6, 2) := by decide +kernel
theorem dX7_goesTo_49 : decode cX7_goesTo 49 = .ok (.if_icmp .ne 10, 3) := by decide +kernel
theorem dX7_goesTo_52 : decode cX7_goesTo 52 = .ok (.iload 6, 2) := by decide +kernel
theorem dX7_goesTo_54 : decode cX7_goesTo 54 = .ok (.iconst 1, 1) := by decide +kernel
theorem dX7_goesTo_55 : decode cX7_goesTo 55 = .ok (.iadd, 1) := by decide +kernel
theorem dX7_goesTo_56 : decode cX7_goesTo 56 = .ok (.goto 17, 3) := by decide +kernel
theorem dX7_goesTo_59 : decode cX7_goesTo 59 = .ok (.iload_n 3, 1) := by decide +kernel
theorem dX7_goesTo_60 : decode cX7_goesTo 60 = .ok (.iload 6, 2) := by decide +kernel
theorem dX7_goesTo_62 : decode cX7_goesTo 62 = .ok (.iconst 1, 1) := by decide +kernel
theorem dX7_goesTo_63 : decode cX7_goesTo 63 = .ok (.iadd, 1) := by decide +kernel
theorem dX7_goesTo_64 : decode cX7_goesTo 64 = .ok (.if_icmp .ne 8, 3) := by decide +kernel
theorem dX7_goesTo_67 : decode cX7_goesTo 67 = .ok (.iload 6, 2) := by decide +kernel
theorem dX7_goesTo_69 : decode cX7_goesTo 69 = .ok (.goto 4, 3) := by decide +kernel
theorem dX7_goesTo_72 : decode cX7_goesTo 72 = .ok (.iload_n 3, 1) := by decide +kernel
theorem dX7_goesTo_73 : decode cX7_goesTo 73 = .ok (.istore_n 3, 1) := by decide +kernel
theorem dX7_goesTo_74 : decode cX7_goesTo 74 = .ok (.iinc 4 1, 3) := by decide +kernel
theorem dX7_goesTo_77 : decode cX7_goesTo 77 = .ok (.goto (-72), 3) := by decide +kernel
theorem dX7_goesTo_80 : decode cX7_goesTo 80 = .ok (.iload_n 3, 1) := by decide +kernel
theorem dX7_goesTo_81 : decode cX7_goesTo 81 = .ok (.ireturn, 1) := by decide +kernel
theorem dX7_home_0 : decode cX7_home 0 = .ok (.iconst 0, 1) := by decide +kernel
theorem dX7_home_1 : decode cX7_home 1 = .ok (.istore_n 2, 1) := by decide +kernel
theorem dX7_home_2 : decode cX7_home 2 = .ok (.iconst 0, 1) := by decide +kernel
theorem dX7_home_3 : decode cX7_home 3 = .ok (.istore_n 3, 1) := by decide +kernel
theorem dX7_home_4 : decode cX7_home 4 = .ok (.iconst 1, 1) := by decide +kernel
theorem dX7_home_5 : decode cX7_home 5 = .ok (.istore 4, 2) := by decide +kernel
theorem dX7_home_7 : decode cX7_home 7 = .ok (.iload 4, 2) := by decide +kernel
theorem dX7_home_9 : decode cX7_home 9 = .ok (.aload_n 0, 1) := by decide +kernel
theorem dX7_home_10 : decode cX7_home 10 = .ok (.getfield 17, 3) := by decide +kernel
theorem dX7_home_13 : decode cX7_home 13 = .ok (.iload_n 1, 1) := by decide +kernel
theorem dX7_home_14 : decode cX7_home 14 = .ok (.iaload, 1) := by decide +kernel
theorem dX7_home_15 : decode cX7_home 15 = .ok (.if_icmp .gt 18, 3) := by decide +kernel
theorem dX7_home_18 : decode cX7_home 18 = .ok (.aload_n 0, 1) := by decide +kernel
theorem dX7_home_19 : decode cX7_home 19 = .ok (.getfield 47, 3) := by decide +kernel
theorem dX7_home_22 : decode cX7_home 22 = .ok (.iload 4, 2) := by decide +kernel
theorem dX7_home_24 : decode cX7_home 24 = .ok (.iload 4, 2) := by decide +kernel
theorem dX7_home_26 : decode cX7_home 26 = .ok (.iastore, 1) := by decide +kernel
theorem dX7_home_27 : decode cX7_home 27 = .ok (.iinc 4 1, 3) := by decide +kernel
theorem dX7_home_30 : decode cX7_home 30 = .ok (.goto (-23), 3) := by decide +kernel
theorem dX7_home_33 : decode cX7_home 33 = .ok (.iload_n 3, 1) := by decide +kernel
theorem dX7_home_34 : decode cX7_home 34 = .ok (.ifCond .ne 72, 3) := by decide +kernel
theorem dX7_home_37 : decode cX7_home 37 = .ok (.iinc 2 1, 3) := by decide +kernel
theorem dX7_home_40 : decode cX7_home 40 = .ok (.iconst 1, 1) := by decide +kernel
theorem dX7_home_41 : decode cX7_home 41 = .ok (.istore_n 3, 1) := by decide +kernel
theorem dX7_home_42 : decode cX7_home 42 = .ok (.iconst 1, 1) := by decide +kernel
theorem dX7_home_43 : decode cX7_home 43 = .ok (.istore 4, 2) := by decide +kernel
theorem dX7_home_45 : decode cX7_home 45 = .ok (.iload 4, 2) := by decide +kernel
theorem dX7_home_47 : decode cX7_home 47 = .ok (.aload_n 0, 1) := by decide +kernel
theorem dX7_home_48 : decode cX7_home 48 = .ok (.getfield 17, 3) := by decide +kernel
theorem dX7_home_51 : decode cX7_home 51 = .ok (.iload_n 1, 1) := by decide +kernel
theorem dX7_home_52 : decode cX7_home 52 = .ok (.iaload, 1) := by decide +kernel
theorem dX7_home_53 : decode cX7_home 53 = .ok (.if_icmp .gt 50, 3) := by decide +kernel
theorem dX7_home_56 : decode cX7_home 56 = .ok (.aload_n 0, 1) := by decide +kernel
theorem dX7_home_57 : decode cX7_home 57 = .ok (.getfield 47, 3) := by decide +kernel
theorem dX7_home_60 : decode cX7_home 60 = .ok (.iload 4, 2) := by decide +kernel
theorem dX7_home_62 : decode cX7_home 62 = .ok (.aload_n 0, 1) := by decide +kernel
theorem dX7_home_63 : decode cX7_home 63 = .ok (.iload_n 1, 1) := by decide +kernel
theorem dX7_home_64 : decode cX7_home 64 = .ok (.aload_n 0, 1) := by decide +kernel
theorem dX7_home_65 : decode cX7_home 65 = .ok (.getfield 47, 3) := by decide +kernel
theorem dX7_home_68 : decode cX7_home 68 = .ok (.iload 4, 2) := by decide +kernel
theorem dX7_home_70 : decode cX7_home 70 = .ok (.iaload, 1) := by decide +kernel
theorem dX7_home_71 : decode cX7_home 71 = .ok (.invokevirtual 211, 3) := by decide +kernel
theorem dX7_home_74 : decode cX7_home 74 = .ok (.iastore, 1) := by decide +kernel
theorem dX7_home_75 : decode cX7_home 75 = .ok (.iload_n 3, 1) := by decide +kernel
theorem dX7_home_76 : decode cX7_home 76 = .ok (.ifCond .eq 19, 3) := by decide +kernel
theorem dX7_home_79 : decode cX7_home 79 = .ok (.aload_n 0, 1) := by decide +kernel
theorem dX7_home_80 : decode cX7_home 80 = .ok (.getfield 47, 3) := by decide +kernel
theorem dX7_home_83 : decode cX7_home 83 = .ok (.iload 4, 2) := by decide +kernel
theorem dX7_home_85 : decode cX7_home 85 = .ok (.iaload, 1) := by decide +kernel
theorem dX7_home_86 : decode cX7_home 86 = .ok (.iload 4, 2) := by decide +kernel
theorem dX7_home_88 : decode cX7_home 88 = .ok (.if_icmp .ne 7, 3) := by decide +kernel
theorem dX7_home_91 : decode cX7_home 91 = .ok (.iconst 1, 1) := by decide +kernel
theorem dX7_home_92 : decode cX7_home 92 = .ok (.goto 4, 3) := by decide +kernel
theorem dX7_home_95 : decode cX7_home 95 = .ok (.iconst 0, 1) := by decide +kernel
theorem dX7_home_96 : decode cX7_home 96 = .ok (.istore_n 3, 1) := by decide +kernel
theorem dX7_home_97 : decode cX7_home 97 = .ok (.iinc 4 1, 3) := by decide +kernel
theorem dX7_home_100 : decode cX7_home 100 = .ok (.goto (-55), 3) := by decide +kernel
theorem dX7_home_103 : decode cX7_home 103 = .ok (.goto (-70), 3) := by decide +kernel
theorem dX7_home_106 : decode cX7_home 106 = .ok (.iload_n 2, 1) := by decide +kernel
theorem dX7_home_107 : decode cX7_home 107 = .ok (.ireturn, 1) := by decide +kernel
theorem dX7_rings_0 : decode cX7_rings 0 = .ok (.iconst 0, 1) := by decide +kernel
theorem dX7_rings_1 : decode cX7_rings 1 = .ok (.istore_n 2, 1) := by decide +kernel
theorem dX7_rings_2 : decode cX7_rings 2 = .ok (.iconst 1, 1) := by decide +kernel
theorem dX7_rings_3 : decode cX7_rings 3 = .ok (.istore_n 3, 1) := by decide +kernel
theorem dX7_rings_4 : decode cX7_rings 4 = .ok (.iload_n 3, 1) := by decide +kernel
theorem dX7_rings_5 : decode cX7_rings 5 = .ok (.aload_n 0, 1) := by decide +kernel
theorem dX7_rings_6 : decode cX7_rings 6 = .ok (.getfield 17, 3) := by decide +kernel
theorem dX7_rings_9 : decode cX7_rings 9 = .ok (.iload_n 1, 1) := by decide +kernel
theorem dX7_rings_10 : decode cX7_rings 10 = .ok (.iaload, 1) := by decide +kernel
theorem dX7_rings_11 : decode cX7_rings 11 = .ok (.if_icmp .gt 63, 3) := by decide +kernel
theorem dX7_rings_14 : decode cX7_rings 14 = .ok (.iload_n 3, 1) := by decide +kernel
theorem dX7_rings_15 : decode cX7_rings 15 = .ok (.istore 4, 2) := by decide +kernel
theorem dX7_rings_17 : decode cX7_rings 17 = .ok (.aload_n 0, 1) := by decide +kernel
theorem dX7_rings_18 : decode cX7_rings 18 = .ok (.iload_n 1, 1) := by decide +kernel
theorem dX7_rings_19 : decode cX7_rings 19 = .ok (.iload_n 3, 1) := by decide +kernel
theorem dX7_rings_20 : decode cX7_rings 20 = .ok (.invokevirtual 211, 3) := by decide +kernel
theorem dX7_rings_23 : decode cX7_rings 23 = .ok (.istore 5, 2) := by decide +kernel
theorem dX7_rings_25 : decode cX7_rings 25 = .ok (.iload 5, 2) := by decide +kernel
theorem dX7_rings_27 : decode cX7_rings 27 = .ok (.iload_n 3, 1) := by decide +kernel
theorem dX7_rings_28 : decode cX7_rings 28 = .ok (.if_icmp .eq 31, 3) := by decide +kernel
theorem dX7_rings_31 : decode cX7_rings 31 = .ok (.iload 5, 2) := by decide +kernel
theorem dX7_rings_33 : decode cX7_rings 33 = .ok (.iload 4, 2) := by decide +kernel
theorem dX7_rings_35 : decode cX7_rings 35 = .ok (.if_icmp .ge 8, 3) := by decide +kernel
theorem dX7_rings_38 : decode cX7_rings 38 = .ok (.iload 5, 2) := by decide +kernel
theorem dX7_rings_40 : decode cX7_rings 40 = .ok (.goto 5, 3) := by decide +kernel
theorem dX7_rings_43 : decode cX7_rings 43 = .ok (.iload 4, 2) := by decide +kernel
theorem dX7_rings_45 : decode cX7_rings 45 = .ok (.istore 4, 2) := by decide +kernel
theorem dX7_rings_47 : decode cX7_rings 47 = .ok (.aload_n 0, 1) := by decide +kernel
theorem dX7_rings_48 : decode cX7_rings 48 = .ok (.iload_n 1, 1) := by decide +kernel
theorem dX7_rings_49 : decode cX7_rings 49 = .ok (.iload 5, 2) := by decide +kernel
theorem dX7_rings_51 : decode cX7_rings 51 = .ok (.invokevirtual 211, 3) := by decide +kernel
theorem dX7_rings_54 : decode cX7_rings 54 = .ok (.istore 5, 2) := by decide +kernel
theorem dX7_rings_56 : decode cX7_rings 56 = .ok (.goto (-31), 3) := by decide +kernel
theorem dX7_rings_59 : decode cX7_rings 59 = .ok (.iload 4, 2) := by decide +kernel
theorem dX7_rings_61 : decode cX7_rings 61 = .ok (.iload_n 3, 1) := by decide +kernel
theorem dX7_rings_62 : decode cX7_rings 62 = .ok (.if_icmp .ne 6, 3) := by decide +kernel
theorem dX7_rings_65 : decode cX7_rings 65 = .ok (.iinc 2 1, 3) := by decide +kernel
theorem dX7_rings_68 : decode cX7_rings 68 = .ok (.iinc 3 1, 3) := by decide +kernel
theorem dX7_rings_71 : decode cX7_rings 71 = .ok (.goto (-67), 3) := by decide +kernel
theorem dX7_rings_74 : decode cX7_rings 74 = .ok (.iload_n 2, 1) := by decide +kernel
theorem dX7_rings_75 : decode cX7_rings 75 = .ok (.ireturn, 1) := by decide +kernel
theorem dX7_isInTurn_0 : decode cX7_isInTurn 0 = .ok (.iload_n 2, 1) := by decide +kernel
theorem dX7_isInTurn_1 : decode cX7_isInTurn 1 = .ok (.istore 4, 2) := by decide +kernel
theorem dX7_isInTurn_3 : decode cX7_isInTurn 3 = .ok (.iconst 0, 1) := by decide +kernel
theorem dX7_isInTurn_4 : decode cX7_isInTurn 4 = .ok (.istore 5, 2) := by decide +kernel
theorem dX7_isInTurn_6 : decode cX7_isInTurn 6 = .ok (.iconst 0, 1) := by decide +kernel
theorem dX7_isInTurn_7 : decode cX7_isInTurn 7 = .ok (.istore 6, 2) := by decide +kernel
theorem dX7_isInTurn_9 : decode cX7_isInTurn 9 = .ok (.iconst 0, 1) := by decide +kernel
theorem dX7_isInTurn_10 : decode cX7_isInTurn 10 = .ok (.istore 7, 2) := by decide +kernel
theorem dX7_isInTurn_12 : decode cX7_isInTurn 12 = .ok (.iload 7, 2) := by decide +kernel
theorem dX7_isInTurn_14 : decode cX7_isInTurn 14 = .ok (.iload_n 3, 1) := by decide +kernel
theorem dX7_isInTurn_15 : decode cX7_isInTurn 15 = .ok (.if_icmp .ge 150, 3) := by decide +kernel
theorem dX7_isInTurn_18 : decode cX7_isInTurn 18 = .ok (.iconst 0, 1) := by decide +kernel
theorem dX7_isInTurn_19 : decode cX7_isInTurn 19 = .ok (.istore 8, 2) := by decide +kernel
theorem dX7_isInTurn_21 : decode cX7_isInTurn 21 = .ok (.iload 8, 2) := by decide +kernel
theorem dX7_isInTurn_23 : decode cX7_isInTurn 23 = .ok (.aload_n 0, 1) := by decide +kernel
theorem dX7_isInTurn_24 : decode cX7_isInTurn 24 = .ok (.getfield 20, 3) := by decide +kernel
theorem dX7_isInTurn_27 : decode cX7_isInTurn 27 = .ok (.iload_n 1, 1) := by decide +kernel
theorem dX7_isInTurn_28 : decode cX7_isInTurn 28 = .ok (.iaload, 1) := by decide +kernel
theorem dX7_isInTurn_29 : decode cX7_isInTurn 29 = .ok (.if_icmp .ge 130, 3) := by decide +kernel
theorem dX7_isInTurn_32 : decode cX7_isInTurn 32 = .ok (.aload_n 0, 1) := by decide +kernel
theorem dX7_isInTurn_33 : decode cX7_isInTurn 33 = .ok (.getfield 23, 3) := by decide +kernel
theorem dX7_isInTurn_36 : decode cX7_isInTurn 36 = .ok (.sipush 300, 3) := by decide +kernel
theorem dX7_isInTurn_39 : decode cX7_isInTurn 39 = .ok (.iload_n 1, 1) := by decide +kernel
theorem dX7_isInTurn_40 : decode cX7_isInTurn 40 = .ok (.imul, 1) := by decide +kernel
theorem dX7_isInTurn_41 : decode cX7_isInTurn 41 = .ok (.iload 8, 2) := by decide +kernel
theorem dX7_isInTurn_43 : decode cX7_isInTurn 43 = .ok (.iadd, 1) := by decide +kernel
theorem dX7_isInTurn_44 : decode cX7_isInTurn 44 = .ok (.iaload, 1) := by decide +kernel
theorem dX7_isInTurn_45 : decode cX7_isInTurn 45 = .ok (.istore 9, 2) := by decide +kernel
theorem dX7_isInTurn_47 : decode cX7_isInTurn 47 = .ok (.iload 9, 2) := by decide +kernel
theorem dX7_isInTurn_49 : decode cX7_isInTurn 49 = .ok (.ifCond .le 8, 3) := by decide +kernel
theorem dX7_isInTurn_52 : decode cX7_isInTurn 52 = .ok (.iload 9, 2) := by decide +kernel
theorem dX7_isInTurn_54 : decode cX7_isInTurn 54 = .ok (.goto 6, 3) := by decide +kernel
theorem dX7_isInTurn_57 : decode cX7_isInTurn 57 = .ok (.iload 9, 2) := by decide +kernel
theorem dX7_isInTurn_59 : decode cX7_isInTurn 59 = .ok (.ineg, 1) := by decide +kernel
theorem dX7_isInTurn_60 : decode cX7_isInTurn 60 = .ok (.istore 10, 2) := by decide +kernel
theorem dX7_isInTurn_62 : decode cX7_isInTurn 62 = .ok (.iload 4, 2) := by decide +kernel
theorem dX7_isInTurn_64 : decode cX7_isInTurn 64 = .ok (.iload 10, 2) := by decide +kernel
theorem dX7_isInTurn_66 : decode cX7_isInTurn 66 = .ok (.if_icmp .eq 15, 3) := by decide +kernel
theorem dX7_isInTurn_69 : decode cX7_isInTurn 69 = .ok (.iload 4, 2) := by decide +kernel
theorem dX7_isInTurn_71 : decode cX7_isInTurn 71 = .ok (.iload 10, 2) := by decide +kernel
theorem dX7_isInTurn_73 : decode cX7_isInTurn 73 = .ok (.iconst 1, 1) := by decide +kernel
theorem dX7_isInTurn_74 : decode cX7_isInTurn 74 = .ok (.iadd, 1) := by decide +kernel
theorem dX7_isInTurn_75 : decode cX7_isInTurn 75 = .ok (.if_icmp .eq 6, 3) := by decide +kernel
theorem dX7_isInTurn_78 : decode cX7_isInTurn 78 = .ok (.goto 75, 3) := by decide +kernel
theorem dX7_isInTurn_81 : decode cX7_isInTurn 81 = .ok (.iload 4, 2) := by decide +kernel
theorem dX7_isInTurn_83 : decode cX7_isInTurn 83 = .ok (.iload 10, 2) := by decide +kernel
theorem dX7_isInTurn_85 : decode cX7_isInTurn 85 = .ok (.if_icmp .ne 7, 3) := by decide +kernel
theorem dX7_isInTurn_88 : decode cX7_isInTurn 88 = .ok (.iconst 1, 1) := by decide +kernel
theorem dX7_isInTurn_89 : decode cX7_isInTurn 89 = .ok (.goto 4, 3) := by decide +kernel
theorem dX7_isInTurn_92 : decode cX7_isInTurn 92 = .ok (.iconst 0, 1) := by decide +kernel
theorem dX7_isInTurn_93 : decode cX7_isInTurn 93 = .ok (.iload 9, 2) := by decide +kernel
theorem dX7_isInTurn_95 : decode cX7_isInTurn 95 = .ok (.ifCond .le 7, 3) := by decide +kernel
theorem dX7_isInTurn_98 : decode cX7_isInTurn 98 = .ok (.iconst 1, 1) := by decide +kernel
theorem dX7_isInTurn_99 : decode cX7_isInTurn 99 = .ok (.goto 4, 3) := by decide +kernel
theorem dX7_isInTurn_102 : decode cX7_isInTurn 102 = .ok (.iconst 0, 1) := by decide +kernel
theorem dX7_isInTurn_103 : decode cX7_isInTurn 103 = .ok (.if_icmp .ne 7, 3) := by decide +kernel
theorem dX7_isInTurn_106 : decode cX7_isInTurn 106 = .ok (.iconst 1, 1) := by decide +kernel
theorem dX7_isInTurn_107 : decode cX7_isInTurn 107 = .ok (.goto 4, 3) := by decide +kernel
theorem dX7_isInTurn_110 : decode cX7_isInTurn 110 = .ok (.iconst 2, 1) := by decide +kernel
theorem dX7_isInTurn_111 : decode cX7_isInTurn 111 = .ok (.istore 11, 2) := by decide +kernel
theorem dX7_isInTurn_113 : decode cX7_isInTurn 113 = .ok (.iload 11, 2) := by decide +kernel
theorem dX7_isInTurn_115 : decode cX7_isInTurn 115 = .ok (.iload 6, 2) := by decide +kernel
theorem dX7_isInTurn_117 : decode cX7_isInTurn 117 = .ok (.if_icmp .ne 5, 3) := by decide +kernel
theorem dX7_isInTurn_120 : decode cX7_isInTurn 120 = .ok (.iconst 0, 1) := by decide +kernel
theorem dX7_isInTurn_121 : decode cX7_isInTurn 121 = .ok (.ireturn, 1) := by decide +kernel
theorem dX7_isInTurn_122 : decode cX7_isInTurn 122 = .ok (.iload 5, 2) := by decide +kernel
theorem dX7_isInTurn_124 : decode cX7_isInTurn 124 = .ok (.ifCond .ne 7, 3) := by decide +kernel
theorem dX7_isInTurn_127 : decode cX7_isInTurn 127 = .ok (.iload 11, 2) := by decide +kernel
theorem dX7_isInTurn_129 : decode cX7_isInTurn 129 = .ok (.istore 5, 2) := by decide +kernel
theorem dX7_isInTurn_131 : decode cX7_isInTurn 131 = .ok (.iload 11, 2) := by decide +kernel
theorem dX7_isInTurn_133 : decode cX7_isInTurn 133 = .ok (.istore 6, 2) := by decide +kernel
theorem dX7_isInTurn_135 : decode cX7_isInTurn 135 = .ok (.iload 4, 2) := by decide +kernel
theorem dX7_isInTurn_137 : decode cX7_isInTurn 137 = .ok (.iload 10, 2) := by decide +kernel
theorem dX7_isInTurn_139 : decode cX7_isInTurn 139 = .ok (.if_icmp .ne 10, 3) := by decide +kernel
theorem dX7_isInTurn_142 : decode cX7_isInTurn 142 = .ok (.iload 10, 2) := by decide +kernel
theorem dX7_isInTurn_144 : decode cX7_isInTurn 144 = .ok (.iconst 1, 1) := by decide +kernel
theorem dX7_isInTurn_145 : decode cX7_isInTurn 145 = .ok (.iadd, 1) := by decide +kernel
theorem dX7_isInTurn_146 : decode cX7_isInTurn 146 = .ok (.goto 5, 3) := by decide +kernel
theorem dX7_isInTurn_149 : decode cX7_isInTurn 149 = .ok (.iload 10, 2) := by decide +kernel
theorem dX7_isInTurn_151 : decode cX7_isInTurn 151 = .ok (.istore 4, 2) := by decide +kernel
theorem dX7_isInTurn_153 : decode cX7_isInTurn 153 = .ok (.iinc 8 1, 3) := by decide +kernel
theorem dX7_isInTurn_156 : decode cX7_isInTurn 156 = .ok (.goto (-135), 3) := by decide +kernel
theorem dX7_isInTurn_159 : decode cX7_isInTurn 159 = .ok (.iinc 7 1, 3) := by decide +kernel
theorem dX7_isInTurn_162 : decode cX7_isInTurn 162 = .ok (.goto (-150), 3) := by decide +kernel
theorem dX7_isInTurn_165 : decode cX7_isInTurn 165 = .ok (.iload 5, 2) := by decide +kernel
theorem dX7_isInTurn_167 : decode cX7_isInTurn 167 = .ok (.ifCond .eq 10, 3) := by decide +kernel
theorem dX7_isInTurn_170 : decode cX7_isInTurn 170 = .ok (.iload 5, 2) := by decide +kernel
theorem dX7_isInTurn_172 : decode cX7_isInTurn 172 = .ok (.iload 6, 2) := by decide +kernel
theorem dX7_isInTurn_174 : decode cX7_isInTurn 174 = .ok (.if_icmp .eq 7, 3) := by decide +kernel
theorem dX7_isInTurn_177 : decode cX7_isInTurn 177 = .ok (.iconst 1, 1) := by decide +kernel
theorem dX7_isInTurn_178 : decode cX7_isInTurn 178 = .ok (.goto 4, 3) := by decide +kernel
theorem dX7_isInTurn_181 : decode cX7_isInTurn 181 = .ok (.iconst 0, 1) := by decide +kernel
theorem dX7_isInTurn_182 : decode cX7_isInTurn 182 = .ok (.ireturn, 1) := by decide +kernel
theorem dX7_holds_0 : decode cX7_holds 0 = .ok (.iconst 1, 1) := by decide +kernel
theorem dX7_holds_1 : decode cX7_holds 1 = .ok (.istore_n 2, 1) := by decide +kernel
theorem dX7_holds_2 : decode cX7_holds 2 = .ok (.iconst 1, 1) := by decide +kernel
theorem dX7_holds_3 : decode cX7_holds 3 = .ok (.istore_n 3, 1) := by decide +kernel
theorem dX7_holds_4 : decode cX7_holds 4 = .ok (.iload_n 3, 1) := by decide +kernel
theorem dX7_holds_5 : decode cX7_holds 5 = .ok (.aload_n 0, 1) := by decide +kernel
theorem dX7_holds_6 : decode cX7_holds 6 = .ok (.getfield 17, 3) := by decide +kernel
theorem dX7_holds_9 : decode cX7_holds 9 = .ok (.iload_n 1, 1) := by decide +kernel
theorem dX7_holds_10 : decode cX7_holds 10 = .ok (.iaload, 1) := by decide +kernel
theorem dX7_holds_11 : decode cX7_holds 11 = .ok (.if_icmp .ge 94, 3) := by decide +kernel
theorem dX7_holds_14 : decode cX7_holds 14 = .ok (.iconst 0, 1) := by decide +kernel
theorem dX7_holds_15 : decode cX7_holds 15 = .ok (.istore 4, 2) := by decide +kernel
theorem dX7_holds_17 : decode cX7_holds 17 = .ok (.iconst 0, 1) := by decide +kernel
theorem dX7_holds_18 : decode cX7_holds 18 = .ok (.istore 5, 2) := by decide +kernel
theorem dX7_holds_20 : decode cX7_holds 20 = .ok (.iload 5, 2) := by decide +kernel
theorem dX7_holds_22 : decode cX7_holds 22 = .ok (.aload_n 0, 1) := by decide +kernel
theorem dX7_holds_23 : decode cX7_holds 23 = .ok (.getfield 20, 3) := by decide +kernel
theorem dX7_holds_26 : decode cX7_holds 26 = .ok (.iload_n 1, 1) := by decide +kernel
theorem dX7_holds_27 : decode cX7_holds 27 = .ok (.iaload, 1) := by decide +kernel
theorem dX7_holds_28 : decode cX7_holds 28 = .ok (.if_icmp .ge 56, 3) := by decide +kernel
theorem dX7_holds_31 : decode cX7_holds 31 = .ok (.iload 4, 2) := by decide +kernel
theorem dX7_holds_33 : decode cX7_holds 33 = .ok (.ifCond .ne 38, 3) := by decide +kernel
theorem dX7_holds_36 : decode cX7_holds 36 = .ok (.aload_n 0, 1) := by decide +kernel
theorem dX7_holds_37 : decode cX7_holds 37 = .ok (.getfield 23, 3) := by decide +kernel
theorem dX7_holds_40 : decode cX7_holds 40 = .ok (.sipush 300, 3) := by decide +kernel
theorem dX7_holds_43 : decode cX7_holds 43 = .ok (.iload_n 1, 1) := by decide +kernel
theorem dX7_holds_44 : decode cX7_holds 44 = .ok (.imul, 1) := by decide +kernel
theorem dX7_holds_45 : decode cX7_holds 45 = .ok (.iload 5, 2) := by decide +kernel
theorem dX7_holds_47 : decode cX7_holds 47 = .ok (.iadd, 1) := by decide +kernel
theorem dX7_holds_48 : decode cX7_holds 48 = .ok (.iaload, 1) := by decide +kernel
theorem dX7_holds_49 : decode cX7_holds 49 = .ok (.iload_n 3, 1) := by decide +kernel
theorem dX7_holds_50 : decode cX7_holds 50 = .ok (.if_icmp .eq 21, 3) := by decide +kernel
theorem dX7_holds_53 : decode cX7_holds 53 = .ok (.aload_n 0, 1) := by decide +kernel
theorem dX7_holds_54 : decode cX7_holds 54 = .ok (.getfield 23, 3) := by decide +kernel
theorem dX7_holds_57 : decode cX7_holds 57 = .ok (.sipush 300, 3) := by decide +kernel
theorem dX7_holds_60 : decode cX7_holds 60 = .ok (.iload_n 1, 1) := by decide +kernel
theorem dX7_holds_61 : decode cX7_holds 61 = .ok (.imul, 1) := by decide +kernel
theorem dX7_holds_62 : decode cX7_holds 62 = .ok (.iload 5, 2) := by decide +kernel
theorem dX7_holds_64 : decode cX7_holds 64 = .ok (.iadd, 1) := by decide +kernel
theorem dX7_holds_65 : decode cX7_holds 65 = .ok (.iaload, 1) := by decide +kernel
theorem dX7_holds_66 : decode cX7_holds 66 = .ok (.iload_n 3, 1) := by decide +kernel
theorem dX7_holds_67 : decode cX7_holds 67 = .ok (.ineg, 1) := by decide +kernel
theorem dX7_holds_68 : decode cX7_holds 68 = .ok (.if_icmp .ne 7, 3) := by decide +kernel
theorem dX7_holds_71 : decode cX7_holds 71 = .ok (.iconst 1, 1) := by decide +kernel
theorem dX7_holds_72 : decode cX7_holds 72 = .ok (.goto 4, 3) := by decide +kernel
theorem dX7_holds_75 : decode cX7_holds 75 = .ok (.iconst 0, 1) := by decide +kernel
theorem dX7_holds_76 : decode cX7_holds 76 = .ok (.istore 4, 2) := by decide +kernel
theorem dX7_holds_78 : decode cX7_holds 78 = .ok (.iinc 5 1, 3) := by decide +kernel
theorem dX7_holds_81 : decode cX7_holds 81 = .ok (.goto (-61), 3) := by decide +kernel
theorem dX7_holds_84 : decode cX7_holds 84 = .ok (.iload_n 2, 1) := by decide +kernel
theorem dX7_holds_85 : decode cX7_holds 85 = .ok (.ifCond .eq 12, 3) := by decide +kernel
theorem dX7_holds_88 : decode cX7_holds 88 = .ok (.iload 4, 2) := by decide +kernel
theorem dX7_holds_90 : decode cX7_holds 90 = .ok (.ifCond .eq 7, 3) := by decide +kernel
theorem dX7_holds_93 : decode cX7_holds 93 = .ok (.iconst 1, 1) := by decide +kernel
theorem dX7_holds_94 : decode cX7_holds 94 = .ok (.goto 4, 3) := by decide +kernel
theorem dX7_holds_97 : decode cX7_holds 97 = .ok (.iconst 0, 1) := by decide +kernel
theorem dX7_holds_98 : decode cX7_holds 98 = .ok (.istore_n 2, 1) := by decide +kernel
theorem dX7_holds_99 : decode cX7_holds 99 = .ok (.iinc 3 1, 3) := by decide +kernel
theorem dX7_holds_102 : decode cX7_holds 102 = .ok (.goto (-98), 3) := by decide +kernel
theorem dX7_holds_105 : decode cX7_holds 105 = .ok (.iload_n 2, 1) := by decide +kernel
theorem dX7_holds_106 : decode cX7_holds 106 = .ok (.ifCond .eq 11, 3) := by decide +kernel
theorem dX7_holds_109 : decode cX7_holds 109 = .ok (.aload_n 0, 1) := by decide +kernel
theorem dX7_holds_110 : decode cX7_holds 110 = .ok (.iload_n 1, 1) := by decide +kernel
theorem dX7_holds_111 : decode cX7_holds 111 = .ok (.invokevirtual 214, 3) := by decide +kernel
theorem dX7_holds_114 : decode cX7_holds 114 = .ok (.goto 4, 3) := by decide +kernel
theorem dX7_holds_117 : decode cX7_holds 117 = .ok (.iconst 0, 1) := by decide +kernel
theorem dX7_holds_118 : decode cX7_holds 118 = .ok (.istore_n 3, 1) := by decide +kernel
theorem dX7_holds_119 : decode cX7_holds 119 = .ok (.iconst 1, 1) := by decide +kernel
theorem dX7_holds_120 : decode cX7_holds 120 = .ok (.istore 4, 2) := by decide +kernel
theorem dX7_holds_122 : decode cX7_holds 122 = .ok (.iload 4, 2) := by decide +kernel
theorem dX7_holds_124 : decode cX7_holds 124 = .ok (.aload_n 0, 1) := by decide +kernel
theorem dX7_holds_125 : decode cX7_holds 125 = .ok (.getfield 17, 3) := by decide +kernel
theorem dX7_holds_128 : decode cX7_holds 128 = .ok (.iload_n 1, 1) := by decide +kernel
theorem dX7_holds_129 : decode cX7_holds 129 = .ok (.iaload, 1) := by decide +kernel
theorem dX7_holds_130 : decode cX7_holds 130 = .ok (.if_icmp .gt 22, 3) := by decide +kernel
theorem dX7_holds_133 : decode cX7_holds 133 = .ok (.iload_n 2, 1) := by decide +kernel
theorem dX7_holds_134 : decode cX7_holds 134 = .ok (.ifCond .eq 18, 3) := by decide +kernel
theorem dX7_holds_137 : decode cX7_holds 137 = .ok (.aload_n 0, 1) := by decide +kernel
theorem dX7_holds_138 : decode cX7_holds 138 = .ok (.iload_n 1, 1) := by decide +kernel
theorem dX7_holds_139 : decode cX7_holds 139 = .ok (.iload 4, 2) := by decide +kernel
theorem dX7_holds_141 : decode cX7_holds 141 = .ok (.iload_n 3, 1) := by decide +kernel
theorem dX7_holds_142 : decode cX7_holds 142 = .ok (.invokevirtual 218, 3) := by decide +kernel
theorem dX7_holds_145 : decode cX7_holds 145 = .ok (.istore_n 2, 1) := by decide +kernel
theorem dX7_holds_146 : decode cX7_holds 146 = .ok (.iinc 4 1, 3) := by decide +kernel
theorem dX7_holds_149 : decode cX7_holds 149 = .ok (.goto (-27), 3) := by decide +kernel
theorem dX7_holds_152 : decode cX7_holds 152 = .ok (.iload_n 2, 1) := by decide +kernel
theorem dX7_holds_153 : decode cX7_holds 153 = .ok (.ireturn, 1) := by decide +kernel
theorem dX7_levels_0 : decode cX7_levels 0 = .ok (.iconst 0, 1) := by decide +kernel
theorem dX7_levels_1 : decode cX7_levels 1 = .ok (.istore_n 2, 1) := by decide +kernel
theorem dX7_levels_2 : decode cX7_levels 2 = .ok (.iconst 0, 1) := by decide +kernel
theorem dX7_levels_3 : decode cX7_levels 3 = .ok (.istore_n 3, 1) := by decide +kernel
theorem dX7_levels_4 : decode cX7_levels 4 = .ok (.iload_n 3, 1) := by decide +kernel
theorem dX7_levels_5 : decode cX7_levels 5 = .ok (.aload_n 0, 1) := by decide +kernel
theorem dX7_levels_6 : decode cX7_levels 6 = .ok (.getfield 20, 3) := by decide +kernel
theorem dX7_levels_9 : decode cX7_levels 9 = .ok (.iload_n 1, 1) := by decide +kernel
theorem dX7_levels_10 : decode cX7_levels 10 = .ok (.iaload, 1) := by decide +kernel
theorem dX7_levels_11 : decode cX7_levels 11 = .ok (.if_icmp .ge 160, 3) := by decide +kernel
theorem dX7_levels_14 : decode cX7_levels 14 = .ok (.aload_n 0, 1) := by decide +kernel
theorem dX7_levels_15 : decode cX7_levels 15 = .ok (.getfield 23, 3) := by decide +kernel
theorem dX7_levels_18 : decode cX7_levels 18 = .ok (.sipush 300, 3) := by decide +kernel
theorem dX7_levels_21 : decode cX7_levels 21 = .ok (.iload_n 1, 1) := by decide +kernel
theorem dX7_levels_22 : decode cX7_levels 22 = .ok (.imul, 1) := by decide +kernel
theorem dX7_levels_23 : decode cX7_levels 23 = .ok (.iload_n 3, 1) := by decide +kernel
theorem dX7_levels_24 : decode cX7_levels 24 = .ok (.iadd, 1) := by decide +kernel
theorem dX7_levels_25 : decode cX7_levels 25 = .ok (.iaload, 1) := by decide +kernel
theorem dX7_levels_26 : decode cX7_levels 26 = .ok (.istore 4, 2) := by decide +kernel
theorem dX7_levels_28 : decode cX7_levels 28 = .ok (.iload 4, 2) := by decide +kernel
theorem dX7_levels_30 : decode cX7_levels 30 = .ok (.ifCond .ge 9, 3) := by decide +kernel
theorem dX7_levels_33 : decode cX7_levels 33 = .ok (.iload 4, 2) := by decide +kernel
theorem dX7_levels_35 : decode cX7_levels 35 = .ok (.ineg, 1) := by decide +kernel
theorem dX7_levels_36 : decode cX7_levels 36 = .ok (.goto 5, 3) := by decide +kernel
theorem dX7_levels_39 : decode cX7_levels 39 = .ok (.iload 4, 2) := by decide +kernel
theorem dX7_levels_41 : decode cX7_levels 41 = .ok (.istore 4, 2) := by decide +kernel
theorem dX7_levels_43 : decode cX7_levels 43 = .ok (.aload_n 0, 1) := by decide +kernel
theorem dX7_levels_44 : decode cX7_levels 44 = .ok (.getfield 50, 3) := by decide +kernel
theorem dX7_levels_47 : decode cX7_levels 47 = .ok (.iload_n 3, 1) := by decide +kernel
theorem dX7_levels_48 : decode cX7_levels 48 = .ok (.iconst 1, 1) := by decide +kernel
theorem dX7_levels_49 : decode cX7_levels 49 = .ok (.iastore, 1) := by decide +kernel
theorem dX7_levels_50 : decode cX7_levels 50 = .ok (.iconst 0, 1) := by decide +kernel
theorem dX7_levels_51 : decode cX7_levels 51 = .ok (.istore 5, 2) := by decide +kernel
theorem dX7_levels_53 : decode cX7_levels 53 = .ok (.iload 5, 2) := by decide +kernel
theorem dX7_levels_55 : decode cX7_levels 55 = .ok (.iload_n 3, 1) := by decide +kernel
theorem dX7_levels_56 : decode cX7_levels 56 = .ok (.if_icmp .ge 88, 3) := by decide +kernel
theorem dX7_levels_59 : decode cX7_levels 59 = .ok (.aload_n 0, 1) := by decide +kernel
theorem dX7_levels_60 : decode cX7_levels 60 = .ok (.getfield 23, 3) := by decide +kernel
theorem dX7_levels_63 : decode cX7_levels 63 = .ok (.sipush 300, 3) := by decide +kernel
theorem dX7_levels_66 : decode cX7_levels 66 = .ok (.iload_n 1, 1) := by decide +kernel
theorem dX7_levels_67 : decode cX7_levels 67 = .ok (.imul, 1) := by decide +kernel
theorem dX7_levels_68 : decode cX7_levels 68 = .ok (.iload 5, 2) := by decide +kernel
theorem dX7_levels_70 : decode cX7_levels 70 = .ok (.iadd, 1) := by decide +kernel
theorem dX7_levels_71 : decode cX7_levels 71 = .ok (.iaload, 1) := by decide +kernel
theorem dX7_levels_72 : decode cX7_levels 72 = .ok (.istore 6, 2) := by decide +kernel
theorem dX7_levels_74 : decode cX7_levels 74 = .ok (.iload 6, 2) := by decide +kernel
theorem dX7_levels_76 : decode cX7_levels 76 = .ok (.ifCond .ge 9, 3) := by decide +kernel
theorem dX7_levels_79 : decode cX7_levels 79 = .ok (.iload 6, 2) := by decide +kernel
theorem dX7_levels_81 : decode cX7_levels 81 = .ok (.ineg, 1) := by decide +kernel
theorem dX7_levels_82 : decode cX7_levels 82 = .ok (.goto 5, 3) := by decide +kernel
theorem dX7_levels_85 : decode cX7_levels 85 = .ok (.iload 6, 2) := by decide +kernel
theorem dX7_levels_87 : decode cX7_levels 87 = .ok (.istore 6, 2) := by decide +kernel
theorem dX7_levels_89 : decode cX7_levels 89 = .ok (.iload 6, 2) := by decide +kernel
theorem dX7_levels_91 : decode cX7_levels 91 = .ok (.iload 4, 2) := by decide +kernel
theorem dX7_levels_93 : decode cX7_levels 93 = .ok (.isub, 1) := by decide +kernel
theorem dX7_levels_94 : decode cX7_levels 94 = .ok (.iconst 2, 1) := by decide +kernel
theorem dX7_levels_95 : decode cX7_levels 95 = .ok (.if_icmp .ge 43, 3) := by decide +kernel
theorem dX7_levels_98 : decode cX7_levels 98 = .ok (.iload 4, 2) := by decide +kernel
theorem dX7_levels_100 : decode cX7_levels 100 = .ok (.iload 6, 2) := by decide +kernel
theorem dX7_levels_102 : decode cX7_levels 102 = .ok (.isub, 1) := by decide +kernel
theorem dX7_levels_103 : decode cX7_levels 103 = .ok (.iconst 2, 1) := by decide +kernel
theorem dX7_levels_104 : decode cX7_levels 104 = .ok (.if_icmp .ge 34, 3) := by decide +kernel
theorem dX7_levels_107 : decode cX7_levels 107 = .ok (.aload_n 0, 1) := by decide +kernel
theorem dX7_levels_108 : decode cX7_levels 108 = .ok (.getfield 50, 3) := by decide +kernel
theorem dX7_levels_111 : decode cX7_levels 111 = .ok (.iload 5, 2) := by decide +kernel
theorem dX7_levels_113 : decode cX7_levels 113 = .ok (.iaload, 1) := by decide +kernel
theorem dX7_levels_114 : decode cX7_levels 114 = .ok (.aload_n 0, 1) := by decide +kernel
theorem dX7_levels_115 : decode cX7_levels 115 = .ok (.getfield 50, 3) := by decide +kernel
theorem dX7_levels_118 : decode cX7_levels 118 = .ok (.iload_n 3, 1) := by decide +kernel
theorem dX7_levels_119 : decode cX7_levels 119 = .ok (.iaload, 1) := by decide +kernel
theorem dX7_levels_120 : decode cX7_levels 120 = .ok (.if_icmp .lt 18, 3) := by decide +kernel
theorem dX7_levels_123 : decode cX7_levels 123 = .ok (.aload_n 0, 1) := by decide +kernel
theorem dX7_levels_124 : decode cX7_levels 124 = .ok (.getfield 50, 3) := by decide +kernel
theorem dX7_levels_127 : decode cX7_levels 127 = .ok (.iload_n 3, 1) := by decide +kernel
theorem dX7_levels_128 : decode cX7_levels 128 = .ok (.aload_n 0, 1) := by decide +kernel
theorem dX7_levels_129 : decode cX7_levels 129 = .ok (.getfield 50, 3) := by decide +kernel
theorem dX7_levels_132 : decode cX7_levels 132 = .ok (.iload 5, 2) := by decide +kernel
theorem dX7_levels_134 : decode cX7_levels 134 = .ok (.iaload, 1) := by decide +kernel
theorem dX7_levels_135 : decode cX7_levels 135 = .ok (.iconst 1, 1) := by decide +kernel
theorem dX7_levels_136 : decode cX7_levels 136 = .ok (.iadd, 1) := by decide +kernel
theorem dX7_levels_137 : decode cX7_levels 137 = .ok (.iastore, 1) := by decide +kernel
theorem dX7_levels_138 : decode cX7_levels 138 = .ok (.iinc 5 1, 3) := by decide +kernel
theorem dX7_levels_141 : decode cX7_levels 141 = .ok (.goto (-88), 3) := by decide +kernel
theorem dX7_levels_144 : decode cX7_levels 144 = .ok (.aload_n 0, 1) := by decide +kernel
theorem dX7_levels_145 : decode cX7_levels 145 = .ok (.getfield 50, 3) := by decide +kernel
theorem dX7_levels_148 : decode cX7_levels 148 = .ok (.iload_n 3, 1) := by decide +kernel
theorem dX7_levels_149 : decode cX7_levels 149 = .ok (.iaload, 1) := by decide +kernel
theorem dX7_levels_150 : decode cX7_levels 150 = .ok (.iload_n 2, 1) := by decide +kernel
theorem dX7_levels_151 : decode cX7_levels 151 = .ok (.if_icmp .le 12, 3) := by decide +kernel
theorem dX7_levels_154 : decode cX7_levels 154 = .ok (.aload_n 0, 1) := by decide +kernel
theorem dX7_levels_155 : decode cX7_levels 155 = .ok (.getfield 50, 3) := by decide +kernel
theorem dX7_levels_158 : decode cX7_levels 158 = .ok (.iload_n 3, 1) := by decide +kernel
theorem dX7_levels_159 : decode cX7_levels 159 = .ok (.iaload, 1) := by decide +kernel
theorem dX7_levels_160 : decode cX7_levels 160 = .ok (.goto 4, 3) := by decide +kernel
theorem dX7_levels_163 : decode cX7_levels 163 = .ok (.iload_n 2, 1) := by decide +kernel
theorem dX7_levels_164 : decode cX7_levels 164 = .ok (.istore_n 2, 1) := by decide +kernel
theorem dX7_levels_165 : decode cX7_levels 165 = .ok (.iinc 3 1, 3) := by decide +kernel
theorem dX7_levels_168 : decode cX7_levels 168 = .ok (.goto (-164), 3) := by decide +kernel
theorem dX7_levels_171 : decode cX7_levels 171 = .ok (.iload_n 2, 1) := by decide +kernel
theorem dX7_levels_172 : decode cX7_levels 172 = .ok (.ireturn, 1) := by decide +kernel
theorem dX7_useOf_0 : decode cX7_useOf 0 = .ok (.iload_n 2, 1) := by decide +kernel
theorem dX7_useOf_1 : decode cX7_useOf 1 = .ok (.istore_n 3, 1) := by decide +kernel
theorem dX7_useOf_2 : decode cX7_useOf 2 = .ok (.iconst 0, 1) := by decide +kernel
theorem dX7_useOf_3 : decode cX7_useOf 3 = .ok (.istore 4, 2) := by decide +kernel
theorem dX7_useOf_5 : decode cX7_useOf 5 = .ok (.iconst 0, 1) := by decide +kernel
theorem dX7_useOf_6 : decode cX7_useOf 6 = .ok (.istore 5, 2) := by decide +kernel
theorem dX7_useOf_8 : decode cX7_useOf 8 = .ok (.iload 5, 2) := by decide +kernel
theorem dX7_useOf_10 : decode cX7_useOf 10 = .ok (.aload_n 0, 1) := by decide +kernel
theorem dX7_useOf_11 : decode cX7_useOf 11 = .ok (.getfield 20, 3) := by decide +kernel
theorem dX7_useOf_14 : decode cX7_useOf 14 = .ok (.iload_n 1, 1) := by decide +kernel
theorem dX7_useOf_15 : decode cX7_useOf 15 = .ok (.iaload, 1) := by decide +kernel
theorem dX7_useOf_16 : decode cX7_useOf 16 = .ok (.if_icmp .ge 99, 3) := by decide +kernel
theorem dX7_useOf_19 : decode cX7_useOf 19 = .ok (.aload_n 0, 1) := by decide +kernel
theorem dX7_useOf_20 : decode cX7_useOf 20 = .ok (.getfield 23, 3) := by decide +kernel
theorem dX7_useOf_23 : decode cX7_useOf 23 = .ok (.sipush 300, 3) := by decide +kernel
theorem dX7_useOf_26 : decode cX7_useOf 26 = .ok (.iload_n 1, 1) := by decide +kernel
theorem dX7_useOf_27 : decode cX7_useOf 27 = .ok (.imul, 1) := by decide +kernel
theorem dX7_useOf_28 : decode cX7_useOf 28 = .ok (.iload 5, 2) := by decide +kernel
theorem dX7_useOf_30 : decode cX7_useOf 30 = .ok (.iadd, 1) := by decide +kernel
theorem dX7_useOf_31 : decode cX7_useOf 31 = .ok (.iaload, 1) := by decide +kernel
theorem dX7_useOf_32 : decode cX7_useOf 32 = .ok (.istore 6, 2) := by decide +kernel
theorem dX7_useOf_34 : decode cX7_useOf 34 = .ok (.iload 6, 2) := by decide +kernel
theorem dX7_useOf_36 : decode cX7_useOf 36 = .ok (.ifCond .le 8, 3) := by decide +kernel
theorem dX7_useOf_39 : decode cX7_useOf 39 = .ok (.iload 6, 2) := by decide +kernel
theorem dX7_useOf_41 : decode cX7_useOf 41 = .ok (.goto 6, 3) := by decide +kernel
theorem dX7_useOf_44 : decode cX7_useOf 44 = .ok (.iload 6, 2) := by decide +kernel
theorem dX7_useOf_46 : decode cX7_useOf 46 = .ok (.ineg, 1) := by decide +kernel
theorem dX7_useOf_47 : decode cX7_useOf 47 = .ok (.istore 7, 2) := by decide +kernel
theorem dX7_useOf_49 : decode cX7_useOf 49 = .ok (.iload_n 3, 1) := by decide +kernel
theorem dX7_useOf_50 : decode cX7_useOf 50 = .ok (.iload 7, 2) := by decide +kernel
theorem dX7_useOf_52 : decode cX7_useOf 52 = .ok (.if_icmp .eq 14, 3) := by decide +kernel
theorem dX7_useOf_55 : decode cX7_useOf 55 = .ok (.iload_n 3, 1) := by decide +kernel
theorem dX7_useOf_56 : decode cX7_useOf 56 = .ok (.iload 7, 2) := by decide +kernel
theorem dX7_useOf_58 : decode cX7_useOf 58 = .ok (.iconst 1, 1) := by decide +kernel
theorem dX7_useOf_59 : decode cX7_useOf 59 = .ok (.iadd, 1) := by decide +kernel
theorem dX7_useOf_60 : decode cX7_useOf 60 = .ok (.if_icmp .eq 6, 3) := by decide +kernel
theorem dX7_useOf_63 : decode cX7_useOf 63 = .ok (.goto 46, 3) := by decide +kernel
theorem dX7_useOf_66 : decode cX7_useOf 66 = .ok (.iload_n 3, 1) := by decide +kernel
theorem dX7_useOf_67 : decode cX7_useOf 67 = .ok (.iload 7, 2) := by decide +kernel
theorem dX7_useOf_69 : decode cX7_useOf 69 = .ok (.if_icmp .ne 7, 3) := by decide +kernel
theorem dX7_useOf_72 : decode cX7_useOf 72 = .ok (.iconst 1, 1) := by decide +kernel
theorem dX7_useOf_73 : decode cX7_useOf 73 = .ok (.goto 4, 3) := by decide +kernel
theorem dX7_useOf_76 : decode cX7_useOf 76 = .ok (.iconst 0, 1) := by decide +kernel
theorem dX7_useOf_77 : decode cX7_useOf 77 = .ok (.iload 6, 2) := by decide +kernel
theorem dX7_useOf_79 : decode cX7_useOf 79 = .ok (.ifCond .le 7, 3) := by decide +kernel
theorem dX7_useOf_82 : decode cX7_useOf 82 = .ok (.iconst 1, 1) := by decide +kernel
theorem dX7_useOf_83 : decode cX7_useOf 83 = .ok (.goto 4, 3) := by decide +kernel
theorem dX7_useOf_86 : decode cX7_useOf 86 = .ok (.iconst 0, 1) := by decide +kernel
theorem dX7_useOf_87 : decode cX7_useOf 87 = .ok (.if_icmp .ne 6, 3) := by decide +kernel
theorem dX7_useOf_90 : decode cX7_useOf 90 = .ok (.iinc 4 1, 3) := by decide +kernel
theorem dX7_useOf_93 : decode cX7_useOf 93 = .ok (.iload_n 3, 1) := by decide +kernel
theorem dX7_useOf_94 : decode cX7_useOf 94 = .ok (.iload 7, 2) := by decide +kernel
theorem dX7_useOf_96 : decode cX7_useOf 96 = .ok (.if_icmp .ne 10, 3) := by decide +kernel
theorem dX7_useOf_99 : decode cX7_useOf 99 = .ok (.iload 7, 2) := by decide +kernel
theorem dX7_useOf_101 : decode cX7_useOf 101 = .ok (.iconst 1, 1) := by decide +kernel
theorem dX7_useOf_102 : decode cX7_useOf 102 = .ok (.iadd, 1) := by decide +kernel
theorem dX7_useOf_103 : decode cX7_useOf 103 = .ok (.goto 5, 3) := by decide +kernel
theorem dX7_useOf_106 : decode cX7_useOf 106 = .ok (.iload 7, 2) := by decide +kernel
theorem dX7_useOf_108 : decode cX7_useOf 108 = .ok (.istore_n 3, 1) := by decide +kernel
theorem dX7_useOf_109 : decode cX7_useOf 109 = .ok (.iinc 5 1, 3) := by decide +kernel
theorem dX7_useOf_112 : decode cX7_useOf 112 = .ok (.goto (-104), 3) := by decide +kernel
theorem dX7_useOf_115 : decode cX7_useOf 115 = .ok (.iconst 2, 1) := by decide +kernel
theorem dX7_useOf_116 : decode cX7_useOf 116 = .ok (.aload_n 0, 1) := by decide +kernel
theorem dX7_useOf_117 : decode cX7_useOf 117 = .ok (.iload_n 1, 1) := by decide +kernel
theorem dX7_useOf_118 : decode cX7_useOf 118 = .ok (.invokevirtual 222, 3) := by decide +kernel
theorem dX7_useOf_121 : decode cX7_useOf 121 = .ok (.imul, 1) := by decide +kernel
theorem dX7_useOf_122 : decode cX7_useOf 122 = .ok (.iload 4, 2) := by decide +kernel
theorem dX7_useOf_124 : decode cX7_useOf 124 = .ok (.iadd, 1) := by decide +kernel
theorem dX7_useOf_125 : decode cX7_useOf 125 = .ok (.ireturn, 1) := by decide +kernel
theorem dX7_about_0 : decode cX7_about 0 = .ok (.aload_n 0, 1) := by decide +kernel
theorem dX7_about_1 : decode cX7_about 1 = .ok (.iload_n 1, 1) := by decide +kernel
