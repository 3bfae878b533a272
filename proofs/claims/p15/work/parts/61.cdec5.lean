theorem dX6_scored_65 : decode cX6_scored 65 = .ok (.getfield 202, 3) := by decide +kernel
theorem dX6_scored_68 : decode cX6_scored 68 = .ok (.ireturn, 1) := by decide +kernel
theorem dX6_scored_69 : decode cX6_scored 69 = .ok (.aload_n 3, 1) := by decide +kernel
theorem dX6_scored_70 : decode cX6_scored 70 = .ok (.getfield 203, 3) := by decide +kernel
theorem dX6_scored_73 : decode cX6_scored 73 = .ok (.ireturn, 1) := by decide +kernel
theorem dX6_scored_74 : decode cX6_scored 74 = .ok (.aload_n 3, 1) := by decide +kernel
theorem dX6_scored_75 : decode cX6_scored 75 = .ok (.getfield 206, 3) := by decide +kernel
theorem dX6_scored_78 : decode cX6_scored 78 = .ok (.ireturn, 1) := by decide +kernel
theorem dX6_scored_79 : decode cX6_scored 79 = .ok (.aload_n 3, 1) := by decide +kernel
theorem dX6_scored_80 : decode cX6_scored 80 = .ok (.getfield 209, 3) := by decide +kernel
theorem dX6_scored_83 : decode cX6_scored 83 = .ok (.ireturn, 1) := by decide +kernel
theorem dX6_scored_84 : decode cX6_scored 84 = .ok (.aload_n 3, 1) := by decide +kernel
theorem dX6_scored_85 : decode cX6_scored 85 = .ok (.getfield 212, 3) := by decide +kernel
theorem dX6_scored_88 : decode cX6_scored 88 = .ok (.ireturn, 1) := by decide +kernel
theorem dX6_scored_89 : decode cX6_scored 89 = .ok (.new 102, 3) := by decide +kernel
theorem dX6_scored_92 : decode cX6_scored 92 = .ok (.dup, 1) := by decide +kernel
theorem dX6_scored_93 : decode cX6_scored 93 = .ok (.ldc 104, 2) := by decide +kernel
theorem dX6_scored_95 : decode cX6_scored 95 = .ok (.invokespecial 106, 3) := by decide +kernel
theorem dX6_scored_98 : decode cX6_scored 98 = .ok (.athrow, 1) := by decide +kernel
theorem dX6_hat_0 : decode cX6_hat 0 = .ok (.aload_n 0, 1) := by decide +kernel
theorem dX6_hat_1 : decode cX6_hat 1 = .ok (.getfield 65, 3) := by decide +kernel
theorem dX6_hat_4 : decode cX6_hat 4 = .ok (.bipush 60, 2) := by decide +kernel
theorem dX6_hat_6 : decode cX6_hat 6 = .ok (.if_icmp .ge 28, 3) := by decide +kernel
theorem dX6_hat_9 : decode cX6_hat 9 = .ok (.iload_n 1, 1) := by decide +kernel
theorem dX6_hat_10 : decode cX6_hat 10 = .ok (.invokestatic 177, 3) := by decide +kernel
theorem dX6_hat_13 : decode cX6_hat 13 = .ok (.ifCond .eq 21, 3) := by decide +kernel
theorem dX6_hat_16 : decode cX6_hat 16 = .ok (.iload_n 2, 1) := by decide +kernel
theorem dX6_hat_17 : decode cX6_hat 17 = .ok (.iconst 1, 1) := by decide +kernel
theorem dX6_hat_18 : decode cX6_hat 18 = .ok (.if_icmp .lt 16, 3) := by decide +kernel
theorem dX6_hat_21 : decode cX6_hat 21 = .ok (.iload_n 2, 1) := by decide +kernel
theorem dX6_hat_22 : decode cX6_hat 22 = .ok (.sipush 400, 3) := by decide +kernel
theorem dX6_hat_25 : decode cX6_hat 25 = .ok (.if_icmp .gt 9, 3) := by decide +kernel
theorem dX6_hat_28 : decode cX6_hat 28 = .ok (.iload_n 2, 1) := by decide +kernel
theorem dX6_hat_29 : decode cX6_hat 29 = .ok (.iload_n 1, 1) := by decide +kernel
theorem dX6_hat_30 : decode cX6_hat 30 = .ok (.irem, 1) := by decide +kernel
theorem dX6_hat_31 : decode cX6_hat 31 = .ok (.ifCond .eq 5, 3) := by decide +kernel
theorem dX6_hat_34 : decode cX6_hat 34 = .ok (.iconst (-1), 1) := by decide +kernel
theorem dX6_hat_35 : decode cX6_hat 35 = .ok (.ireturn, 1) := by decide +kernel
theorem dX6_hat_36 : decode cX6_hat 36 = .ok (.iload_n 2, 1) := by decide +kernel
theorem dX6_hat_37 : decode cX6_hat 37 = .ok (.iload_n 1, 1) := by decide +kernel
theorem dX6_hat_38 : decode cX6_hat 38 = .ok (.idiv, 1) := by decide +kernel
theorem dX6_hat_39 : decode cX6_hat 39 = .ok (.istore_n 3, 1) := by decide +kernel
theorem dX6_hat_40 : decode cX6_hat 40 = .ok (.iload_n 1, 1) := by decide +kernel
theorem dX6_hat_41 : decode cX6_hat 41 = .ok (.iload_n 3, 1) := by decide +kernel
theorem dX6_hat_42 : decode cX6_hat 42 = .ok (.invokestatic 215, 3) := by decide +kernel
theorem dX6_hat_45 : decode cX6_hat 45 = .ok (.istore 4, 2) := by decide +kernel
theorem dX6_hat_47 : decode cX6_hat 47 = .ok (.iload 4, 2) := by decide +kernel
theorem dX6_hat_49 : decode cX6_hat 49 = .ok (.aload_n 0, 1) := by decide +kernel
theorem dX6_hat_50 : decode cX6_hat 50 = .ok (.iload_n 1, 1) := by decide +kernel
theorem dX6_hat_51 : decode cX6_hat 51 = .ok (.invokevirtual 218, 3) := by decide +kernel
theorem dX6_hat_54 : decode cX6_hat 54 = .ok (.if_icmp .le 5, 3) := by decide +kernel
theorem dX6_hat_57 : decode cX6_hat 57 = .ok (.iconst (-1), 1) := by decide +kernel
theorem dX6_hat_58 : decode cX6_hat 58 = .ok (.ireturn, 1) := by decide +kernel
theorem dX6_hat_59 : decode cX6_hat 59 = .ok (.new 59, 3) := by decide +kernel
theorem dX6_hat_62 : decode cX6_hat 62 = .ok (.dup, 1) := by decide +kernel
theorem dX6_hat_63 : decode cX6_hat 63 = .ok (.iload 4, 2) := by decide +kernel
theorem dX6_hat_65 : decode cX6_hat 65 = .ok (.iload_n 3, 1) := by decide +kernel
theorem dX6_hat_66 : decode cX6_hat 66 = .ok (.invokespecial 221, 3) := by decide +kernel
theorem dX6_hat_69 : decode cX6_hat 69 = .ok (.astore 5, 2) := by decide +kernel
theorem dX6_hat_71 : decode cX6_hat 71 = .ok (.aload_n 0, 1) := by decide +kernel
theorem dX6_hat_72 : decode cX6_hat 72 = .ok (.aload 5, 2) := by decide +kernel
theorem dX6_hat_74 : decode cX6_hat 74 = .ok (.iload_n 1, 1) := by decide +kernel
theorem dX6_hat_75 : decode cX6_hat 75 = .ok (.invokevirtual 223, 3) := by decide +kernel
theorem dX6_hat_78 : decode cX6_hat 78 = .ok (.aload_n 0, 1) := by decide +kernel
theorem dX6_hat_79 : decode cX6_hat 79 = .ok (.getfield 61, 3) := by decide +kernel
theorem dX6_hat_82 : decode cX6_hat 82 = .ok (.aload_n 0, 1) := by decide +kernel
theorem dX6_hat_83 : decode cX6_hat 83 = .ok (.getfield 65, 3) := by decide +kernel
theorem dX6_hat_86 : decode cX6_hat 86 = .ok (.aload 5, 2) := by decide +kernel
theorem dX6_hat_88 : decode cX6_hat 88 = .ok (.aastore, 1) := by decide +kernel
theorem dX6_hat_89 : decode cX6_hat 89 = .ok (.aload_n 0, 1) := by decide +kernel
theorem dX6_hat_90 : decode cX6_hat 90 = .ok (.dup, 1) := by decide +kernel
theorem dX6_hat_91 : decode cX6_hat 91 = .ok (.getfield 65, 3) := by decide +kernel
theorem dX6_hat_94 : decode cX6_hat 94 = .ok (.iconst 1, 1) := by decide +kernel
theorem dX6_hat_95 : decode cX6_hat 95 = .ok (.iadd, 1) := by decide +kernel
theorem dX6_hat_96 : decode cX6_hat 96 = .ok (.putfield 65, 3) := by decide +kernel
theorem dX6_hat_99 : decode cX6_hat 99 = .ok (.aload_n 0, 1) := by decide +kernel
theorem dX6_hat_100 : decode cX6_hat 100 = .ok (.getfield 65, 3) := by decide +kernel
theorem dX6_hat_103 : decode cX6_hat 103 = .ok (.iconst 1, 1) := by decide +kernel
theorem dX6_hat_104 : decode cX6_hat 104 = .ok (.isub, 1) := by decide +kernel
theorem dX6_hat_105 : decode cX6_hat 105 = .ok (.ireturn, 1) := by decide +kernel
theorem dX6_sewn_0 : decode cX6_sewn 0 = .ok (.iload_n 1, 1) := by decide +kernel
theorem dX6_sewn_1 : decode cX6_sewn 1 = .ok (.ifCond .lt 11, 3) := by decide +kernel
theorem dX6_sewn_4 : decode cX6_sewn 4 = .ok (.iload_n 1, 1) := by decide +kernel
theorem dX6_sewn_5 : decode cX6_sewn 5 = .ok (.aload_n 0, 1) := by decide +kernel
theorem dX6_sewn_6 : decode cX6_sewn 6 = .ok (.getfield 65, 3) := by decide +kernel
theorem dX6_sewn_9 : decode cX6_sewn 9 = .ok (.if_icmp .lt 13, 3) := by decide +kernel
theorem dX6_sewn_12 : decode cX6_sewn 12 = .ok (.new 102, 3) := by decide +kernel
theorem dX6_sewn_15 : decode cX6_sewn 15 = .ok (.dup, 1) := by decide +kernel
theorem dX6_sewn_16 : decode cX6_sewn 16 = .ok (.ldc 227, 2) := by decide +kernel
theorem dX6_sewn_18 : decode cX6_sewn 18 = .ok (.invokespecial 106, 3) := by decide +kernel
theorem dX6_sewn_21 : decode cX6_sewn 21 = .ok (.athrow, 1) := by decide +kernel
theorem dX6_sewn_22 : decode cX6_sewn 22 = .ok (.aload_n 0, 1) := by decide +kernel
theorem dX6_sewn_23 : decode cX6_sewn 23 = .ok (.getfield 61, 3) := by decide +kernel
theorem dX6_sewn_26 : decode cX6_sewn 26 = .ok (.iload_n 1, 1) := by decide +kernel
theorem dX6_sewn_27 : decode cX6_sewn 27 = .ok (.aaload, 1) := by decide +kernel
theorem dX6_sewn_28 : decode cX6_sewn 28 = .ok (.astore_n 3, 1) := by decide +kernel
theorem dX6_sewn_29 : decode cX6_sewn 29 = .ok (.iload_n 2, 1) := by decide +kernel
theorem dX6_sewn_30 : decode cX6_sewn 30 = .ok (.tableswitch 50 0 3 #[30, 35, 40, 45], 30) := by decide +kernel
theorem dX6_sewn_60 : decode cX6_sewn 60 = .ok (.aload_n 3, 1) := by decide +kernel
theorem dX6_sewn_61 : decode cX6_sewn 61 = .ok (.getfield 229, 3) := by decide +kernel
theorem dX6_sewn_64 : decode cX6_sewn 64 = .ok (.ireturn, 1) := by decide +kernel
theorem dX6_sewn_65 : decode cX6_sewn 65 = .ok (.aload_n 3, 1) := by decide +kernel
theorem dX6_sewn_66 : decode cX6_sewn 66 = .ok (.getfield 230, 3) := by decide +kernel
theorem dX6_sewn_69 : decode cX6_sewn 69 = .ok (.ireturn, 1) := by decide +kernel
theorem dX6_sewn_70 : decode cX6_sewn 70 = .ok (.aload_n 3, 1) := by decide +kernel
theorem dX6_sewn_71 : decode cX6_sewn 71 = .ok (.getfield 233, 3) := by decide +kernel
theorem dX6_sewn_74 : decode cX6_sewn 74 = .ok (.ireturn, 1) := by decide +kernel
theorem dX6_sewn_75 : decode cX6_sewn 75 = .ok (.aload_n 3, 1) := by decide +kernel
theorem dX6_sewn_76 : decode cX6_sewn 76 = .ok (.getfield 234, 3) := by decide +kernel
theorem dX6_sewn_79 : decode cX6_sewn 79 = .ok (.ireturn, 1) := by decide +kernel
theorem dX6_sewn_80 : decode cX6_sewn 80 = .ok (.new 102, 3) := by decide +kernel
theorem dX6_sewn_83 : decode cX6_sewn 83 = .ok (.dup, 1) := by decide +kernel
theorem dX6_sewn_84 : decode cX6_sewn 84 = .ok (.ldc 104, 2) := by decide +kernel
theorem dX6_sewn_86 : decode cX6_sewn 86 = .ok (.invokespecial 106, 3) := by decide +kernel
theorem dX6_sewn_89 : decode cX6_sewn 89 = .ok (.athrow, 1) := by decide +kernel
theorem dX6_count_0 : decode cX6_count 0 = .ok (.iload_n 1, 1) := by decide +kernel
theorem dX6_count_1 : decode cX6_count 1 = .ok (.tableswitch 60 0 4 #[35, 40, 45, 50, 55], 35) := by decide +kernel
theorem dX6_count_36 : decode cX6_count 36 = .ok (.aload_n 0, 1) := by decide +kernel
theorem dX6_count_37 : decode cX6_count 37 = .ok (.getfield 47, 3) := by decide +kernel
theorem dX6_count_40 : decode cX6_count 40 = .ok (.ireturn, 1) := by decide +kernel
theorem dX6_count_41 : decode cX6_count 41 = .ok (.aload_n 0, 1) := by decide +kernel
theorem dX6_count_42 : decode cX6_count 42 = .ok (.getfield 56, 3) := by decide +kernel
theorem dX6_count_45 : decode cX6_count 45 = .ok (.ireturn, 1) := by decide +kernel
theorem dX6_count_46 : decode cX6_count 46 = .ok (.aload_n 0, 1) := by decide +kernel
theorem dX6_count_47 : decode cX6_count 47 = .ok (.getfield 65, 3) := by decide +kernel
theorem dX6_count_50 : decode cX6_count 50 = .ok (.ireturn, 1) := by decide +kernel
theorem dX6_count_51 : decode cX6_count 51 = .ok (.aload_n 0, 1) := by decide +kernel
theorem dX6_count_52 : decode cX6_count 52 = .ok (.getfield 13, 3) := by decide +kernel
theorem dX6_count_55 : decode cX6_count 55 = .ok (.ireturn, 1) := by decide +kernel
theorem dX6_count_56 : decode cX6_count 56 = .ok (.aload_n 0, 1) := by decide +kernel
theorem dX6_count_57 : decode cX6_count 57 = .ok (.invokevirtual 237, 3) := by decide +kernel
theorem dX6_count_60 : decode cX6_count 60 = .ok (.ireturn, 1) := by decide +kernel
theorem dX6_count_61 : decode cX6_count 61 = .ok (.new 102, 3) := by decide +kernel
theorem dX6_count_64 : decode cX6_count 64 = .ok (.dup, 1) := by decide +kernel
theorem dX6_count_65 : decode cX6_count 65 = .ok (.ldc 104, 2) := by decide +kernel
theorem dX6_count_67 : decode cX6_count 67 = .ok (.invokespecial 106, 3) := by decide +kernel
theorem dX6_count_70 : decode cX6_count 70 = .ok (.athrow, 1) := by decide +kernel
theorem dX6_tapeBytes_0 : decode cX6_tapeBytes 0 = .ok (.bipush 24, 2) := by decide +kernel
theorem dX6_tapeBytes_2 : decode cX6_tapeBytes 2 = .ok (.istore_n 2, 1) := by decide +kernel
theorem dX6_tapeBytes_3 : decode cX6_tapeBytes 3 = .ok (.iload_n 2, 1) := by decide +kernel
theorem dX6_tapeBytes_4 : decode cX6_tapeBytes 4 = .ok (.ifCond .lt 42, 3) := by decide +kernel
theorem dX6_tapeBytes_7 : decode cX6_tapeBytes 7 = .ok (.aload_n 0, 1) := by decide +kernel
theorem dX6_tapeBytes_8 : decode cX6_tapeBytes 8 = .ok (.getfield 13, 3) := by decide +kernel
theorem dX6_tapeBytes_11 : decode cX6_tapeBytes 11 = .ok (.sipush 800, 3) := by decide +kernel
theorem dX6_tapeBytes_14 : decode cX6_tapeBytes 14 = .ok (.if_icmp .ge 32, 3) := by decide +kernel
theorem dX6_tapeBytes_17 : decode cX6_tapeBytes 17 = .ok (.aload_n 0, 1) := by decide +kernel
theorem dX6_tapeBytes_18 : decode cX6_tapeBytes 18 = .ok (.getfield 9, 3) := by decide +kernel
theorem dX6_tapeBytes_21 : decode cX6_tapeBytes 21 = .ok (.aload_n 0, 1) := by decide +kernel
theorem dX6_tapeBytes_22 : decode cX6_tapeBytes 22 = .ok (.getfield 13, 3) := by decide +kernel
theorem dX6_tapeBytes_25 : decode cX6_tapeBytes 25 = .ok (.iload_n 1, 1) := by decide +kernel
theorem dX6_tapeBytes_26 : decode cX6_tapeBytes 26 = .ok (.iload_n 2, 1) := by decide +kernel
theorem dX6_tapeBytes_27 : decode cX6_tapeBytes 27 = .ok (.ishr, 1) := by decide +kernel
theorem dX6_tapeBytes_28 : decode cX6_tapeBytes 28 = .ok (.i2b, 1) := by decide +kernel
theorem dX6_tapeBytes_29 : decode cX6_tapeBytes 29 = .ok (.bastore, 1) := by decide +kernel
theorem dX6_tapeBytes_30 : decode cX6_tapeBytes 30 = .ok (.aload_n 0, 1) := by decide +kernel
theorem dX6_tapeBytes_31 : decode cX6_tapeBytes 31 = .ok (.dup, 1) := by decide +kernel
theorem dX6_tapeBytes_32 : decode cX6_tapeBytes 32 = .ok (.getfield 13, 3) := by decide +kernel
theorem dX6_tapeBytes_35 : decode cX6_tapeBytes 35 = .ok (.iconst 1, 1) := by decide +kernel
theorem dX6_tapeBytes_36 : decode cX6_tapeBytes 36 = .ok (.iadd, 1) := by decide +kernel
theorem dX6_tapeBytes_37 : decode cX6_tapeBytes 37 = .ok (.putfield 13, 3) := by decide +kernel
theorem dX6_tapeBytes_40 : decode cX6_tapeBytes 40 = .ok (.iinc 2 (-8), 3) := by decide +kernel
theorem dX6_tapeBytes_43 : decode cX6_tapeBytes 43 = .ok (.goto (-40), 3) := by decide +kernel
theorem dX6_tapeBytes_46 : decode cX6_tapeBytes 46 = .ok (.return_, 1) := by decide +kernel
theorem dX6_patternOrNull_0 : decode cX6_patternOrNull 0 = .ok (.iload_n 1, 1) := by decide +kernel
theorem dX6_patternOrNull_1 : decode cX6_patternOrNull 1 = .ok (.ifCond .lt 9, 3) := by decide +kernel
theorem dX6_patternOrNull_4 : decode cX6_patternOrNull 4 = .ok (.iload_n 1, 1) := by decide +kernel
theorem dX6_patternOrNull_5 : decode cX6_patternOrNull 5 = .ok (.bipush 8, 2) := by decide +kernel
theorem dX6_patternOrNull_7 : decode cX6_patternOrNull 7 = .ok (.if_icmp .lt 7, 3) := by decide +kernel
theorem dX6_patternOrNull_10 : decode cX6_patternOrNull 10 = .ok (.aconst_null, 1) := by decide +kernel
theorem dX6_patternOrNull_11 : decode cX6_patternOrNull 11 = .ok (.goto 9, 3) := by decide +kernel
theorem dX6_patternOrNull_14 : decode cX6_patternOrNull 14 = .ok (.aload_n 0, 1) := by decide +kernel
theorem dX6_patternOrNull_15 : decode cX6_patternOrNull 15 = .ok (.getfield 19, 3) := by decide +kernel
theorem dX6_patternOrNull_18 : decode cX6_patternOrNull 18 = .ok (.iload_n 1, 1) := by decide +kernel
theorem dX6_patternOrNull_19 : decode cX6_patternOrNull 19 = .ok (.aaload, 1) := by decide +kernel
theorem dX6_patternOrNull_20 : decode cX6_patternOrNull 20 = .ok (.areturn, 1) := by decide +kernel
theorem dX6_knownPattern_0 : decode cX6_knownPattern 0 = .ok (.aload_n 0, 1) := by decide +kernel
theorem dX6_knownPattern_1 : decode cX6_knownPattern 1 = .ok (.iload_n 1, 1) := by decide +kernel
theorem dX6_knownPattern_2 : decode cX6_knownPattern 2 = .ok (.invokevirtual 107, 3) := by decide +kernel
theorem dX6_knownPattern_5 : decode cX6_knownPattern 5 = .ok (.astore_n 2, 1) := by decide +kernel
theorem dX6_knownPattern_6 : decode cX6_knownPattern 6 = .ok (.aload_n 2, 1) := by decide +kernel
theorem dX6_knownPattern_7 : decode cX6_knownPattern 7 = .ok (.ifnonnull 13, 3) := by decide +kernel
theorem dX6_knownPattern_10 : decode cX6_knownPattern 10 = .ok (.new 102, 3) := by decide +kernel
theorem dX6_knownPattern_13 : decode cX6_knownPattern 13 = .ok (.dup, 1) := by decide +kernel
theorem dX6_knownPattern_14 : decode cX6_knownPattern 14 = .ok (.ldc 240, 2) := by decide +kernel
theorem dX6_knownPattern_16 : decode cX6_knownPattern 16 = .ok (.invokespecial 106, 3) := by decide +kernel
theorem dX6_knownPattern_19 : decode cX6_knownPattern 19 = .ok (.athrow, 1) := by decide +kernel
theorem dX6_knownPattern_20 : decode cX6_knownPattern 20 = .ok (.aload_n 2, 1) := by decide +kernel
theorem dX6_knownPattern_21 : decode cX6_knownPattern 21 = .ok (.areturn, 1) := by decide +kernel
theorem dX6_isWidth_0 : decode cX6_isWidth 0 = .ok (.iload_n 0, 1) := by decide +kernel
theorem dX6_isWidth_1 : decode cX6_isWidth 1 = .ok (.iconst 1, 1) := by decide +kernel
theorem dX6_isWidth_2 : decode cX6_isWidth 2 = .ok (.if_icmp .lt 13, 3) := by decide +kernel
theorem dX6_isWidth_5 : decode cX6_isWidth 5 = .ok (.iload_n 0, 1) := by decide +kernel
theorem dX6_isWidth_6 : decode cX6_isWidth 6 = .ok (.bipush 9, 2) := by decide +kernel
theorem dX6_isWidth_8 : decode cX6_isWidth 8 = .ok (.if_icmp .gt 7, 3) := by decide +kernel
theorem dX6_isWidth_11 : decode cX6_isWidth 11 = .ok (.iconst 1, 1) := by decide +kernel
theorem dX6_isWidth_12 : decode cX6_isWidth 12 = .ok (.goto 4, 3) := by decide +kernel
theorem dX6_isWidth_15 : decode cX6_isWidth 15 = .ok (.iconst 0, 1) := by decide +kernel
theorem dX6_isWidth_16 : decode cX6_isWidth 16 = .ok (.ireturn, 1) := by decide +kernel
theorem dX6_strawsLeftOfAll_0 : decode cX6_strawsLeftOfAll 0 = .ok (.iconst 0, 1) := by decide +kernel
theorem dX6_strawsLeftOfAll_1 : decode cX6_strawsLeftOfAll 1 = .ok (.istore_n 1, 1) := by decide +kernel
theorem dX6_strawsLeftOfAll_2 : decode cX6_strawsLeftOfAll 2 = .ok (.iconst 0, 1) := by decide +kernel
theorem dX6_strawsLeftOfAll_3 : decode cX6_strawsLeftOfAll 3 = .ok (.istore_n 2, 1) := by decide +kernel
theorem dX6_strawsLeftOfAll_4 : decode cX6_strawsLeftOfAll 4 = .ok (.iload_n 2, 1) := by decide +kernel
theorem dX6_strawsLeftOfAll_5 : decode cX6_strawsLeftOfAll 5 = .ok (.aload_n 0, 1) := by decide +kernel
theorem dX6_strawsLeftOfAll_6 : decode cX6_strawsLeftOfAll 6 = .ok (.getfield 47, 3) := by decide +kernel
theorem dX6_strawsLeftOfAll_9 : decode cX6_strawsLeftOfAll 9 = .ok (.if_icmp .ge 21, 3) := by decide +kernel
theorem dX6_strawsLeftOfAll_12 : decode cX6_strawsLeftOfAll 12 = .ok (.iload_n 1, 1) := by decide +kernel
theorem dX6_strawsLeftOfAll_13 : decode cX6_strawsLeftOfAll 13 = .ok (.aload_n 0, 1) := by decide +kernel
theorem dX6_strawsLeftOfAll_14 : decode cX6_strawsLeftOfAll 14 = .ok (.getfield 43, 3) := by decide +kernel
theorem dX6_strawsLeftOfAll_17 : decode cX6_strawsLeftOfAll 17 = .ok (.iload_n 2, 1) := by decide +kernel
theorem dX6_strawsLeftOfAll_18 : decode cX6_strawsLeftOfAll 18 = .ok (.aaload, 1) := by decide +kernel
theorem dX6_strawsLeftOfAll_19 : decode cX6_strawsLeftOfAll 19 = .ok (.getfield 185, 3) := by decide +kernel
theorem dX6_strawsLeftOfAll_22 : decode cX6_strawsLeftOfAll 22 = .ok (.iadd, 1) := by decide +kernel
theorem dX6_strawsLeftOfAll_23 : decode cX6_strawsLeftOfAll 23 = .ok (.istore_n 1, 1) := by decide +kernel
theorem dX6_strawsLeftOfAll_24 : decode cX6_strawsLeftOfAll 24 = .ok (.iinc 2 1, 3) := by decide +kernel
theorem dX6_strawsLeftOfAll_27 : decode cX6_strawsLeftOfAll 27 = .ok (.goto (-23), 3) := by decide +kernel
theorem dX6_strawsLeftOfAll_30 : decode cX6_strawsLeftOfAll 30 = .ok (.iload_n 1, 1) := by decide +kernel
theorem dX6_strawsLeftOfAll_31 : decode cX6_strawsLeftOfAll 31 = .ok (.ireturn, 1) := by decide +kernel
theorem dX6_strawsLeftOf_0 : decode cX6_strawsLeftOf 0 = .ok (.iconst 0, 1) := by decide +kernel
theorem dX6_strawsLeftOf_1 : decode cX6_strawsLeftOf 1 = .ok (.istore_n 2, 1) := by decide +kernel
theorem dX6_strawsLeftOf_2 : decode cX6_strawsLeftOf 2 = .ok (.iconst 0, 1) := by decide +kernel
theorem dX6_strawsLeftOf_3 : decode cX6_strawsLeftOf 3 = .ok (.istore_n 3, 1) := by decide +kernel
theorem dX6_strawsLeftOf_4 : decode cX6_strawsLeftOf 4 = .ok (.iload_n 3, 1) := by decide +kernel
theorem dX6_strawsLeftOf_5 : decode cX6_strawsLeftOf 5 = .ok (.aload_n 0, 1) := by decide +kernel
theorem dX6_strawsLeftOf_6 : decode cX6_strawsLeftOf 6 = .ok (.getfield 47, 3) := by decide +kernel
theorem dX6_strawsLeftOf_9 : decode cX6_strawsLeftOf 9 = .ok (.if_icmp .ge 34, 3) := by decide +kernel
theorem dX6_strawsLeftOf_12 : decode cX6_strawsLeftOf 12 = .ok (.aload_n 0, 1) := by decide +kernel
theorem dX6_strawsLeftOf_13 : decode cX6_strawsLeftOf 13 = .ok (.getfield 43, 3) := by decide +kernel
theorem dX6_strawsLeftOf_16 : decode cX6_strawsLeftOf 16 = .ok (.iload_n 3, 1) := by decide +kernel
theorem dX6_strawsLeftOf_17 : decode cX6_strawsLeftOf 17 = .ok (.aaload, 1) := by decide +kernel
theorem dX6_strawsLeftOf_18 : decode cX6_strawsLeftOf 18 = .ok (.getfield 242, 3) := by decide +kernel
theorem dX6_strawsLeftOf_21 : decode cX6_strawsLeftOf 21 = .ok (.iload_n 1, 1) := by decide +kernel
theorem dX6_strawsLeftOf_22 : decode cX6_strawsLeftOf 22 = .ok (.if_icmp .ne 15, 3) := by decide +kernel
theorem dX6_strawsLeftOf_25 : decode cX6_strawsLeftOf 25 = .ok (.iload_n 2, 1) := by decide +kernel
theorem dX6_strawsLeftOf_26 : decode cX6_strawsLeftOf 26 = .ok (.aload_n 0, 1) := by decide +kernel
theorem dX6_strawsLeftOf_27 : decode cX6_strawsLeftOf 27 = .ok (.getfield 43, 3) := by decide +kernel
theorem dX6_strawsLeftOf_30 : decode cX6_strawsLeftOf 30 = .ok (.iload_n 3, 1) := by decide +kernel
theorem dX6_strawsLeftOf_31 : decode cX6_strawsLeftOf 31 = .ok (.aaload, 1) := by decide +kernel
theorem dX6_strawsLeftOf_32 : decode cX6_strawsLeftOf 32 = .ok (.getfield 185, 3) := by decide +kernel
theorem dX6_strawsLeftOf_35 : decode cX6_strawsLeftOf 35 = .ok (.iadd, 1) := by decide +kernel
theorem dX6_strawsLeftOf_36 : decode cX6_strawsLeftOf 36 = .ok (.istore_n 2, 1) := by decide +kernel
theorem dX6_strawsLeftOf_37 : decode cX6_strawsLeftOf 37 = .ok (.iinc 3 1, 3) := by decide +kernel
theorem dX6_strawsLeftOf_40 : decode cX6_strawsLeftOf 40 = .ok (.goto (-36), 3) := by decide +kernel
theorem dX6_strawsLeftOf_43 : decode cX6_strawsLeftOf 43 = .ok (.iload_n 2, 1) := by decide +kernel
theorem dX6_strawsLeftOf_44 : decode cX6_strawsLeftOf 44 = .ok (.ireturn, 1) := by decide +kernel
theorem dX6_takeStraws_0 : decode cX6_takeStraws 0 = .ok (.iconst 0, 1) := by decide +kernel
theorem dX6_takeStraws_1 : decode cX6_takeStraws 1 = .ok (.istore_n 3, 1) := by decide +kernel
theorem dX6_takeStraws_2 : decode cX6_takeStraws 2 = .ok (.iload_n 2, 1) := by decide +kernel
theorem dX6_takeStraws_3 : decode cX6_takeStraws 3 = .ok (.istore 4, 2) := by decide +kernel
theorem dX6_takeStraws_5 : decode cX6_takeStraws 5 = .ok (.iconst 0, 1) := by decide +kernel
theorem dX6_takeStraws_6 : decode cX6_takeStraws 6 = .ok (.istore 5, 2) := by decide +kernel
theorem dX6_takeStraws_8 : decode cX6_takeStraws 8 = .ok (.iload 5, 2) := by decide +kernel
theorem dX6_takeStraws_10 : decode cX6_takeStraws 10 = .ok (.aload_n 0, 1) := by decide +kernel
theorem dX6_takeStraws_11 : decode cX6_takeStraws 11 = .ok (.getfield 47, 3) := by decide +kernel
theorem dX6_takeStraws_14 : decode cX6_takeStraws 14 = .ok (.if_icmp .ge 81, 3) := by decide +kernel
theorem dX6_takeStraws_17 : decode cX6_takeStraws 17 = .ok (.iload 4, 2) := by decide +kernel
theorem dX6_takeStraws_19 : decode cX6_takeStraws 19 = .ok (.ifCond .le 76, 3) := by decide +kernel
theorem dX6_takeStraws_22 : decode cX6_takeStraws 22 = .ok (.aload_n 0, 1) := by decide +kernel
theorem dX6_takeStraws_23 : decode cX6_takeStraws 23 = .ok (.getfield 43, 3) := by decide +kernel
theorem dX6_takeStraws_26 : decode cX6_takeStraws 26 = .ok (.iload 5, 2) := by decide +kernel
theorem dX6_takeStraws_28 : decode cX6_takeStraws 28 = .ok (.aaload, 1) := by decide +kernel
theorem dX6_takeStraws_29 : decode cX6_takeStraws 29 = .ok (.astore 6, 2) := by decide +kernel
theorem dX6_takeStraws_31 : decode cX6_takeStraws 31 = .ok (.aload 6, 2) := by decide +kernel
theorem dX6_takeStraws_33 : decode cX6_takeStraws 33 = .ok (.getfield 242, 3) := by decide +kernel
theorem dX6_takeStraws_36 : decode cX6_takeStraws 36 = .ok (.iload_n 1, 1) := by decide +kernel
theorem dX6_takeStraws_37 : decode cX6_takeStraws 37 = .ok (.if_icmp .ne 52, 3) := by decide +kernel
theorem dX6_takeStraws_40 : decode cX6_takeStraws 40 = .ok (.aload 6, 2) := by decide +kernel
theorem dX6_takeStraws_42 : decode cX6_takeStraws 42 = .ok (.getfield 185, 3) := by decide +kernel
theorem dX6_takeStraws_45 : decode cX6_takeStraws 45 = .ok (.ifCond .le 44, 3) := by decide +kernel
theorem dX6_takeStraws_48 : decode cX6_takeStraws 48 = .ok (.iload 4, 2) := by decide +kernel
theorem dX6_takeStraws_50 : decode cX6_takeStraws 50 = .ok (.aload 6, 2) := by decide +kernel
theorem dX6_takeStraws_52 : decode cX6_takeStraws 52 = .ok (.getfield 185, 3) := by decide +kernel
theorem dX6_takeStraws_55 : decode cX6_takeStraws 55 = .ok (.invokestatic 243, 3) := by decide +kernel
theorem dX6_takeStraws_58 : decode cX6_takeStraws 58 = .ok (.istore 7, 2) := by decide +kernel
theorem dX6_takeStraws_60 : decode cX6_takeStraws 60 = .ok (.aload 6, 2) := by decide +kernel
theorem dX6_takeStraws_62 : decode cX6_takeStraws 62 = .ok (.dup, 1) := by decide +kernel
theorem dX6_takeStraws_63 : decode cX6_takeStraws 63 = .ok (.getfield 185, 3) := by decide +kernel
theorem dX6_takeStraws_66 : decode cX6_takeStraws 66 = .ok (.iload 7, 2) := by decide +kernel
theorem dX6_takeStraws_68 : decode cX6_takeStraws 68 = .ok (.isub, 1) := by decide +kernel
theorem dX6_takeStraws_69 : decode cX6_takeStraws 69 = .ok (.putfield 185, 3) := by decide +kernel
theorem dX6_takeStraws_72 : decode cX6_takeStraws 72 = .ok (.iload 4, 2) := by decide +kernel
theorem dX6_takeStraws_74 : decode cX6_takeStraws 74 = .ok (.iload 7, 2) := by decide +kernel
theorem dX6_takeStraws_76 : decode cX6_takeStraws 76 = .ok (.isub, 1) := by decide +kernel
theorem dX6_takeStraws_77 : decode cX6_takeStraws 77 = .ok (.istore 4, 2) := by decide +kernel
theorem dX6_takeStraws_79 : decode cX6_takeStraws 79 = .ok (.iload_n 3, 1) := by decide +kernel
theorem dX6_takeStraws_80 : decode cX6_takeStraws 80 = .ok (.iconst 1, 1) := by decide +kernel
theorem dX6_takeStraws_81 : decode cX6_takeStraws 81 = .ok (.aload 6, 2) := by decide +kernel
theorem dX6_takeStraws_83 : decode cX6_takeStraws 83 = .ok (.getfield 248, 3) := by decide +kernel
theorem dX6_takeStraws_86 : decode cX6_takeStraws 86 = .ok (.ishl, 1) := by decide +kernel
theorem dX6_takeStraws_87 : decode cX6_takeStraws 87 = .ok (.ior, 1) := by decide +kernel
theorem dX6_takeStraws_88 : decode cX6_takeStraws 88 = .ok (.istore_n 3, 1) := by decide +kernel
theorem dX6_takeStraws_89 : decode cX6_takeStraws 89 = .ok (.iinc 5 1, 3) := by decide +kernel
theorem dX6_takeStraws_92 : decode cX6_takeStraws 92 = .ok (.goto (-84), 3) := by decide +kernel
theorem dX6_takeStraws_95 : decode cX6_takeStraws 95 = .ok (.iload_n 3, 1) := by decide +kernel
theorem dX6_takeStraws_96 : decode cX6_takeStraws 96 = .ok (.ireturn, 1) := by decide +kernel
theorem dX6_lengthLeftOf_0 : decode cX6_lengthLeftOf 0 = .ok (.iconst 0, 1) := by decide +kernel
theorem dX6_lengthLeftOf_1 : decode cX6_lengthLeftOf 1 = .ok (.istore_n 2, 1) := by decide +kernel
theorem dX6_lengthLeftOf_2 : decode cX6_lengthLeftOf 2 = .ok (.iconst 0, 1) := by decide +kernel
theorem dX6_lengthLeftOf_3 : decode cX6_lengthLeftOf 3 = .ok (.istore_n 3, 1) := by decide +kernel
theorem dX6_lengthLeftOf_4 : decode cX6_lengthLeftOf 4 = .ok (.iload_n 3, 1) := by decide +kernel
theorem dX6_lengthLeftOf_5 : decode cX6_lengthLeftOf 5 = .ok (.aload_n 0, 1) := by decide +kernel
theorem dX6_lengthLeftOf_6 : decode cX6_lengthLeftOf 6 = .ok (.getfield 56, 3) := by decide +kernel
theorem dX6_lengthLeftOf_9 : decode cX6_lengthLeftOf 9 = .ok (.if_icmp .ge 34, 3) := by decide +kernel
theorem dX6_lengthLeftOf_12 : decode cX6_lengthLeftOf 12 = .ok (.aload_n 0, 1) := by decide +kernel
theorem dX6_lengthLeftOf_13 : decode cX6_lengthLeftOf 13 = .ok (.getfield 52, 3) := by decide +kernel
theorem dX6_lengthLeftOf_16 : decode cX6_lengthLeftOf 16 = .ok (.iload_n 3, 1) := by decide +kernel
theorem dX6_lengthLeftOf_17 : decode cX6_lengthLeftOf 17 = .ok (.aaload, 1) := by decide +kernel
theorem dX6_lengthLeftOf_18 : decode cX6_lengthLeftOf 18 = .ok (.getfield 206, 3) := by decide +kernel
theorem dX6_lengthLeftOf_21 : decode cX6_lengthLeftOf 21 = .ok (.iload_n 1, 1) := by decide +kernel
theorem dX6_lengthLeftOf_22 : decode cX6_lengthLeftOf 22 = .ok (.if_icmp .ne 15, 3) := by decide +kernel
theorem dX6_lengthLeftOf_25 : decode cX6_lengthLeftOf 25 = .ok (.iload_n 2, 1) := by decide +kernel
theorem dX6_lengthLeftOf_26 : decode cX6_lengthLeftOf 26 = .ok (.aload_n 0, 1) := by decide +kernel
theorem dX6_lengthLeftOf_27 : decode cX6_lengthLeftOf 27 = .ok (.getfield 52, 3) := by decide +kernel
theorem dX6_lengthLeftOf_30 : decode cX6_lengthLeftOf 30 = .ok (.iload_n 3, 1) := by decide +kernel
theorem dX6_lengthLeftOf_31 : decode cX6_lengthLeftOf 31 = .ok (.aaload, 1) := by decide +kernel
theorem dX6_lengthLeftOf_32 : decode cX6_lengthLeftOf 32 = .ok (.getfield 203, 3) := by decide +kernel
theorem dX6_lengthLeftOf_35 : decode cX6_lengthLeftOf 35 = .ok (.iadd, 1) := by decide +kernel
theorem dX6_lengthLeftOf_36 : decode cX6_lengthLeftOf 36 = .ok (.istore_n 2, 1) := by decide +kernel
theorem dX6_lengthLeftOf_37 : decode cX6_lengthLeftOf 37 = .ok (.iinc 3 1, 3) := by decide +kernel
theorem dX6_lengthLeftOf_40 : decode cX6_lengthLeftOf 40 = .ok (.goto (-36), 3) := by decide +kernel
theorem dX6_lengthLeftOf_43 : decode cX6_lengthLeftOf 43 = .ok (.iload_n 2, 1) := by decide +kernel
theorem dX6_lengthLeftOf_44 : decode cX6_lengthLeftOf 44 = .ok (.ireturn, 1) := by decide +kernel
theorem dX6_lengthOfTurns_0 : decode cX6_lengthOfTurns 0 = .ok (.iconst 0, 1) := by decide +kernel
theorem dX6_lengthOfTurns_1 : decode cX6_lengthOfTurns 1 = .ok (.istore_n 2, 1) := by decide +kernel
theorem dX6_lengthOfTurns_2 : decode cX6_lengthOfTurns 2 = .ok (.iconst 1, 1) := by decide +kernel
theorem dX6_lengthOfTurns_3 : decode cX6_lengthOfTurns 3 = .ok (.istore_n 3, 1) := by decide +kernel
theorem dX6_lengthOfTurns_4 : decode cX6_lengthOfTurns 4 = .ok (.iload_n 3, 1) := by decide +kernel
theorem dX6_lengthOfTurns_5 : decode cX6_lengthOfTurns 5 = .ok (.iload_n 1, 1) := by decide +kernel
theorem dX6_lengthOfTurns_6 : decode cX6_lengthOfTurns 6 = .ok (.if_icmp .gt 29, 3) := by decide +kernel
theorem dX6_lengthOfTurns_9 : decode cX6_lengthOfTurns 9 = .ok (.iload_n 2, 1) := by decide +kernel
theorem dX6_lengthOfTurns_10 : decode cX6_lengthOfTurns 10 = .ok (.sipush 710, 3) := by decide +kernel
theorem dX6_lengthOfTurns_13 : decode cX6_lengthOfTurns 13 = .ok (.iconst 2, 1) := by decide +kernel
theorem dX6_lengthOfTurns_14 : decode cX6_lengthOfTurns 14 = .ok (.iload_n 3, 1) := by decide +kernel
theorem dX6_lengthOfTurns_15 : decode cX6_lengthOfTurns 15 = .ok (.imul, 1) := by decide +kernel
theorem dX6_lengthOfTurns_16 : decode cX6_lengthOfTurns 16 = .ok (.iconst 1, 1) := by decide +kernel
theorem dX6_lengthOfTurns_17 : decode cX6_lengthOfTurns 17 = .ok (.isub, 1) := by decide +kernel
theorem dX6_lengthOfTurns_18 : decode cX6_lengthOfTurns 18 = .ok (.imul, 1) := by decide +kernel
theorem dX6_lengthOfTurns_19 : decode cX6_lengthOfTurns 19 = .ok (.iload_n 0, 1) := by decide +kernel
theorem dX6_lengthOfTurns_20 : decode cX6_lengthOfTurns 20 = .ok (.imul, 1) := by decide +kernel
theorem dX6_lengthOfTurns_21 : decode cX6_lengthOfTurns 21 = .ok (.sipush 226, 3) := by decide +kernel
theorem dX6_lengthOfTurns_24 : decode cX6_lengthOfTurns 24 = .ok (.idiv, 1) := by decide +kernel
theorem dX6_lengthOfTurns_25 : decode cX6_lengthOfTurns 25 = .ok (.iconst 1, 1) := by decide +kernel
theorem dX6_lengthOfTurns_26 : decode cX6_lengthOfTurns 26 = .ok (.iadd, 1) := by decide +kernel
theorem dX6_lengthOfTurns_27 : decode cX6_lengthOfTurns 27 = .ok (.iadd, 1) := by decide +kernel
theorem dX6_lengthOfTurns_28 : decode cX6_lengthOfTurns 28 = .ok (.istore_n 2, 1) := by decide +kernel
theorem dX6_lengthOfTurns_29 : decode cX6_lengthOfTurns 29 = .ok (.iinc 3 1, 3) := by decide +kernel
theorem dX6_lengthOfTurns_32 : decode cX6_lengthOfTurns 32 = .ok (.goto (-28), 3) := by decide +kernel
theorem dX6_lengthOfTurns_35 : decode cX6_lengthOfTurns 35 = .ok (.iload_n 2, 1) := by decide +kernel
theorem dX6_lengthOfTurns_36 : decode cX6_lengthOfTurns 36 = .ok (.ireturn, 1) := by decide +kernel
theorem dX6_sewFromScores_0 : decode cX6_sewFromScores 0 = .ok (.aload_n 1, 1) := by decide +kernel
theorem dX6_sewFromScores_1 : decode cX6_sewFromScores 1 = .ok (.getfield 229, 3) := by decide +kernel
theorem dX6_sewFromScores_4 : decode cX6_sewFromScores 4 = .ok (.istore_n 3, 1) := by decide +kernel
theorem dX6_sewFromScores_5 : decode cX6_sewFromScores 5 = .ok (.iconst 0, 1) := by decide +kernel
theorem dX6_sewFromScores_6 : decode cX6_sewFromScores 6 = .ok (.istore 4, 2) := by decide +kernel
theorem dX6_sewFromScores_8 : decode cX6_sewFromScores 8 = .ok (.iload 4, 2) := by decide +kernel
theorem dX6_sewFromScores_10 : decode cX6_sewFromScores 10 = .ok (.aload_n 0, 1) := by decide +kernel
theorem dX6_sewFromScores_11 : decode cX6_sewFromScores 11 = .ok (.getfield 56, 3) := by decide +kernel
theorem dX6_sewFromScores_14 : decode cX6_sewFromScores 14 = .ok (.if_icmp .ge 101, 3) := by decide +kernel
theorem dX6_sewFromScores_17 : decode cX6_sewFromScores 17 = .ok (.iload_n 3, 1) := by decide +kernel
theorem dX6_sewFromScores_18 : decode cX6_sewFromScores 18 = .ok (.ifCond .le 97, 3) := by decide +kernel
theorem dX6_sewFromScores_21 : decode cX6_sewFromScores 21 = .ok (.aload_n 0, 1) := by decide +kernel
theorem dX6_sewFromScores_22 : decode cX6_sewFromScores 22 = .ok (.getfield 52, 3) := by decide +kernel
theorem dX6_sewFromScores_25 : decode cX6_sewFromScores 25 = .ok (.iload 4, 2) := by decide +kernel
theorem dX6_sewFromScores_27 : decode cX6_sewFromScores 27 = .ok (.aaload, 1) := by decide +kernel
theorem dX6_sewFromScores_28 : decode cX6_sewFromScores 28 = .ok (.astore 5, 2) := by decide +kernel
theorem dX6_sewFromScores_30 : decode cX6_sewFromScores 30 = .ok (.aload 5, 2) := by decide +kernel
theorem dX6_sewFromScores_32 : decode cX6_sewFromScores 32 = .ok (.getfield 206, 3) := by decide +kernel
theorem dX6_sewFromScores_35 : decode cX6_sewFromScores 35 = .ok (.iload_n 2, 1) := by decide +kernel
theorem dX6_sewFromScores_36 : decode cX6_sewFromScores 36 = .ok (.if_icmp .ne 73, 3) := by decide +kernel
theorem dX6_sewFromScores_39 : decode cX6_sewFromScores 39 = .ok (.aload 5, 2) := by decide +kernel
theorem dX6_sewFromScores_41 : decode cX6_sewFromScores 41 = .ok (.getfield 203, 3) := by decide +kernel
theorem dX6_sewFromScores_44 : decode cX6_sewFromScores 44 = .ok (.ifCond .le 65, 3) := by decide +kernel
theorem dX6_sewFromScores_47 : decode cX6_sewFromScores 47 = .ok (.iload_n 3, 1) := by decide +kernel
theorem dX6_sewFromScores_48 : decode cX6_sewFromScores 48 = .ok (.aload 5, 2) := by decide +kernel
theorem dX6_sewFromScores_50 : decode cX6_sewFromScores 50 = .ok (.getfield 203, 3) := by decide +kernel
theorem dX6_sewFromScores_53 : decode cX6_sewFromScores 53 = .ok (.invokestatic 243, 3) := by decide +kernel
theorem dX6_sewFromScores_56 : decode cX6_sewFromScores 56 = .ok (.istore 6, 2) := by decide +kernel
theorem dX6_sewFromScores_58 : decode cX6_sewFromScores 58 = .ok (.aload 5, 2) := by decide +kernel
theorem dX6_sewFromScores_60 : decode cX6_sewFromScores 60 = .ok (.dup, 1) := by decide +kernel
theorem dX6_sewFromScores_61 : decode cX6_sewFromScores 61 = .ok (.getfield 203, 3) := by decide +kernel
theorem dX6_sewFromScores_64 : decode cX6_sewFromScores 64 = .ok (.iload 6, 2) := by decide +kernel
theorem dX6_sewFromScores_66 : decode cX6_sewFromScores 66 = .ok (.isub, 1) := by decide +kernel
theorem dX6_sewFromScores_67 : decode cX6_sewFromScores 67 = .ok (.putfield 203, 3) := by decide +kernel
theorem dX6_sewFromScores_70 : decode cX6_sewFromScores 70 = .ok (.iload_n 3, 1) := by decide +kernel
theorem dX6_sewFromScores_71 : decode cX6_sewFromScores 71 = .ok (.iload 6, 2) := by decide +kernel
theorem dX6_sewFromScores_73 : decode cX6_sewFromScores 73 = .ok (.isub, 1) := by decide +kernel
theorem dX6_sewFromScores_74 : decode cX6_sewFromScores 74 = .ok (.istore_n 3, 1) := by decide +kernel
theorem dX6_sewFromScores_75 : decode cX6_sewFromScores 75 = .ok (.aload_n 1, 1) := by decide +kernel
theorem dX6_sewFromScores_76 : decode cX6_sewFromScores 76 = .ok (.dup, 1) := by decide +kernel
theorem dX6_sewFromScores_77 : decode cX6_sewFromScores 77 = .ok (.getfield 233, 3) := by decide +kernel
theorem dX6_sewFromScores_80 : decode cX6_sewFromScores 80 = .ok (.aload 5, 2) := by decide +kernel
theorem dX6_sewFromScores_82 : decode cX6_sewFromScores 82 = .ok (.getfield 209, 3) := by decide +kernel
theorem dX6_sewFromScores_85 : decode cX6_sewFromScores 85 = .ok (.ior, 1) := by decide +kernel
theorem dX6_sewFromScores_86 : decode cX6_sewFromScores 86 = .ok (.putfield 233, 3) := by decide +kernel
theorem dX6_sewFromScores_89 : decode cX6_sewFromScores 89 = .ok (.iload 4, 2) := by decide +kernel
theorem dX6_sewFromScores_91 : decode cX6_sewFromScores 91 = .ok (.bipush 31, 2) := by decide +kernel
theorem dX6_sewFromScores_93 : decode cX6_sewFromScores 93 = .ok (.if_icmp .ge 16, 3) := by decide +kernel
theorem dX6_sewFromScores_96 : decode cX6_sewFromScores 96 = .ok (.aload_n 1, 1) := by decide +kernel
theorem dX6_sewFromScores_97 : decode cX6_sewFromScores 97 = .ok (.dup, 1) := by decide +kernel
theorem dX6_sewFromScores_98 : decode cX6_sewFromScores 98 = .ok (.getfield 234, 3) := by decide +kernel
theorem dX6_sewFromScores_101 : decode cX6_sewFromScores 101 = .ok (.iconst 1, 1) := by decide +kernel
theorem dX6_sewFromScores_102 : decode cX6_sewFromScores 102 = .ok (.iload 4, 2) := by decide +kernel
theorem dX6_sewFromScores_104 : decode cX6_sewFromScores 104 = .ok (.ishl, 1) := by decide +kernel
theorem dX6_sewFromScores_105 : decode cX6_sewFromScores 105 = .ok (.ior, 1) := by decide +kernel
theorem dX6_sewFromScores_106 : decode cX6_sewFromScores 106 = .ok (.putfield 234, 3) := by decide +kernel
theorem dX6_sewFromScores_109 : decode cX6_sewFromScores 109 = .ok (.iinc 4 1, 3) := by decide +kernel
theorem dX6_sewFromScores_112 : decode cX6_sewFromScores 112 = .ok (.goto (-104), 3) := by decide +kernel
theorem dX6_sewFromScores_115 : decode cX6_sewFromScores 115 = .ok (.return_, 1) := by decide +kernel
