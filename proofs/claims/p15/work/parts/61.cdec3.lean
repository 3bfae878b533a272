theorem dX3_twineOf_0 : decode cX3_twineOf 0 = .ok (.iconst 0, 1) := by decide +kernel
theorem dX3_twineOf_1 : decode cX3_twineOf 1 = .ok (.istore_n 3, 1) := by decide +kernel
theorem dX3_twineOf_2 : decode cX3_twineOf 2 = .ok (.iload_n 1, 1) := by decide +kernel
theorem dX3_twineOf_3 : decode cX3_twineOf 3 = .ok (.istore 4, 2) := by decide +kernel
theorem dX3_twineOf_5 : decode cX3_twineOf 5 = .ok (.iload_n 2, 1) := by decide +kernel
theorem dX3_twineOf_6 : decode cX3_twineOf 6 = .ok (.istore 5, 2) := by decide +kernel
theorem dX3_twineOf_8 : decode cX3_twineOf 8 = .ok (.iconst 0, 1) := by decide +kernel
theorem dX3_twineOf_9 : decode cX3_twineOf 9 = .ok (.istore 6, 2) := by decide +kernel
theorem dX3_twineOf_11 : decode cX3_twineOf 11 = .ok (.iload 6, 2) := by decide +kernel
theorem dX3_twineOf_13 : decode cX3_twineOf 13 = .ok (.aload_n 0, 1) := by decide +kernel
theorem dX3_twineOf_14 : decode cX3_twineOf 14 = .ok (.getfield 28, 3) := by decide +kernel
theorem dX3_twineOf_17 : decode cX3_twineOf 17 = .ok (.if_icmp .ge 40, 3) := by decide +kernel
theorem dX3_twineOf_20 : decode cX3_twineOf 20 = .ok (.iload_n 3, 1) := by decide +kernel
theorem dX3_twineOf_21 : decode cX3_twineOf 21 = .ok (.aload_n 0, 1) := by decide +kernel
theorem dX3_twineOf_22 : decode cX3_twineOf 22 = .ok (.getfield 55, 3) := by decide +kernel
theorem dX3_twineOf_25 : decode cX3_twineOf 25 = .ok (.iload 4, 2) := by decide +kernel
theorem dX3_twineOf_27 : decode cX3_twineOf 27 = .ok (.aaload, 1) := by decide +kernel
theorem dX3_twineOf_28 : decode cX3_twineOf 28 = .ok (.iload 5, 2) := by decide +kernel
theorem dX3_twineOf_30 : decode cX3_twineOf 30 = .ok (.iaload, 1) := by decide +kernel
theorem dX3_twineOf_31 : decode cX3_twineOf 31 = .ok (.iadd, 1) := by decide +kernel
theorem dX3_twineOf_32 : decode cX3_twineOf 32 = .ok (.istore_n 3, 1) := by decide +kernel
theorem dX3_twineOf_33 : decode cX3_twineOf 33 = .ok (.aload_n 0, 1) := by decide +kernel
theorem dX3_twineOf_34 : decode cX3_twineOf 34 = .ok (.getfield 15, 3) := by decide +kernel
theorem dX3_twineOf_37 : decode cX3_twineOf 37 = .ok (.iload 4, 2) := by decide +kernel
theorem dX3_twineOf_39 : decode cX3_twineOf 39 = .ok (.iaload, 1) := by decide +kernel
theorem dX3_twineOf_40 : decode cX3_twineOf 40 = .ok (.istore 4, 2) := by decide +kernel
theorem dX3_twineOf_42 : decode cX3_twineOf 42 = .ok (.aload_n 0, 1) := by decide +kernel
theorem dX3_twineOf_43 : decode cX3_twineOf 43 = .ok (.getfield 15, 3) := by decide +kernel
theorem dX3_twineOf_46 : decode cX3_twineOf 46 = .ok (.iload 5, 2) := by decide +kernel
theorem dX3_twineOf_48 : decode cX3_twineOf 48 = .ok (.iaload, 1) := by decide +kernel
theorem dX3_twineOf_49 : decode cX3_twineOf 49 = .ok (.istore 5, 2) := by decide +kernel
theorem dX3_twineOf_51 : decode cX3_twineOf 51 = .ok (.iinc 6 1, 3) := by decide +kernel
theorem dX3_twineOf_54 : decode cX3_twineOf 54 = .ok (.goto (-43), 3) := by decide +kernel
theorem dX3_twineOf_57 : decode cX3_twineOf 57 = .ok (.iload_n 3, 1) := by decide +kernel
theorem dX3_twineOf_58 : decode cX3_twineOf 58 = .ok (.ireturn, 1) := by decide +kernel
theorem dX3_form_0 : decode cX3_form 0 = .ok (.aload_n 0, 1) := by decide +kernel
theorem dX3_form_1 : decode cX3_form 1 = .ok (.getfield 70, 3) := by decide +kernel
theorem dX3_form_4 : decode cX3_form 4 = .ok (.ifCond .ne 34, 3) := by decide +kernel
theorem dX3_form_7 : decode cX3_form 7 = .ok (.aload_n 0, 1) := by decide +kernel
theorem dX3_form_8 : decode cX3_form 8 = .ok (.getfield 66, 3) := by decide +kernel
theorem dX3_form_11 : decode cX3_form 11 = .ok (.aload_n 0, 1) := by decide +kernel
theorem dX3_form_12 : decode cX3_form 12 = .ok (.getfield 22, 3) := by decide +kernel
theorem dX3_form_15 : decode cX3_form 15 = .ok (.invokevirtual 108, 3) := by decide +kernel
theorem dX3_form_18 : decode cX3_form 18 = .ok (.aload_n 0, 1) := by decide +kernel
theorem dX3_form_19 : decode cX3_form 19 = .ok (.getfield 66, 3) := by decide +kernel
theorem dX3_form_22 : decode cX3_form 22 = .ok (.aload_n 0, 1) := by decide +kernel
theorem dX3_form_23 : decode cX3_form 23 = .ok (.getfield 9, 3) := by decide +kernel
theorem dX3_form_26 : decode cX3_form 26 = .ok (.aload_n 0, 1) := by decide +kernel
theorem dX3_form_27 : decode cX3_form 27 = .ok (.getfield 18, 3) := by decide +kernel
theorem dX3_form_30 : decode cX3_form 30 = .ok (.invokevirtual 111, 3) := by decide +kernel
theorem dX3_form_33 : decode cX3_form 33 = .ok (.aload_n 0, 1) := by decide +kernel
theorem dX3_form_34 : decode cX3_form 34 = .ok (.iconst 1, 1) := by decide +kernel
theorem dX3_form_35 : decode cX3_form 35 = .ok (.putfield 70, 3) := by decide +kernel
theorem dX3_form_38 : decode cX3_form 38 = .ok (.aload_n 0, 1) := by decide +kernel
theorem dX3_form_39 : decode cX3_form 39 = .ok (.getfield 66, 3) := by decide +kernel
theorem dX3_form_42 : decode cX3_form 42 = .ok (.areturn, 1) := by decide +kernel
theorem dX3_timesToUntwine_0 : decode cX3_timesToUntwine 0 = .ok (.aload_n 0, 1) := by decide +kernel
theorem dX3_timesToUntwine_1 : decode cX3_timesToUntwine 1 = .ok (.getfield 73, 3) := by decide +kernel
theorem dX3_timesToUntwine_4 : decode cX3_timesToUntwine 4 = .ok (.ifCond .eq 8, 3) := by decide +kernel
theorem dX3_timesToUntwine_7 : decode cX3_timesToUntwine 7 = .ok (.aload_n 0, 1) := by decide +kernel
theorem dX3_timesToUntwine_8 : decode cX3_timesToUntwine 8 = .ok (.getfield 73, 3) := by decide +kernel
theorem dX3_timesToUntwine_11 : decode cX3_timesToUntwine 11 = .ok (.ireturn, 1) := by decide +kernel
theorem dX3_timesToUntwine_12 : decode cX3_timesToUntwine 12 = .ok (.aload_n 0, 1) := by decide +kernel
theorem dX3_timesToUntwine_13 : decode cX3_timesToUntwine 13 = .ok (.iconst (-1), 1) := by decide +kernel
theorem dX3_timesToUntwine_14 : decode cX3_timesToUntwine 14 = .ok (.putfield 73, 3) := by decide +kernel
theorem dX3_timesToUntwine_17 : decode cX3_timesToUntwine 17 = .ok (.aload_n 0, 1) := by decide +kernel
theorem dX3_timesToUntwine_18 : decode cX3_timesToUntwine 18 = .ok (.getfield 28, 3) := by decide +kernel
theorem dX3_timesToUntwine_21 : decode cX3_timesToUntwine 21 = .ok (.aload_n 0, 1) := by decide +kernel
theorem dX3_timesToUntwine_22 : decode cX3_timesToUntwine 22 = .ok (.getfield 18, 3) := by decide +kernel
theorem dX3_timesToUntwine_25 : decode cX3_timesToUntwine 25 = .ok (.imul, 1) := by decide +kernel
theorem dX3_timesToUntwine_26 : decode cX3_timesToUntwine 26 = .ok (.sipush 600, 3) := by decide +kernel
theorem dX3_timesToUntwine_29 : decode cX3_timesToUntwine 29 = .ok (.if_icmp .le 8, 3) := by decide +kernel
theorem dX3_timesToUntwine_32 : decode cX3_timesToUntwine 32 = .ok (.aload_n 0, 1) := by decide +kernel
theorem dX3_timesToUntwine_33 : decode cX3_timesToUntwine 33 = .ok (.getfield 73, 3) := by decide +kernel
theorem dX3_timesToUntwine_36 : decode cX3_timesToUntwine 36 = .ok (.ireturn, 1) := by decide +kernel
theorem dX3_timesToUntwine_37 : decode cX3_timesToUntwine 37 = .ok (.aload_n 1, 1) := by decide +kernel
theorem dX3_timesToUntwine_38 : decode cX3_timesToUntwine 38 = .ok (.aload_n 0, 1) := by decide +kernel
theorem dX3_timesToUntwine_39 : decode cX3_timesToUntwine 39 = .ok (.getfield 22, 3) := by decide +kernel
theorem dX3_timesToUntwine_42 : decode cX3_timesToUntwine 42 = .ok (.invokevirtual 108, 3) := by decide +kernel
theorem dX3_timesToUntwine_45 : decode cX3_timesToUntwine 45 = .ok (.iconst 1, 1) := by decide +kernel
theorem dX3_timesToUntwine_46 : decode cX3_timesToUntwine 46 = .ok (.istore_n 2, 1) := by decide +kernel
theorem dX3_timesToUntwine_47 : decode cX3_timesToUntwine 47 = .ok (.iload_n 2, 1) := by decide +kernel
theorem dX3_timesToUntwine_48 : decode cX3_timesToUntwine 48 = .ok (.bipush 12, 2) := by decide +kernel
theorem dX3_timesToUntwine_50 : decode cX3_timesToUntwine 50 = .ok (.if_icmp .gt 48, 3) := by decide +kernel
theorem dX3_timesToUntwine_53 : decode cX3_timesToUntwine 53 = .ok (.iload_n 2, 1) := by decide +kernel
theorem dX3_timesToUntwine_54 : decode cX3_timesToUntwine 54 = .ok (.aload_n 0, 1) := by decide +kernel
theorem dX3_timesToUntwine_55 : decode cX3_timesToUntwine 55 = .ok (.getfield 18, 3) := by decide +kernel
theorem dX3_timesToUntwine_58 : decode cX3_timesToUntwine 58 = .ok (.imul, 1) := by decide +kernel
theorem dX3_timesToUntwine_59 : decode cX3_timesToUntwine 59 = .ok (.sipush 600, 3) := by decide +kernel
theorem dX3_timesToUntwine_62 : decode cX3_timesToUntwine 62 = .ok (.if_icmp .gt 36, 3) := by decide +kernel
theorem dX3_timesToUntwine_65 : decode cX3_timesToUntwine 65 = .ok (.aload_n 1, 1) := by decide +kernel
theorem dX3_timesToUntwine_66 : decode cX3_timesToUntwine 66 = .ok (.aload_n 0, 1) := by decide +kernel
theorem dX3_timesToUntwine_67 : decode cX3_timesToUntwine 67 = .ok (.getfield 9, 3) := by decide +kernel
theorem dX3_timesToUntwine_70 : decode cX3_timesToUntwine 70 = .ok (.aload_n 0, 1) := by decide +kernel
theorem dX3_timesToUntwine_71 : decode cX3_timesToUntwine 71 = .ok (.getfield 18, 3) := by decide +kernel
theorem dX3_timesToUntwine_74 : decode cX3_timesToUntwine 74 = .ok (.invokevirtual 111, 3) := by decide +kernel
theorem dX3_timesToUntwine_77 : decode cX3_timesToUntwine 77 = .ok (.aload_n 1, 1) := by decide +kernel
theorem dX3_timesToUntwine_78 : decode cX3_timesToUntwine 78 = .ok (.invokevirtual 115, 3) := by decide +kernel
theorem dX3_timesToUntwine_81 : decode cX3_timesToUntwine 81 = .ok (.ifCond .eq 11, 3) := by decide +kernel
theorem dX3_timesToUntwine_84 : decode cX3_timesToUntwine 84 = .ok (.aload_n 0, 1) := by decide +kernel
theorem dX3_timesToUntwine_85 : decode cX3_timesToUntwine 85 = .ok (.iload_n 2, 1) := by decide +kernel
theorem dX3_timesToUntwine_86 : decode cX3_timesToUntwine 86 = .ok (.putfield 73, 3) := by decide +kernel
theorem dX3_timesToUntwine_89 : decode cX3_timesToUntwine 89 = .ok (.goto 9, 3) := by decide +kernel
theorem dX3_timesToUntwine_92 : decode cX3_timesToUntwine 92 = .ok (.iinc 2 1, 3) := by decide +kernel
theorem dX3_timesToUntwine_95 : decode cX3_timesToUntwine 95 = .ok (.goto (-48), 3) := by decide +kernel
theorem dX3_timesToUntwine_98 : decode cX3_timesToUntwine 98 = .ok (.aload_n 0, 1) := by decide +kernel
theorem dX3_timesToUntwine_99 : decode cX3_timesToUntwine 99 = .ok (.getfield 73, 3) := by decide +kernel
theorem dX3_timesToUntwine_102 : decode cX3_timesToUntwine 102 = .ok (.ireturn, 1) := by decide +kernel
theorem dX3_clearTraces_0 : decode cX3_clearTraces 0 = .ok (.aload_n 0, 1) := by decide +kernel
theorem dX3_clearTraces_1 : decode cX3_clearTraces 1 = .ok (.iconst 0, 1) := by decide +kernel
theorem dX3_clearTraces_2 : decode cX3_clearTraces 2 = .ok (.putfield 25, 3) := by decide +kernel
theorem dX3_clearTraces_5 : decode cX3_clearTraces 5 = .ok (.aload_n 0, 1) := by decide +kernel
theorem dX3_clearTraces_6 : decode cX3_clearTraces 6 = .ok (.iconst 1, 1) := by decide +kernel
theorem dX3_clearTraces_7 : decode cX3_clearTraces 7 = .ok (.putfield 58, 3) := by decide +kernel
theorem dX3_clearTraces_10 : decode cX3_clearTraces 10 = .ok (.iconst 0, 1) := by decide +kernel
theorem dX3_clearTraces_11 : decode cX3_clearTraces 11 = .ok (.istore_n 1, 1) := by decide +kernel
theorem dX3_clearTraces_12 : decode cX3_clearTraces 12 = .ok (.iload_n 1, 1) := by decide +kernel
theorem dX3_clearTraces_13 : decode cX3_clearTraces 13 = .ok (.bipush 8, 2) := by decide +kernel
theorem dX3_clearTraces_15 : decode cX3_clearTraces 15 = .ok (.if_icmp .ge 67, 3) := by decide +kernel
theorem dX3_clearTraces_18 : decode cX3_clearTraces 18 = .ok (.aload_n 0, 1) := by decide +kernel
theorem dX3_clearTraces_19 : decode cX3_clearTraces 19 = .ok (.getfield 38, 3) := by decide +kernel
theorem dX3_clearTraces_22 : decode cX3_clearTraces 22 = .ok (.iload_n 1, 1) := by decide +kernel
theorem dX3_clearTraces_23 : decode cX3_clearTraces 23 = .ok (.iload_n 1, 1) := by decide +kernel
theorem dX3_clearTraces_24 : decode cX3_clearTraces 24 = .ok (.iastore, 1) := by decide +kernel
theorem dX3_clearTraces_25 : decode cX3_clearTraces 25 = .ok (.aload_n 0, 1) := by decide +kernel
theorem dX3_clearTraces_26 : decode cX3_clearTraces 26 = .ok (.getfield 41, 3) := by decide +kernel
theorem dX3_clearTraces_29 : decode cX3_clearTraces 29 = .ok (.iload_n 1, 1) := by decide +kernel
theorem dX3_clearTraces_30 : decode cX3_clearTraces 30 = .ok (.iconst 0, 1) := by decide +kernel
theorem dX3_clearTraces_31 : decode cX3_clearTraces 31 = .ok (.iastore, 1) := by decide +kernel
theorem dX3_clearTraces_32 : decode cX3_clearTraces 32 = .ok (.aload_n 0, 1) := by decide +kernel
theorem dX3_clearTraces_33 : decode cX3_clearTraces 33 = .ok (.getfield 44, 3) := by decide +kernel
theorem dX3_clearTraces_36 : decode cX3_clearTraces 36 = .ok (.iload_n 1, 1) := by decide +kernel
theorem dX3_clearTraces_37 : decode cX3_clearTraces 37 = .ok (.iconst 0, 1) := by decide +kernel
theorem dX3_clearTraces_38 : decode cX3_clearTraces 38 = .ok (.iastore, 1) := by decide +kernel
theorem dX3_clearTraces_39 : decode cX3_clearTraces 39 = .ok (.aload_n 0, 1) := by decide +kernel
theorem dX3_clearTraces_40 : decode cX3_clearTraces 40 = .ok (.getfield 47, 3) := by decide +kernel
theorem dX3_clearTraces_43 : decode cX3_clearTraces 43 = .ok (.iload_n 1, 1) := by decide +kernel
theorem dX3_clearTraces_44 : decode cX3_clearTraces 44 = .ok (.iconst 0, 1) := by decide +kernel
theorem dX3_clearTraces_45 : decode cX3_clearTraces 45 = .ok (.iastore, 1) := by decide +kernel
theorem dX3_clearTraces_46 : decode cX3_clearTraces 46 = .ok (.aload_n 0, 1) := by decide +kernel
theorem dX3_clearTraces_47 : decode cX3_clearTraces 47 = .ok (.getfield 50, 3) := by decide +kernel
theorem dX3_clearTraces_50 : decode cX3_clearTraces 50 = .ok (.iload_n 1, 1) := by decide +kernel
theorem dX3_clearTraces_51 : decode cX3_clearTraces 51 = .ok (.iconst 0, 1) := by decide +kernel
theorem dX3_clearTraces_52 : decode cX3_clearTraces 52 = .ok (.iastore, 1) := by decide +kernel
theorem dX3_clearTraces_53 : decode cX3_clearTraces 53 = .ok (.iconst 0, 1) := by decide +kernel
theorem dX3_clearTraces_54 : decode cX3_clearTraces 54 = .ok (.istore_n 2, 1) := by decide +kernel
theorem dX3_clearTraces_55 : decode cX3_clearTraces 55 = .ok (.iload_n 2, 1) := by decide +kernel
theorem dX3_clearTraces_56 : decode cX3_clearTraces 56 = .ok (.bipush 8, 2) := by decide +kernel
theorem dX3_clearTraces_58 : decode cX3_clearTraces 58 = .ok (.if_icmp .ge 18, 3) := by decide +kernel
theorem dX3_clearTraces_61 : decode cX3_clearTraces 61 = .ok (.aload_n 0, 1) := by decide +kernel
theorem dX3_clearTraces_62 : decode cX3_clearTraces 62 = .ok (.getfield 55, 3) := by decide +kernel
theorem dX3_clearTraces_65 : decode cX3_clearTraces 65 = .ok (.iload_n 1, 1) := by decide +kernel
theorem dX3_clearTraces_66 : decode cX3_clearTraces 66 = .ok (.aaload, 1) := by decide +kernel
theorem dX3_clearTraces_67 : decode cX3_clearTraces 67 = .ok (.iload_n 2, 1) := by decide +kernel
theorem dX3_clearTraces_68 : decode cX3_clearTraces 68 = .ok (.iconst 0, 1) := by decide +kernel
theorem dX3_clearTraces_69 : decode cX3_clearTraces 69 = .ok (.iastore, 1) := by decide +kernel
theorem dX3_clearTraces_70 : decode cX3_clearTraces 70 = .ok (.iinc 2 1, 3) := by decide +kernel
theorem dX3_clearTraces_73 : decode cX3_clearTraces 73 = .ok (.goto (-18), 3) := by decide +kernel
theorem dX3_clearTraces_76 : decode cX3_clearTraces 76 = .ok (.iinc 1 1, 3) := by decide +kernel
theorem dX3_clearTraces_79 : decode cX3_clearTraces 79 = .ok (.goto (-67), 3) := by decide +kernel
theorem dX3_clearTraces_82 : decode cX3_clearTraces 82 = .ok (.return_, 1) := by decide +kernel
theorem dX3_cross_0 : decode cX3_cross 0 = .ok (.iload_n 1, 1) := by decide +kernel
theorem dX3_cross_1 : decode cX3_cross 1 = .ok (.invokestatic 118, 3) := by decide +kernel
theorem dX3_cross_4 : decode cX3_cross 4 = .ok (.istore_n 2, 1) := by decide +kernel
theorem dX3_cross_5 : decode cX3_cross 5 = .ok (.iload_n 2, 1) := by decide +kernel
theorem dX3_cross_6 : decode cX3_cross 6 = .ok (.iconst 1, 1) := by decide +kernel
theorem dX3_cross_7 : decode cX3_cross 7 = .ok (.if_icmp .lt 11, 3) := by decide +kernel
theorem dX3_cross_10 : decode cX3_cross 10 = .ok (.iload_n 2, 1) := by decide +kernel
theorem dX3_cross_11 : decode cX3_cross 11 = .ok (.aload_n 0, 1) := by decide +kernel
theorem dX3_cross_12 : decode cX3_cross 12 = .ok (.getfield 22, 3) := by decide +kernel
theorem dX3_cross_15 : decode cX3_cross 15 = .ok (.if_icmp .lt 4, 3) := by decide +kernel
theorem dX3_cross_18 : decode cX3_cross 18 = .ok (.return_, 1) := by decide +kernel
theorem dX3_cross_19 : decode cX3_cross 19 = .ok (.aload_n 0, 1) := by decide +kernel
theorem dX3_cross_20 : decode cX3_cross 20 = .ok (.getfield 38, 3) := by decide +kernel
theorem dX3_cross_23 : decode cX3_cross 23 = .ok (.iload_n 2, 1) := by decide +kernel
theorem dX3_cross_24 : decode cX3_cross 24 = .ok (.iaload, 1) := by decide +kernel
theorem dX3_cross_25 : decode cX3_cross 25 = .ok (.istore_n 3, 1) := by decide +kernel
theorem dX3_cross_26 : decode cX3_cross 26 = .ok (.aload_n 0, 1) := by decide +kernel
theorem dX3_cross_27 : decode cX3_cross 27 = .ok (.getfield 38, 3) := by decide +kernel
theorem dX3_cross_30 : decode cX3_cross 30 = .ok (.iload_n 2, 1) := by decide +kernel
theorem dX3_cross_31 : decode cX3_cross 31 = .ok (.iconst 1, 1) := by decide +kernel
theorem dX3_cross_32 : decode cX3_cross 32 = .ok (.iadd, 1) := by decide +kernel
theorem dX3_cross_33 : decode cX3_cross 33 = .ok (.iaload, 1) := by decide +kernel
theorem dX3_cross_34 : decode cX3_cross 34 = .ok (.istore 4, 2) := by decide +kernel
theorem dX3_cross_36 : decode cX3_cross 36 = .ok (.aload_n 0, 1) := by decide +kernel
theorem dX3_cross_37 : decode cX3_cross 37 = .ok (.iload_n 3, 1) := by decide +kernel
theorem dX3_cross_38 : decode cX3_cross 38 = .ok (.iload_n 1, 1) := by decide +kernel
theorem dX3_cross_39 : decode cX3_cross 39 = .ok (.ifCond .le 7, 3) := by decide +kernel
theorem dX3_cross_42 : decode cX3_cross 42 = .ok (.iconst 1, 1) := by decide +kernel
theorem dX3_cross_43 : decode cX3_cross 43 = .ok (.goto 4, 3) := by decide +kernel
theorem dX3_cross_46 : decode cX3_cross 46 = .ok (.iconst (-1), 1) := by decide +kernel
theorem dX3_cross_47 : decode cX3_cross 47 = .ok (.invokevirtual 121, 3) := by decide +kernel
theorem dX3_cross_50 : decode cX3_cross 50 = .ok (.aload_n 0, 1) := by decide +kernel
theorem dX3_cross_51 : decode cX3_cross 51 = .ok (.iload 4, 2) := by decide +kernel
theorem dX3_cross_53 : decode cX3_cross 53 = .ok (.iload_n 1, 1) := by decide +kernel
theorem dX3_cross_54 : decode cX3_cross 54 = .ok (.ifCond .le 7, 3) := by decide +kernel
theorem dX3_cross_57 : decode cX3_cross 57 = .ok (.iconst (-1), 1) := by decide +kernel
theorem dX3_cross_58 : decode cX3_cross 58 = .ok (.goto 4, 3) := by decide +kernel
theorem dX3_cross_61 : decode cX3_cross 61 = .ok (.iconst 1, 1) := by decide +kernel
theorem dX3_cross_62 : decode cX3_cross 62 = .ok (.invokevirtual 121, 3) := by decide +kernel
theorem dX3_cross_65 : decode cX3_cross 65 = .ok (.iload_n 1, 1) := by decide +kernel
theorem dX3_cross_66 : decode cX3_cross 66 = .ok (.ifCond .le 7, 3) := by decide +kernel
theorem dX3_cross_69 : decode cX3_cross 69 = .ok (.iconst 1, 1) := by decide +kernel
theorem dX3_cross_70 : decode cX3_cross 70 = .ok (.goto 4, 3) := by decide +kernel
theorem dX3_cross_73 : decode cX3_cross 73 = .ok (.iconst (-1), 1) := by decide +kernel
theorem dX3_cross_74 : decode cX3_cross 74 = .ok (.istore 5, 2) := by decide +kernel
theorem dX3_cross_76 : decode cX3_cross 76 = .ok (.aload_n 0, 1) := by decide +kernel
theorem dX3_cross_77 : decode cX3_cross 77 = .ok (.getfield 55, 3) := by decide +kernel
theorem dX3_cross_80 : decode cX3_cross 80 = .ok (.iload_n 3, 1) := by decide +kernel
theorem dX3_cross_81 : decode cX3_cross 81 = .ok (.aaload, 1) := by decide +kernel
theorem dX3_cross_82 : decode cX3_cross 82 = .ok (.iload 4, 2) := by decide +kernel
theorem dX3_cross_84 : decode cX3_cross 84 = .ok (.dup2, 1) := by decide +kernel
theorem dX3_cross_85 : decode cX3_cross 85 = .ok (.iaload, 1) := by decide +kernel
theorem dX3_cross_86 : decode cX3_cross 86 = .ok (.iload 5, 2) := by decide +kernel
theorem dX3_cross_88 : decode cX3_cross 88 = .ok (.iadd, 1) := by decide +kernel
theorem dX3_cross_89 : decode cX3_cross 89 = .ok (.iastore, 1) := by decide +kernel
theorem dX3_cross_90 : decode cX3_cross 90 = .ok (.aload_n 0, 1) := by decide +kernel
theorem dX3_cross_91 : decode cX3_cross 91 = .ok (.getfield 55, 3) := by decide +kernel
theorem dX3_cross_94 : decode cX3_cross 94 = .ok (.iload 4, 2) := by decide +kernel
theorem dX3_cross_96 : decode cX3_cross 96 = .ok (.aaload, 1) := by decide +kernel
theorem dX3_cross_97 : decode cX3_cross 97 = .ok (.iload_n 3, 1) := by decide +kernel
theorem dX3_cross_98 : decode cX3_cross 98 = .ok (.dup2, 1) := by decide +kernel
theorem dX3_cross_99 : decode cX3_cross 99 = .ok (.iaload, 1) := by decide +kernel
theorem dX3_cross_100 : decode cX3_cross 100 = .ok (.iload 5, 2) := by decide +kernel
theorem dX3_cross_102 : decode cX3_cross 102 = .ok (.iadd, 1) := by decide +kernel
theorem dX3_cross_103 : decode cX3_cross 103 = .ok (.iastore, 1) := by decide +kernel
theorem dX3_cross_104 : decode cX3_cross 104 = .ok (.aload_n 0, 1) := by decide +kernel
theorem dX3_cross_105 : decode cX3_cross 105 = .ok (.getfield 38, 3) := by decide +kernel
theorem dX3_cross_108 : decode cX3_cross 108 = .ok (.iload_n 2, 1) := by decide +kernel
theorem dX3_cross_109 : decode cX3_cross 109 = .ok (.iload 4, 2) := by decide +kernel
theorem dX3_cross_111 : decode cX3_cross 111 = .ok (.iastore, 1) := by decide +kernel
theorem dX3_cross_112 : decode cX3_cross 112 = .ok (.aload_n 0, 1) := by decide +kernel
theorem dX3_cross_113 : decode cX3_cross 113 = .ok (.getfield 38, 3) := by decide +kernel
theorem dX3_cross_116 : decode cX3_cross 116 = .ok (.iload_n 2, 1) := by decide +kernel
theorem dX3_cross_117 : decode cX3_cross 117 = .ok (.iconst 1, 1) := by decide +kernel
theorem dX3_cross_118 : decode cX3_cross 118 = .ok (.iadd, 1) := by decide +kernel
theorem dX3_cross_119 : decode cX3_cross 119 = .ok (.iload_n 3, 1) := by decide +kernel
theorem dX3_cross_120 : decode cX3_cross 120 = .ok (.iastore, 1) := by decide +kernel
theorem dX3_cross_121 : decode cX3_cross 121 = .ok (.aload_n 0, 1) := by decide +kernel
theorem dX3_cross_122 : decode cX3_cross 122 = .ok (.getfield 41, 3) := by decide +kernel
theorem dX3_cross_125 : decode cX3_cross 125 = .ok (.iload_n 2, 1) := by decide +kernel
theorem dX3_cross_126 : decode cX3_cross 126 = .ok (.iconst 1, 1) := by decide +kernel
theorem dX3_cross_127 : decode cX3_cross 127 = .ok (.aload_n 0, 1) := by decide +kernel
theorem dX3_cross_128 : decode cX3_cross 128 = .ok (.getfield 41, 3) := by decide +kernel
theorem dX3_cross_131 : decode cX3_cross 131 = .ok (.iload_n 2, 1) := by decide +kernel
theorem dX3_cross_132 : decode cX3_cross 132 = .ok (.iaload, 1) := by decide +kernel
theorem dX3_cross_133 : decode cX3_cross 133 = .ok (.aload_n 0, 1) := by decide +kernel
theorem dX3_cross_134 : decode cX3_cross 134 = .ok (.getfield 41, 3) := by decide +kernel
theorem dX3_cross_137 : decode cX3_cross 137 = .ok (.iload_n 2, 1) := by decide +kernel
theorem dX3_cross_138 : decode cX3_cross 138 = .ok (.iconst 1, 1) := by decide +kernel
theorem dX3_cross_139 : decode cX3_cross 139 = .ok (.isub, 1) := by decide +kernel
theorem dX3_cross_140 : decode cX3_cross 140 = .ok (.iaload, 1) := by decide +kernel
theorem dX3_cross_141 : decode cX3_cross 141 = .ok (.aload_n 0, 1) := by decide +kernel
theorem dX3_cross_142 : decode cX3_cross 142 = .ok (.getfield 41, 3) := by decide +kernel
theorem dX3_cross_145 : decode cX3_cross 145 = .ok (.iload_n 2, 1) := by decide +kernel
theorem dX3_cross_146 : decode cX3_cross 146 = .ok (.iconst 1, 1) := by decide +kernel
theorem dX3_cross_147 : decode cX3_cross 147 = .ok (.iadd, 1) := by decide +kernel
theorem dX3_cross_148 : decode cX3_cross 148 = .ok (.iaload, 1) := by decide +kernel
theorem dX3_cross_149 : decode cX3_cross 149 = .ok (.invokestatic 125, 3) := by decide +kernel
theorem dX3_cross_152 : decode cX3_cross 152 = .ok (.invokestatic 125, 3) := by decide +kernel
theorem dX3_cross_155 : decode cX3_cross 155 = .ok (.iadd, 1) := by decide +kernel
theorem dX3_cross_156 : decode cX3_cross 156 = .ok (.iastore, 1) := by decide +kernel
theorem dX3_cross_157 : decode cX3_cross 157 = .ok (.aload_n 0, 1) := by decide +kernel
theorem dX3_cross_158 : decode cX3_cross 158 = .ok (.aload_n 0, 1) := by decide +kernel
theorem dX3_cross_159 : decode cX3_cross 159 = .ok (.getfield 25, 3) := by decide +kernel
theorem dX3_cross_162 : decode cX3_cross 162 = .ok (.aload_n 0, 1) := by decide +kernel
theorem dX3_cross_163 : decode cX3_cross 163 = .ok (.getfield 41, 3) := by decide +kernel
theorem dX3_cross_166 : decode cX3_cross 166 = .ok (.iload_n 2, 1) := by decide +kernel
theorem dX3_cross_167 : decode cX3_cross 167 = .ok (.iaload, 1) := by decide +kernel
theorem dX3_cross_168 : decode cX3_cross 168 = .ok (.invokestatic 125, 3) := by decide +kernel
theorem dX3_cross_171 : decode cX3_cross 171 = .ok (.putfield 25, 3) := by decide +kernel
theorem dX3_cross_174 : decode cX3_cross 174 = .ok (.return_, 1) := by decide +kernel
theorem dX3_lieAt_0 : decode cX3_lieAt 0 = .ok (.aload_n 0, 1) := by decide +kernel
theorem dX3_lieAt_1 : decode cX3_lieAt 1 = .ok (.getfield 47, 3) := by decide +kernel
theorem dX3_lieAt_4 : decode cX3_lieAt 4 = .ok (.iload_n 1, 1) := by decide +kernel
theorem dX3_lieAt_5 : decode cX3_lieAt 5 = .ok (.iaload, 1) := by decide +kernel
theorem dX3_lieAt_6 : decode cX3_lieAt 6 = .ok (.ifCond .ne 10, 3) := by decide +kernel
theorem dX3_lieAt_9 : decode cX3_lieAt 9 = .ok (.aload_n 0, 1) := by decide +kernel
theorem dX3_lieAt_10 : decode cX3_lieAt 10 = .ok (.getfield 47, 3) := by decide +kernel
theorem dX3_lieAt_13 : decode cX3_lieAt 13 = .ok (.iload_n 1, 1) := by decide +kernel
theorem dX3_lieAt_14 : decode cX3_lieAt 14 = .ok (.iload_n 2, 1) := by decide +kernel
theorem dX3_lieAt_15 : decode cX3_lieAt 15 = .ok (.iastore, 1) := by decide +kernel
theorem dX3_lieAt_16 : decode cX3_lieAt 16 = .ok (.aload_n 0, 1) := by decide +kernel
theorem dX3_lieAt_17 : decode cX3_lieAt 17 = .ok (.getfield 50, 3) := by decide +kernel
theorem dX3_lieAt_20 : decode cX3_lieAt 20 = .ok (.iload_n 1, 1) := by decide +kernel
theorem dX3_lieAt_21 : decode cX3_lieAt 21 = .ok (.iaload, 1) := by decide +kernel
theorem dX3_lieAt_22 : decode cX3_lieAt 22 = .ok (.iload_n 2, 1) := by decide +kernel
theorem dX3_lieAt_23 : decode cX3_lieAt 23 = .ok (.if_icmp .ne 8, 3) := by decide +kernel
theorem dX3_lieAt_26 : decode cX3_lieAt 26 = .ok (.aload_n 0, 1) := by decide +kernel
theorem dX3_lieAt_27 : decode cX3_lieAt 27 = .ok (.iconst 0, 1) := by decide +kernel
theorem dX3_lieAt_28 : decode cX3_lieAt 28 = .ok (.putfield 58, 3) := by decide +kernel
theorem dX3_lieAt_31 : decode cX3_lieAt 31 = .ok (.aload_n 0, 1) := by decide +kernel
theorem dX3_lieAt_32 : decode cX3_lieAt 32 = .ok (.getfield 50, 3) := by decide +kernel
theorem dX3_lieAt_35 : decode cX3_lieAt 35 = .ok (.iload_n 1, 1) := by decide +kernel
theorem dX3_lieAt_36 : decode cX3_lieAt 36 = .ok (.iload_n 2, 1) := by decide +kernel
theorem dX3_lieAt_37 : decode cX3_lieAt 37 = .ok (.iastore, 1) := by decide +kernel
theorem dX3_lieAt_38 : decode cX3_lieAt 38 = .ok (.iload_n 2, 1) := by decide +kernel
theorem dX3_lieAt_39 : decode cX3_lieAt 39 = .ok (.iconst 1, 1) := by decide +kernel
theorem dX3_lieAt_40 : decode cX3_lieAt 40 = .ok (.if_icmp .ne 13, 3) := by decide +kernel
theorem dX3_lieAt_43 : decode cX3_lieAt 43 = .ok (.aload_n 0, 1) := by decide +kernel
theorem dX3_lieAt_44 : decode cX3_lieAt 44 = .ok (.getfield 44, 3) := by decide +kernel
theorem dX3_lieAt_47 : decode cX3_lieAt 47 = .ok (.iload_n 1, 1) := by decide +kernel
theorem dX3_lieAt_48 : decode cX3_lieAt 48 = .ok (.dup2, 1) := by decide +kernel
theorem dX3_lieAt_49 : decode cX3_lieAt 49 = .ok (.iaload, 1) := by decide +kernel
theorem dX3_lieAt_50 : decode cX3_lieAt 50 = .ok (.iconst 1, 1) := by decide +kernel
theorem dX3_lieAt_51 : decode cX3_lieAt 51 = .ok (.iadd, 1) := by decide +kernel
theorem dX3_lieAt_52 : decode cX3_lieAt 52 = .ok (.iastore, 1) := by decide +kernel
theorem dX3_lieAt_53 : decode cX3_lieAt 53 = .ok (.return_, 1) := by decide +kernel
theorem dX3_hasAllNumbers_0 : decode cX3_hasAllNumbers 0 = .ok (.iconst 1, 1) := by decide +kernel
theorem dX3_hasAllNumbers_1 : decode cX3_hasAllNumbers 1 = .ok (.istore_n 1, 1) := by decide +kernel
theorem dX3_hasAllNumbers_2 : decode cX3_hasAllNumbers 2 = .ok (.iload_n 1, 1) := by decide +kernel
theorem dX3_hasAllNumbers_3 : decode cX3_hasAllNumbers 3 = .ok (.aload_n 0, 1) := by decide +kernel
theorem dX3_hasAllNumbers_4 : decode cX3_hasAllNumbers 4 = .ok (.getfield 22, 3) := by decide +kernel
theorem dX3_hasAllNumbers_7 : decode cX3_hasAllNumbers 7 = .ok (.if_icmp .ge 20, 3) := by decide +kernel
theorem dX3_hasAllNumbers_10 : decode cX3_hasAllNumbers 10 = .ok (.aload_n 0, 1) := by decide +kernel
theorem dX3_hasAllNumbers_11 : decode cX3_hasAllNumbers 11 = .ok (.getfield 41, 3) := by decide +kernel
theorem dX3_hasAllNumbers_14 : decode cX3_hasAllNumbers 14 = .ok (.iload_n 1, 1) := by decide +kernel
theorem dX3_hasAllNumbers_15 : decode cX3_hasAllNumbers 15 = .ok (.iaload, 1) := by decide +kernel
theorem dX3_hasAllNumbers_16 : decode cX3_hasAllNumbers 16 = .ok (.ifCond .ne 5, 3) := by decide +kernel
theorem dX3_hasAllNumbers_19 : decode cX3_hasAllNumbers 19 = .ok (.iconst 0, 1) := by decide +kernel
theorem dX3_hasAllNumbers_20 : decode cX3_hasAllNumbers 20 = .ok (.ireturn, 1) := by decide +kernel
theorem dX3_hasAllNumbers_21 : decode cX3_hasAllNumbers 21 = .ok (.iinc 1 1, 3) := by decide +kernel
theorem dX3_hasAllNumbers_24 : decode cX3_hasAllNumbers 24 = .ok (.goto (-22), 3) := by decide +kernel
theorem dX3_hasAllNumbers_27 : decode cX3_hasAllNumbers 27 = .ok (.iconst 1, 1) := by decide +kernel
theorem dX3_hasAllNumbers_28 : decode cX3_hasAllNumbers 28 = .ok (.ireturn, 1) := by decide +kernel
theorem dX3_goesOnInTurn_0 : decode cX3_goesOnInTurn 0 = .ok (.iconst 1, 1) := by decide +kernel
theorem dX3_goesOnInTurn_1 : decode cX3_goesOnInTurn 1 = .ok (.istore_n 1, 1) := by decide +kernel
theorem dX3_goesOnInTurn_2 : decode cX3_goesOnInTurn 2 = .ok (.iload_n 1, 1) := by decide +kernel
theorem dX3_goesOnInTurn_3 : decode cX3_goesOnInTurn 3 = .ok (.aload_n 0, 1) := by decide +kernel
theorem dX3_goesOnInTurn_4 : decode cX3_goesOnInTurn 4 = .ok (.getfield 22, 3) := by decide +kernel
theorem dX3_goesOnInTurn_7 : decode cX3_goesOnInTurn 7 = .ok (.if_icmp .gt 31, 3) := by decide +kernel
theorem dX3_goesOnInTurn_10 : decode cX3_goesOnInTurn 10 = .ok (.aload_n 0, 1) := by decide +kernel
theorem dX3_goesOnInTurn_11 : decode cX3_goesOnInTurn 11 = .ok (.getfield 50, 3) := by decide +kernel
theorem dX3_goesOnInTurn_14 : decode cX3_goesOnInTurn 14 = .ok (.iload_n 1, 1) := by decide +kernel
theorem dX3_goesOnInTurn_15 : decode cX3_goesOnInTurn 15 = .ok (.iaload, 1) := by decide +kernel
theorem dX3_goesOnInTurn_16 : decode cX3_goesOnInTurn 16 = .ok (.aload_n 0, 1) := by decide +kernel
theorem dX3_goesOnInTurn_17 : decode cX3_goesOnInTurn 17 = .ok (.getfield 47, 3) := by decide +kernel
theorem dX3_goesOnInTurn_20 : decode cX3_goesOnInTurn 20 = .ok (.aload_n 0, 1) := by decide +kernel
theorem dX3_goesOnInTurn_21 : decode cX3_goesOnInTurn 21 = .ok (.getfield 15, 3) := by decide +kernel
theorem dX3_goesOnInTurn_24 : decode cX3_goesOnInTurn 24 = .ok (.iload_n 1, 1) := by decide +kernel
theorem dX3_goesOnInTurn_25 : decode cX3_goesOnInTurn 25 = .ok (.iaload, 1) := by decide +kernel
theorem dX3_goesOnInTurn_26 : decode cX3_goesOnInTurn 26 = .ok (.iaload, 1) := by decide +kernel
theorem dX3_goesOnInTurn_27 : decode cX3_goesOnInTurn 27 = .ok (.if_icmp .ne 5, 3) := by decide +kernel
theorem dX3_goesOnInTurn_30 : decode cX3_goesOnInTurn 30 = .ok (.iconst 0, 1) := by decide +kernel
theorem dX3_goesOnInTurn_31 : decode cX3_goesOnInTurn 31 = .ok (.ireturn, 1) := by decide +kernel
theorem dX3_goesOnInTurn_32 : decode cX3_goesOnInTurn 32 = .ok (.iinc 1 1, 3) := by decide +kernel
theorem dX3_goesOnInTurn_35 : decode cX3_goesOnInTurn 35 = .ok (.goto (-33), 3) := by decide +kernel
theorem dX3_goesOnInTurn_38 : decode cX3_goesOnInTurn 38 = .ok (.iconst 1, 1) := by decide +kernel
theorem dX3_goesOnInTurn_39 : decode cX3_goesOnInTurn 39 = .ok (.ireturn, 1) := by decide +kernel
theorem dX3_walkRings_0 : decode cX3_walkRings 0 = .ok (.aload_n 0, 1) := by decide +kernel
theorem dX3_walkRings_1 : decode cX3_walkRings 1 = .ok (.iconst 0, 1) := by decide +kernel
theorem dX3_walkRings_2 : decode cX3_walkRings 2 = .ok (.putfield 31, 3) := by decide +kernel
theorem dX3_walkRings_5 : decode cX3_walkRings 5 = .ok (.aload_n 0, 1) := by decide +kernel
theorem dX3_walkRings_6 : decode cX3_walkRings 6 = .ok (.iconst 1, 1) := by decide +kernel
theorem dX3_walkRings_7 : decode cX3_walkRings 7 = .ok (.putfield 28, 3) := by decide +kernel
theorem dX3_walkRings_10 : decode cX3_walkRings 10 = .ok (.iconst 0, 1) := by decide +kernel
theorem dX3_walkRings_11 : decode cX3_walkRings 11 = .ok (.istore_n 1, 1) := by decide +kernel
theorem dX3_walkRings_12 : decode cX3_walkRings 12 = .ok (.iconst 1, 1) := by decide +kernel
theorem dX3_walkRings_13 : decode cX3_walkRings 13 = .ok (.istore_n 2, 1) := by decide +kernel
theorem dX3_walkRings_14 : decode cX3_walkRings 14 = .ok (.iload_n 2, 1) := by decide +kernel
theorem dX3_walkRings_15 : decode cX3_walkRings 15 = .ok (.aload_n 0, 1) := by decide +kernel
theorem dX3_walkRings_16 : decode cX3_walkRings 16 = .ok (.getfield 22, 3) := by decide +kernel
theorem dX3_walkRings_19 : decode cX3_walkRings 19 = .ok (.if_icmp .gt 79, 3) := by decide +kernel
theorem dX3_walkRings_22 : decode cX3_walkRings 22 = .ok (.iconst 0, 1) := by decide +kernel
theorem dX3_walkRings_23 : decode cX3_walkRings 23 = .ok (.istore_n 3, 1) := by decide +kernel
theorem dX3_walkRings_24 : decode cX3_walkRings 24 = .ok (.iload_n 2, 1) := by decide +kernel
theorem dX3_walkRings_25 : decode cX3_walkRings 25 = .ok (.istore 4, 2) := by decide +kernel
theorem dX3_walkRings_27 : decode cX3_walkRings 27 = .ok (.iload_n 3, 1) := by decide +kernel
theorem dX3_walkRings_28 : decode cX3_walkRings 28 = .ok (.aload_n 0, 1) := by decide +kernel
theorem dX3_walkRings_29 : decode cX3_walkRings 29 = .ok (.getfield 22, 3) := by decide +kernel
theorem dX3_walkRings_32 : decode cX3_walkRings 32 = .ok (.if_icmp .ge 34, 3) := by decide +kernel
theorem dX3_walkRings_35 : decode cX3_walkRings 35 = .ok (.iload_n 1, 1) := by decide +kernel
theorem dX3_walkRings_36 : decode cX3_walkRings 36 = .ok (.iload 4, 2) := by decide +kernel
theorem dX3_walkRings_38 : decode cX3_walkRings 38 = .ok (.ishr, 1) := by decide +kernel
theorem dX3_walkRings_39 : decode cX3_walkRings 39 = .ok (.iconst 1, 1) := by decide +kernel
theorem dX3_walkRings_40 : decode cX3_walkRings 40 = .ok (.iand, 1) := by decide +kernel
theorem dX3_walkRings_41 : decode cX3_walkRings 41 = .ok (.ifCond .ne 25, 3) := by decide +kernel
theorem dX3_walkRings_44 : decode cX3_walkRings 44 = .ok (.iload_n 1, 1) := by decide +kernel
theorem dX3_walkRings_45 : decode cX3_walkRings 45 = .ok (.iconst 1, 1) := by decide +kernel
theorem dX3_walkRings_46 : decode cX3_walkRings 46 = .ok (.iload 4, 2) := by decide +kernel
theorem dX3_walkRings_48 : decode cX3_walkRings 48 = .ok (.ishl, 1) := by decide +kernel
theorem dX3_walkRings_49 : decode cX3_walkRings 49 = .ok (.ior, 1) := by decide +kernel
theorem dX3_walkRings_50 : decode cX3_walkRings 50 = .ok (.istore_n 1, 1) := by decide +kernel
theorem dX3_walkRings_51 : decode cX3_walkRings 51 = .ok (.aload_n 0, 1) := by decide +kernel
theorem dX3_walkRings_52 : decode cX3_walkRings 52 = .ok (.getfield 15, 3) := by decide +kernel
theorem dX3_walkRings_55 : decode cX3_walkRings 55 = .ok (.iload 4, 2) := by decide +kernel
theorem dX3_walkRings_57 : decode cX3_walkRings 57 = .ok (.iaload, 1) := by decide +kernel
theorem dX3_walkRings_58 : decode cX3_walkRings 58 = .ok (.istore 4, 2) := by decide +kernel
theorem dX3_walkRings_60 : decode cX3_walkRings 60 = .ok (.iinc 3 1, 3) := by decide +kernel
theorem dX3_walkRings_63 : decode cX3_walkRings 63 = .ok (.goto (-36), 3) := by decide +kernel
theorem dX3_walkRings_66 : decode cX3_walkRings 66 = .ok (.iload_n 3, 1) := by decide +kernel
theorem dX3_walkRings_67 : decode cX3_walkRings 67 = .ok (.ifCond .le 25, 3) := by decide +kernel
theorem dX3_walkRings_70 : decode cX3_walkRings 70 = .ok (.aload_n 0, 1) := by decide +kernel
theorem dX3_walkRings_71 : decode cX3_walkRings 71 = .ok (.dup, 1) := by decide +kernel
theorem dX3_walkRings_72 : decode cX3_walkRings 72 = .ok (.getfield 31, 3) := by decide +kernel
theorem dX3_walkRings_75 : decode cX3_walkRings 75 = .ok (.iconst 1, 1) := by decide +kernel
theorem dX3_walkRings_76 : decode cX3_walkRings 76 = .ok (.iadd, 1) := by decide +kernel
theorem dX3_walkRings_77 : decode cX3_walkRings 77 = .ok (.putfield 31, 3) := by decide +kernel
theorem dX3_walkRings_80 : decode cX3_walkRings 80 = .ok (.aload_n 0, 1) := by decide +kernel
theorem dX3_walkRings_81 : decode cX3_walkRings 81 = .ok (.aload_n 0, 1) := by decide +kernel
theorem dX3_walkRings_82 : decode cX3_walkRings 82 = .ok (.getfield 28, 3) := by decide +kernel
theorem dX3_walkRings_85 : decode cX3_walkRings 85 = .ok (.iload_n 3, 1) := by decide +kernel
theorem dX3_walkRings_86 : decode cX3_walkRings 86 = .ok (.invokestatic 128, 3) := by decide +kernel
theorem dX3_walkRings_89 : decode cX3_walkRings 89 = .ok (.putfield 28, 3) := by decide +kernel
theorem dX3_walkRings_92 : decode cX3_walkRings 92 = .ok (.iinc 2 1, 3) := by decide +kernel
theorem dX3_walkRings_95 : decode cX3_walkRings 95 = .ok (.goto (-81), 3) := by decide +kernel
theorem dX3_walkRings_98 : decode cX3_walkRings 98 = .ok (.return_, 1) := by decide +kernel
theorem dX3_leastCommonMultiple_0 : decode cX3_leastCommonMultiple 0 = .ok (.iconst 1, 1) := by decide +kernel
theorem dX3_leastCommonMultiple_1 : decode cX3_leastCommonMultiple 1 = .ok (.istore_n 2, 1) := by decide +kernel
theorem dX3_leastCommonMultiple_2 : decode cX3_leastCommonMultiple 2 = .ok (.iload_n 2, 1) := by decide +kernel
theorem dX3_leastCommonMultiple_3 : decode cX3_leastCommonMultiple 3 = .ok (.iload_n 1, 1) := by decide +kernel
theorem dX3_leastCommonMultiple_4 : decode cX3_leastCommonMultiple 4 = .ok (.if_icmp .ge 21, 3) := by decide +kernel
theorem dX3_leastCommonMultiple_7 : decode cX3_leastCommonMultiple 7 = .ok (.iload_n 0, 1) := by decide +kernel
theorem dX3_leastCommonMultiple_8 : decode cX3_leastCommonMultiple 8 = .ok (.iload_n 2, 1) := by decide +kernel
theorem dX3_leastCommonMultiple_9 : decode cX3_leastCommonMultiple 9 = .ok (.imul, 1) := by decide +kernel
theorem dX3_leastCommonMultiple_10 : decode cX3_leastCommonMultiple 10 = .ok (.iload_n 1, 1) := by decide +kernel
theorem dX3_leastCommonMultiple_11 : decode cX3_leastCommonMultiple 11 = .ok (.irem, 1) := by decide +kernel
theorem dX3_leastCommonMultiple_12 : decode cX3_leastCommonMultiple 12 = .ok (.ifCond .ne 7, 3) := by decide +kernel
theorem dX3_leastCommonMultiple_15 : decode cX3_leastCommonMultiple 15 = .ok (.iload_n 0, 1) := by decide +kernel
theorem dX3_leastCommonMultiple_16 : decode cX3_leastCommonMultiple 16 = .ok (.iload_n 2, 1) := by decide +kernel
theorem dX3_leastCommonMultiple_17 : decode cX3_leastCommonMultiple 17 = .ok (.imul, 1) := by decide +kernel
theorem dX3_leastCommonMultiple_18 : decode cX3_leastCommonMultiple 18 = .ok (.ireturn, 1) := by decide +kernel
theorem dX3_leastCommonMultiple_19 : decode cX3_leastCommonMultiple 19 = .ok (.iinc 2 1, 3) := by decide +kernel
theorem dX3_leastCommonMultiple_22 : decode cX3_leastCommonMultiple 22 = .ok (.goto (-20), 3) := by decide +kernel
theorem dX3_leastCommonMultiple_25 : decode cX3_leastCommonMultiple 25 = .ok (.iload_n 0, 1) := by decide +kernel
theorem dX3_leastCommonMultiple_26 : decode cX3_leastCommonMultiple 26 = .ok (.iload_n 1, 1) := by decide +kernel
theorem dX3_leastCommonMultiple_27 : decode cX3_leastCommonMultiple 27 = .ok (.imul, 1) := by decide +kernel
theorem dX3_leastCommonMultiple_28 : decode cX3_leastCommonMultiple 28 = .ok (.ireturn, 1) := by decide +kernel
theorem dX4_init_0 : decode cX4_init 0 = .ok (.aload_n 0, 1) := by decide +kernel
theorem dX4_init_1 : decode cX4_init 1 = .ok (.invokespecial 3, 3) := by decide +kernel
theorem dX4_init_4 : decode cX4_init 4 = .ok (.aload_n 0, 1) := by decide +kernel
theorem dX4_init_5 : decode cX4_init 5 = .ok (.sipush 300, 3) := by decide +kernel
theorem dX4_init_8 : decode cX4_init 8 = .ok (.newarray .int, 2) := by decide +kernel
theorem dX4_init_10 : decode cX4_init 10 = .ok (.putfield 9, 3) := by decide +kernel
theorem dX4_init_13 : decode cX4_init 13 = .ok (.aload_n 0, 1) := by decide +kernel
theorem dX4_init_14 : decode cX4_init 14 = .ok (.iconst 0, 1) := by decide +kernel
theorem dX4_init_15 : decode cX4_init 15 = .ok (.putfield 15, 3) := by decide +kernel
theorem dX4_init_18 : decode cX4_init 18 = .ok (.aload_n 0, 1) := by decide +kernel
theorem dX4_init_19 : decode cX4_init 19 = .ok (.iconst 0, 1) := by decide +kernel
theorem dX4_init_20 : decode cX4_init 20 = .ok (.putfield 19, 3) := by decide +kernel
theorem dX4_init_23 : decode cX4_init 23 = .ok (.aload_n 0, 1) := by decide +kernel
theorem dX4_init_24 : decode cX4_init 24 = .ok (.iconst (-1), 1) := by decide +kernel
theorem dX4_init_25 : decode cX4_init 25 = .ok (.putfield 22, 3) := by decide +kernel
theorem dX4_init_28 : decode cX4_init 28 = .ok (.aload_n 0, 1) := by decide +kernel
theorem dX4_init_29 : decode cX4_init 29 = .ok (.bipush 8, 2) := by decide +kernel
theorem dX4_init_31 : decode cX4_init 31 = .ok (.newarray .int, 2) := by decide +kernel
theorem dX4_init_33 : decode cX4_init 33 = .ok (.putfield 25, 3) := by decide +kernel
theorem dX4_init_36 : decode cX4_init 36 = .ok (.aload_n 0, 1) := by decide +kernel
theorem dX4_init_37 : decode cX4_init 37 = .ok (.bipush 8, 2) := by decide +kernel
theorem dX4_init_39 : decode cX4_init 39 = .ok (.newarray .int, 2) := by decide +kernel
theorem dX4_init_41 : decode cX4_init 41 = .ok (.putfield 28, 3) := by decide +kernel
theorem dX4_init_44 : decode cX4_init 44 = .ok (.aload_n 0, 1) := by decide +kernel
theorem dX4_init_45 : decode cX4_init 45 = .ok (.iconst 0, 1) := by decide +kernel
theorem dX4_init_46 : decode cX4_init 46 = .ok (.putfield 31, 3) := by decide +kernel
theorem dX4_init_49 : decode cX4_init 49 = .ok (.aload_n 0, 1) := by decide +kernel
theorem dX4_init_50 : decode cX4_init 50 = .ok (.iconst 0, 1) := by decide +kernel
theorem dX4_init_51 : decode cX4_init 51 = .ok (.putfield 34, 3) := by decide +kernel
theorem dX4_init_54 : decode cX4_init 54 = .ok (.aload_n 0, 1) := by decide +kernel
theorem dX4_init_55 : decode cX4_init 55 = .ok (.iconst 0, 1) := by decide +kernel
theorem dX4_init_56 : decode cX4_init 56 = .ok (.putfield 37, 3) := by decide +kernel
theorem dX4_init_59 : decode cX4_init 59 = .ok (.aload_n 0, 1) := by decide +kernel
theorem dX4_init_60 : decode cX4_init 60 = .ok (.iconst 2, 1) := by decide +kernel
theorem dX4_init_61 : decode cX4_init 61 = .ok (.putfield 40, 3) := by decide +kernel
theorem dX4_init_64 : decode cX4_init 64 = .ok (.aload_n 0, 1) := by decide +kernel
theorem dX4_init_65 : decode cX4_init 65 = .ok (.aload_n 1, 1) := by decide +kernel
theorem dX4_init_66 : decode cX4_init 66 = .ok (.putfield 43, 3) := by decide +kernel
theorem dX4_init_69 : decode cX4_init 69 = .ok (.aload_n 0, 1) := by decide +kernel
theorem dX4_init_70 : decode cX4_init 70 = .ok (.aload_n 2, 1) := by decide +kernel
theorem dX4_init_71 : decode cX4_init 71 = .ok (.putfield 47, 3) := by decide +kernel
theorem dX4_init_74 : decode cX4_init 74 = .ok (.return_, 1) := by decide +kernel
theorem dX4_read_0 : decode cX4_read 0 = .ok (.aload_n 0, 1) := by decide +kernel
theorem dX4_read_1 : decode cX4_read 1 = .ok (.iload_n 1, 1) := by decide +kernel
theorem dX4_read_2 : decode cX4_read 2 = .ok (.aload_n 0, 1) := by decide +kernel
theorem dX4_read_3 : decode cX4_read 3 = .ok (.getfield 43, 3) := by decide +kernel
theorem dX4_read_6 : decode cX4_read 6 = .ok (.arraylength, 1) := by decide +kernel
theorem dX4_read_7 : decode cX4_read 7 = .ok (.invokestatic 51, 3) := by decide +kernel
theorem dX4_read_10 : decode cX4_read 10 = .ok (.putfield 34, 3) := by decide +kernel
theorem dX4_read_13 : decode cX4_read 13 = .ok (.aload_n 0, 1) := by decide +kernel
theorem dX4_read_14 : decode cX4_read 14 = .ok (.iload_n 2, 1) := by decide +kernel
theorem dX4_read_15 : decode cX4_read 15 = .ok (.putfield 40, 3) := by decide +kernel
theorem dX4_read_18 : decode cX4_read 18 = .ok (.aload_n 0, 1) := by decide +kernel
theorem dX4_read_19 : decode cX4_read 19 = .ok (.iconst 0, 1) := by decide +kernel
theorem dX4_read_20 : decode cX4_read 20 = .ok (.putfield 37, 3) := by decide +kernel
theorem dX4_read_23 : decode cX4_read 23 = .ok (.aload_n 0, 1) := by decide +kernel
theorem dX4_read_24 : decode cX4_read 24 = .ok (.iconst 0, 1) := by decide +kernel
theorem dX4_read_25 : decode cX4_read 25 = .ok (.putfield 31, 3) := by decide +kernel
theorem dX4_read_28 : decode cX4_read 28 = .ok (.aload_n 0, 1) := by decide +kernel
theorem dX4_read_29 : decode cX4_read 29 = .ok (.iconst 0, 1) := by decide +kernel
theorem dX4_read_30 : decode cX4_read 30 = .ok (.putfield 15, 3) := by decide +kernel
theorem dX4_read_33 : decode cX4_read 33 = .ok (.aload_n 0, 1) := by decide +kernel
theorem dX4_read_34 : decode cX4_read 34 = .ok (.iconst 0, 1) := by decide +kernel
theorem dX4_read_35 : decode cX4_read 35 = .ok (.putfield 19, 3) := by decide +kernel
theorem dX4_read_38 : decode cX4_read 38 = .ok (.aload_n 0, 1) := by decide +kernel
theorem dX4_read_39 : decode cX4_read 39 = .ok (.iconst (-1), 1) := by decide +kernel
theorem dX4_read_40 : decode cX4_read 40 = .ok (.putfield 22, 3) := by decide +kernel
theorem dX4_read_43 : decode cX4_read 43 = .ok (.aload_n 0, 1) := by decide +kernel
theorem dX4_read_44 : decode cX4_read 44 = .ok (.invokevirtual 57, 3) := by decide +kernel
theorem dX4_read_47 : decode cX4_read 47 = .ok (.return_, 1) := by decide +kernel
theorem dX4_readItems_0 : decode cX4_readItems 0 = .ok (.iconst 0, 1) := by decide +kernel
theorem dX4_readItems_1 : decode cX4_readItems 1 = .ok (.istore_n 1, 1) := by decide +kernel
theorem dX4_readItems_2 : decode cX4_readItems 2 = .ok (.iload_n 1, 1) := by decide +kernel
theorem dX4_readItems_3 : decode cX4_readItems 3 = .ok (.aload_n 0, 1) := by decide +kernel
theorem dX4_readItems_4 : decode cX4_readItems 4 = .ok (.getfield 34, 3) := by decide +kernel
theorem dX4_readItems_7 : decode cX4_readItems 7 = .ok (.if_icmp .gt 48, 3) := by decide +kernel
theorem dX4_readItems_10 : decode cX4_readItems 10 = .ok (.aload_n 0, 1) := by decide +kernel
theorem dX4_readItems_11 : decode cX4_readItems 11 = .ok (.getfield 19, 3) := by decide +kernel
theorem dX4_readItems_14 : decode cX4_readItems 14 = .ok (.ifCond .ne 41, 3) := by decide +kernel
theorem dX4_readItems_17 : decode cX4_readItems 17 = .ok (.aload_n 0, 1) := by decide +kernel
theorem dX4_readItems_18 : decode cX4_readItems 18 = .ok (.invokevirtual 60, 3) := by decide +kernel
theorem dX4_readItems_21 : decode cX4_readItems 21 = .ok (.istore_n 2, 1) := by decide +kernel
theorem dX4_readItems_22 : decode cX4_readItems 22 = .ok (.iload_n 2, 1) := by decide +kernel
theorem dX4_readItems_23 : decode cX4_readItems 23 = .ok (.iconst (-1), 1) := by decide +kernel
theorem dX4_readItems_24 : decode cX4_readItems 24 = .ok (.if_icmp .ne 20, 3) := by decide +kernel
theorem dX4_readItems_27 : decode cX4_readItems 27 = .ok (.aload_n 0, 1) := by decide +kernel
theorem dX4_readItems_28 : decode cX4_readItems 28 = .ok (.getfield 31, 3) := by decide +kernel
theorem dX4_readItems_31 : decode cX4_readItems 31 = .ok (.ifCond .le 12, 3) := by decide +kernel
theorem dX4_readItems_34 : decode cX4_readItems 34 = .ok (.aload_n 0, 1) := by decide +kernel
theorem dX4_readItems_35 : decode cX4_readItems 35 = .ok (.iconst 1, 1) := by decide +kernel
theorem dX4_readItems_36 : decode cX4_readItems 36 = .ok (.aload_n 0, 1) := by decide +kernel
theorem dX4_readItems_37 : decode cX4_readItems 37 = .ok (.getfield 37, 3) := by decide +kernel
theorem dX4_readItems_40 : decode cX4_readItems 40 = .ok (.invokevirtual 64, 3) := by decide +kernel
theorem dX4_readItems_43 : decode cX4_readItems 43 = .ok (.return_, 1) := by decide +kernel
theorem dX4_readItems_44 : decode cX4_readItems 44 = .ok (.aload_n 0, 1) := by decide +kernel
theorem dX4_readItems_45 : decode cX4_readItems 45 = .ok (.iload_n 2, 1) := by decide +kernel
theorem dX4_readItems_46 : decode cX4_readItems 46 = .ok (.invokevirtual 68, 3) := by decide +kernel
theorem dX4_readItems_49 : decode cX4_readItems 49 = .ok (.iinc 1 1, 3) := by decide +kernel
theorem dX4_readItems_52 : decode cX4_readItems 52 = .ok (.goto (-50), 3) := by decide +kernel
theorem dX4_readItems_55 : decode cX4_readItems 55 = .ok (.return_, 1) := by decide +kernel
theorem dX4_readItem_0 : decode cX4_readItem 0 = .ok (.iload_n 1, 1) := by decide +kernel
theorem dX4_readItem_1 : decode cX4_readItem 1 = .ok (.invokestatic 72, 3) := by decide +kernel
theorem dX4_readItem_4 : decode cX4_readItem 4 = .ok (.ifCond .eq 10, 3) := by decide +kernel
theorem dX4_readItem_7 : decode cX4_readItem 7 = .ok (.aload_n 0, 1) := by decide +kernel
theorem dX4_readItem_8 : decode cX4_readItem 8 = .ok (.invokevirtual 76, 3) := by decide +kernel
theorem dX4_readItem_11 : decode cX4_readItem 11 = .ok (.goto 88, 3) := by decide +kernel
theorem dX4_readItem_14 : decode cX4_readItem 14 = .ok (.iload_n 1, 1) := by decide +kernel
theorem dX4_readItem_15 : decode cX4_readItem 15 = .ok (.bipush 112, 2) := by decide +kernel
theorem dX4_readItem_17 : decode cX4_readItem 17 = .ok (.if_icmp .ne 10, 3) := by decide +kernel
theorem dX4_readItem_20 : decode cX4_readItem 20 = .ok (.aload_n 0, 1) := by decide +kernel
theorem dX4_readItem_21 : decode cX4_readItem 21 = .ok (.invokevirtual 79, 3) := by decide +kernel
theorem dX4_readItem_24 : decode cX4_readItem 24 = .ok (.goto 75, 3) := by decide +kernel
theorem dX4_readItem_27 : decode cX4_readItem 27 = .ok (.iload_n 1, 1) := by decide +kernel
theorem dX4_readItem_28 : decode cX4_readItem 28 = .ok (.bipush 117, 2) := by decide +kernel
theorem dX4_readItem_30 : decode cX4_readItem 30 = .ok (.if_icmp .ne 11, 3) := by decide +kernel
theorem dX4_readItem_33 : decode cX4_readItem 33 = .ok (.aload_n 0, 1) := by decide +kernel
theorem dX4_readItem_34 : decode cX4_readItem 34 = .ok (.iconst 0, 1) := by decide +kernel
theorem dX4_readItem_35 : decode cX4_readItem 35 = .ok (.invokevirtual 82, 3) := by decide +kernel
theorem dX4_readItem_38 : decode cX4_readItem 38 = .ok (.goto 61, 3) := by decide +kernel
theorem dX4_readItem_41 : decode cX4_readItem 41 = .ok (.iload_n 1, 1) := by decide +kernel
theorem dX4_readItem_42 : decode cX4_readItem 42 = .ok (.bipush 109, 2) := by decide +kernel
theorem dX4_readItem_44 : decode cX4_readItem 44 = .ok (.if_icmp .ne 11, 3) := by decide +kernel
theorem dX4_readItem_47 : decode cX4_readItem 47 = .ok (.aload_n 0, 1) := by decide +kernel
theorem dX4_readItem_48 : decode cX4_readItem 48 = .ok (.iconst (-1), 1) := by decide +kernel
theorem dX4_readItem_49 : decode cX4_readItem 49 = .ok (.invokevirtual 82, 3) := by decide +kernel
theorem dX4_readItem_52 : decode cX4_readItem 52 = .ok (.goto 47, 3) := by decide +kernel
theorem dX4_readItem_55 : decode cX4_readItem 55 = .ok (.iload_n 1, 1) := by decide +kernel
theorem dX4_readItem_56 : decode cX4_readItem 56 = .ok (.bipush 116, 2) := by decide +kernel
theorem dX4_readItem_58 : decode cX4_readItem 58 = .ok (.if_icmp .ne 12, 3) := by decide +kernel
theorem dX4_readItem_61 : decode cX4_readItem 61 = .ok (.aload_n 0, 1) := by decide +kernel
theorem dX4_readItem_62 : decode cX4_readItem 62 = .ok (.bipush (-2), 2) := by decide +kernel
theorem dX4_readItem_64 : decode cX4_readItem 64 = .ok (.invokevirtual 82, 3) := by decide +kernel
theorem dX4_readItem_67 : decode cX4_readItem 67 = .ok (.goto 32, 3) := by decide +kernel
theorem dX4_readItem_70 : decode cX4_readItem 70 = .ok (.iload_n 1, 1) := by decide +kernel
theorem dX4_readItem_71 : decode cX4_readItem 71 = .ok (.bipush 41, 2) := by decide +kernel
theorem dX4_readItem_73 : decode cX4_readItem 73 = .ok (.if_icmp .ne 17, 3) := by decide +kernel
theorem dX4_readItem_76 : decode cX4_readItem 76 = .ok (.aload_n 0, 1) := by decide +kernel
theorem dX4_readItem_77 : decode cX4_readItem 77 = .ok (.getfield 31, 3) := by decide +kernel
theorem dX4_readItem_80 : decode cX4_readItem 80 = .ok (.ifCond .le 10, 3) := by decide +kernel
theorem dX4_readItem_83 : decode cX4_readItem 83 = .ok (.aload_n 0, 1) := by decide +kernel
theorem dX4_readItem_84 : decode cX4_readItem 84 = .ok (.invokevirtual 85, 3) := by decide +kernel
theorem dX4_readItem_87 : decode cX4_readItem 87 = .ok (.goto 12, 3) := by decide +kernel
theorem dX4_readItem_90 : decode cX4_readItem 90 = .ok (.aload_n 0, 1) := by decide +kernel
theorem dX4_readItem_91 : decode cX4_readItem 91 = .ok (.iconst 1, 1) := by decide +kernel
theorem dX4_readItem_92 : decode cX4_readItem 92 = .ok (.aload_n 0, 1) := by decide +kernel
theorem dX4_readItem_93 : decode cX4_readItem 93 = .ok (.getfield 37, 3) := by decide +kernel
theorem dX4_readItem_96 : decode cX4_readItem 96 = .ok (.invokevirtual 64, 3) := by decide +kernel
theorem dX4_readItem_99 : decode cX4_readItem 99 = .ok (.return_, 1) := by decide +kernel
theorem dX4_readNumbered_0 : decode cX4_readNumbered 0 = .ok (.aload_n 0, 1) := by decide +kernel
theorem dX4_readNumbered_1 : decode cX4_readNumbered 1 = .ok (.getfield 37, 3) := by decide +kernel
theorem dX4_readNumbered_4 : decode cX4_readNumbered 4 = .ok (.istore_n 1, 1) := by decide +kernel
theorem dX4_readNumbered_5 : decode cX4_readNumbered 5 = .ok (.aload_n 0, 1) := by decide +kernel
theorem dX4_readNumbered_6 : decode cX4_readNumbered 6 = .ok (.invokevirtual 88, 3) := by decide +kernel
theorem dX4_readNumbered_9 : decode cX4_readNumbered 9 = .ok (.istore_n 2, 1) := by decide +kernel
theorem dX4_readNumbered_10 : decode cX4_readNumbered 10 = .ok (.aload_n 0, 1) := by decide +kernel
theorem dX4_readNumbered_11 : decode cX4_readNumbered 11 = .ok (.invokevirtual 60, 3) := by decide +kernel
theorem dX4_readNumbered_14 : decode cX4_readNumbered 14 = .ok (.istore_n 3, 1) := by decide +kernel
theorem dX4_readNumbered_15 : decode cX4_readNumbered 15 = .ok (.iload_n 3, 1) := by decide +kernel
theorem dX4_readNumbered_16 : decode cX4_readNumbered 16 = .ok (.bipush 43, 2) := by decide +kernel
theorem dX4_readNumbered_18 : decode cX4_readNumbered 18 = .ok (.if_icmp .eq 9, 3) := by decide +kernel
theorem dX4_readNumbered_21 : decode cX4_readNumbered 21 = .ok (.iload_n 3, 1) := by decide +kernel
theorem dX4_readNumbered_22 : decode cX4_readNumbered 22 = .ok (.bipush 45, 2) := by decide +kernel
theorem dX4_readNumbered_24 : decode cX4_readNumbered 24 = .ok (.if_icmp .ne 23, 3) := by decide +kernel
theorem dX4_readNumbered_27 : decode cX4_readNumbered 27 = .ok (.aload_n 0, 1) := by decide +kernel
theorem dX4_readNumbered_28 : decode cX4_readNumbered 28 = .ok (.iload_n 3, 1) := by decide +kernel
theorem dX4_readNumbered_29 : decode cX4_readNumbered 29 = .ok (.bipush 43, 2) := by decide +kernel
theorem dX4_readNumbered_31 : decode cX4_readNumbered 31 = .ok (.if_icmp .ne 7, 3) := by decide +kernel
theorem dX4_readNumbered_34 : decode cX4_readNumbered 34 = .ok (.iconst 1, 1) := by decide +kernel
theorem dX4_readNumbered_35 : decode cX4_readNumbered 35 = .ok (.goto 4, 3) := by decide +kernel
theorem dX4_readNumbered_38 : decode cX4_readNumbered 38 = .ok (.iconst (-1), 1) := by decide +kernel
theorem dX4_readNumbered_39 : decode cX4_readNumbered 39 = .ok (.iload_n 2, 1) := by decide +kernel
theorem dX4_readNumbered_40 : decode cX4_readNumbered 40 = .ok (.iload_n 1, 1) := by decide +kernel
theorem dX4_readNumbered_41 : decode cX4_readNumbered 41 = .ok (.invokevirtual 91, 3) := by decide +kernel
theorem dX4_readNumbered_44 : decode cX4_readNumbered 44 = .ok (.goto 46, 3) := by decide +kernel
theorem dX4_readNumbered_47 : decode cX4_readNumbered 47 = .ok (.iload_n 3, 1) := by decide +kernel
theorem dX4_readNumbered_48 : decode cX4_readNumbered 48 = .ok (.bipush 40, 2) := by decide +kernel
theorem dX4_readNumbered_50 : decode cX4_readNumbered 50 = .ok (.if_icmp .eq 15, 3) := by decide +kernel
theorem dX4_readNumbered_53 : decode cX4_readNumbered 53 = .ok (.aload_n 0, 1) := by decide +kernel
theorem dX4_readNumbered_54 : decode cX4_readNumbered 54 = .ok (.iconst 1, 1) := by decide +kernel
theorem dX4_readNumbered_55 : decode cX4_readNumbered 55 = .ok (.aload_n 0, 1) := by decide +kernel
theorem dX4_readNumbered_56 : decode cX4_readNumbered 56 = .ok (.getfield 37, 3) := by decide +kernel
theorem dX4_readNumbered_59 : decode cX4_readNumbered 59 = .ok (.invokevirtual 64, 3) := by decide +kernel
theorem dX4_readNumbered_62 : decode cX4_readNumbered 62 = .ok (.goto 28, 3) := by decide +kernel
theorem dX4_readNumbered_65 : decode cX4_readNumbered 65 = .ok (.iload_n 2, 1) := by decide +kernel
theorem dX4_readNumbered_66 : decode cX4_readNumbered 66 = .ok (.iconst 1, 1) := by decide +kernel
theorem dX4_readNumbered_67 : decode cX4_readNumbered 67 = .ok (.if_icmp .lt 9, 3) := by decide +kernel
theorem dX4_readNumbered_70 : decode cX4_readNumbered 70 = .ok (.iload_n 2, 1) := by decide +kernel
theorem dX4_readNumbered_71 : decode cX4_readNumbered 71 = .ok (.bipush 50, 2) := by decide +kernel
theorem dX4_readNumbered_73 : decode cX4_readNumbered 73 = .ok (.if_icmp .le 12, 3) := by decide +kernel
theorem dX4_readNumbered_76 : decode cX4_readNumbered 76 = .ok (.aload_n 0, 1) := by decide +kernel
theorem dX4_readNumbered_77 : decode cX4_readNumbered 77 = .ok (.iconst 2, 1) := by decide +kernel
theorem dX4_readNumbered_78 : decode cX4_readNumbered 78 = .ok (.iload_n 1, 1) := by decide +kernel
theorem dX4_readNumbered_79 : decode cX4_readNumbered 79 = .ok (.invokevirtual 64, 3) := by decide +kernel
theorem dX4_readNumbered_82 : decode cX4_readNumbered 82 = .ok (.goto 8, 3) := by decide +kernel
theorem dX4_readNumbered_85 : decode cX4_readNumbered 85 = .ok (.aload_n 0, 1) := by decide +kernel
theorem dX4_readNumbered_86 : decode cX4_readNumbered 86 = .ok (.iload_n 2, 1) := by decide +kernel
theorem dX4_readNumbered_87 : decode cX4_readNumbered 87 = .ok (.invokevirtual 95, 3) := by decide +kernel
theorem dX4_readNumbered_90 : decode cX4_readNumbered 90 = .ok (.return_, 1) := by decide +kernel
theorem dX4_addCrossing_0 : decode cX4_addCrossing 0 = .ok (.iload_n 2, 1) := by decide +kernel
theorem dX4_addCrossing_1 : decode cX4_addCrossing 1 = .ok (.iconst 1, 1) := by decide +kernel
theorem dX4_addCrossing_2 : decode cX4_addCrossing 2 = .ok (.if_icmp .lt 11, 3) := by decide +kernel
theorem dX4_addCrossing_5 : decode cX4_addCrossing 5 = .ok (.iload_n 2, 1) := by decide +kernel
theorem dX4_addCrossing_6 : decode cX4_addCrossing 6 = .ok (.aload_n 0, 1) := by decide +kernel
theorem dX4_addCrossing_7 : decode cX4_addCrossing 7 = .ok (.getfield 40, 3) := by decide +kernel
theorem dX4_addCrossing_10 : decode cX4_addCrossing 10 = .ok (.if_icmp .lt 12, 3) := by decide +kernel
theorem dX4_addCrossing_13 : decode cX4_addCrossing 13 = .ok (.aload_n 0, 1) := by decide +kernel
theorem dX4_addCrossing_14 : decode cX4_addCrossing 14 = .ok (.iconst 2, 1) := by decide +kernel
theorem dX4_addCrossing_15 : decode cX4_addCrossing 15 = .ok (.iload_n 3, 1) := by decide +kernel
theorem dX4_addCrossing_16 : decode cX4_addCrossing 16 = .ok (.invokevirtual 64, 3) := by decide +kernel
theorem dX4_addCrossing_19 : decode cX4_addCrossing 19 = .ok (.goto 57, 3) := by decide +kernel
theorem dX4_addCrossing_22 : decode cX4_addCrossing 22 = .ok (.aload_n 0, 1) := by decide +kernel
theorem dX4_addCrossing_23 : decode cX4_addCrossing 23 = .ok (.getfield 15, 3) := by decide +kernel
theorem dX4_addCrossing_26 : decode cX4_addCrossing 26 = .ok (.sipush 300, 3) := by decide +kernel
theorem dX4_addCrossing_29 : decode cX4_addCrossing 29 = .ok (.if_icmp .lt 15, 3) := by decide +kernel
theorem dX4_addCrossing_32 : decode cX4_addCrossing 32 = .ok (.aload_n 0, 1) := by decide +kernel
theorem dX4_addCrossing_33 : decode cX4_addCrossing 33 = .ok (.iconst 2, 1) := by decide +kernel
theorem dX4_addCrossing_34 : decode cX4_addCrossing 34 = .ok (.aload_n 0, 1) := by decide +kernel
theorem dX4_addCrossing_35 : decode cX4_addCrossing 35 = .ok (.getfield 37, 3) := by decide +kernel
theorem dX4_addCrossing_38 : decode cX4_addCrossing 38 = .ok (.invokevirtual 64, 3) := by decide +kernel
theorem dX4_addCrossing_41 : decode cX4_addCrossing 41 = .ok (.goto 35, 3) := by decide +kernel
theorem dX4_addCrossing_44 : decode cX4_addCrossing 44 = .ok (.aload_n 0, 1) := by decide +kernel
theorem dX4_addCrossing_45 : decode cX4_addCrossing 45 = .ok (.getfield 9, 3) := by decide +kernel
theorem dX4_addCrossing_48 : decode cX4_addCrossing 48 = .ok (.aload_n 0, 1) := by decide +kernel
theorem dX4_addCrossing_49 : decode cX4_addCrossing 49 = .ok (.getfield 15, 3) := by decide +kernel
theorem dX4_addCrossing_52 : decode cX4_addCrossing 52 = .ok (.iload_n 1, 1) := by decide +kernel
theorem dX4_addCrossing_53 : decode cX4_addCrossing 53 = .ok (.iload_n 2, 1) := by decide +kernel
theorem dX4_addCrossing_54 : decode cX4_addCrossing 54 = .ok (.imul, 1) := by decide +kernel
theorem dX4_addCrossing_55 : decode cX4_addCrossing 55 = .ok (.iastore, 1) := by decide +kernel
theorem dX4_addCrossing_56 : decode cX4_addCrossing 56 = .ok (.aload_n 0, 1) := by decide +kernel
theorem dX4_addCrossing_57 : decode cX4_addCrossing 57 = .ok (.dup, 1) := by decide +kernel
theorem dX4_addCrossing_58 : decode cX4_addCrossing 58 = .ok (.getfield 15, 3) := by decide +kernel
theorem dX4_addCrossing_61 : decode cX4_addCrossing 61 = .ok (.iconst 1, 1) := by decide +kernel
theorem dX4_addCrossing_62 : decode cX4_addCrossing 62 = .ok (.iadd, 1) := by decide +kernel
theorem dX4_addCrossing_63 : decode cX4_addCrossing 63 = .ok (.putfield 15, 3) := by decide +kernel
theorem dX4_addCrossing_66 : decode cX4_addCrossing 66 = .ok (.aload_n 0, 1) := by decide +kernel
theorem dX4_addCrossing_67 : decode cX4_addCrossing 67 = .ok (.dup, 1) := by decide +kernel
theorem dX4_addCrossing_68 : decode cX4_addCrossing 68 = .ok (.getfield 37, 3) := by decide +kernel
theorem dX4_addCrossing_71 : decode cX4_addCrossing 71 = .ok (.iconst 1, 1) := by decide +kernel
theorem dX4_addCrossing_72 : decode cX4_addCrossing 72 = .ok (.iadd, 1) := by decide +kernel
theorem dX4_addCrossing_73 : decode cX4_addCrossing 73 = .ok (.putfield 37, 3) := by decide +kernel
theorem dX4_addCrossing_76 : decode cX4_addCrossing 76 = .ok (.return_, 1) := by decide +kernel
theorem dX4_readCopy_0 : decode cX4_readCopy 0 = .ok (.aload_n 0, 1) := by decide +kernel
theorem dX4_readCopy_1 : decode cX4_readCopy 1 = .ok (.dup, 1) := by decide +kernel
theorem dX4_readCopy_2 : decode cX4_readCopy 2 = .ok (.getfield 37, 3) := by decide +kernel
theorem dX4_readCopy_5 : decode cX4_readCopy 5 = .ok (.iconst 1, 1) := by decide +kernel
theorem dX4_readCopy_6 : decode cX4_readCopy 6 = .ok (.iadd, 1) := by decide +kernel
theorem dX4_readCopy_7 : decode cX4_readCopy 7 = .ok (.putfield 37, 3) := by decide +kernel
theorem dX4_readCopy_10 : decode cX4_readCopy 10 = .ok (.aload_n 0, 1) := by decide +kernel
theorem dX4_readCopy_11 : decode cX4_readCopy 11 = .ok (.invokevirtual 60, 3) := by decide +kernel
theorem dX4_readCopy_14 : decode cX4_readCopy 14 = .ok (.invokestatic 72, 3) := by decide +kernel
theorem dX4_readCopy_17 : decode cX4_readCopy 17 = .ok (.ifCond .ne 13, 3) := by decide +kernel
theorem dX4_readCopy_20 : decode cX4_readCopy 20 = .ok (.aload_n 0, 1) := by decide +kernel
theorem dX4_readCopy_21 : decode cX4_readCopy 21 = .ok (.iconst 1, 1) := by decide +kernel
theorem dX4_readCopy_22 : decode cX4_readCopy 22 = .ok (.aload_n 0, 1) := by decide +kernel
theorem dX4_readCopy_23 : decode cX4_readCopy 23 = .ok (.getfield 37, 3) := by decide +kernel
theorem dX4_readCopy_26 : decode cX4_readCopy 26 = .ok (.invokevirtual 64, 3) := by decide +kernel
theorem dX4_readCopy_29 : decode cX4_readCopy 29 = .ok (.return_, 1) := by decide +kernel
theorem dX4_readCopy_30 : decode cX4_readCopy 30 = .ok (.aload_n 0, 1) := by decide +kernel
theorem dX4_readCopy_31 : decode cX4_readCopy 31 = .ok (.getfield 37, 3) := by decide +kernel
theorem dX4_readCopy_34 : decode cX4_readCopy 34 = .ok (.istore_n 1, 1) := by decide +kernel
theorem dX4_readCopy_35 : decode cX4_readCopy 35 = .ok (.aload_n 0, 1) := by decide +kernel
theorem dX4_readCopy_36 : decode cX4_readCopy 36 = .ok (.invokevirtual 88, 3) := by decide +kernel
theorem dX4_readCopy_39 : decode cX4_readCopy 39 = .ok (.istore_n 2, 1) := by decide +kernel
theorem dX4_readCopy_40 : decode cX4_readCopy 40 = .ok (.aload_n 0, 1) := by decide +kernel
theorem dX4_readCopy_41 : decode cX4_readCopy 41 = .ok (.getfield 37, 3) := by decide +kernel
theorem dX4_readCopy_44 : decode cX4_readCopy 44 = .ok (.iload_n 1, 1) := by decide +kernel
theorem dX4_readCopy_45 : decode cX4_readCopy 45 = .ok (.isub, 1) := by decide +kernel
theorem dX4_readCopy_46 : decode cX4_readCopy 46 = .ok (.iconst 2, 1) := by decide +kernel
theorem dX4_readCopy_47 : decode cX4_readCopy 47 = .ok (.if_icmp .gt 12, 3) := by decide +kernel
theorem dX4_readCopy_50 : decode cX4_readCopy 50 = .ok (.iload_n 2, 1) := by decide +kernel
theorem dX4_readCopy_51 : decode cX4_readCopy 51 = .ok (.aload_n 0, 1) := by decide +kernel
theorem dX4_readCopy_52 : decode cX4_readCopy 52 = .ok (.getfield 47, 3) := by decide +kernel
theorem dX4_readCopy_55 : decode cX4_readCopy 55 = .ok (.arraylength, 1) := by decide +kernel
theorem dX4_readCopy_56 : decode cX4_readCopy 56 = .ok (.if_icmp .lt 12, 3) := by decide +kernel
theorem dX4_readCopy_59 : decode cX4_readCopy 59 = .ok (.aload_n 0, 1) := by decide +kernel
theorem dX4_readCopy_60 : decode cX4_readCopy 60 = .ok (.iconst 2, 1) := by decide +kernel
theorem dX4_readCopy_61 : decode cX4_readCopy 61 = .ok (.iload_n 1, 1) := by decide +kernel
theorem dX4_readCopy_62 : decode cX4_readCopy 62 = .ok (.invokevirtual 64, 3) := by decide +kernel
theorem dX4_readCopy_65 : decode cX4_readCopy 65 = .ok (.goto 32, 3) := by decide +kernel
theorem dX4_readCopy_68 : decode cX4_readCopy 68 = .ok (.aload_n 0, 1) := by decide +kernel
theorem dX4_readCopy_69 : decode cX4_readCopy 69 = .ok (.getfield 47, 3) := by decide +kernel
theorem dX4_readCopy_72 : decode cX4_readCopy 72 = .ok (.iload_n 2, 1) := by decide +kernel
theorem dX4_readCopy_73 : decode cX4_readCopy 73 = .ok (.aaload, 1) := by decide +kernel
theorem dX4_readCopy_74 : decode cX4_readCopy 74 = .ok (.ifnonnull 12, 3) := by decide +kernel
theorem dX4_readCopy_77 : decode cX4_readCopy 77 = .ok (.aload_n 0, 1) := by decide +kernel
theorem dX4_readCopy_78 : decode cX4_readCopy 78 = .ok (.iconst 3, 1) := by decide +kernel
theorem dX4_readCopy_79 : decode cX4_readCopy 79 = .ok (.iload_n 1, 1) := by decide +kernel
theorem dX4_readCopy_80 : decode cX4_readCopy 80 = .ok (.invokevirtual 64, 3) := by decide +kernel
theorem dX4_readCopy_83 : decode cX4_readCopy 83 = .ok (.goto 14, 3) := by decide +kernel
theorem dX4_readCopy_86 : decode cX4_readCopy 86 = .ok (.aload_n 0, 1) := by decide +kernel
theorem dX4_readCopy_87 : decode cX4_readCopy 87 = .ok (.aload_n 0, 1) := by decide +kernel
theorem dX4_readCopy_88 : decode cX4_readCopy 88 = .ok (.getfield 47, 3) := by decide +kernel
theorem dX4_readCopy_91 : decode cX4_readCopy 91 = .ok (.iload_n 2, 1) := by decide +kernel
theorem dX4_readCopy_92 : decode cX4_readCopy 92 = .ok (.aaload, 1) := by decide +kernel
theorem dX4_readCopy_93 : decode cX4_readCopy 93 = .ok (.iload_n 1, 1) := by decide +kernel
theorem dX4_readCopy_94 : decode cX4_readCopy 94 = .ok (.invokevirtual 98, 3) := by decide +kernel
theorem dX4_readCopy_97 : decode cX4_readCopy 97 = .ok (.return_, 1) := by decide +kernel
theorem dX4_addCopy_0 : decode cX4_addCopy 0 = .ok (.aload_n 1, 1) := by decide +kernel
theorem dX4_addCopy_1 : decode cX4_addCopy 1 = .ok (.getfield 102, 3) := by decide +kernel
theorem dX4_addCopy_4 : decode cX4_addCopy 4 = .ok (.sipush 300, 3) := by decide +kernel
theorem dX4_addCopy_7 : decode cX4_addCopy 7 = .ok (.aload_n 0, 1) := by decide +kernel
theorem dX4_addCopy_8 : decode cX4_addCopy 8 = .ok (.getfield 15, 3) := by decide +kernel
theorem dX4_addCopy_11 : decode cX4_addCopy 11 = .ok (.isub, 1) := by decide +kernel
theorem dX4_addCopy_12 : decode cX4_addCopy 12 = .ok (.if_icmp .le 12, 3) := by decide +kernel
theorem dX4_addCopy_15 : decode cX4_addCopy 15 = .ok (.aload_n 0, 1) := by decide +kernel
theorem dX4_addCopy_16 : decode cX4_addCopy 16 = .ok (.iconst 2, 1) := by decide +kernel
theorem dX4_addCopy_17 : decode cX4_addCopy 17 = .ok (.iload_n 2, 1) := by decide +kernel
theorem dX4_addCopy_18 : decode cX4_addCopy 18 = .ok (.invokevirtual 64, 3) := by decide +kernel
theorem dX4_addCopy_21 : decode cX4_addCopy 21 = .ok (.goto 56, 3) := by decide +kernel
theorem dX4_addCopy_24 : decode cX4_addCopy 24 = .ok (.aload_n 1, 1) := by decide +kernel
theorem dX4_addCopy_25 : decode cX4_addCopy 25 = .ok (.getfield 105, 3) := by decide +kernel
theorem dX4_addCopy_28 : decode cX4_addCopy 28 = .ok (.aload_n 0, 1) := by decide +kernel
theorem dX4_addCopy_29 : decode cX4_addCopy 29 = .ok (.getfield 40, 3) := by decide +kernel
theorem dX4_addCopy_32 : decode cX4_addCopy 32 = .ok (.if_icmp .eq 12, 3) := by decide +kernel
theorem dX4_addCopy_35 : decode cX4_addCopy 35 = .ok (.aload_n 0, 1) := by decide +kernel
theorem dX4_addCopy_36 : decode cX4_addCopy 36 = .ok (.iconst 3, 1) := by decide +kernel
theorem dX4_addCopy_37 : decode cX4_addCopy 37 = .ok (.iload_n 2, 1) := by decide +kernel
theorem dX4_addCopy_38 : decode cX4_addCopy 38 = .ok (.invokevirtual 64, 3) := by decide +kernel
theorem dX4_addCopy_41 : decode cX4_addCopy 41 = .ok (.goto 36, 3) := by decide +kernel
theorem dX4_addCopy_44 : decode cX4_addCopy 44 = .ok (.aload_n 1, 1) := by decide +kernel
theorem dX4_addCopy_45 : decode cX4_addCopy 45 = .ok (.getfield 106, 3) := by decide +kernel
theorem dX4_addCopy_48 : decode cX4_addCopy 48 = .ok (.iconst 0, 1) := by decide +kernel
theorem dX4_addCopy_49 : decode cX4_addCopy 49 = .ok (.aload_n 0, 1) := by decide +kernel
theorem dX4_addCopy_50 : decode cX4_addCopy 50 = .ok (.getfield 9, 3) := by decide +kernel
theorem dX4_addCopy_53 : decode cX4_addCopy 53 = .ok (.aload_n 0, 1) := by decide +kernel
theorem dX4_addCopy_54 : decode cX4_addCopy 54 = .ok (.getfield 15, 3) := by decide +kernel
theorem dX4_addCopy_57 : decode cX4_addCopy 57 = .ok (.aload_n 1, 1) := by decide +kernel
theorem dX4_addCopy_58 : decode cX4_addCopy 58 = .ok (.getfield 102, 3) := by decide +kernel
theorem dX4_addCopy_61 : decode cX4_addCopy 61 = .ok (.invokestatic 107, 3) := by decide +kernel
theorem dX4_addCopy_64 : decode cX4_addCopy 64 = .ok (.aload_n 0, 1) := by decide +kernel
theorem dX4_addCopy_65 : decode cX4_addCopy 65 = .ok (.dup, 1) := by decide +kernel
theorem dX4_addCopy_66 : decode cX4_addCopy 66 = .ok (.getfield 15, 3) := by decide +kernel
theorem dX4_addCopy_69 : decode cX4_addCopy 69 = .ok (.aload_n 1, 1) := by decide +kernel
theorem dX4_addCopy_70 : decode cX4_addCopy 70 = .ok (.getfield 102, 3) := by decide +kernel
theorem dX4_addCopy_73 : decode cX4_addCopy 73 = .ok (.iadd, 1) := by decide +kernel
theorem dX4_addCopy_74 : decode cX4_addCopy 74 = .ok (.putfield 15, 3) := by decide +kernel
theorem dX4_addCopy_77 : decode cX4_addCopy 77 = .ok (.return_, 1) := by decide +kernel
theorem dX4_readLettered_0 : decode cX4_readLettered 0 = .ok (.aload_n 0, 1) := by decide +kernel
theorem dX4_readLettered_1 : decode cX4_readLettered 1 = .ok (.dup, 1) := by decide +kernel
theorem dX4_readLettered_2 : decode cX4_readLettered 2 = .ok (.getfield 37, 3) := by decide +kernel
theorem dX4_readLettered_5 : decode cX4_readLettered 5 = .ok (.iconst 1, 1) := by decide +kernel
theorem dX4_readLettered_6 : decode cX4_readLettered 6 = .ok (.iadd, 1) := by decide +kernel
theorem dX4_readLettered_7 : decode cX4_readLettered 7 = .ok (.putfield 37, 3) := by decide +kernel
theorem dX4_readLettered_10 : decode cX4_readLettered 10 = .ok (.aload_n 0, 1) := by decide +kernel
theorem dX4_readLettered_11 : decode cX4_readLettered 11 = .ok (.invokevirtual 60, 3) := by decide +kernel
theorem dX4_readLettered_14 : decode cX4_readLettered 14 = .ok (.bipush 40, 2) := by decide +kernel
theorem dX4_readLettered_16 : decode cX4_readLettered 16 = .ok (.if_icmp .ne 11, 3) := by decide +kernel
theorem dX4_readLettered_19 : decode cX4_readLettered 19 = .ok (.aload_n 0, 1) := by decide +kernel
theorem dX4_readLettered_20 : decode cX4_readLettered 20 = .ok (.iload_n 1, 1) := by decide +kernel
theorem dX4_readLettered_21 : decode cX4_readLettered 21 = .ok (.invokevirtual 95, 3) := by decide +kernel
theorem dX4_readLettered_24 : decode cX4_readLettered 24 = .ok (.goto 12, 3) := by decide +kernel
theorem dX4_readLettered_27 : decode cX4_readLettered 27 = .ok (.aload_n 0, 1) := by decide +kernel
theorem dX4_readLettered_28 : decode cX4_readLettered 28 = .ok (.iconst 1, 1) := by decide +kernel
theorem dX4_readLettered_29 : decode cX4_readLettered 29 = .ok (.aload_n 0, 1) := by decide +kernel
theorem dX4_readLettered_30 : decode cX4_readLettered 30 = .ok (.getfield 37, 3) := by decide +kernel
theorem dX4_readLettered_33 : decode cX4_readLettered 33 = .ok (.invokevirtual 64, 3) := by decide +kernel
theorem dX4_readLettered_36 : decode cX4_readLettered 36 = .ok (.return_, 1) := by decide +kernel
theorem dX4_openBracket_0 : decode cX4_openBracket 0 = .ok (.aload_n 0, 1) := by decide +kernel
theorem dX4_openBracket_1 : decode cX4_openBracket 1 = .ok (.getfield 31, 3) := by decide +kernel
theorem dX4_openBracket_4 : decode cX4_openBracket 4 = .ok (.bipush 8, 2) := by decide +kernel
theorem dX4_openBracket_6 : decode cX4_openBracket 6 = .ok (.if_icmp .lt 13, 3) := by decide +kernel
theorem dX4_openBracket_9 : decode cX4_openBracket 9 = .ok (.aload_n 0, 1) := by decide +kernel
theorem dX4_openBracket_10 : decode cX4_openBracket 10 = .ok (.iconst 2, 1) := by decide +kernel
theorem dX4_openBracket_11 : decode cX4_openBracket 11 = .ok (.aload_n 0, 1) := by decide +kernel
theorem dX4_openBracket_12 : decode cX4_openBracket 12 = .ok (.getfield 37, 3) := by decide +kernel
theorem dX4_openBracket_15 : decode cX4_openBracket 15 = .ok (.invokevirtual 64, 3) := by decide +kernel
theorem dX4_openBracket_18 : decode cX4_openBracket 18 = .ok (.return_, 1) := by decide +kernel
theorem dX4_openBracket_19 : decode cX4_openBracket 19 = .ok (.aload_n 0, 1) := by decide +kernel
theorem dX4_openBracket_20 : decode cX4_openBracket 20 = .ok (.getfield 25, 3) := by decide +kernel
theorem dX4_openBracket_23 : decode cX4_openBracket 23 = .ok (.aload_n 0, 1) := by decide +kernel
theorem dX4_openBracket_24 : decode cX4_openBracket 24 = .ok (.getfield 31, 3) := by decide +kernel
theorem dX4_openBracket_27 : decode cX4_openBracket 27 = .ok (.iload_n 1, 1) := by decide +kernel
