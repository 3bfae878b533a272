theorem dX1_packInverse_32 : decode cX1_packInverse 32 = .ok (.ireturn, 1) := by decide +kernel
theorem dX2_init_0 : decode cX2_init 0 = .ok (.aload_n 0, 1) := by decide +kernel
theorem dX2_init_1 : decode cX2_init 1 = .ok (.invokespecial 1, 3) := by decide +kernel
theorem dX2_init_4 : decode cX2_init 4 = .ok (.aload_n 0, 1) := by decide +kernel
theorem dX2_init_5 : decode cX2_init 5 = .ok (.iconst 0, 1) := by decide +kernel
theorem dX2_init_6 : decode cX2_init 6 = .ok (.putfield 7, 3) := by decide +kernel
theorem dX2_init_9 : decode cX2_init 9 = .ok (.aload_n 0, 1) := by decide +kernel
theorem dX2_init_10 : decode cX2_init 10 = .ok (.iconst 0, 1) := by decide +kernel
theorem dX2_init_11 : decode cX2_init 11 = .ok (.putfield 13, 3) := by decide +kernel
theorem dX2_init_14 : decode cX2_init 14 = .ok (.aload_n 0, 1) := by decide +kernel
theorem dX2_init_15 : decode cX2_init 15 = .ok (.iload_n 1, 1) := by decide +kernel
theorem dX2_init_16 : decode cX2_init 16 = .ok (.putfield 16, 3) := by decide +kernel
theorem dX2_init_19 : decode cX2_init 19 = .ok (.aload_n 0, 1) := by decide +kernel
theorem dX2_init_20 : decode cX2_init 20 = .ok (.iload_n 2, 1) := by decide +kernel
theorem dX2_init_21 : decode cX2_init 21 = .ok (.putfield 19, 3) := by decide +kernel
theorem dX2_init_24 : decode cX2_init 24 = .ok (.return_, 1) := by decide +kernel
theorem dX3_init_0 : decode cX3_init 0 = .ok (.aload_n 0, 1) := by decide +kernel
theorem dX3_init_1 : decode cX3_init 1 = .ok (.invokespecial 3, 3) := by decide +kernel
theorem dX3_init_4 : decode cX3_init 4 = .ok (.aload_n 0, 1) := by decide +kernel
theorem dX3_init_5 : decode cX3_init 5 = .ok (.sipush 300, 3) := by decide +kernel
theorem dX3_init_8 : decode cX3_init 8 = .ok (.newarray .int, 2) := by decide +kernel
theorem dX3_init_10 : decode cX3_init 10 = .ok (.putfield 9, 3) := by decide +kernel
theorem dX3_init_13 : decode cX3_init 13 = .ok (.aload_n 0, 1) := by decide +kernel
theorem dX3_init_14 : decode cX3_init 14 = .ok (.bipush 8, 2) := by decide +kernel
theorem dX3_init_16 : decode cX3_init 16 = .ok (.newarray .int, 2) := by decide +kernel
theorem dX3_init_18 : decode cX3_init 18 = .ok (.putfield 15, 3) := by decide +kernel
theorem dX3_init_21 : decode cX3_init 21 = .ok (.aload_n 0, 1) := by decide +kernel
theorem dX3_init_22 : decode cX3_init 22 = .ok (.iconst 0, 1) := by decide +kernel
theorem dX3_init_23 : decode cX3_init 23 = .ok (.putfield 18, 3) := by decide +kernel
theorem dX3_init_26 : decode cX3_init 26 = .ok (.aload_n 0, 1) := by decide +kernel
theorem dX3_init_27 : decode cX3_init 27 = .ok (.iconst 2, 1) := by decide +kernel
theorem dX3_init_28 : decode cX3_init 28 = .ok (.putfield 22, 3) := by decide +kernel
theorem dX3_init_31 : decode cX3_init 31 = .ok (.aload_n 0, 1) := by decide +kernel
theorem dX3_init_32 : decode cX3_init 32 = .ok (.iconst 0, 1) := by decide +kernel
theorem dX3_init_33 : decode cX3_init 33 = .ok (.putfield 25, 3) := by decide +kernel
theorem dX3_init_36 : decode cX3_init 36 = .ok (.aload_n 0, 1) := by decide +kernel
theorem dX3_init_37 : decode cX3_init 37 = .ok (.iconst 1, 1) := by decide +kernel
theorem dX3_init_38 : decode cX3_init 38 = .ok (.putfield 28, 3) := by decide +kernel
theorem dX3_init_41 : decode cX3_init 41 = .ok (.aload_n 0, 1) := by decide +kernel
theorem dX3_init_42 : decode cX3_init 42 = .ok (.iconst 0, 1) := by decide +kernel
theorem dX3_init_43 : decode cX3_init 43 = .ok (.putfield 31, 3) := by decide +kernel
theorem dX3_init_46 : decode cX3_init 46 = .ok (.aload_n 0, 1) := by decide +kernel
theorem dX3_init_47 : decode cX3_init 47 = .ok (.iconst 0, 1) := by decide +kernel
theorem dX3_init_48 : decode cX3_init 48 = .ok (.putfield 34, 3) := by decide +kernel
theorem dX3_init_51 : decode cX3_init 51 = .ok (.aload_n 0, 1) := by decide +kernel
theorem dX3_init_52 : decode cX3_init 52 = .ok (.bipush 8, 2) := by decide +kernel
theorem dX3_init_54 : decode cX3_init 54 = .ok (.newarray .int, 2) := by decide +kernel
theorem dX3_init_56 : decode cX3_init 56 = .ok (.putfield 38, 3) := by decide +kernel
theorem dX3_init_59 : decode cX3_init 59 = .ok (.aload_n 0, 1) := by decide +kernel
theorem dX3_init_60 : decode cX3_init 60 = .ok (.bipush 8, 2) := by decide +kernel
theorem dX3_init_62 : decode cX3_init 62 = .ok (.newarray .int, 2) := by decide +kernel
theorem dX3_init_64 : decode cX3_init 64 = .ok (.putfield 41, 3) := by decide +kernel
theorem dX3_init_67 : decode cX3_init 67 = .ok (.aload_n 0, 1) := by decide +kernel
theorem dX3_init_68 : decode cX3_init 68 = .ok (.bipush 8, 2) := by decide +kernel
theorem dX3_init_70 : decode cX3_init 70 = .ok (.newarray .int, 2) := by decide +kernel
theorem dX3_init_72 : decode cX3_init 72 = .ok (.putfield 44, 3) := by decide +kernel
theorem dX3_init_75 : decode cX3_init 75 = .ok (.aload_n 0, 1) := by decide +kernel
theorem dX3_init_76 : decode cX3_init 76 = .ok (.bipush 8, 2) := by decide +kernel
theorem dX3_init_78 : decode cX3_init 78 = .ok (.newarray .int, 2) := by decide +kernel
theorem dX3_init_80 : decode cX3_init 80 = .ok (.putfield 47, 3) := by decide +kernel
theorem dX3_init_83 : decode cX3_init 83 = .ok (.aload_n 0, 1) := by decide +kernel
theorem dX3_init_84 : decode cX3_init 84 = .ok (.bipush 8, 2) := by decide +kernel
theorem dX3_init_86 : decode cX3_init 86 = .ok (.newarray .int, 2) := by decide +kernel
theorem dX3_init_88 : decode cX3_init 88 = .ok (.putfield 50, 3) := by decide +kernel
theorem dX3_init_91 : decode cX3_init 91 = .ok (.aload_n 0, 1) := by decide +kernel
theorem dX3_init_92 : decode cX3_init 92 = .ok (.bipush 8, 2) := by decide +kernel
theorem dX3_init_94 : decode cX3_init 94 = .ok (.bipush 8, 2) := by decide +kernel
theorem dX3_init_96 : decode cX3_init 96 = .ok (.multianewarray 53 2, 4) := by decide +kernel
theorem dX3_init_100 : decode cX3_init 100 = .ok (.putfield 55, 3) := by decide +kernel
theorem dX3_init_103 : decode cX3_init 103 = .ok (.aload_n 0, 1) := by decide +kernel
theorem dX3_init_104 : decode cX3_init 104 = .ok (.iconst 1, 1) := by decide +kernel
theorem dX3_init_105 : decode cX3_init 105 = .ok (.putfield 58, 3) := by decide +kernel
theorem dX3_init_108 : decode cX3_init 108 = .ok (.aload_n 0, 1) := by decide +kernel
theorem dX3_init_109 : decode cX3_init 109 = .ok (.new 61, 3) := by decide +kernel
theorem dX3_init_112 : decode cX3_init 112 = .ok (.dup, 1) := by decide +kernel
theorem dX3_init_113 : decode cX3_init 113 = .ok (.sipush 300, 3) := by decide +kernel
theorem dX3_init_116 : decode cX3_init 116 = .ok (.invokespecial 63, 3) := by decide +kernel
theorem dX3_init_119 : decode cX3_init 119 = .ok (.putfield 66, 3) := by decide +kernel
theorem dX3_init_122 : decode cX3_init 122 = .ok (.aload_n 0, 1) := by decide +kernel
theorem dX3_init_123 : decode cX3_init 123 = .ok (.iconst 0, 1) := by decide +kernel
theorem dX3_init_124 : decode cX3_init 124 = .ok (.putfield 70, 3) := by decide +kernel
theorem dX3_init_127 : decode cX3_init 127 = .ok (.aload_n 0, 1) := by decide +kernel
theorem dX3_init_128 : decode cX3_init 128 = .ok (.iconst 0, 1) := by decide +kernel
theorem dX3_init_129 : decode cX3_init 129 = .ok (.putfield 73, 3) := by decide +kernel
theorem dX3_init_132 : decode cX3_init 132 = .ok (.return_, 1) := by decide +kernel
theorem dX3_become_0 : decode cX3_become 0 = .ok (.aload_n 0, 1) := by decide +kernel
theorem dX3_become_1 : decode cX3_become 1 = .ok (.iload_n 1, 1) := by decide +kernel
theorem dX3_become_2 : decode cX3_become 2 = .ok (.putfield 22, 3) := by decide +kernel
theorem dX3_become_5 : decode cX3_become 5 = .ok (.aload_n 0, 1) := by decide +kernel
theorem dX3_become_6 : decode cX3_become 6 = .ok (.iload_n 3, 1) := by decide +kernel
theorem dX3_become_7 : decode cX3_become 7 = .ok (.aload_n 2, 1) := by decide +kernel
theorem dX3_become_8 : decode cX3_become 8 = .ok (.arraylength, 1) := by decide +kernel
theorem dX3_become_9 : decode cX3_become 9 = .ok (.sipush 300, 3) := by decide +kernel
theorem dX3_become_12 : decode cX3_become 12 = .ok (.invokestatic 76, 3) := by decide +kernel
theorem dX3_become_15 : decode cX3_become 15 = .ok (.invokestatic 76, 3) := by decide +kernel
theorem dX3_become_18 : decode cX3_become 18 = .ok (.putfield 18, 3) := by decide +kernel
theorem dX3_become_21 : decode cX3_become 21 = .ok (.aload_n 2, 1) := by decide +kernel
theorem dX3_become_22 : decode cX3_become 22 = .ok (.iconst 0, 1) := by decide +kernel
theorem dX3_become_23 : decode cX3_become 23 = .ok (.aload_n 0, 1) := by decide +kernel
theorem dX3_become_24 : decode cX3_become 24 = .ok (.getfield 9, 3) := by decide +kernel
theorem dX3_become_27 : decode cX3_become 27 = .ok (.iconst 0, 1) := by decide +kernel
theorem dX3_become_28 : decode cX3_become 28 = .ok (.aload_n 0, 1) := by decide +kernel
theorem dX3_become_29 : decode cX3_become 29 = .ok (.getfield 18, 3) := by decide +kernel
theorem dX3_become_32 : decode cX3_become 32 = .ok (.invokestatic 82, 3) := by decide +kernel
theorem dX3_become_35 : decode cX3_become 35 = .ok (.aload_n 0, 1) := by decide +kernel
theorem dX3_become_36 : decode cX3_become 36 = .ok (.iconst 0, 1) := by decide +kernel
theorem dX3_become_37 : decode cX3_become 37 = .ok (.putfield 70, 3) := by decide +kernel
theorem dX3_become_40 : decode cX3_become 40 = .ok (.aload_n 0, 1) := by decide +kernel
theorem dX3_become_41 : decode cX3_become 41 = .ok (.iconst 0, 1) := by decide +kernel
theorem dX3_become_42 : decode cX3_become 42 = .ok (.putfield 73, 3) := by decide +kernel
theorem dX3_become_45 : decode cX3_become 45 = .ok (.aload_n 0, 1) := by decide +kernel
theorem dX3_become_46 : decode cX3_become 46 = .ok (.invokevirtual 88, 3) := by decide +kernel
theorem dX3_become_49 : decode cX3_become 49 = .ok (.iconst 0, 1) := by decide +kernel
theorem dX3_become_50 : decode cX3_become 50 = .ok (.istore 4, 2) := by decide +kernel
theorem dX3_become_52 : decode cX3_become 52 = .ok (.iload 4, 2) := by decide +kernel
theorem dX3_become_54 : decode cX3_become 54 = .ok (.aload_n 0, 1) := by decide +kernel
theorem dX3_become_55 : decode cX3_become 55 = .ok (.getfield 18, 3) := by decide +kernel
theorem dX3_become_58 : decode cX3_become 58 = .ok (.if_icmp .ge 20, 3) := by decide +kernel
theorem dX3_become_61 : decode cX3_become 61 = .ok (.aload_n 0, 1) := by decide +kernel
theorem dX3_become_62 : decode cX3_become 62 = .ok (.aload_n 0, 1) := by decide +kernel
theorem dX3_become_63 : decode cX3_become 63 = .ok (.getfield 9, 3) := by decide +kernel
theorem dX3_become_66 : decode cX3_become 66 = .ok (.iload 4, 2) := by decide +kernel
theorem dX3_become_68 : decode cX3_become 68 = .ok (.iaload, 1) := by decide +kernel
theorem dX3_become_69 : decode cX3_become 69 = .ok (.invokevirtual 91, 3) := by decide +kernel
theorem dX3_become_72 : decode cX3_become 72 = .ok (.iinc 4 1, 3) := by decide +kernel
theorem dX3_become_75 : decode cX3_become 75 = .ok (.goto (-23), 3) := by decide +kernel
theorem dX3_become_78 : decode cX3_become 78 = .ok (.iconst 1, 1) := by decide +kernel
theorem dX3_become_79 : decode cX3_become 79 = .ok (.istore 4, 2) := by decide +kernel
theorem dX3_become_81 : decode cX3_become 81 = .ok (.iload 4, 2) := by decide +kernel
theorem dX3_become_83 : decode cX3_become 83 = .ok (.aload_n 0, 1) := by decide +kernel
theorem dX3_become_84 : decode cX3_become 84 = .ok (.getfield 22, 3) := by decide +kernel
theorem dX3_become_87 : decode cX3_become 87 = .ok (.if_icmp .gt 23, 3) := by decide +kernel
theorem dX3_become_90 : decode cX3_become 90 = .ok (.aload_n 0, 1) := by decide +kernel
theorem dX3_become_91 : decode cX3_become 91 = .ok (.getfield 15, 3) := by decide +kernel
theorem dX3_become_94 : decode cX3_become 94 = .ok (.aload_n 0, 1) := by decide +kernel
theorem dX3_become_95 : decode cX3_become 95 = .ok (.getfield 38, 3) := by decide +kernel
theorem dX3_become_98 : decode cX3_become 98 = .ok (.iload 4, 2) := by decide +kernel
theorem dX3_become_100 : decode cX3_become 100 = .ok (.iaload, 1) := by decide +kernel
theorem dX3_become_101 : decode cX3_become 101 = .ok (.iload 4, 2) := by decide +kernel
theorem dX3_become_103 : decode cX3_become 103 = .ok (.iastore, 1) := by decide +kernel
theorem dX3_become_104 : decode cX3_become 104 = .ok (.iinc 4 1, 3) := by decide +kernel
theorem dX3_become_107 : decode cX3_become 107 = .ok (.goto (-26), 3) := by decide +kernel
theorem dX3_become_110 : decode cX3_become 110 = .ok (.aload_n 0, 1) := by decide +kernel
theorem dX3_become_111 : decode cX3_become 111 = .ok (.invokevirtual 94, 3) := by decide +kernel
theorem dX3_become_114 : decode cX3_become 114 = .ok (.aload_n 0, 1) := by decide +kernel
theorem dX3_become_115 : decode cX3_become 115 = .ok (.aload_n 0, 1) := by decide +kernel
theorem dX3_become_116 : decode cX3_become 116 = .ok (.getfield 58, 3) := by decide +kernel
theorem dX3_become_119 : decode cX3_become 119 = .ok (.ifCond .eq 21, 3) := by decide +kernel
theorem dX3_become_122 : decode cX3_become 122 = .ok (.aload_n 0, 1) := by decide +kernel
theorem dX3_become_123 : decode cX3_become 123 = .ok (.invokevirtual 97, 3) := by decide +kernel
theorem dX3_become_126 : decode cX3_become 126 = .ok (.ifCond .eq 14, 3) := by decide +kernel
theorem dX3_become_129 : decode cX3_become 129 = .ok (.aload_n 0, 1) := by decide +kernel
theorem dX3_become_130 : decode cX3_become 130 = .ok (.invokevirtual 101, 3) := by decide +kernel
theorem dX3_become_133 : decode cX3_become 133 = .ok (.ifCond .eq 7, 3) := by decide +kernel
theorem dX3_become_136 : decode cX3_become 136 = .ok (.iconst 1, 1) := by decide +kernel
theorem dX3_become_137 : decode cX3_become 137 = .ok (.goto 4, 3) := by decide +kernel
theorem dX3_become_140 : decode cX3_become 140 = .ok (.iconst 0, 1) := by decide +kernel
theorem dX3_become_141 : decode cX3_become 141 = .ok (.putfield 34, 3) := by decide +kernel
theorem dX3_become_144 : decode cX3_become 144 = .ok (.return_, 1) := by decide +kernel
theorem dX3_hasPlace_0 : decode cX3_hasPlace 0 = .ok (.iload_n 1, 1) := by decide +kernel
theorem dX3_hasPlace_1 : decode cX3_hasPlace 1 = .ok (.iconst 1, 1) := by decide +kernel
theorem dX3_hasPlace_2 : decode cX3_hasPlace 2 = .ok (.if_icmp .lt 15, 3) := by decide +kernel
theorem dX3_hasPlace_5 : decode cX3_hasPlace 5 = .ok (.iload_n 1, 1) := by decide +kernel
theorem dX3_hasPlace_6 : decode cX3_hasPlace 6 = .ok (.aload_n 0, 1) := by decide +kernel
theorem dX3_hasPlace_7 : decode cX3_hasPlace 7 = .ok (.getfield 22, 3) := by decide +kernel
theorem dX3_hasPlace_10 : decode cX3_hasPlace 10 = .ok (.if_icmp .gt 7, 3) := by decide +kernel
theorem dX3_hasPlace_13 : decode cX3_hasPlace 13 = .ok (.iconst 1, 1) := by decide +kernel
theorem dX3_hasPlace_14 : decode cX3_hasPlace 14 = .ok (.goto 4, 3) := by decide +kernel
theorem dX3_hasPlace_17 : decode cX3_hasPlace 17 = .ok (.iconst 0, 1) := by decide +kernel
theorem dX3_hasPlace_18 : decode cX3_hasPlace 18 = .ok (.ireturn, 1) := by decide +kernel
theorem dX3_useFrom_0 : decode cX3_useFrom 0 = .ok (.iconst 2, 1) := by decide +kernel
theorem dX3_useFrom_1 : decode cX3_useFrom 1 = .ok (.aload_n 0, 1) := by decide +kernel
theorem dX3_useFrom_2 : decode cX3_useFrom 2 = .ok (.getfield 25, 3) := by decide +kernel
theorem dX3_useFrom_5 : decode cX3_useFrom 5 = .ok (.imul, 1) := by decide +kernel
theorem dX3_useFrom_6 : decode cX3_useFrom 6 = .ok (.aload_n 0, 1) := by decide +kernel
theorem dX3_useFrom_7 : decode cX3_useFrom 7 = .ok (.getfield 44, 3) := by decide +kernel
theorem dX3_useFrom_10 : decode cX3_useFrom 10 = .ok (.iload_n 1, 1) := by decide +kernel
theorem dX3_useFrom_11 : decode cX3_useFrom 11 = .ok (.iaload, 1) := by decide +kernel
theorem dX3_useFrom_12 : decode cX3_useFrom 12 = .ok (.iadd, 1) := by decide +kernel
theorem dX3_useFrom_13 : decode cX3_useFrom 13 = .ok (.ireturn, 1) := by decide +kernel
theorem dX3_strawsNeeded_0 : decode cX3_strawsNeeded 0 = .ok (.iconst 0, 1) := by decide +kernel
theorem dX3_strawsNeeded_1 : decode cX3_strawsNeeded 1 = .ok (.istore_n 2, 1) := by decide +kernel
theorem dX3_strawsNeeded_2 : decode cX3_strawsNeeded 2 = .ok (.iconst 1, 1) := by decide +kernel
theorem dX3_strawsNeeded_3 : decode cX3_strawsNeeded 3 = .ok (.istore_n 3, 1) := by decide +kernel
theorem dX3_strawsNeeded_4 : decode cX3_strawsNeeded 4 = .ok (.iload_n 3, 1) := by decide +kernel
theorem dX3_strawsNeeded_5 : decode cX3_strawsNeeded 5 = .ok (.aload_n 0, 1) := by decide +kernel
theorem dX3_strawsNeeded_6 : decode cX3_strawsNeeded 6 = .ok (.getfield 22, 3) := by decide +kernel
theorem dX3_strawsNeeded_9 : decode cX3_strawsNeeded 9 = .ok (.if_icmp .gt 63, 3) := by decide +kernel
theorem dX3_strawsNeeded_12 : decode cX3_strawsNeeded 12 = .ok (.iconst 0, 1) := by decide +kernel
theorem dX3_strawsNeeded_13 : decode cX3_strawsNeeded 13 = .ok (.istore 4, 2) := by decide +kernel
theorem dX3_strawsNeeded_15 : decode cX3_strawsNeeded 15 = .ok (.iload_n 3, 1) := by decide +kernel
theorem dX3_strawsNeeded_16 : decode cX3_strawsNeeded 16 = .ok (.istore 5, 2) := by decide +kernel
theorem dX3_strawsNeeded_18 : decode cX3_strawsNeeded 18 = .ok (.iconst 0, 1) := by decide +kernel
theorem dX3_strawsNeeded_19 : decode cX3_strawsNeeded 19 = .ok (.istore 6, 2) := by decide +kernel
theorem dX3_strawsNeeded_21 : decode cX3_strawsNeeded 21 = .ok (.iload 6, 2) := by decide +kernel
theorem dX3_strawsNeeded_23 : decode cX3_strawsNeeded 23 = .ok (.iload_n 1, 1) := by decide +kernel
theorem dX3_strawsNeeded_24 : decode cX3_strawsNeeded 24 = .ok (.if_icmp .ge 29, 3) := by decide +kernel
theorem dX3_strawsNeeded_27 : decode cX3_strawsNeeded 27 = .ok (.iload 4, 2) := by decide +kernel
theorem dX3_strawsNeeded_29 : decode cX3_strawsNeeded 29 = .ok (.aload_n 0, 1) := by decide +kernel
theorem dX3_strawsNeeded_30 : decode cX3_strawsNeeded 30 = .ok (.iload 5, 2) := by decide +kernel
theorem dX3_strawsNeeded_32 : decode cX3_strawsNeeded 32 = .ok (.invokevirtual 104, 3) := by decide +kernel
theorem dX3_strawsNeeded_35 : decode cX3_strawsNeeded 35 = .ok (.iadd, 1) := by decide +kernel
theorem dX3_strawsNeeded_36 : decode cX3_strawsNeeded 36 = .ok (.istore 4, 2) := by decide +kernel
theorem dX3_strawsNeeded_38 : decode cX3_strawsNeeded 38 = .ok (.aload_n 0, 1) := by decide +kernel
theorem dX3_strawsNeeded_39 : decode cX3_strawsNeeded 39 = .ok (.getfield 15, 3) := by decide +kernel
theorem dX3_strawsNeeded_42 : decode cX3_strawsNeeded 42 = .ok (.iload 5, 2) := by decide +kernel
theorem dX3_strawsNeeded_44 : decode cX3_strawsNeeded 44 = .ok (.iaload, 1) := by decide +kernel
theorem dX3_strawsNeeded_45 : decode cX3_strawsNeeded 45 = .ok (.istore 5, 2) := by decide +kernel
theorem dX3_strawsNeeded_47 : decode cX3_strawsNeeded 47 = .ok (.iinc 6 1, 3) := by decide +kernel
theorem dX3_strawsNeeded_50 : decode cX3_strawsNeeded 50 = .ok (.goto (-29), 3) := by decide +kernel
theorem dX3_strawsNeeded_53 : decode cX3_strawsNeeded 53 = .ok (.iload_n 2, 1) := by decide +kernel
theorem dX3_strawsNeeded_54 : decode cX3_strawsNeeded 54 = .ok (.iload 4, 2) := by decide +kernel
theorem dX3_strawsNeeded_56 : decode cX3_strawsNeeded 56 = .ok (.bipush 100, 2) := by decide +kernel
theorem dX3_strawsNeeded_58 : decode cX3_strawsNeeded 58 = .ok (.iadd, 1) := by decide +kernel
theorem dX3_strawsNeeded_59 : decode cX3_strawsNeeded 59 = .ok (.iconst 1, 1) := by decide +kernel
theorem dX3_strawsNeeded_60 : decode cX3_strawsNeeded 60 = .ok (.isub, 1) := by decide +kernel
theorem dX3_strawsNeeded_61 : decode cX3_strawsNeeded 61 = .ok (.bipush 100, 2) := by decide +kernel
theorem dX3_strawsNeeded_63 : decode cX3_strawsNeeded 63 = .ok (.idiv, 1) := by decide +kernel
theorem dX3_strawsNeeded_64 : decode cX3_strawsNeeded 64 = .ok (.iadd, 1) := by decide +kernel
theorem dX3_strawsNeeded_65 : decode cX3_strawsNeeded 65 = .ok (.istore_n 2, 1) := by decide +kernel
theorem dX3_strawsNeeded_66 : decode cX3_strawsNeeded 66 = .ok (.iinc 3 1, 3) := by decide +kernel
theorem dX3_strawsNeeded_69 : decode cX3_strawsNeeded 69 = .ok (.goto (-65), 3) := by decide +kernel
theorem dX3_strawsNeeded_72 : decode cX3_strawsNeeded 72 = .ok (.iload_n 2, 1) := by decide +kernel
theorem dX3_strawsNeeded_73 : decode cX3_strawsNeeded 73 = .ok (.ireturn, 1) := by decide +kernel
theorem dX3_twineOf_0 : decode cX3_twineOf 0 = .ok (.iconst 0, 1) := by decide +kernel
theorem dX3_twineOf_1 : decode cX3_twineOf 1 = .ok (.istore_n 3, 1) := by decide +kernel
theorem dX3_twineOf_2 : decode cX3_twineOf 2 = .ok (.iload_n 1, 1) := by decide +kernel
theorem dX3_twineOf_3 : decode cX3_twineOf 3 = .ok (.istore 4, 2) := by decide +kernel
theorem dX3_twineOf_5 : decode cX3_twineOf 5 = .ok (.iload_n 2, 1) := by decide +kernel
theorem dX3_twineOf_6 : decode cX3_twineOf 6 = .ok (.istore 5, 2) := by decide +kernel
theorem dX3_twineOf_8 : decode cX3_twineOf 8 = .ok (.iconst 0, 1) := by decide +kernel
theorem dX3_twineOf_9 : decode cX3_twineOf 9 = .ok (.istore 6, 2) := by decide +kernel
theorem dX3_twineOf_11 : decode cX3_twineOf 11 = .ok (.iload 6, 2) := by decide +kernel
theorem dX3_twineOf_13 : decode cX3_twineOf 13 = .ok (.aload_n 0, 1) := by decide +kernel
theorem dX3_twineOf_14 : decode cX3_twineOf 14 = .ok (.getfield 28, 3) := by decide +kernel
theorem dX3_twineOf_17 : decode cX3_twineOf 17 = .ok (.if_icmp .ge 40, 3) := by decide +kernel
theorem dX3_twineOf_20 : decode cX3_twineOf 20 = .ok (.iload_n 3, 1) := by decide +kernel
theorem dX3_twineOf_21 : decode cX3_twineOf 21 = .ok (.aload_n 0, 1) := by decide +kernel
theorem dX3_twineOf_22 : decode cX3_twineOf 22 = .ok (.getfield 55, 3) := by decide +kernel
theorem dX3_twineOf_25 : decode cX3_twineOf 25 = .ok (.iload 4, 2) := by decide +kernel
theorem dX3_twineOf_27 : decode cX3_twineOf 27 = .ok (.aaload, 1) := by decide +kernel
theorem dX3_twineOf_28 : decode cX3_twineOf 28 = .ok (.iload 5, 2) := by decide +kernel
theorem dX3_twineOf_30 : decode cX3_twineOf 30 = .ok (.iaload, 1) := by decide +kernel
theorem dX3_twineOf_31 : decode cX3_twineOf 31 = .ok (.iadd, 1) := by decide +kernel
theorem dX3_twineOf_32 : decode cX3_twineOf 32 = .ok (.istore_n 3, 1) := by decide +kernel
theorem dX3_twineOf_33 : decode cX3_twineOf 33 = .ok (.aload_n 0, 1) := by decide +kernel
theorem dX3_twineOf_34 : decode cX3_twineOf 34 = .ok (.getfield 15, 3) := by decide +kernel
theorem dX3_twineOf_37 : decode cX3_twineOf 37 = .ok (.iload 4, 2) := by decide +kernel
theorem dX3_twineOf_39 : decode cX3_twineOf 39 = .ok (.iaload, 1) := by decide +kernel
theorem dX3_twineOf_40 : decode cX3_twineOf 40 = .ok (.istore 4, 2) := by decide +kernel
theorem dX3_twineOf_42 : decode cX3_twineOf 42 = .ok (.aload_n 0, 1) := by decide +kernel
theorem dX3_twineOf_43 : decode cX3_twineOf 43 = .ok (.getfield 15, 3) := by decide +kernel
theorem dX3_twineOf_46 : decode cX3_twineOf 46 = .ok (.iload 5, 2) := by decide +kernel
theorem dX3_twineOf_48 : decode cX3_twineOf 48 = .ok (.iaload, 1) := by decide +kernel
theorem dX3_twineOf_49 : decode cX3_twineOf 49 = .ok (.istore 5, 2) := by decide +kernel
theorem dX3_twineOf_51 : decode cX3_twineOf 51 = .ok (.iinc 6 1, 3) := by decide +kernel
theorem dX3_twineOf_54 : decode cX3_twineOf 54 = .ok (.goto (-43), 3) := by decide +kernel
theorem dX3_twineOf_57 : decode cX3_twineOf 57 = .ok (.iload_n 3, 1) := by decide +kernel
theorem dX3_twineOf_58 : decode cX3_twineOf 58 = .ok (.ireturn, 1) := by decide +kernel
theorem dX3_form_0 : decode cX3_form 0 = .ok (.aload_n 0, 1) := by decide +kernel
theorem dX3_form_1 : decode cX3_form 1 = .ok (.getfield 70, 3) := by decide +kernel
theorem dX3_form_4 : decode cX3_form 4 = .ok (.ifCond .ne 34, 3) := by decide +kernel
theorem dX3_form_7 : decode cX3_form 7 = .ok (.aload_n 0, 1) := by decide +kernel
theorem dX3_form_8 : decode cX3_form 8 = .ok (.getfield 66, 3) := by decide +kernel
theorem dX3_form_11 : decode cX3_form 11 = .ok (.aload_n 0, 1) := by decide +kernel
theorem dX3_form_12 : decode cX3_form 12 = .ok (.getfield 22, 3) := by decide +kernel
theorem dX3_form_15 : decode cX3_form 15 = .ok (.invokevirtual 108, 3) := by decide +kernel
theorem dX3_form_18 : decode cX3_form 18 = .ok (.aload_n 0, 1) := by decide +kernel
theorem dX3_form_19 : decode cX3_form 19 = .ok (.getfield 66, 3) := by decide +kernel
theorem dX3_form_22 : decode cX3_form 22 = .ok (.aload_n 0, 1) := by decide +kernel
theorem dX3_form_23 : decode cX3_form 23 = .ok (.getfield 9, 3) := by decide +kernel
theorem dX3_form_26 : decode cX3_form 26 = .ok (.aload_n 0, 1) := by decide +kernel
theorem dX3_form_27 : decode cX3_form 27 = .ok (.getfield 18, 3) := by decide +kernel
theorem dX3_form_30 : decode cX3_form 30 = .ok (.invokevirtual 111, 3) := by decide +kernel
theorem dX3_form_33 : decode cX3_form 33 = .ok (.aload_n 0, 1) := by decide +kernel
theorem dX3_form_34 : decode cX3_form 34 = .ok (.iconst 1, 1) := by decide +kernel
theorem dX3_form_35 : decode cX3_form 35 = .ok (.putfield 70, 3) := by decide +kernel
theorem dX3_form_38 : decode cX3_form 38 = .ok (.aload_n 0, 1) := by decide +kernel
theorem dX3_form_39 : decode cX3_form 39 = .ok (.getfield 66, 3) := by decide +kernel
theorem dX3_form_42 : decode cX3_form 42 = .ok (.areturn, 1) := by decide +kernel
theorem dX3_timesToUntwine_0 : decode cX3_timesToUntwine 0 = .ok (.aload_n 0, 1) := by decide +kernel
theorem dX3_timesToUntwine_1 : decode cX3_timesToUntwine 1 = .ok (.getfield 73, 3) := by decide +kernel
theorem dX3_timesToUntwine_4 : decode cX3_timesToUntwine 4 = .ok (.ifCond .eq 8, 3) := by decide +kernel
theorem dX3_timesToUntwine_7 : decode cX3_timesToUntwine 7 = .ok (.aload_n 0, 1) := by decide +kernel
theorem dX3_timesToUntwine_8 : decode cX3_timesToUntwine 8 = .ok (.getfield 73, 3) := by decide +kernel
theorem dX3_timesToUntwine_11 : decode cX3_timesToUntwine 11 = .ok (.ireturn, 1) := by decide +kernel
theorem dX3_timesToUntwine_12 : decode cX3_timesToUntwine 12 = .ok (.aload_n 0, 1) := by decide +kernel
theorem dX3_timesToUntwine_13 : decode cX3_timesToUntwine 13 = .ok (.iconst (-1), 1) := by decide +kernel
theorem dX3_timesToUntwine_14 : decode cX3_timesToUntwine 14 = .ok (.putfield 73, 3) := by decide +kernel
theorem dX3_timesToUntwine_17 : decode cX3_timesToUntwine 17 = .ok (.aload_n 0, 1) := by decide +kernel
theorem dX3_timesToUntwine_18 : decode cX3_timesToUntwine 18 = .ok (.getfield 28, 3) := by decide +kernel
theorem dX3_timesToUntwine_21 : decode cX3_timesToUntwine 21 = .ok (.aload_n 0, 1) := by decide +kernel
theorem dX3_timesToUntwine_22 : decode cX3_timesToUntwine 22 = .ok (.getfield 18, 3) := by decide +kernel
theorem dX3_timesToUntwine_25 : decode cX3_timesToUntwine 25 = .ok (.imul, 1) := by decide +kernel
theorem dX3_timesToUntwine_26 : decode cX3_timesToUntwine 26 = .ok (.sipush 600, 3) := by decide +kernel
theorem dX3_timesToUntwine_29 : decode cX3_timesToUntwine 29 = .ok (.if_icmp .le 8, 3) := by decide +kernel
theorem dX3_timesToUntwine_32 : decode cX3_timesToUntwine 32 = .ok (.aload_n 0, 1) := by decide +kernel
theorem dX3_timesToUntwine_33 : decode cX3_timesToUntwine 33 = .ok (.getfield 73, 3) := by decide +kernel
theorem dX3_timesToUntwine_36 : decode cX3_timesToUntwine 36 = .ok (.ireturn, 1) := by decide +kernel
theorem dX3_timesToUntwine_37 : decode cX3_timesToUntwine 37 = .ok (.aload_n 1, 1) := by decide +kernel
theorem dX3_timesToUntwine_38 : decode cX3_timesToUntwine 38 = .ok (.aload_n 0, 1) := by decide +kernel
theorem dX3_timesToUntwine_39 : decode cX3_timesToUntwine 39 = .ok (.getfield 22, 3) := by decide +kernel
theorem dX3_timesToUntwine_42 : decode cX3_timesToUntwine 42 = .ok (.invokevirtual 108, 3) := by decide +kernel
theorem dX3_timesToUntwine_45 : decode cX3_timesToUntwine 45 = .ok (.iconst 1, 1) := by decide +kernel
theorem dX3_timesToUntwine_46 : decode cX3_timesToUntwine 46 = .ok (.istore_n 2, 1) := by decide +kernel
theorem dX3_timesToUntwine_47 : decode cX3_timesToUntwine 47 = .ok (.iload_n 2, 1) := by decide +kernel
theorem dX3_timesToUntwine_48 : decode cX3_timesToUntwine 48 = .ok (.bipush 12, 2) := by decide +kernel
theorem dX3_timesToUntwine_50 : decode cX3_timesToUntwine 50 = .ok (.if_icmp .gt 48, 3) := by decide +kernel
theorem dX3_timesToUntwine_53 : decode cX3_timesToUntwine 53 = .ok (.iload_n 2, 1) := by decide +kernel
theorem dX3_timesToUntwine_54 : decode cX3_timesToUntwine 54 = .ok (.aload_n 0, 1) := by decide +kernel
theorem dX3_timesToUntwine_55 : decode cX3_timesToUntwine 55 = .ok (.getfield 18, 3) := by decide +kernel
theorem dX3_timesToUntwine_58 : decode cX3_timesToUntwine 58 = .ok (.imul, 1) := by decide +kernel
theorem dX3_timesToUntwine_59 : decode cX3_timesToUntwine 59 = .ok (.sipush 600, 3) := by decide +kernel
theorem dX3_timesToUntwine_62 : decode cX3_timesToUntwine 62 = .ok (.if_icmp .gt 36, 3) := by decide +kernel
theorem dX3_timesToUntwine_65 : decode cX3_timesToUntwine 65 = .ok (.aload_n 1, 1) := by decide +kernel
theorem dX3_timesToUntwine_66 : decode cX3_timesToUntwine 66 = .ok (.aload_n 0, 1) := by decide +kernel
theorem dX3_timesToUntwine_67 : decode cX3_timesToUntwine 67 = .ok (.getfield 9, 3) := by decide +kernel
theorem dX3_timesToUntwine_70 : decode cX3_timesToUntwine 70 = .ok (.aload_n 0, 1) := by decide +kernel
theorem dX3_timesToUntwine_71 : decode cX3_timesToUntwine 71 = .ok (.getfield 18, 3) := by decide +kernel
theorem dX3_timesToUntwine_74 : decode cX3_timesToUntwine 74 = .ok (.invokevirtual 111, 3) := by decide +kernel
theorem dX3_timesToUntwine_77 : decode cX3_timesToUntwine 77 = .ok (.aload_n 1, 1) := by decide +kernel
theorem dX3_timesToUntwine_78 : decode cX3_timesToUntwine 78 = .ok (.invokevirtual 115, 3) := by decide +kernel
theorem dX3_timesToUntwine_81 : decode cX3_timesToUntwine 81 = .ok (.ifCond .eq 11, 3) := by decide +kernel
theorem dX3_timesToUntwine_84 : decode cX3_timesToUntwine 84 = .ok (.aload_n 0, 1) := by decide +kernel
theorem dX3_timesToUntwine_85 : decode cX3_timesToUntwine 85 = .ok (.iload_n 2, 1) := by decide +kernel
theorem dX3_timesToUntwine_86 : decode cX3_timesToUntwine 86 = .ok (.putfield 73, 3) := by decide +kernel
theorem dX3_timesToUntwine_89 : decode cX3_timesToUntwine 89 = .ok (.goto 9, 3) := by decide +kernel
theorem dX3_timesToUntwine_92 : decode cX3_timesToUntwine 92 = .ok (.iinc 2 1, 3) := by decide +kernel
theorem dX3_timesToUntwine_95 : decode cX3_timesToUntwine 95 = .ok (.goto (-48), 3) := by decide +kernel
theorem dX3_timesToUntwine_98 : decode cX3_timesToUntwine 98 = .ok (.aload_n 0, 1) := by decide +kernel
theorem dX3_timesToUntwine_99 : decode cX3_timesToUntwine 99 = .ok (.getfield 73, 3) := by decide +kernel
theorem dX3_timesToUntwine_102 : decode cX3_timesToUntwine 102 = .ok (.ireturn, 1) := by decide +kernel
theorem dX3_clearTraces_0 : decode cX3_clearTraces 0 = .ok (.aload_n 0, 1) := by decide +kernel
theorem dX3_clearTraces_1 : decode cX3_clearTraces 1 = .ok (.iconst 0, 1) := by decide +kernel
theorem dX3_clearTraces_2 : decode cX3_clearTraces 2 = .ok (.putfield 25, 3) := by decide +kernel
theorem dX3_clearTraces_5 : decode cX3_clearTraces 5 = .ok (.aload_n 0, 1) := by decide +kernel
theorem dX3_clearTraces_6 : decode cX3_clearTraces 6 = .ok (.iconst 1, 1) := by decide +kernel
theorem dX3_clearTraces_7 : decode cX3_clearTraces 7 = .ok (.putfield 58, 3) := by decide +kernel
theorem dX3_clearTraces_10 : decode cX3_clearTraces 10 = .ok (.iconst 0, 1) := by decide +kernel
theorem dX3_clearTraces_11 : decode cX3_clearTraces 11 = .ok (.istore_n 1, 1) := by decide +kernel
theorem dX3_clearTraces_12 : decode cX3_clearTraces 12 = .ok (.iload_n 1, 1) := by decide +kernel
theorem dX3_clearTraces_13 : decode cX3_clearTraces 13 = .ok (.bipush 8, 2) := by decide +kernel
theorem dX3_clearTraces_15 : decode cX3_clearTraces 15 = .ok (.if_icmp .ge 67, 3) := by decide +kernel
theorem dX3_clearTraces_18 : decode cX3_clearTraces 18 = .ok (.aload_n 0, 1) := by decide +kernel
theorem dX3_clearTraces_19 : decode cX3_clearTraces 19 = .ok (.getfield 38, 3) := by decide +kernel
theorem dX3_clearTraces_22 : decode cX3_clearTraces 22 = .ok (.iload_n 1, 1) := by decide +kernel
theorem dX3_clearTraces_23 : decode cX3_clearTraces 23 = .ok (.iload_n 1, 1) := by decide +kernel
theorem dX3_clearTraces_24 : decode cX3_clearTraces 24 = .ok (.iastore, 1) := by decide +kernel
theorem dX3_clearTraces_25 : decode cX3_clearTraces 25 = .ok (.aload_n 0, 1) := by decide +kernel
theorem dX3_clearTraces_26 : decode cX3_clearTraces 26 = .ok (.getfield 41, 3) := by decide +kernel
theorem dX3_clearTraces_29 : decode cX3_clearTraces 29 = .ok (.iload_n 1, 1) := by decide +kernel
theorem dX3_clearTraces_30 : decode cX3_clearTraces 30 = .ok (.iconst 0, 1) := by decide +kernel
theorem dX3_clearTraces_31 : decode cX3_clearTraces 31 = .ok (.iastore, 1) := by decide +kernel
theorem dX3_clearTraces_32 : decode cX3_clearTraces 32 = .ok (.aload_n 0, 1) := by decide +kernel
theorem dX3_clearTraces_33 : decode cX3_clearTraces 33 = .ok (.getfield 44, 3) := by decide +kernel
theorem dX3_clearTraces_36 : decode cX3_clearTraces 36 = .ok (.iload_n 1, 1) := by decide +kernel
theorem dX3_clearTraces_37 : decode cX3_clearTraces 37 = .ok (.iconst 0, 1) := by decide +kernel
theorem dX3_clearTraces_38 : decode cX3_clearTraces 38 = .ok (.iastore, 1) := by decide +kernel
theorem dX3_clearTraces_39 : decode cX3_clearTraces 39 = .ok (.aload_n 0, 1) := by decide +kernel
theorem dX3_clearTraces_40 : decode cX3_clearTraces 40 = .ok (.getfield 47, 3) := by decide +kernel
theorem dX3_clearTraces_43 : decode cX3_clearTraces 43 = .ok (.iload_n 1, 1) := by decide +kernel
theorem dX3_clearTraces_44 : decode cX3_clearTraces 44 = .ok (.iconst 0, 1) := by decide +kernel
theorem dX3_clearTraces_45 : decode cX3_clearTraces 45 = .ok (.iastore, 1) := by decide +kernel
theorem dX3_clearTraces_46 : decode cX3_clearTraces 46 = .ok (.aload_n 0, 1) := by decide +kernel
theorem dX3_clearTraces_47 : decode cX3_clearTraces 47 = .ok (.getfield 50, 3) := by decide +kernel
theorem dX3_clearTraces_50 : decode cX3_clearTraces 50 = .ok (.iload_n 1, 1) := by decide +kernel
theorem dX3_clearTraces_51 : decode cX3_clearTraces 51 = .ok (.iconst 0, 1) := by decide +kernel
theorem dX3_clearTraces_52 : decode cX3_clearTraces 52 = .ok (.iastore, 1) := by decide +kernel
theorem dX3_clearTraces_53 : decode cX3_clearTraces 53 = .ok (.iconst 0, 1) := by decide +kernel
theorem dX3_clearTraces_54 : decode cX3_clearTraces 54 = .ok (.istore_n 2, 1) := by decide +kernel
theorem dX3_clearTraces_55 : decode cX3_clearTraces 55 = .ok (.iload_n 2, 1) := by decide +kernel
theorem dX3_clearTraces_56 : decode cX3_clearTraces 56 = .ok (.bipush 8, 2) := by decide +kernel
theorem dX3_clearTraces_58 : decode cX3_clearTraces 58 = .ok (.if_icmp .ge 18, 3) := by decide +kernel
theorem dX3_clearTraces_61 : decode cX3_clearTraces 61 = .ok (.aload_n 0, 1) := by decide +kernel
theorem dX3_clearTraces_62 : decode cX3_clearTraces 62 = .ok (.getfield 55, 3) := by decide +kernel
theorem dX3_clearTraces_65 : decode cX3_clearTraces 65 = .ok (.iload_n 1, 1) := by decide +kernel
theorem dX3_clearTraces_66 : decode cX3_clearTraces 66 = .ok (.aaload, 1) := by decide +kernel
theorem dX3_clearTraces_67 : decode cX3_clearTraces 67 = .ok (.iload_n 2, 1) := by decide +kernel
theorem dX3_clearTraces_68 : decode cX3_clearTraces 68 = .ok (.iconst 0, 1) := by decide +kernel
theorem dX3_clearTraces_69 : decode cX3_clearTraces 69 = .ok (.iastore, 1) := by decide +kernel
theorem dX3_clearTraces_70 : decode cX3_clearTraces 70 = .ok (.iinc 2 1, 3) := by decide +kernel
theorem dX3_clearTraces_73 : decode cX3_clearTraces 73 = .ok (.goto (-18), 3) := by decide +kernel
theorem dX3_clearTraces_76 : decode cX3_clearTraces 76 = .ok (.iinc 1 1, 3) := by decide +kernel
theorem dX3_clearTraces_79 : decode cX3_clearTraces 79 = .ok (.goto (-67), 3) := by decide +kernel
theorem dX3_clearTraces_82 : decode cX3_clearTraces 82 = .ok (.return_, 1) := by decide +kernel
theorem dX3_cross_0 : decode cX3_cross 0 = .ok (.iload_n 1, 1) := by decide +kernel
theorem dX3_cross_1 : decode cX3_cross 1 = .ok (.invokestatic 118, 3) := by decide +kernel
theorem dX3_cross_4 : decode cX3_cross 4 = .ok (.istore_n 2, 1) := by decide +kernel
theorem dX3_cross_5 : decode cX3_cross 5 = .ok (.iload_n 2, 1) := by decide +kernel
theorem dX3_cross_6 : decode cX3_cross 6 = .ok (.iconst 1, 1) := by decide +kernel
theorem dX3_cross_7 : decode cX3_cross 7 = .ok (.if_icmp .lt 11, 3) := by decide +kernel
theorem dX3_cross_10 : decode cX3_cross 10 = .ok (.iload_n 2, 1) := by decide +kernel
theorem dX3_cross_11 : decode cX3_cross 11 = .ok (.aload_n 0, 1) := by decide +kernel
theorem dX3_cross_12 : decode cX3_cross 12 = .ok (.getfield 22, 3) := by decide +kernel
theorem dX3_cross_15 : decode cX3_cross 15 = .ok (.if_icmp .lt 4, 3) := by decide +kernel
theorem dX3_cross_18 : decode cX3_cross 18 = .ok (.return_, 1) := by decide +kernel
theorem dX3_cross_19 : decode cX3_cross 19 = .ok (.aload_n 0, 1) := by decide +kernel
theorem dX3_cross_20 : decode cX3_cross 20 = .ok (.getfield 38, 3) := by decide +kernel
theorem dX3_cross_23 : decode cX3_cross 23 = .ok (.iload_n 2, 1) := by decide +kernel
theorem dX3_cross_24 : decode cX3_cross 24 = .ok (.iaload, 1) := by decide +kernel
theorem dX3_cross_25 : decode cX3_cross 25 = .ok (.istore_n 3, 1) := by decide +kernel
theorem dX3_cross_26 : decode cX3_cross 26 = .ok (.aload_n 0, 1) := by decide +kernel
theorem dX3_cross_27 : decode cX3_cross 27 = .ok (.getfield 38, 3) := by decide +kernel
theorem dX3_cross_30 : decode cX3_cross 30 = .ok (.iload_n 2, 1) := by decide +kernel
theorem dX3_cross_31 : decode cX3_cross 31 = .ok (.iconst 1, 1) := by decide +kernel
theorem dX3_cross_32 : decode cX3_cross 32 = .ok (.iadd, 1) := by decide +kernel
theorem dX3_cross_33 : decode cX3_cross 33 = .ok (.iaload, 1) := by decide +kernel
theorem dX3_cross_34 : decode cX3_cross 34 = .ok (.istore 4, 2) := by decide +kernel
theorem dX3_cross_36 : decode cX3_cross 36 = .ok (.aload_n 0, 1) := by decide +kernel
theorem dX3_cross_37 : decode cX3_cross 37 = .ok (.iload_n 3, 1) := by decide +kernel
theorem dX3_cross_38 : decode cX3_cross 38 = .ok (.iload_n 1, 1) := by decide +kernel
theorem dX3_cross_39 : decode cX3_cross 39 = .ok (.ifCond .le 7, 3) := by decide +kernel
theorem dX3_cross_42 : decode cX3_cross 42 = .ok (.iconst 1, 1) := by decide +kernel
theorem dX3_cross_43 : decode cX3_cross 43 = .ok (.goto 4, 3) := by decide +kernel
theorem dX3_cross_46 : decode cX3_cross 46 = .ok (.iconst (-1), 1) := by decide +kernel
theorem dX3_cross_47 : decode cX3_cross 47 = .ok (.invokevirtual 121, 3) := by decide +kernel
theorem dX3_cross_50 : decode cX3_cross 50 = .ok (.aload_n 0, 1) := by decide +kernel
theorem dX3_cross_51 : decode cX3_cross 51 = .ok (.iload 4, 2) := by decide +kernel
theorem dX3_cross_53 : decode cX3_cross 53 = .ok (.iload_n 1, 1) := by decide +kernel
theorem dX3_cross_54 : decode cX3_cross 54 = .ok (.ifCond .le 7, 3) := by decide +kernel
theorem dX3_cross_57 : decode cX3_cross 57 = .ok (.iconst (-1), 1) := by decide +kernel
theorem dX3_cross_58 : decode cX3_cross 58 = .ok (.goto 4, 3) := by decide +kernel
theorem dX3_cross_61 : decode cX3_cross 61 = .ok (.iconst 1, 1) := by decide +kernel
theorem dX3_cross_62 : decode cX3_cross 62 = .ok (.invokevirtual 121, 3) := by decide +kernel
theorem dX3_cross_65 : decode cX3_cross 65 = .ok (.iload_n 1, 1) := by decide +kernel
theorem dX3_cross_66 : decode cX3_cross 66 = .ok (.ifCond .le 7, 3) := by decide +kernel
theorem dX3_cross_69 : decode cX3_cross 69 = .ok (.iconst 1, 1) := by decide +kernel
theorem dX3_cross_70 : decode cX3_cross 70 = .ok (.goto 4, 3) := by decide +kernel
theorem dX3_cross_73 : decode cX3_cross 73 = .ok (.iconst (-1), 1) := by decide +kernel
theorem dX3_cross_74 : decode cX3_cross 74 = .ok (.istore 5, 2) := by decide +kernel
theorem dX3_cross_76 : decode cX3_cross 76 = .ok (.aload_n 0, 1) := by decide +kernel
theorem dX3_cross_77 : decode cX3_cross 77 = .ok (.getfield 55, 3) := by decide +kernel
theorem dX3_cross_80 : decode cX3_cross 80 = .ok (.iload_n 3, 1) := by decide +kernel
theorem dX3_cross_81 : decode cX3_cross 81 = .ok (.aaload, 1) := by decide +kernel
theorem dX3_cross_82 : decode cX3_cross 82 = .ok (.iload 4, 2) := by decide +kernel
theorem dX3_cross_84 : decode cX3_cross 84 = .ok (.dup2, 1) := by decide +kernel
theorem dX3_cross_85 : decode cX3_cross 85 = .ok (.iaload, 1) := by decide +kernel
theorem dX3_cross_86 : decode cX3_cross 86 = .ok (.iload 5, 2) := by decide +kernel
theorem dX3_cross_88 : decode cX3_cross 88 = .ok (.iadd, 1) := by decide +kernel
theorem dX3_cross_89 : decode cX3_cross 89 = .ok (.iastore, 1) := by decide +kernel
theorem dX3_cross_90 : decode cX3_cross 90 = .ok (.aload_n 0, 1) := by decide +kernel
theorem dX3_cross_91 : decode cX3_cross 91 = .ok (.getfield 55, 3) := by decide +kernel
theorem dX3_cross_94 : decode cX3_cross 94 = .ok (.iload 4, 2) := by decide +kernel
theorem dX3_cross_96 : decode cX3_cross 96 = .ok (.aaload, 1) := by decide +kernel
theorem dX3_cross_97 : decode cX3_cross 97 = .ok (.iload_n 3, 1) := by decide +kernel
theorem dX3_cross_98 : decode cX3_cross 98 = .ok (.dup2, 1) := by decide +kernel
theorem dX3_cross_99 : decode cX3_cross 99 = .ok (.iaload, 1) := by decide +kernel
theorem dX3_cross_100 : decode cX3_cross 100 = .ok (.iload 5, 2) := by decide +kernel
theorem dX3_cross_102 : decode cX3_cross 102 = .ok (.iadd, 1) := by decide +kernel
theorem dX3_cross_103 : decode cX3_cross 103 = .ok (.iastore, 1) := by decide +kernel
theorem dX3_cross_104 : decode cX3_cross 104 = .ok (.aload_n 0, 1) := by decide +kernel
theorem dX3_cross_105 : decode cX3_cross 105 = .ok (.getfield 38, 3) := by decide +kernel
theorem dX3_cross_108 : decode cX3_cross 108 = .ok (.iload_n 2, 1) := by decide +kernel
theorem dX3_cross_109 : decode cX3_cross 109 = .ok (.iload 4, 2) := by decide +kernel
theorem dX3_cross_111 : decode cX3_cross 111 = .ok (.iastore, 1) := by decide +kernel
theorem dX3_cross_112 : decode cX3_cross 112 = .ok (.aload_n 0, 1) := by decide +kernel
theorem dX3_cross_113 : decode cX3_cross 113 = .ok (.getfield 38, 3) := by decide +kernel
theorem dX3_cross_116 : decode cX3_cross 116 = .ok (.iload_n 2, 1) := by decide +kernel
theorem dX3_cross_117 : decode cX3_cross 117 = .ok (.iconst 1, 1) := by decide +kernel
theorem dX3_cross_118 : decode cX3_cross 118 = .ok (.iadd, 1) := by decide +kernel
theorem dX3_cross_119 : decode cX3_cross 119 = .ok (.iload_n 3, 1) := by decide +kernel
theorem dX3_cross_120 : decode cX3_cross 120 = .ok (.iastore, 1) := by decide +kernel
theorem dX3_cross_121 : decode cX3_cross 121 = .ok (.aload_n 0, 1) := by decide +kernel
theorem dX3_cross_122 : decode cX3_cross 122 = .ok (.getfield 41, 3) := by decide +kernel
theorem dX3_cross_125 : decode cX3_cross 125 = .ok (.iload_n 2, 1) := by decide +kernel
theorem dX3_cross_126 : decode cX3_cross 126 = .ok (.iconst 1, 1) := by decide +kernel
theorem dX3_cross_127 : decode cX3_cross 127 = .ok (.aload_n 0, 1) := by decide +kernel
theorem dX3_cross_128 : decode cX3_cross 128 = .ok (.getfield 41, 3) := by decide +kernel
theorem dX3_cross_131 : decode cX3_cross 131 = .ok (.iload_n 2, 1) := by decide +kernel
theorem dX3_cross_132 : decode cX3_cross 132 = .ok (.iaload, 1) := by decide +kernel
theorem dX3_cross_133 : decode cX3_cross 133 = .ok (.aload_n 0, 1) := by decide +kernel
theorem dX3_cross_134 : decode cX3_cross 134 = .ok (.getfield 41, 3) := by decide +kernel
theorem dX3_cross_137 : decode cX3_cross 137 = .ok (.iload_n 2, 1) := by decide +kernel
theorem dX3_cross_138 : decode cX3_cross 138 = .ok (.iconst 1, 1) := by decide +kernel
theorem dX3_cross_139 : decode cX3_cross 139 = .ok (.isub, 1) := by decide +kernel
theorem dX3_cross_140 : decode cX3_cross 140 = .ok (.iaload, 1) := by decide +kernel
theorem dX3_cross_141 : decode cX3_cross 141 = .ok (.aload_n 0, 1) := by decide +kernel
theorem dX3_cross_142 : decode cX3_cross 142 = .ok (.getfield 41, 3) := by decide +kernel
theorem dX3_cross_145 : decode cX3_cross 145 = .ok (.iload_n 2, 1) := by decide +kernel
theorem dX3_cross_146 : decode cX3_cross 146 = .ok (.iconst 1, 1) := by decide +kernel
theorem dX3_cross_147 : decode cX3_cross 147 = .ok (.iadd, 1) := by decide +kernel
theorem dX3_cross_148 : decode cX3_cross 148 = .ok (.iaload, 1) := by decide +kernel
theorem dX3_cross_149 : decode cX3_cross 149 = .ok (.invokestatic 125, 3) := by decide +kernel
theorem dX3_cross_152 : decode cX3_cross 152 = .ok (.invokestatic 125, 3) := by decide +kernel
theorem dX3_cross_155 : decode cX3_cross 155 = .ok (.iadd, 1) := by decide +kernel
theorem dX3_cross_156 : decode cX3_cross 156 = .ok (.iastore, 1) := by decide +kernel
theorem dX3_cross_157 : decode cX3_cross 157 = .ok (.aload_n 0, 1) := by decide +kernel
theorem dX3_cross_158 : decode cX3_cross 158 = .ok (.aload_n 0, 1) := by decide +kernel
theorem dX3_cross_159 : decode cX3_cross 159 = .ok (.getfield 25, 3) := by decide +kernel
theorem dX3_cross_162 : decode cX3_cross 162 = .ok (.aload_n 0, 1) := by decide +kernel
theorem dX3_cross_163 : decode cX3_cross 163 = .ok (.getfield 41, 3) := by decide +kernel
theorem dX3_cross_166 : decode cX3_cross 166 = .ok (.iload_n 2, 1) := by decide +kernel
theorem dX3_cross_167 : decode cX3_cross 167 = .ok (.iaload, 1) := by decide +kernel
theorem dX3_cross_168 : decode cX3_cross 168 = .ok (.invokestatic 125, 3) := by decide +kernel
theorem dX3_cross_171 : decode cX3_cross 171 = .ok (.putfield 25, 3) := by decide +kernel
theorem dX3_cross_174 : decode cX3_cross 174 = .ok (.return_, 1) := by decide +kernel
theorem dX3_lieAt_0 : decode cX3_lieAt 0 = .ok (.aload_n 0, 1) := by decide +kernel
theorem dX3_lieAt_1 : decode cX3_lieAt 1 = .ok (.getfield 47, 3) := by decide +kernel
theorem dX3_lieAt_4 : decode cX3_lieAt 4 = .ok (.iload_n 1, 1) := by decide +kernel
theorem dX3_lieAt_5 : decode cX3_lieAt 5 = .ok (.iaload, 1) := by decide +kernel
theorem dX3_lieAt_6 : decode cX3_lieAt 6 = .ok (.ifCond .ne 10, 3) := by decide +kernel
theorem dX3_lieAt_9 : decode cX3_lieAt 9 = .ok (.aload_n 0, 1) := by decide +kernel
theorem dX3_lieAt_10 : decode cX3_lieAt 10 = .ok (.getfield 47, 3) := by decide +kernel
theorem dX3_lieAt_13 : decode cX3_lieAt 13 = .ok (.iload_n 1, 1) := by decide +kernel
theorem dX3_lieAt_14 : decode cX3_lieAt 14 = .ok (.iload_n 2, 1) := by decide +kernel
theorem dX3_lieAt_15 : decode cX3_lieAt 15 = .ok (.iastore, 1) := by decide +kernel
theorem dX3_lieAt_16 : decode cX3_lieAt 16 = .ok (.aload_n 0, 1) := by decide +kernel
theorem dX3_lieAt_17 : decode cX3_lieAt 17 = .ok (.getfield 50, 3) := by decide +kernel
theorem dX3_lieAt_20 : decode cX3_lieAt 20 = .ok (.iload_n 1, 1) := by decide +kernel
theorem dX3_lieAt_21 : decode cX3_lieAt 21 = .ok (.iaload, 1) := by decide +kernel
theorem dX3_lieAt_22 : decode cX3_lieAt 22 = .ok (.iload_n 2, 1) := by decide +kernel
theorem dX3_lieAt_23 : decode cX3_lieAt 23 = .ok (.if_icmp .ne 8, 3) := by decide +kernel
theorem dX3_lieAt_26 : decode cX3_lieAt 26 = .ok (.aload_n 0, 1) := by decide +kernel
theorem dX3_lieAt_27 : decode cX3_lieAt 27 = .ok (.iconst 0, 1) := by decide +kernel
theorem dX3_lieAt_28 : decode cX3_lieAt 28 = .ok (.putfield 58, 3) := by decide +kernel
theorem dX3_lieAt_31 : decode cX3_lieAt 31 = .ok (.aload_n 0, 1) := by decide +kernel
theorem dX3_lieAt_32 : decode cX3_lieAt 32 = .ok (.getfield 50, 3) := by decide +kernel
theorem dX3_lieAt_35 : decode cX3_lieAt 35 = .ok (.iload_n 1, 1) := by decide +kernel
theorem dX3_lieAt_36 : decode cX3_lieAt 36 = .ok (.iload_n 2, 1) := by decide +kernel
theorem dX3_lieAt_37 : decode cX3_lieAt 37 = .ok (.iastore, 1) := by decide +kernel
theorem dX3_lieAt_38 : decode cX3_lieAt 38 = .ok (.iload_n 2, 1) := by decide +kernel
theorem dX3_lieAt_39 : decode cX3_lieAt 39 = .ok (.iconst 1, 1) := by decide +kernel
theorem dX3_lieAt_40 : decode cX3_lieAt 40 = .ok (.if_icmp .ne 13, 3) := by decide +kernel
theorem dX3_lieAt_43 : decode cX3_lieAt 43 = .ok (.aload_n 0, 1) := by decide +kernel
theorem dX3_lieAt_44 : decode cX3_lieAt 44 = .ok (.getfield 44, 3) := by decide +kernel
theorem dX3_lieAt_47 : decode cX3_lieAt 47 = .ok (.iload_n 1, 1) := by decide +kernel
theorem dX3_lieAt_48 : decode cX3_lieAt 48 = .ok (.dup2, 1) := by decide +kernel
theorem dX3_lieAt_49 : decode cX3_lieAt 49 = .ok (.iaload, 1) := by decide +kernel
theorem dX3_lieAt_50 : decode cX3_lieAt 50 = .ok (.iconst 1, 1) := by decide +kernel
theorem dX3_lieAt_51 : decode cX3_lieAt 51 = .ok (.iadd, 1) := by decide +kernel
theorem dX3_lieAt_52 : decode cX3_lieAt 52 = .ok (.iastore, 1) := by decide +kernel
theorem dX3_lieAt_53 : decode cX3_lieAt 53 = .ok (.return_, 1) := by decide +kernel
theorem dX3_hasAllNumbers_0 : decode cX3_hasAllNumbers 0 = .ok (.iconst 1, 1) := by decide +kernel
theorem dX3_hasAllNumbers_1 : decode cX3_hasAllNumbers 1 = .ok (.istore_n 1, 1) := by decide +kernel
theorem dX3_hasAllNumbers_2 : decode cX3_hasAllNumbers 2 = .ok (.iload_n 1, 1) := by decide +kernel
theorem dX3_hasAllNumbers_3 : decode cX3_hasAllNumbers 3 = .ok (.aload_n 0, 1) := by decide +kernel
theorem dX3_hasAllNumbers_4 : decode cX3_hasAllNumbers 4 = .ok (.getfield 22, 3) := by decide +kernel
theorem dX3_hasAllNumbers_7 : decode cX3_hasAllNumbers 7 = .ok (.if_icmp .ge 20, 3) := by decide +kernel
theorem dX3_hasAllNumbers_10 : decode cX3_hasAllNumbers 10 = .ok (.aload_n 0, 1) := by decide +kernel
theorem dX3_hasAllNumbers_11 : decode cX3_hasAllNumbers 11 = .ok (.getfield 41, 3) := by decide +kernel
theorem dX3_hasAllNumbers_14 : decode cX3_hasAllNumbers 14 = .ok (.iload_n 1, 1) := by decide +kernel
theorem dX3_hasAllNumbers_15 : decode cX3_hasAllNumbers 15 = .ok (.iaload, 1) := by decide +kernel
theorem dX3_hasAllNumbers_16 : decode cX3_hasAllNumbers 16 = .ok (.ifCond .ne 5, 3) := by decide +kernel
theorem dX3_hasAllNumbers_19 : decode cX3_hasAllNumbers 19 = .ok (.iconst 0, 1) := by decide +kernel
theorem dX3_hasAllNumbers_20 : decode cX3_hasAllNumbers 20 = .ok (.ireturn, 1) := by decide +kernel
theorem dX3_hasAllNumbers_21 : decode cX3_hasAllNumbers 21 = .ok (.iinc 1 1, 3) := by decide +kernel
theorem dX3_hasAllNumbers_24 : decode cX3_hasAllNumbers 24 = .ok (.goto (-22), 3) := by decide +kernel
theorem dX3_hasAllNumbers_27 : decode cX3_hasAllNumbers 27 = .ok (.iconst 1, 1) := by decide +kernel
theorem dX3_hasAllNumbers_28 : decode cX3_hasAllNumbers 28 = .ok (.ireturn, 1) := by decide +kernel
theorem dX3_goesOnInTurn_0 : decode cX3_goesOnInTurn 0 = .ok (.iconst 1, 1) := by decide +kernel
theorem dX3_goesOnInTurn_1 : decode cX3_goesOnInTurn 1 = .ok (.istore_n 1, 1) := by decide +kernel
theorem dX3_goesOnInTurn_2 : decode cX3_goesOnInTurn 2 = .ok (.iload_n 1, 1) := by decide +kernel
theorem dX3_goesOnInTurn_3 : decode cX3_goesOnInTurn 3 = .ok (.aload_n 0, 1) := by decide +kernel
theorem dX3_goesOnInTurn_4 : decode cX3_goesOnInTurn 4 = .ok (.getfield 22, 3) := by decide +kernel
theorem dX3_goesOnInTurn_7 : decode cX3_goesOnInTurn 7 = .ok (.if_icmp .gt 31, 3) := by decide +kernel
theorem dX3_goesOnInTurn_10 : decode cX3_goesOnInTurn 10 = .ok (.aload_n 0, 1) := by decide +kernel
theorem dX3_goesOnInTurn_11 : decode cX3_goesOnInTurn 11 = .ok (.getfield 50, 3) := by decide +kernel
theorem dX3_goesOnInTurn_14 : decode cX3_goesOnInTurn 14 = .ok (.iload_n 1, 1) := by decide +kernel
theorem dX3_goesOnInTurn_15 : decode cX3_goesOnInTurn 15 = .ok (.iaload, 1) := by decide +kernel
theorem dX3_goesOnInTurn_16 : decode cX3_goesOnInTurn 16 = .ok (.aload_n 0, 1) := by decide +kernel
theorem dX3_goesOnInTurn_17 : decode cX3_goesOnInTurn 17 = .ok (.getfield 47, 3) := by decide +kernel
theorem dX3_goesOnInTurn_20 : decode cX3_goesOnInTurn 20 = .ok (.aload_n 0, 1) := by decide +kernel
theorem dX3_goesOnInTurn_21 : decode cX3_goesOnInTurn 21 = .ok (.getfield 15, 3) := by decide +kernel
theorem dX3_goesOnInTurn_24 : decode cX3_goesOnInTurn 24 = .ok (.iload_n 1, 1) := by decide +kernel
theorem dX3_goesOnInTurn_25 : decode cX3_goesOnInTurn 25 = .ok (.iaload, 1) := by decide +kernel
theorem dX3_goesOnInTurn_26 : decode cX3_goesOnInTurn 26 = .ok (.iaload, 1) := by decide +kernel
theorem dX3_goesOnInTurn_27 : decode cX3_goesOnInTurn 27 = .ok (.if_icmp .ne 5, 3) := by decide +kernel
theorem dX3_goesOnInTurn_30 : decode cX3_goesOnInTurn 30 = .ok (.iconst 0, 1) := by decide +kernel
theorem dX3_goesOnInTurn_31 : decode cX3_goesOnInTurn 31 = .ok (.ireturn, 1) := by decide +kernel
theorem dX3_goesOnInTurn_32 : decode cX3_goesOnInTurn 32 = .ok (.iinc 1 1, 3) := by decide +kernel
theorem dX3_goesOnInTurn_35 : decode cX3_goesOnInTurn 35 = .ok (.goto (-33), 3) := by decide +kernel
theorem dX3_goesOnInTurn_38 : decode cX3_goesOnInTurn 38 = .ok (.iconst 1, 1) := by decide +kernel
theorem dX3_goesOnInTurn_39 : decode cX3_goesOnInTurn 39 = .ok (.ireturn, 1) := by decide +kernel
theorem dX3_walkRings_0 : decode cX3_walkRings 0 = .ok (.aload_n 0, 1) := by decide +kernel
theorem dX3_walkRings_1 : decode cX3_walkRings 1 = .ok (.iconst 0, 1) := by decide +kernel
theorem dX3_walkRings_2 : decode cX3_walkRings 2 = .ok (.putfield 31, 3) := by decide +kernel
theorem dX3_walkRings_5 : decode cX3_walkRings 5 = .ok (.aload_n 0, 1) := by decide +kernel
theorem dX3_walkRings_6 : decode cX3_walkRings 6 = .ok (.iconst 1, 1) := by decide +kernel
theorem dX3_walkRings_7 : decode cX3_walkRings 7 = .ok (.putfield 28, 3) := by decide +kernel
theorem dX3_walkRings_10 : decode cX3_walkRings 10 = .ok (.iconst 0, 1) := by decide +kernel
theorem dX3_walkRings_11 : decode cX3_walkRings 11 = .ok (.istore_n 1, 1) := by decide +kernel
theorem dX3_walkRings_12 : decode cX3_walkRings 12 = .ok (.iconst 1, 1) := by decide +kernel
theorem dX3_walkRings_13 : decode cX3_walkRings 13 = .ok (.istore_n 2, 1) := by decide +kernel
theorem dX3_walkRings_14 : decode cX3_walkRings 14 = .ok (.iload_n 2, 1) := by decide +kernel
theorem dX3_walkRings_15 : decode cX3_walkRings 15 = .ok (.aload_n 0, 1) := by decide +kernel
theorem dX3_walkRings_16 : decode cX3_walkRings 16 = .ok (.getfield 22, 3) := by decide +kernel
theorem dX3_walkRings_19 : decode cX3_walkRings 19 = .ok (.if_icmp .gt 79, 3) := by decide +kernel
theorem dX3_walkRings_22 : decode cX3_walkRings 22 = .ok (.iconst 0, 1) := by decide +kernel
theorem dX3_walkRings_23 : decode cX3_walkRings 23 = .ok (.istore_n 3, 1) := by decide +kernel
theorem dX3_walkRings_24 : decode cX3_walkRings 24 = .ok (.iload_n 2, 1) := by decide +kernel
theorem dX3_walkRings_25 : decode cX3_walkRings 25 = .ok (.istore 4, 2) := by decide +kernel
theorem dX3_walkRings_27 : decode cX3_walkRings 27 = .ok (.iload_n 3, 1) := by decide +kernel
theorem dX3_walkRings_28 : decode cX3_walkRings 28 = .ok (.aload_n 0, 1) := by decide +kernel
theorem dX3_walkRings_29 : decode cX3_walkRings 29 = .ok (.getfield 22, 3) := by decide +kernel
theorem dX3_walkRings_32 : decode cX3_walkRings 32 = .ok (.if_icmp .ge 34, 3) := by decide +kernel
theorem dX3_walkRings_35 : decode cX3_walkRings 35 = .ok (.iload_n 1, 1) := by decide +kernel
theorem dX3_walkRings_36 : decode cX3_walkRings 36 = .ok (.iload 4, 2) := by decide +kernel
theorem dX3_walkRings_38 : decode cX3_walkRings 38 = .ok (.ishr, 1) := by decide +kernel
theorem dX3_walkRings_39 : decode cX3_walkRings 39 = .ok (.iconst 1, 1) := by decide +kernel
theorem dX3_walkRings_40 : decode cX3_walkRings 40 = .ok (.iand, 1) := by decide +kernel
theorem dX3_walkRings_41 : decode cX3_walkRings 41 = .ok (.ifCond .ne 25, 3) := by decide +kernel
theorem dX3_walkRings_44 : decode cX3_walkRings 44 = .ok (.iload_n 1, 1) := by decide +kernel
theorem dX3_walkRings_45 : decode cX3_walkRings 45 = .ok (.iconst 1, 1) := by decide +kernel
theorem dX3_walkRings_46 : decode cX3_walkRings 46 = .ok (.iload 4, 2) := by decide +kernel
theorem dX3_walkRings_48 : decode cX3_walkRings 48 = .ok (.ishl, 1) := by decide +kernel
theorem dX3_walkRings_49 : decode cX3_walkRings 49 = .ok (.ior, 1) := by decide +kernel
theorem dX3_walkRings_50 : decode cX3_walkRings 50 = .ok (.istore_n 1, 1) := by decide +kernel
theorem dX3_walkRings_51 : decode cX3_walkRings 51 = .ok (.aload_n 0, 1) := by decide +kernel
theorem dX3_walkRings_52 : decode cX3_walkRings 52 = .ok (.getfield 15, 3) := by decide +kernel
theorem dX3_walkRings_55 : decode cX3_walkRings 55 = .ok (.iload 4, 2) := by decide +kernel
theorem dX3_walkRings_57 : decode cX3_walkRings 57 = .ok (.iaload, 1) := by decide +kernel
theorem dX3_walkRings_58 : decode cX3_walkRings 58 = .ok (.istore 4, 2) := by decide +kernel
theorem dX3_walkRings_60 : decode cX3_walkRings 60 = .ok (.iinc 3 1, 3) := by decide +kernel
theorem dX3_walkRings_63 : decode cX3_walkRings 63 = .ok (.goto (-36), 3) := by decide +kernel
theorem dX3_walkRings_66 : decode cX3_walkRings 66 = .ok (.iload_n 3, 1) := by decide +kernel
theorem dX3_walkRings_67 : decode cX3_walkRings 67 = .ok (.ifCond .le 25, 3) := by decide +kernel
theorem dX3_walkRings_70 : decode cX3_walkRings 70 = .ok (.aload_n 0, 1) := by decide +kernel
theorem dX3_walkRings_71 : decode cX3_walkRings 71 = .ok (.dup, 1) := by decide +kernel
theorem dX3_walkRings_72 : decode cX3_walkRings 72 = .ok (.getfield 31, 3) := by decide +kernel
theorem dX3_walkRings_75 : decode cX3_walkRings 75 = .ok (.iconst 1, 1) := by decide +kernel
theorem dX3_walkRings_76 : decode cX3_walkRings 76 = .ok (.iadd, 1) := by decide +kernel
theorem dX3_walkRings_77 : decode cX3_walkRings 77 = .ok (.putfield 31, 3) := by decide +kernel
theorem dX3_walkRings_80 : decode cX3_walkRings 80 = .ok (.aload_n 0, 1) := by decide +kernel
theorem dX3_walkRings_81 : decode cX3_walkRings 81 = .ok (.aload_n 0, 1) := by decide +kernel
theorem dX3_walkRings_82 : decode cX3_walkRings 82 = .ok (.getfield 28, 3) := by decide +kernel
theorem dX3_walkRings_85 : decode cX3_walkRings 85 = .ok (.iload_n 3, 1) := by decide +kernel
theorem dX3_walkRings_86 : decode cX3_walkRings 86 = .ok (.invokestatic 128, 3) := by decide +kernel
theorem dX3_walkRings_89 : decode cX3_walkRings 89 = .ok (.putfield 28, 3) := by decide +kernel
theorem dX3_walkRings_92 : decode cX3_walkRings 92 = .ok (.iinc 2 1, 3) := by decide +kernel
theorem dX3_walkRings_95 : decode cX3_walkRings 95 = .ok (.goto (-81), 3) := by decide +kernel
theorem dX3_walkRings_98 : decode cX3_walkRings 98 = .ok (.return_, 1) := by decide +kernel
theorem dX3_leastCommonMultiple_0 : decode cX3_leastCommonMultiple 0 = .ok (.iconst 1, 1) := by decide +kernel
theorem dX3_leastCommonMultiple_1 : decode cX3_leastCommonMultiple 1 = .ok (.istore_n 2, 1) := by decide +kernel
theorem dX3_leastCommonMultiple_2 : decode cX3_leastCommonMultiple 2 = .ok (.iload_n 2, 1) := by decide +kernel
theorem dX3_leastCommonMultiple_3 : decode cX3_leastCommonMultiple 3 = .ok (.iload_n 1, 1) := by decide +kernel
theorem dX3_leastCommonMultiple_4 : decode cX3_leastCommonMultiple 4 = .ok (.if_icmp .ge 21, 3) := by decide +kernel
theorem dX3_leastCommonMultiple_7 : decode cX3_leastCommonMultiple 7 = .ok (.iload_n 0, 1) := by decide +kernel
theorem dX3_leastCommonMultiple_8 : decode cX3_leastCommonMultiple 8 = .ok (.iload_n 2, 1) := by decide +kernel
theorem dX3_leastCommonMultiple_9 : decode cX3_leastCommonMultiple 9 = .ok (.imul, 1) := by decide +kernel
theorem dX3_leastCommonMultiple_10 : decode cX3_leastCommonMultiple 10 = .ok (.iload_n 1, 1) := by decide +kernel
theorem dX3_leastCommonMultiple_11 : decode cX3_leastCommonMultiple 11 = .ok (.irem, 1) := by decide +kernel
theorem dX3_leastCommonMultiple_12 : decode cX3_leastCommonMultiple 12 = .ok (.ifCond .ne 7, 3) := by decide +kernel
theorem dX3_leastCommonMultiple_15 : decode cX3_leastCommonMultiple 15 = .ok (.iload_n 0, 1) := by decide +kernel
theorem dX3_leastCommonMultiple_16 : decode cX3_leastCommonMultiple 16 = .ok (.iload_n 2, 1) := by decide +kernel
theorem dX3_leastCommonMultiple_17 : decode cX3_leastCommonMultiple 17 = .ok (.imul, 1) := by decide +kernel
theorem dX3_leastCommonMultiple_18 : decode cX3_leastCommonMultiple 18 = .ok (.ireturn, 1) := by decide +kernel
theorem dX3_leastCommonMultiple_19 : decode cX3_leastCommonMultiple 19 = .ok (.iinc 2 1, 3) := by decide +kernel
theorem dX3_leastCommonMultiple_22 : decode cX3_leastCommonMultiple 22 = .ok (.goto (-20), 3) := by decide +kernel
theorem dX3_leastCommonMultiple_25 : decode cX3_leastCommonMultiple 25 = .ok (.iload_n 0, 1) := by decide +kernel
theorem dX3_leastCommonMultiple_26 : decode cX3_leastCommonMultiple 26 = .ok (.iload_n 1, 1) := by decide +kernel
theorem dX3_leastCommonMultiple_27 : decode cX3_leastCommonMultiple 27 = .ok (.imul, 1) := by decide +kernel
theorem dX3_leastCommonMultiple_28 : decode cX3_leastCommonMultiple 28 = .ok (.ireturn, 1) := by decide +kernel
theorem dX4_init_0 : decode cX4_init 0 = .ok (.aload_n 0, 1) := by decide +kernel
theorem dX4_init_1 : decode cX4_init 1 = .ok (.invokespecial 3, 3) := by decide +kernel
theorem dX4_init_4 : decode cX4_init 4 = .ok (.aload_n 0, 1) := by decide +kernel
theorem dX4_init_5 : decode cX4_init 5 = .ok (.sipush 300, 3) := by decide +kernel
theorem dX4_init_8 : decode cX4_init 8 = .ok (.newarray .int, 2) := by decide +kernel
theorem dX4_init_10 : decode cX4_init 10 = .ok (.putfield 9, 3) := by decide +kernel
theorem dX4_init_13 : decode cX4_init 13 = .ok (.aload_n 0, 1) := by decide +kernel
theorem dX4_init_14 : decode cX4_init 14 = .ok (.iconst 0, 1) := by decide +kernel
theorem dX4_init_15 : decode cX4_init 15 = .ok (.putfield 15, 3) := by decide +kernel
theorem dX4_init_18 : decode cX4_init 18 = .ok (.aload_n 0, 1) := by decide +kernel
theorem dX4_init_19 : decode cX4_init 19 = .ok (.iconst 0, 1) := by decide +kernel
theorem dX4_init_20 : decode cX4_init 20 = .ok (.putfield 19, 3) := by decide +kernel
theorem dX4_init_23 : decode cX4_init 23 = .ok (.aload_n 0, 1) := by decide +kernel
theorem dX4_init_24 : decode cX4_init 24 = .ok (.iconst (-1), 1) := by decide +kernel
theorem dX4_init_25 : decode cX4_init 25 = .ok (.putfield 22, 3) := by decide +kernel
theorem dX4_init_28 : decode cX4_init 28 = .ok (.aload_n 0, 1) := by decide +kernel
theorem dX4_init_29 : decode cX4_init 29 = .ok (.bipush 8, 2) := by decide +kernel
theorem dX4_init_31 : decode cX4_init 31 = .ok (.newarray .int, 2) := by decide +kernel
theorem dX4_init_33 : decode cX4_init 33 = .ok (.putfield 25, 3) := by decide +kernel
theorem dX4_init_36 : decode cX4_init 36 = .ok (.aload_n 0, 1) := by decide +kernel
theorem dX4_init_37 : decode cX4_init 37 = .ok (.bipush 8, 2) := by decide +kernel
theorem dX4_init_39 : decode cX4_init 39 = .ok (.newarray .int, 2) := by decide +kernel
theorem dX4_init_41 : decode cX4_init 41 = .ok (.putfield 28, 3) := by decide +kernel
theorem dX4_init_44 : decode cX4_init 44 = .ok (.aload_n 0, 1) := by decide +kernel
theorem dX4_init_45 : decode cX4_init 45 = .ok (.iconst 0, 1) := by decide +kernel
theorem dX4_init_46 : decode cX4_init 46 = .ok (.putfield 31, 3) := by decide +kernel
theorem dX4_init_49 : decode cX4_init 49 = .ok (.aload_n 0, 1) := by decide +kernel
theorem dX4_init_50 : decode cX4_init 50 = .ok (.iconst 0, 1) := by decide +kernel
theorem dX4_init_51 : decode cX4_init 51 = .ok (.putfield 34, 3) := by decide +kernel
theorem dX4_init_54 : decode cX4_init 54 = .ok (.aload_n 0, 1) := by decide +kernel
theorem dX4_init_55 : decode cX4_init 55 = .ok (.iconst 0, 1) := by decide +kernel
theorem dX4_init_56 : decode cX4_init 56 = .ok (.putfield 37, 3) := by decide +kernel
theorem dX4_init_59 : decode cX4_init 59 = .ok (.aload_n 0, 1) := by decide +kernel
theorem dX4_init_60 : decode cX4_init 60 = .ok (.iconst 2, 1) := by decide +kernel
theorem dX4_init_61 : decode cX4_init 61 = .ok (.putfield 40, 3) := by decide +kernel
theorem dX4_init_64 : decode cX4_init 64 = .ok (.aload_n 0, 1) := by decide +kernel
theorem dX4_init_65 : decode cX4_init 65 = .ok (.aload_n 1, 1) := by decide +kernel
theorem dX4_init_66 : decode cX4_init 66 = .ok (.putfield 43, 3) := by decide +kernel
theorem dX4_init_69 : decode cX4_init 69 = .ok (.aload_n 0, 1) := by decide +kernel
theorem dX4_init_70 : decode cX4_init 70 = .ok (.aload_n 2, 1) := by decide +kernel
theorem dX4_init_71 : decode cX4_init 71 = .ok (.putfield 47, 3) := by decide +kernel
theorem dX4_init_74 : decode cX4_init 74 = .ok (.return_, 1) := by decide +kernel
theorem dX4_read_0 : decode cX4_read 0 = .ok (.aload_n 0, 1) := by decide +kernel
theorem dX4_read_1 : decode cX4_read 1 = .ok (.iload_n 1, 1) := by decide +kernel
theorem dX4_read_2 : decode cX4_read 2 = .ok (.aload_n 0, 1) := by decide +kernel
theorem dX4_read_3 : decode cX4_read 3 = .ok (.getfield 43, 3) := by decide +kernel
theorem dX4_read_6 : decode cX4_read 6 = .ok (.arraylength, 1) := by decide +kernel
theorem dX4_read_7 : decode cX4_read 7 = .ok (.invokestatic 51, 3) := by decide +kernel
theorem dX4_read_10 : decode cX4_read 10 = .ok (.putfield 34, 3) := by decide +kernel
theorem dX4_read_13 : decode cX4_read 13 = .ok (.aload_n 0, 1) := by decide +kernel
theorem dX4_read_14 : decode cX4_read 14 = .ok (.iload_n 2, 1) := by decide +kernel
theorem dX4_read_15 : decode cX4_read 15 = .ok (.putfield 40, 3) := by decide +kernel
theorem dX4_read_18 : decode cX4_read 18 = .ok (.aload_n 0, 1) := by decide +kernel
theorem dX4_read_19 : decode cX4_read 19 = .ok (.iconst 0, 1) := by decide +kernel
theorem dX4_read_20 : decode cX4_read 20 = .ok (.putfield 37, 3) := by decide +kernel
theorem dX4_read_23 : decode cX4_read 23 = .ok (.aload_n 0, 1) := by decide +kernel
theorem dX4_read_24 : decode cX4_read 24 = .ok (.iconst 0, 1) := by decide +kernel
theorem dX4_read_25 : decode cX4_read 25 = .ok (.putfield 31, 3) := by decide +kernel
theorem dX4_read_28 : decode cX4_read 28 = .ok (.aload_n 0, 1) := by decide +kernel
theorem dX4_read_29 : decode cX4_read 29 = .ok (.iconst 0, 1) := by decide +kernel
theorem dX4_read_30 : decode cX4_read 30 = .ok (.putfield 15, 3) := by decide +kernel
theorem dX4_read_33 : decode cX4_read 33 = .ok (.aload_n 0, 1) := by decide +kernel
theorem dX4_read_34 : decode cX4_read 34 = .ok (.iconst 0, 1) := by decide +kernel
theorem dX4_read_35 : decode cX4_read 35 = .ok (.putfield 19, 3) := by decide +kernel
theorem dX4_read_38 : decode cX4_read 38 = .ok (.aload_n 0, 1) := by decide +kernel
theorem dX4_read_39 : decode cX4_read 39 = .ok (.iconst (-1), 1) := by decide +kernel
theorem dX4_read_40 : decode cX4_read 40 = .ok (.putfield 22, 3) := by decide +kernel
theorem dX4_read_43 : decode cX4_read 43 = .ok (.aload_n 0, 1) := by decide +kernel
theorem dX4_read_44 : decode cX4_read 44 = .ok (.invokevirtual 57, 3) := by decide +kernel
theorem dX4_read_47 : decode cX4_read 47 = .ok (.return_, 1) := by decide +kernel
theorem dX4_readItems_0 : decode cX4_readItems 0 = .ok (.iconst 0, 1) := by decide +kernel
theorem dX4_readItems_1 : decode cX4_readItems 1 = .ok (.istore_n 1, 1) := by decide +kernel
theorem dX4_readItems_2 : decode cX4_readItems 2 = .ok (.iload_n 1, 1) := by decide +kernel
theorem dX4_readItems_3 : decode cX4_readItems 3 = .ok (.aload_n 0, 1) := by decide +kernel
theorem dX4_readItems_4 : decode cX4_readItems 4 = .ok (.getfield 34, 3) := by decide +kernel
theorem dX4_readItems_7 : decode cX4_readItems 7 = .ok (.if_icmp .gt 48, 3) := by decide +kernel
theorem dX4_readItems_10 : decode cX4_readItems 10 = .ok (.aload_n 0, 1) := by decide +kernel
theorem dX4_readItems_11 : decode cX4_readItems 11 = .ok (.getfield 19, 3) := by decide +kernel
theorem dX4_readItems_14 : decode cX4_readItems 14 = .ok (.ifCond .ne 41, 3) := by decide +kernel
theorem dX4_readItems_17 : decode cX4_readItems 17 = .ok (.aload_n 0, 1) := by decide +kernel
theorem dX4_readItems_18 : decode cX4_readItems 18 = .ok (.invokevirtual 60, 3) := by decide +kernel
theorem dX4_readItems_21 : decode cX4_readItems 21 = .ok (.istore_n 2, 1) := by decide +kernel
theorem dX4_readItems_22 : decode cX4_readItems 22 = .ok (.iload_n 2, 1) := by decide +kernel
theorem dX4_readItems_23 : decode cX4_readItems 23 = .ok (.iconst (-1), 1) := by decide +kernel
theorem dX4_readItems_24 : decode cX4_readItems 24 = .ok (.if_icmp .ne 20, 3) := by decide +kernel
theorem dX4_readItems_27 : decode cX4_readItems 27 = .ok (.aload_n 0, 1) := by decide +kernel
theorem dX4_readItems_28 : decode cX4_readItems 28 = .ok (.getfield 31, 3) := by decide +kernel
theorem dX4_readItems_31 : decode cX4_readItems 31 = .ok (.ifCond .le 12, 3) := by decide +kernel
theorem dX4_readItems_34 : decode cX4_readItems 34 = .ok (.aload_n 0, 1) := by decide +kernel
theorem dX4_readItems_35 : decode cX4_readItems 35 = .ok (.iconst 1, 1) := by decide +kernel
theorem dX4_readItems_36 : decode cX4_readItems 36 = .ok (.aload_n 0, 1) := by decide +kernel
theorem dX4_readItems_37 : decode cX4_readItems 37 = .ok (.getfield 37, 3) := by decide +kernel
theorem dX4_readItems_40 : decode cX4_readItems 40 = .ok (.invokevirtual 64, 3) := by decide +kernel
theorem dX4_readItems_43 : decode cX4_readItems 43 = .ok (.return_, 1) := by decide +kernel
theorem dX4_readItems_44 : decode cX4_readItems 44 = .ok (.aload_n 0, 1) := by decide +kernel
theorem dX4_readItems_45 : decode cX4_readItems 45 = .ok (.iload_n 2, 1) := by decide +kernel
theorem dX4_readItems_46 : decode cX4_readItems 46 = .ok (.invokevirtual 68, 3) := by decide +kernel
theorem dX4_readItems_49 : decode cX4_readItems 49 = .ok (.iinc 1 1, 3) := by decide +kernel
theorem dX4_readItems_52 : decode cX4_readItems 52 = .ok (.goto (-50), 3) := by decide +kernel
theorem dX4_readItems_55 : decode cX4_readItems 55 = .ok (.return_, 1) := by decide +kernel
theorem dX4_readItem_0 : decode cX4_readItem 0 = .ok (.iload_n 1, 1) := by decide +kernel
theorem dX4_readItem_1 : decode cX4_readItem 1 = .ok (.invokestatic 72, 3) := by decide +kernel
theorem dX4_readItem_4 : decode cX4_readItem 4 = .ok (.ifCond .eq 10, 3) := by decide +kernel
theorem dX4_readItem_7 : decode cX4_readItem 7 = .ok (.aload_n 0, 1) := by decide +kernel
theorem dX4_readItem_8 : decode cX4_readItem 8 = .ok (.invokevirtual 76, 3) := by decide +kernel
theorem dX4_readItem_11 : decode cX4_readItem 11 = .ok (.goto 88, 3) := by decide +kernel
theorem dX4_readItem_14 : decode cX4_readItem 14 = .ok (.iload_n 1, 1) := by decide +kernel
theorem dX4_readItem_15 : decode cX4_readItem 15 = .ok (.bipush 112, 2) := by decide +kernel
theorem dX4_readItem_17 : decode cX4_readItem 17 = .ok (.if_icmp .ne 10, 3) := by decide +kernel
theorem dX4_readItem_20 : decode cX4_readItem 20 = .ok (.aload_n 0, 1) := by decide +kernel
theorem dX4_readItem_21 : decode cX4_readItem 21 = .ok (.invokevirtual 79, 3) := by decide +kernel
theorem dX4_readItem_24 : decode cX4_readItem 24 = .ok (.goto 75, 3) := by decide +kernel
theorem dX4_readItem_27 : decode cX4_readItem 27 = .ok (.iload_n 1, 1) := by decide +kernel
theorem dX4_readItem_28 : decode cX4_readItem 28 = .ok (.bipush 117, 2) := by decide +kernel
theorem dX4_readItem_30 : decode cX4_readItem 30 = .ok (.if_icmp .ne 11, 3) := by decide +kernel
theorem dX4_readItem_33 : decode cX4_readItem 33 = .ok (.aload_n 0, 1) := by decide +kernel
theorem dX4_readItem_34 : decode cX4_readItem 34 = .ok (.iconst 0, 1) := by decide +kernel
theorem dX4_readItem_35 : decode cX4_readItem 35 = .ok (.invokevirtual 82, 3) := by decide +kernel
theorem dX4_readItem_38 : decode cX4_readItem 38 = .ok (.goto 61, 3) := by decide +kernel
theorem dX4_readItem_41 : decode cX4_readItem 41 = .ok (.iload_n 1, 1) := by decide +kernel
theorem dX4_readItem_42 : decode cX4_readItem 42 = .ok (.bipush 109, 2) := by decide +kernel
theorem dX4_readItem_44 : decode cX4_readItem 44 = .ok (.if_icmp .ne 11, 3) := by decide +kernel
theorem dX4_readItem_47 : decode cX4_readItem 47 = .ok (.aload_n 0, 1) := by decide +kernel
theorem dX4_readItem_48 : decode cX4_readItem 48 = .ok (.iconst (-1), 1) := by decide +kernel
theorem dX4_readItem_49 : decode cX4_readItem 49 = .ok (.invokevirtual 82, 3) := by decide +kernel
theorem dX4_readItem_52 : decode cX4_readItem 52 = .ok (.goto 47, 3) := by decide +kernel
theorem dX4_readItem_55 : decode cX4_readItem 55 = .ok (.iload_n 1, 1) := by decide +kernel
theorem dX4_readItem_56 : decode cX4_readItem 56 = .ok (.bipush 116, 2) := by decide +kernel
theorem dX4_readItem_58 : decode cX4_readItem 58 = .ok (.if_icmp .ne 12, 3) := by decide +kernel
theorem dX4_readItem_61 : decode cX4_readItem 61 = .ok (.aload_n 0, 1) := by decide +kernel
theorem dX4_readItem_62 : decode cX4_readItem 62 = .ok (.bipush (-2), 2) := by decide +kernel
theorem dX4_readItem_64 : decode cX4_readItem 64 = .ok (.invokevirtual 82, 3) := by decide +kernel
theorem dX4_readItem_67 : decode cX4_readItem 67 = .ok (.goto 32, 3) := by decide +kernel
theorem dX4_readItem_70 : decode cX4_readItem 70 = .ok (.iload_n 1, 1) := by decide +kernel
theorem dX4_readItem_71 : decode cX4_readItem 71 = .ok (.bipush 41, 2) := by decide +kernel
theorem dX4_readItem_73 : decode cX4_readItem 73 = .ok (.if_icmp .ne 17, 3) := by decide +kernel
theorem dX4_readItem_76 : decode cX4_readItem 76 = .ok (.aload_n 0, 1) := by decide +kernel
theorem dX4_readItem_77 : decode cX4_readItem 77 = .ok (.getfield 31, 3) := by decide +kernel
theorem dX4_readItem_80 : decode cX4_readItem 80 = .ok (.ifCond .le 10, 3) := by decide +kernel
theorem dX4_readItem_83 : decode cX4_readItem 83 = .ok (.aload_n 0, 1) := by decide +kernel
theorem dX4_readItem_84 : decode cX4_readItem 84 = .ok (.invokevirtual 85, 3) := by decide +kernel
theorem dX4_readItem_87 : decode cX4_readItem 87 = .ok (.goto 12, 3) := by decide +kernel
theorem dX4_readItem_90 : decode cX4_readItem 90 = .ok (.aload_n 0, 1) := by decide +kernel
theorem dX4_readItem_91 : decode cX4_readItem 91 = .ok (.iconst 1, 1) := by decide +kernel
theorem dX4_readItem_92 : decode cX4_readItem 92 = .ok (.aload_n 0, 1) := by decide +kernel
theorem dX4_readItem_93 : decode cX4_readItem 93 = .ok (.getfield 37, 3) := by decide +kernel
theorem dX4_readItem_96 : decode cX4_readItem 96 = .ok (.invokevirtual 64, 3) := by decide +kernel
theorem dX4_readItem_99 : decode cX4_readItem 99 = .ok (.return_, 1) := by decide +kernel
