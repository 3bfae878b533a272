theorem dX0_init_16 : decode cX0_init 16 = .ok (.putfield 16, 3) := by decide +kernel
theorem dX0_init_19 : decode cX0_init 19 = .ok (.return_, 1) := by decide +kernel
theorem dX1_init_0 : decode cX1_init 0 = .ok (.aload_n 0, 1) := by decide +kernel
theorem dX1_init_1 : decode cX1_init 1 = .ok (.invokespecial 3, 3) := by decide +kernel
theorem dX1_init_4 : decode cX1_init 4 = .ok (.aload_n 0, 1) := by decide +kernel
theorem dX1_init_5 : decode cX1_init 5 = .ok (.iconst 0, 1) := by decide +kernel
theorem dX1_init_6 : decode cX1_init 6 = .ok (.putfield 9, 3) := by decide +kernel
theorem dX1_init_9 : decode cX1_init 9 = .ok (.aload_n 0, 1) := by decide +kernel
theorem dX1_init_10 : decode cX1_init 10 = .ok (.iconst 0, 1) := by decide +kernel
theorem dX1_init_11 : decode cX1_init 11 = .ok (.putfield 15, 3) := by decide +kernel
theorem dX1_init_14 : decode cX1_init 14 = .ok (.aload_n 0, 1) := by decide +kernel
theorem dX1_init_15 : decode cX1_init 15 = .ok (.iconst 0, 1) := by decide +kernel
theorem dX1_init_16 : decode cX1_init 16 = .ok (.putfield 18, 3) := by decide +kernel
theorem dX1_init_19 : decode cX1_init 19 = .ok (.aload_n 0, 1) := by decide +kernel
theorem dX1_init_20 : decode cX1_init 20 = .ok (.iconst 2, 1) := by decide +kernel
theorem dX1_init_21 : decode cX1_init 21 = .ok (.putfield 21, 3) := by decide +kernel
theorem dX1_init_24 : decode cX1_init 24 = .ok (.aload_n 0, 1) := by decide +kernel
theorem dX1_init_25 : decode cX1_init 25 = .ok (.iconst 0, 1) := by decide +kernel
theorem dX1_init_26 : decode cX1_init 26 = .ok (.putfield 24, 3) := by decide +kernel
theorem dX1_init_29 : decode cX1_init 29 = .ok (.aload_n 0, 1) := by decide +kernel
theorem dX1_init_30 : decode cX1_init 30 = .ok (.iconst 0, 1) := by decide +kernel
theorem dX1_init_31 : decode cX1_init 31 = .ok (.putfield 27, 3) := by decide +kernel
theorem dX1_init_34 : decode cX1_init 34 = .ok (.aload_n 0, 1) := by decide +kernel
theorem dX1_init_35 : decode cX1_init 35 = .ok (.bipush 8, 2) := by decide +kernel
theorem dX1_init_37 : decode cX1_init 37 = .ok (.newarray .int, 2) := by decide +kernel
theorem dX1_init_39 : decode cX1_init 39 = .ok (.putfield 30, 3) := by decide +kernel
theorem dX1_init_42 : decode cX1_init 42 = .ok (.aload_n 0, 1) := by decide +kernel
theorem dX1_init_43 : decode cX1_init 43 = .ok (.bipush 8, 2) := by decide +kernel
theorem dX1_init_45 : decode cX1_init 45 = .ok (.newarray .int, 2) := by decide +kernel
theorem dX1_init_47 : decode cX1_init 47 = .ok (.putfield 34, 3) := by decide +kernel
theorem dX1_init_50 : decode cX1_init 50 = .ok (.aload_n 0, 1) := by decide +kernel
theorem dX1_init_51 : decode cX1_init 51 = .ok (.iconst 0, 1) := by decide +kernel
theorem dX1_init_52 : decode cX1_init 52 = .ok (.iload_n 1, 1) := by decide +kernel
theorem dX1_init_53 : decode cX1_init 53 = .ok (.invokestatic 37, 3) := by decide +kernel
theorem dX1_init_56 : decode cX1_init 56 = .ok (.newarray .int, 2) := by decide +kernel
theorem dX1_init_58 : decode cX1_init 58 = .ok (.putfield 43, 3) := by decide +kernel
theorem dX1_init_61 : decode cX1_init 61 = .ok (.return_, 1) := by decide +kernel
theorem dX1_clear_0 : decode cX1_clear 0 = .ok (.aload_n 0, 1) := by decide +kernel
theorem dX1_clear_1 : decode cX1_clear 1 = .ok (.iload_n 1, 1) := by decide +kernel
theorem dX1_clear_2 : decode cX1_clear 2 = .ok (.putfield 21, 3) := by decide +kernel
theorem dX1_clear_5 : decode cX1_clear 5 = .ok (.aload_n 0, 1) := by decide +kernel
theorem dX1_clear_6 : decode cX1_clear 6 = .ok (.iconst 0, 1) := by decide +kernel
theorem dX1_clear_7 : decode cX1_clear 7 = .ok (.putfield 9, 3) := by decide +kernel
theorem dX1_clear_10 : decode cX1_clear 10 = .ok (.aload_n 0, 1) := by decide +kernel
theorem dX1_clear_11 : decode cX1_clear 11 = .ok (.iconst 0, 1) := by decide +kernel
theorem dX1_clear_12 : decode cX1_clear 12 = .ok (.putfield 15, 3) := by decide +kernel
theorem dX1_clear_15 : decode cX1_clear 15 = .ok (.aload_n 0, 1) := by decide +kernel
theorem dX1_clear_16 : decode cX1_clear 16 = .ok (.iconst 0, 1) := by decide +kernel
theorem dX1_clear_17 : decode cX1_clear 17 = .ok (.putfield 18, 3) := by decide +kernel
theorem dX1_clear_20 : decode cX1_clear 20 = .ok (.aload_n 0, 1) := by decide +kernel
theorem dX1_clear_21 : decode cX1_clear 21 = .ok (.iconst 0, 1) := by decide +kernel
theorem dX1_clear_22 : decode cX1_clear 22 = .ok (.putfield 27, 3) := by decide +kernel
theorem dX1_clear_25 : decode cX1_clear 25 = .ok (.aload_n 0, 1) := by decide +kernel
theorem dX1_clear_26 : decode cX1_clear 26 = .ok (.iconst 0, 1) := by decide +kernel
theorem dX1_clear_27 : decode cX1_clear 27 = .ok (.putfield 24, 3) := by decide +kernel
theorem dX1_clear_30 : decode cX1_clear 30 = .ok (.iconst 1, 1) := by decide +kernel
theorem dX1_clear_31 : decode cX1_clear 31 = .ok (.istore_n 2, 1) := by decide +kernel
theorem dX1_clear_32 : decode cX1_clear 32 = .ok (.iload_n 2, 1) := by decide +kernel
theorem dX1_clear_33 : decode cX1_clear 33 = .ok (.aload_n 0, 1) := by decide +kernel
theorem dX1_clear_34 : decode cX1_clear 34 = .ok (.getfield 21, 3) := by decide +kernel
theorem dX1_clear_37 : decode cX1_clear 37 = .ok (.if_icmp .gt 44, 3) := by decide +kernel
theorem dX1_clear_40 : decode cX1_clear 40 = .ok (.aload_n 0, 1) := by decide +kernel
theorem dX1_clear_41 : decode cX1_clear 41 = .ok (.dup, 1) := by decide +kernel
theorem dX1_clear_42 : decode cX1_clear 42 = .ok (.getfield 27, 3) := by decide +kernel
theorem dX1_clear_45 : decode cX1_clear 45 = .ok (.iload_n 2, 1) := by decide +kernel
theorem dX1_clear_46 : decode cX1_clear 46 = .ok (.iload_n 2, 1) := by decide +kernel
theorem dX1_clear_47 : decode cX1_clear 47 = .ok (.invokestatic 46, 3) := by decide +kernel
theorem dX1_clear_50 : decode cX1_clear 50 = .ok (.ior, 1) := by decide +kernel
theorem dX1_clear_51 : decode cX1_clear 51 = .ok (.putfield 27, 3) := by decide +kernel
theorem dX1_clear_54 : decode cX1_clear 54 = .ok (.aload_n 0, 1) := by decide +kernel
theorem dX1_clear_55 : decode cX1_clear 55 = .ok (.dup, 1) := by decide +kernel
theorem dX1_clear_56 : decode cX1_clear 56 = .ok (.getfield 24, 3) := by decide +kernel
theorem dX1_clear_59 : decode cX1_clear 59 = .ok (.iload_n 2, 1) := by decide +kernel
theorem dX1_clear_60 : decode cX1_clear 60 = .ok (.aload_n 0, 1) := by decide +kernel
theorem dX1_clear_61 : decode cX1_clear 61 = .ok (.getfield 21, 3) := by decide +kernel
theorem dX1_clear_64 : decode cX1_clear 64 = .ok (.iconst 1, 1) := by decide +kernel
theorem dX1_clear_65 : decode cX1_clear 65 = .ok (.iadd, 1) := by decide +kernel
theorem dX1_clear_66 : decode cX1_clear 66 = .ok (.iload_n 2, 1) := by decide +kernel
theorem dX1_clear_67 : decode cX1_clear 67 = .ok (.isub, 1) := by decide +kernel
theorem dX1_clear_68 : decode cX1_clear 68 = .ok (.invokestatic 46, 3) := by decide +kernel
theorem dX1_clear_71 : decode cX1_clear 71 = .ok (.ior, 1) := by decide +kernel
theorem dX1_clear_72 : decode cX1_clear 72 = .ok (.putfield 24, 3) := by decide +kernel
theorem dX1_clear_75 : decode cX1_clear 75 = .ok (.iinc 2 1, 3) := by decide +kernel
theorem dX1_clear_78 : decode cX1_clear 78 = .ok (.goto (-46), 3) := by decide +kernel
theorem dX1_clear_81 : decode cX1_clear 81 = .ok (.return_, 1) := by decide +kernel
theorem dX1_factorCount_0 : decode cX1_factorCount 0 = .ok (.aload_n 0, 1) := by decide +kernel
theorem dX1_factorCount_1 : decode cX1_factorCount 1 = .ok (.getfield 18, 3) := by decide +kernel
theorem dX1_factorCount_4 : decode cX1_factorCount 4 = .ok (.aload_n 0, 1) := by decide +kernel
theorem dX1_factorCount_5 : decode cX1_factorCount 5 = .ok (.getfield 15, 3) := by decide +kernel
theorem dX1_factorCount_8 : decode cX1_factorCount 8 = .ok (.isub, 1) := by decide +kernel
theorem dX1_factorCount_9 : decode cX1_factorCount 9 = .ok (.ireturn, 1) := by decide +kernel
theorem dX1_factorAt_0 : decode cX1_factorAt 0 = .ok (.aload_n 0, 1) := by decide +kernel
theorem dX1_factorAt_1 : decode cX1_factorAt 1 = .ok (.getfield 43, 3) := by decide +kernel
theorem dX1_factorAt_4 : decode cX1_factorAt 4 = .ok (.aload_n 0, 1) := by decide +kernel
theorem dX1_factorAt_5 : decode cX1_factorAt 5 = .ok (.getfield 15, 3) := by decide +kernel
theorem dX1_factorAt_8 : decode cX1_factorAt 8 = .ok (.iload_n 1, 1) := by decide +kernel
theorem dX1_factorAt_9 : decode cX1_factorAt 9 = .ok (.iadd, 1) := by decide +kernel
theorem dX1_factorAt_10 : decode cX1_factorAt 10 = .ok (.iaload, 1) := by decide +kernel
theorem dX1_factorAt_11 : decode cX1_factorAt 11 = .ok (.ireturn, 1) := by decide +kernel
theorem dX1_isEvenPowerAlone_0 : decode cX1_isEvenPowerAlone 0 = .ok (.aload_n 0, 1) := by decide +kernel
theorem dX1_isEvenPowerAlone_1 : decode cX1_isEvenPowerAlone 1 = .ok (.getfield 15, 3) := by decide +kernel
theorem dX1_isEvenPowerAlone_4 : decode cX1_isEvenPowerAlone 4 = .ok (.aload_n 0, 1) := by decide +kernel
theorem dX1_isEvenPowerAlone_5 : decode cX1_isEvenPowerAlone 5 = .ok (.getfield 18, 3) := by decide +kernel
theorem dX1_isEvenPowerAlone_8 : decode cX1_isEvenPowerAlone 8 = .ok (.if_icmp .ne 16, 3) := by decide +kernel
theorem dX1_isEvenPowerAlone_11 : decode cX1_isEvenPowerAlone 11 = .ok (.aload_n 0, 1) := by decide +kernel
theorem dX1_isEvenPowerAlone_12 : decode cX1_isEvenPowerAlone 12 = .ok (.getfield 9, 3) := by decide +kernel
theorem dX1_isEvenPowerAlone_15 : decode cX1_isEvenPowerAlone 15 = .ok (.iconst 1, 1) := by decide +kernel
theorem dX1_isEvenPowerAlone_16 : decode cX1_isEvenPowerAlone 16 = .ok (.iand, 1) := by decide +kernel
theorem dX1_isEvenPowerAlone_17 : decode cX1_isEvenPowerAlone 17 = .ok (.ifCond .ne 7, 3) := by decide +kernel
theorem dX1_isEvenPowerAlone_20 : decode cX1_isEvenPowerAlone 20 = .ok (.iconst 1, 1) := by decide +kernel
theorem dX1_isEvenPowerAlone_21 : decode cX1_isEvenPowerAlone 21 = .ok (.goto 4, 3) := by decide +kernel
theorem dX1_isEvenPowerAlone_24 : decode cX1_isEvenPowerAlone 24 = .ok (.iconst 0, 1) := by decide +kernel
theorem dX1_isEvenPowerAlone_25 : decode cX1_isEvenPowerAlone 25 = .ok (.ireturn, 1) := by decide +kernel
theorem dX1_isSameAs_0 : decode cX1_isSameAs 0 = .ok (.aload_n 0, 1) := by decide +kernel
theorem dX1_isSameAs_1 : decode cX1_isSameAs 1 = .ok (.getfield 9, 3) := by decide +kernel
theorem dX1_isSameAs_4 : decode cX1_isSameAs 4 = .ok (.aload_n 1, 1) := by decide +kernel
theorem dX1_isSameAs_5 : decode cX1_isSameAs 5 = .ok (.getfield 9, 3) := by decide +kernel
theorem dX1_isSameAs_8 : decode cX1_isSameAs 8 = .ok (.if_icmp .ne 14, 3) := by decide +kernel
theorem dX1_isSameAs_11 : decode cX1_isSameAs 11 = .ok (.aload_n 0, 1) := by decide +kernel
theorem dX1_isSameAs_12 : decode cX1_isSameAs 12 = .ok (.invokevirtual 49, 3) := by decide +kernel
theorem dX1_isSameAs_15 : decode cX1_isSameAs 15 = .ok (.aload_n 1, 1) := by decide +kernel
theorem dX1_isSameAs_16 : decode cX1_isSameAs 16 = .ok (.invokevirtual 49, 3) := by decide +kernel
theorem dX1_isSameAs_19 : decode cX1_isSameAs 19 = .ok (.if_icmp .eq 5, 3) := by decide +kernel
theorem dX1_isSameAs_22 : decode cX1_isSameAs 22 = .ok (.iconst 0, 1) := by decide +kernel
theorem dX1_isSameAs_23 : decode cX1_isSameAs 23 = .ok (.ireturn, 1) := by decide +kernel
theorem dX1_isSameAs_24 : decode cX1_isSameAs 24 = .ok (.iconst 0, 1) := by decide +kernel
theorem dX1_isSameAs_25 : decode cX1_isSameAs 25 = .ok (.istore_n 2, 1) := by decide +kernel
theorem dX1_isSameAs_26 : decode cX1_isSameAs 26 = .ok (.iload_n 2, 1) := by decide +kernel
theorem dX1_isSameAs_27 : decode cX1_isSameAs 27 = .ok (.aload_n 0, 1) := by decide +kernel
theorem dX1_isSameAs_28 : decode cX1_isSameAs 28 = .ok (.invokevirtual 49, 3) := by decide +kernel
theorem dX1_isSameAs_31 : decode cX1_isSameAs 31 = .ok (.if_icmp .ge 24, 3) := by decide +kernel
theorem dX1_isSameAs_34 : decode cX1_isSameAs 34 = .ok (.aload_n 0, 1) := by decide +kernel
theorem dX1_isSameAs_35 : decode cX1_isSameAs 35 = .ok (.iload_n 2, 1) := by decide +kernel
theorem dX1_isSameAs_36 : decode cX1_isSameAs 36 = .ok (.invokevirtual 53, 3) := by decide +kernel
theorem dX1_isSameAs_39 : decode cX1_isSameAs 39 = .ok (.aload_n 1, 1) := by decide +kernel
theorem dX1_isSameAs_40 : decode cX1_isSameAs 40 = .ok (.iload_n 2, 1) := by decide +kernel
theorem dX1_isSameAs_41 : decode cX1_isSameAs 41 = .ok (.invokevirtual 53, 3) := by decide +kernel
theorem dX1_isSameAs_44 : decode cX1_isSameAs 44 = .ok (.if_icmp .eq 5, 3) := by decide +kernel
theorem dX1_isSameAs_47 : decode cX1_isSameAs 47 = .ok (.iconst 0, 1) := by decide +kernel
theorem dX1_isSameAs_48 : decode cX1_isSameAs 48 = .ok (.ireturn, 1) := by decide +kernel
theorem dX1_isSameAs_49 : decode cX1_isSameAs 49 = .ok (.iinc 2 1, 3) := by decide +kernel
theorem dX1_isSameAs_52 : decode cX1_isSameAs 52 = .ok (.goto (-26), 3) := by decide +kernel
theorem dX1_isSameAs_55 : decode cX1_isSameAs 55 = .ok (.iconst 1, 1) := by decide +kernel
theorem dX1_isSameAs_56 : decode cX1_isSameAs 56 = .ok (.ireturn, 1) := by decide +kernel
theorem dX1_make_0 : decode cX1_make 0 = .ok (.iconst 0, 1) := by decide +kernel
theorem dX1_make_1 : decode cX1_make 1 = .ok (.istore_n 3, 1) := by decide +kernel
theorem dX1_make_2 : decode cX1_make 2 = .ok (.iconst 0, 1) := by decide +kernel
theorem dX1_make_3 : decode cX1_make 3 = .ok (.istore 4, 2) := by decide +kernel
theorem dX1_make_5 : decode cX1_make 5 = .ok (.iload 4, 2) := by decide +kernel
theorem dX1_make_7 : decode cX1_make 7 = .ok (.iload_n 2, 1) := by decide +kernel
theorem dX1_make_8 : decode cX1_make 8 = .ok (.if_icmp .ge 19, 3) := by decide +kernel
theorem dX1_make_11 : decode cX1_make 11 = .ok (.aload_n 1, 1) := by decide +kernel
theorem dX1_make_12 : decode cX1_make 12 = .ok (.iload 4, 2) := by decide +kernel
theorem dX1_make_14 : decode cX1_make 14 = .ok (.iaload, 1) := by decide +kernel
theorem dX1_make_15 : decode cX1_make 15 = .ok (.ifCond .ge 6, 3) := by decide +kernel
theorem dX1_make_18 : decode cX1_make 18 = .ok (.iinc 3 1, 3) := by decide +kernel
theorem dX1_make_21 : decode cX1_make 21 = .ok (.iinc 4 1, 3) := by decide +kernel
theorem dX1_make_24 : decode cX1_make 24 = .ok (.goto (-19), 3) := by decide +kernel
theorem dX1_make_27 : decode cX1_make 27 = .ok (.aload_n 0, 1) := by decide +kernel
theorem dX1_make_28 : decode cX1_make 28 = .ok (.dup, 1) := by decide +kernel
theorem dX1_make_29 : decode cX1_make 29 = .ok (.getfield 9, 3) := by decide +kernel
theorem dX1_make_32 : decode cX1_make 32 = .ok (.iload_n 3, 1) := by decide +kernel
theorem dX1_make_33 : decode cX1_make 33 = .ok (.isub, 1) := by decide +kernel
theorem dX1_make_34 : decode cX1_make 34 = .ok (.putfield 9, 3) := by decide +kernel
theorem dX1_make_37 : decode cX1_make 37 = .ok (.iload_n 3, 1) := by decide +kernel
theorem dX1_make_38 : decode cX1_make 38 = .ok (.iconst 1, 1) := by decide +kernel
theorem dX1_make_39 : decode cX1_make 39 = .ok (.iand, 1) := by decide +kernel
theorem dX1_make_40 : decode cX1_make 40 = .ok (.iconst 1, 1) := by decide +kernel
theorem dX1_make_41 : decode cX1_make 41 = .ok (.if_icmp .ne 7, 3) := by decide +kernel
theorem dX1_make_44 : decode cX1_make 44 = .ok (.aload_n 0, 1) := by decide +kernel
theorem dX1_make_45 : decode cX1_make 45 = .ok (.invokevirtual 57, 3) := by decide +kernel
theorem dX1_make_48 : decode cX1_make 48 = .ok (.iconst 0, 1) := by decide +kernel
theorem dX1_make_49 : decode cX1_make 49 = .ok (.istore 4, 2) := by decide +kernel
theorem dX1_make_51 : decode cX1_make 51 = .ok (.iload 4, 2) := by decide +kernel
theorem dX1_make_53 : decode cX1_make 53 = .ok (.iload_n 2, 1) := by decide +kernel
theorem dX1_make_54 : decode cX1_make 54 = .ok (.if_icmp .ge 94, 3) := by decide +kernel
theorem dX1_make_57 : decode cX1_make 57 = .ok (.aload_n 1, 1) := by decide +kernel
theorem dX1_make_58 : decode cX1_make 58 = .ok (.iload 4, 2) := by decide +kernel
theorem dX1_make_60 : decode cX1_make 60 = .ok (.iaload, 1) := by decide +kernel
theorem dX1_make_61 : decode cX1_make 61 = .ok (.ifCond .le 7, 3) := by decide +kernel
theorem dX1_make_64 : decode cX1_make 64 = .ok (.iconst 1, 1) := by decide +kernel
theorem dX1_make_65 : decode cX1_make 65 = .ok (.goto 4, 3) := by decide +kernel
theorem dX1_make_68 : decode cX1_make 68 = .ok (.iconst 0, 1) := by decide +kernel
theorem dX1_make_69 : decode cX1_make 69 = .ok (.istore 5, 2) := by decide +kernel
theorem dX1_make_71 : decode cX1_make 71 = .ok (.iload 5, 2) := by decide +kernel
theorem dX1_make_73 : decode cX1_make 73 = .ok (.ifCond .ne 6, 3) := by decide +kernel
theorem dX1_make_76 : decode cX1_make 76 = .ok (.iinc 3 (-1), 3) := by decide +kernel
theorem dX1_make_79 : decode cX1_make 79 = .ok (.iload_n 3, 1) := by decide +kernel
theorem dX1_make_80 : decode cX1_make 80 = .ok (.iconst 1, 1) := by decide +kernel
theorem dX1_make_81 : decode cX1_make 81 = .ok (.iand, 1) := by decide +kernel
theorem dX1_make_82 : decode cX1_make 82 = .ok (.iconst 1, 1) := by decide +kernel
theorem dX1_make_83 : decode cX1_make 83 = .ok (.if_icmp .ne 18, 3) := by decide +kernel
theorem dX1_make_86 : decode cX1_make 86 = .ok (.aload_n 0, 1) := by decide +kernel
theorem dX1_make_87 : decode cX1_make 87 = .ok (.getfield 21, 3) := by decide +kernel
theorem dX1_make_90 : decode cX1_make 90 = .ok (.aload_n 1, 1) := by decide +kernel
theorem dX1_make_91 : decode cX1_make 91 = .ok (.iload 4, 2) := by decide +kernel
theorem dX1_make_93 : decode cX1_make 93 = .ok (.iaload, 1) := by decide +kernel
theorem dX1_make_94 : decode cX1_make 94 = .ok (.invokestatic 60, 3) := by decide +kernel
theorem dX1_make_97 : decode cX1_make 97 = .ok (.isub, 1) := by decide +kernel
theorem dX1_make_98 : decode cX1_make 98 = .ok (.goto 10, 3) := by decide +kernel
theorem dX1_make_101 : decode cX1_make 101 = .ok (.aload_n 1, 1) := by decide +kernel
theorem dX1_make_102 : decode cX1_make 102 = .ok (.iload 4, 2) := by decide +kernel
theorem dX1_make_104 : decode cX1_make 104 = .ok (.iaload, 1) := by decide +kernel
theorem dX1_make_105 : decode cX1_make 105 = .ok (.invokestatic 60, 3) := by decide +kernel
theorem dX1_make_108 : decode cX1_make 108 = .ok (.istore 6, 2) := by decide +kernel
theorem dX1_make_110 : decode cX1_make 110 = .ok (.aload_n 0, 1) := by decide +kernel
theorem dX1_make_111 : decode cX1_make 111 = .ok (.iload 5, 2) := by decide +kernel
theorem dX1_make_113 : decode cX1_make 113 = .ok (.ifCond .eq 16, 3) := by decide +kernel
theorem dX1_make_116 : decode cX1_make 116 = .ok (.aload_n 0, 1) := by decide +kernel
theorem dX1_make_117 : decode cX1_make 117 = .ok (.aload_n 0, 1) := by decide +kernel
theorem dX1_make_118 : decode cX1_make 118 = .ok (.getfield 27, 3) := by decide +kernel
theorem dX1_make_121 : decode cX1_make 121 = .ok (.iload 6, 2) := by decide +kernel
theorem dX1_make_123 : decode cX1_make 123 = .ok (.invokevirtual 63, 3) := by decide +kernel
theorem dX1_make_126 : decode cX1_make 126 = .ok (.goto 13, 3) := by decide +kernel
theorem dX1_make_129 : decode cX1_make 129 = .ok (.aload_n 0, 1) := by decide +kernel
theorem dX1_make_130 : decode cX1_make 130 = .ok (.aload_n 0, 1) := by decide +kernel
theorem dX1_make_131 : decode cX1_make 131 = .ok (.getfield 24, 3) := by decide +kernel
theorem dX1_make_134 : decode cX1_make 134 = .ok (.iload 6, 2) := by decide +kernel
theorem dX1_make_136 : decode cX1_make 136 = .ok (.invokevirtual 63, 3) := by decide +kernel
theorem dX1_make_139 : decode cX1_make 139 = .ok (.invokevirtual 66, 3) := by decide +kernel
theorem dX1_make_142 : decode cX1_make 142 = .ok (.iinc 4 1, 3) := by decide +kernel
theorem dX1_make_145 : decode cX1_make 145 = .ok (.goto (-94), 3) := by decide +kernel
theorem dX1_make_148 : decode cX1_make 148 = .ok (.return_, 1) := by decide +kernel
theorem dX1_append_0 : decode cX1_append 0 = .ok (.aload_n 0, 1) := by decide +kernel
theorem dX1_append_1 : decode cX1_append 1 = .ok (.getfield 18, 3) := by decide +kernel
theorem dX1_append_4 : decode cX1_append 4 = .ok (.aload_n 0, 1) := by decide +kernel
theorem dX1_append_5 : decode cX1_append 5 = .ok (.getfield 43, 3) := by decide +kernel
theorem dX1_append_8 : decode cX1_append 8 = .ok (.arraylength, 1) := by decide +kernel
theorem dX1_append_9 : decode cX1_append 9 = .ok (.if_icmp .lt 4, 3) := by decide +kernel
theorem dX1_append_12 : decode cX1_append 12 = .ok (.return_, 1) := by decide +kernel
theorem dX1_append_13 : decode cX1_append 13 = .ok (.aload_n 0, 1) := by decide +kernel
theorem dX1_append_14 : decode cX1_append 14 = .ok (.getfield 43, 3) := by decide +kernel
theorem dX1_append_17 : decode cX1_append 17 = .ok (.aload_n 0, 1) := by decide +kernel
theorem dX1_append_18 : decode cX1_append 18 = .ok (.getfield 18, 3) := by decide +kernel
theorem dX1_append_21 : decode cX1_append 21 = .ok (.iload_n 1, 1) := by decide +kernel
theorem dX1_append_22 : decode cX1_append 22 = .ok (.iastore, 1) := by decide +kernel
theorem dX1_append_23 : decode cX1_append 23 = .ok (.aload_n 0, 1) := by decide +kernel
theorem dX1_append_24 : decode cX1_append 24 = .ok (.dup, 1) := by decide +kernel
theorem dX1_append_25 : decode cX1_append 25 = .ok (.getfield 18, 3) := by decide +kernel
theorem dX1_append_28 : decode cX1_append 28 = .ok (.iconst 1, 1) := by decide +kernel
theorem dX1_append_29 : decode cX1_append 29 = .ok (.iadd, 1) := by decide +kernel
theorem dX1_append_30 : decode cX1_append 30 = .ok (.putfield 18, 3) := by decide +kernel
theorem dX1_append_33 : decode cX1_append 33 = .ok (.iconst 1, 1) := by decide +kernel
theorem dX1_append_34 : decode cX1_append 34 = .ok (.istore_n 2, 1) := by decide +kernel
theorem dX1_append_35 : decode cX1_append 35 = .ok (.aload_n 0, 1) := by decide +kernel
theorem dX1_append_36 : decode cX1_append 36 = .ok (.getfield 18, 3) := by decide +kernel
theorem dX1_append_39 : decode cX1_append 39 = .ok (.iconst 2, 1) := by decide +kernel
theorem dX1_append_40 : decode cX1_append 40 = .ok (.isub, 1) := by decide +kernel
theorem dX1_append_41 : decode cX1_append 41 = .ok (.istore_n 3, 1) := by decide +kernel
theorem dX1_append_42 : decode cX1_append 42 = .ok (.iload_n 3, 1) := by decide +kernel
theorem dX1_append_43 : decode cX1_append 43 = .ok (.aload_n 0, 1) := by decide +kernel
theorem dX1_append_44 : decode cX1_append 44 = .ok (.getfield 15, 3) := by decide +kernel
theorem dX1_append_47 : decode cX1_append 47 = .ok (.if_icmp .lt 19, 3) := by decide +kernel
theorem dX1_append_50 : decode cX1_append 50 = .ok (.iload_n 2, 1) := by decide +kernel
theorem dX1_append_51 : decode cX1_append 51 = .ok (.ifCond .eq 15, 3) := by decide +kernel
theorem dX1_append_54 : decode cX1_append 54 = .ok (.aload_n 0, 1) := by decide +kernel
theorem dX1_append_55 : decode cX1_append 55 = .ok (.iload_n 3, 1) := by decide +kernel
theorem dX1_append_56 : decode cX1_append 56 = .ok (.invokevirtual 70, 3) := by decide +kernel
theorem dX1_append_59 : decode cX1_append 59 = .ok (.istore_n 2, 1) := by decide +kernel
theorem dX1_append_60 : decode cX1_append 60 = .ok (.iinc 3 (-1), 3) := by decide +kernel
theorem dX1_append_63 : decode cX1_append 63 = .ok (.goto (-21), 3) := by decide +kernel
theorem dX1_append_66 : decode cX1_append 66 = .ok (.aload_n 0, 1) := by decide +kernel
theorem dX1_append_67 : decode cX1_append 67 = .ok (.getfield 15, 3) := by decide +kernel
theorem dX1_append_70 : decode cX1_append 70 = .ok (.aload_n 0, 1) := by decide +kernel
theorem dX1_append_71 : decode cX1_append 71 = .ok (.getfield 18, 3) := by decide +kernel
theorem dX1_append_74 : decode cX1_append 74 = .ok (.if_icmp .ge 42, 3) := by decide +kernel
theorem dX1_append_77 : decode cX1_append 77 = .ok (.aload_n 0, 1) := by decide +kernel
theorem dX1_append_78 : decode cX1_append 78 = .ok (.getfield 43, 3) := by decide +kernel
theorem dX1_append_81 : decode cX1_append 81 = .ok (.aload_n 0, 1) := by decide +kernel
theorem dX1_append_82 : decode cX1_append 82 = .ok (.getfield 15, 3) := by decide +kernel
theorem dX1_append_85 : decode cX1_append 85 = .ok (.iaload, 1) := by decide +kernel
theorem dX1_append_86 : decode cX1_append 86 = .ok (.aload_n 0, 1) := by decide +kernel
theorem dX1_append_87 : decode cX1_append 87 = .ok (.getfield 24, 3) := by decide +kernel
theorem dX1_append_90 : decode cX1_append 90 = .ok (.if_icmp .ne 26, 3) := by decide +kernel
theorem dX1_append_93 : decode cX1_append 93 = .ok (.aload_n 0, 1) := by decide +kernel
theorem dX1_append_94 : decode cX1_append 94 = .ok (.dup, 1) := by decide +kernel
theorem dX1_append_95 : decode cX1_append 95 = .ok (.getfield 15, 3) := by decide +kernel
theorem dX1_append_98 : decode cX1_append 98 = .ok (.iconst 1, 1) := by decide +kernel
theorem dX1_append_99 : decode cX1_append 99 = .ok (.iadd, 1) := by decide +kernel
theorem dX1_append_100 : decode cX1_append 100 = .ok (.putfield 15, 3) := by decide +kernel
theorem dX1_append_103 : decode cX1_append 103 = .ok (.aload_n 0, 1) := by decide +kernel
theorem dX1_append_104 : decode cX1_append 104 = .ok (.dup, 1) := by decide +kernel
theorem dX1_append_105 : decode cX1_append 105 = .ok (.getfield 9, 3) := by decide +kernel
theorem dX1_append_108 : decode cX1_append 108 = .ok (.iconst 1, 1) := by decide +kernel
theorem dX1_append_109 : decode cX1_append 109 = .ok (.iadd, 1) := by decide +kernel
theorem dX1_append_110 : decode cX1_append 110 = .ok (.putfield 9, 3) := by decide +kernel
theorem dX1_append_113 : decode cX1_append 113 = .ok (.goto (-47), 3) := by decide +kernel
theorem dX1_append_116 : decode cX1_append 116 = .ok (.aload_n 0, 1) := by decide +kernel
theorem dX1_append_117 : decode cX1_append 117 = .ok (.getfield 18, 3) := by decide +kernel
theorem dX1_append_120 : decode cX1_append 120 = .ok (.aload_n 0, 1) := by decide +kernel
theorem dX1_append_121 : decode cX1_append 121 = .ok (.getfield 15, 3) := by decide +kernel
theorem dX1_append_124 : decode cX1_append 124 = .ok (.if_icmp .le 34, 3) := by decide +kernel
theorem dX1_append_127 : decode cX1_append 127 = .ok (.aload_n 0, 1) := by decide +kernel
theorem dX1_append_128 : decode cX1_append 128 = .ok (.getfield 43, 3) := by decide +kernel
theorem dX1_append_131 : decode cX1_append 131 = .ok (.aload_n 0, 1) := by decide +kernel
theorem dX1_append_132 : decode cX1_append 132 = .ok (.getfield 18, 3) := by decide +kernel
theorem dX1_append_135 : decode cX1_append 135 = .ok (.iconst 1, 1) := by decide +kernel
theorem dX1_append_136 : decode cX1_append 136 = .ok (.isub, 1) := by decide +kernel
theorem dX1_append_137 : decode cX1_append 137 = .ok (.iaload, 1) := by decide +kernel
theorem dX1_append_138 : decode cX1_append 138 = .ok (.aload_n 0, 1) := by decide +kernel
theorem dX1_append_139 : decode cX1_append 139 = .ok (.getfield 27, 3) := by decide +kernel
theorem dX1_append_142 : decode cX1_append 142 = .ok (.if_icmp .ne 16, 3) := by decide +kernel
theorem dX1_append_145 : decode cX1_append 145 = .ok (.aload_n 0, 1) := by decide +kernel
theorem dX1_append_146 : decode cX1_append 146 = .ok (.dup, 1) := by decide +kernel
theorem dX1_append_147 : decode cX1_append 147 = .ok (.getfield 18, 3) := by decide +kernel
theorem dX1_append_150 : decode cX1_append 150 = .ok (.iconst 1, 1) := by decide +kernel
theorem dX1_append_151 : decode cX1_append 151 = .ok (.isub, 1) := by decide +kernel
theorem dX1_append_152 : decode cX1_append 152 = .ok (.putfield 18, 3) := by decide +kernel
theorem dX1_append_155 : decode cX1_append 155 = .ok (.goto (-39), 3) := by decide +kernel
theorem dX1_append_158 : decode cX1_append 158 = .ok (.return_, 1) := by decide +kernel
theorem dX1_slideToFront_0 : decode cX1_slideToFront 0 = .ok (.aload_n 0, 1) := by decide +kernel
theorem dX1_slideToFront_1 : decode cX1_slideToFront 1 = .ok (.aload_n 0, 1) := by decide +kernel
theorem dX1_slideToFront_2 : decode cX1_slideToFront 2 = .ok (.getfield 43, 3) := by decide +kernel
theorem dX1_slideToFront_5 : decode cX1_slideToFront 5 = .ok (.iload_n 1, 1) := by decide +kernel
theorem dX1_slideToFront_6 : decode cX1_slideToFront 6 = .ok (.iaload, 1) := by decide +kernel
theorem dX1_slideToFront_7 : decode cX1_slideToFront 7 = .ok (.invokevirtual 74, 3) := by decide +kernel
theorem dX1_slideToFront_10 : decode cX1_slideToFront 10 = .ok (.aload_n 0, 1) := by decide +kernel
theorem dX1_slideToFront_11 : decode cX1_slideToFront 11 = .ok (.aload_n 0, 1) := by decide +kernel
theorem dX1_slideToFront_12 : decode cX1_slideToFront 12 = .ok (.getfield 43, 3) := by decide +kernel
theorem dX1_slideToFront_15 : decode cX1_slideToFront 15 = .ok (.iload_n 1, 1) := by decide +kernel
theorem dX1_slideToFront_16 : decode cX1_slideToFront 16 = .ok (.iconst 1, 1) := by decide +kernel
theorem dX1_slideToFront_17 : decode cX1_slideToFront 17 = .ok (.iadd, 1) := by decide +kernel
theorem dX1_slideToFront_18 : decode cX1_slideToFront 18 = .ok (.iaload, 1) := by decide +kernel
theorem dX1_slideToFront_19 : decode cX1_slideToFront 19 = .ok (.invokevirtual 77, 3) := by decide +kernel
theorem dX1_slideToFront_22 : decode cX1_slideToFront 22 = .ok (.iconst 0, 1) := by decide +kernel
theorem dX1_slideToFront_23 : decode cX1_slideToFront 23 = .ok (.istore_n 2, 1) := by decide +kernel
theorem dX1_slideToFront_24 : decode cX1_slideToFront 24 = .ok (.iconst 1, 1) := by decide +kernel
theorem dX1_slideToFront_25 : decode cX1_slideToFront 25 = .ok (.istore_n 3, 1) := by decide +kernel
theorem dX1_slideToFront_26 : decode cX1_slideToFront 26 = .ok (.iconst 0, 1) := by decide +kernel
theorem dX1_slideToFront_27 : decode cX1_slideToFront 27 = .ok (.istore 4, 2) := by decide +kernel
theorem dX1_slideToFront_29 : decode cX1_slideToFront 29 = .ok (.iload 4, 2) := by decide +kernel
theorem dX1_slideToFront_31 : decode cX1_slideToFront 31 = .ok (.bipush 64, 2) := by decide +kernel
theorem dX1_slideToFront_33 : decode cX1_slideToFront 33 = .ok (.if_icmp .ge 83, 3) := by decide +kernel
theorem dX1_slideToFront_36 : decode cX1_slideToFront 36 = .ok (.iload_n 3, 1) := by decide +kernel
theorem dX1_slideToFront_37 : decode cX1_slideToFront 37 = .ok (.aload_n 0, 1) := by decide +kernel
theorem dX1_slideToFront_38 : decode cX1_slideToFront 38 = .ok (.getfield 21, 3) := by decide +kernel
theorem dX1_slideToFront_41 : decode cX1_slideToFront 41 = .ok (.if_icmp .ge 75, 3) := by decide +kernel
theorem dX1_slideToFront_44 : decode cX1_slideToFront 44 = .ok (.aload_n 0, 1) := by decide +kernel
theorem dX1_slideToFront_45 : decode cX1_slideToFront 45 = .ok (.getfield 30, 3) := by decide +kernel
theorem dX1_slideToFront_48 : decode cX1_slideToFront 48 = .ok (.iload_n 3, 1) := by decide +kernel
theorem dX1_slideToFront_49 : decode cX1_slideToFront 49 = .ok (.iaload, 1) := by decide +kernel
theorem dX1_slideToFront_50 : decode cX1_slideToFront 50 = .ok (.aload_n 0, 1) := by decide +kernel
theorem dX1_slideToFront_51 : decode cX1_slideToFront 51 = .ok (.getfield 30, 3) := by decide +kernel
theorem dX1_slideToFront_54 : decode cX1_slideToFront 54 = .ok (.iload_n 3, 1) := by decide +kernel
theorem dX1_slideToFront_55 : decode cX1_slideToFront 55 = .ok (.iconst 1, 1) := by decide +kernel
theorem dX1_slideToFront_56 : decode cX1_slideToFront 56 = .ok (.iadd, 1) := by decide +kernel
theorem dX1_slideToFront_57 : decode cX1_slideToFront 57 = .ok (.iaload, 1) := by decide +kernel
theorem dX1_slideToFront_58 : decode cX1_slideToFront 58 = .ok (.if_icmp .ge 49, 3) := by decide +kernel
theorem dX1_slideToFront_61 : decode cX1_slideToFront 61 = .ok (.aload_n 0, 1) := by decide +kernel
theorem dX1_slideToFront_62 : decode cX1_slideToFront 62 = .ok (.getfield 34, 3) := by decide +kernel
theorem dX1_slideToFront_65 : decode cX1_slideToFront 65 = .ok (.iload_n 3, 1) := by decide +kernel
theorem dX1_slideToFront_66 : decode cX1_slideToFront 66 = .ok (.iaload, 1) := by decide +kernel
theorem dX1_slideToFront_67 : decode cX1_slideToFront 67 = .ok (.aload_n 0, 1) := by decide +kernel
theorem dX1_slideToFront_68 : decode cX1_slideToFront 68 = .ok (.getfield 34, 3) := by decide +kernel
theorem dX1_slideToFront_71 : decode cX1_slideToFront 71 = .ok (.iload_n 3, 1) := by decide +kernel
theorem dX1_slideToFront_72 : decode cX1_slideToFront 72 = .ok (.iconst 1, 1) := by decide +kernel
theorem dX1_slideToFront_73 : decode cX1_slideToFront 73 = .ok (.iadd, 1) := by decide +kernel
theorem dX1_slideToFront_74 : decode cX1_slideToFront 74 = .ok (.iaload, 1) := by decide +kernel
theorem dX1_slideToFront_75 : decode cX1_slideToFront 75 = .ok (.if_icmp .le 32, 3) := by decide +kernel
theorem dX1_slideToFront_78 : decode cX1_slideToFront 78 = .ok (.aload_n 0, 1) := by decide +kernel
theorem dX1_slideToFront_79 : decode cX1_slideToFront 79 = .ok (.getfield 30, 3) := by decide +kernel
theorem dX1_slideToFront_82 : decode cX1_slideToFront 82 = .ok (.iload_n 3, 1) := by decide +kernel
theorem dX1_slideToFront_83 : decode cX1_slideToFront 83 = .ok (.invokestatic 80, 3) := by decide +kernel
theorem dX1_slideToFront_86 : decode cX1_slideToFront 86 = .ok (.aload_n 0, 1) := by decide +kernel
theorem dX1_slideToFront_87 : decode cX1_slideToFront 87 = .ok (.getfield 34, 3) := by decide +kernel
theorem dX1_slideToFront_90 : decode cX1_slideToFront 90 = .ok (.iload_n 3, 1) := by decide +kernel
theorem dX1_slideToFront_91 : decode cX1_slideToFront 91 = .ok (.invokestatic 80, 3) := by decide +kernel
theorem dX1_slideToFront_94 : decode cX1_slideToFront 94 = .ok (.iconst 1, 1) := by decide +kernel
theorem dX1_slideToFront_95 : decode cX1_slideToFront 95 = .ok (.istore_n 2, 1) := by decide +kernel
theorem dX1_slideToFront_96 : decode cX1_slideToFront 96 = .ok (.iconst 1, 1) := by decide +kernel
theorem dX1_slideToFront_97 : decode cX1_slideToFront 97 = .ok (.iload_n 3, 1) := by decide +kernel
theorem dX1_slideToFront_98 : decode cX1_slideToFront 98 = .ok (.iconst 1, 1) := by decide +kernel
theorem dX1_slideToFront_99 : decode cX1_slideToFront 99 = .ok (.isub, 1) := by decide +kernel
theorem dX1_slideToFront_100 : decode cX1_slideToFront 100 = .ok (.invokestatic 37, 3) := by decide +kernel
theorem dX1_slideToFront_103 : decode cX1_slideToFront 103 = .ok (.istore_n 3, 1) := by decide +kernel
theorem dX1_slideToFront_104 : decode cX1_slideToFront 104 = .ok (.goto 6, 3) := by decide +kernel
theorem dX1_slideToFront_107 : decode cX1_slideToFront 107 = .ok (.iinc 3 1, 3) := by decide +kernel
theorem dX1_slideToFront_110 : decode cX1_slideToFront 110 = .ok (.iinc 4 1, 3) := by decide +kernel
theorem dX1_slideToFront_113 : decode cX1_slideToFront 113 = .ok (.goto (-84), 3) := by decide +kernel
theorem dX1_slideToFront_116 : decode cX1_slideToFront 116 = .ok (.iload_n 2, 1) := by decide +kernel
theorem dX1_slideToFront_117 : decode cX1_slideToFront 117 = .ok (.ifCond .eq 25, 3) := by decide +kernel
theorem dX1_slideToFront_120 : decode cX1_slideToFront 120 = .ok (.aload_n 0, 1) := by decide +kernel
theorem dX1_slideToFront_121 : decode cX1_slideToFront 121 = .ok (.getfield 43, 3) := by decide +kernel
theorem dX1_slideToFront_124 : decode cX1_slideToFront 124 = .ok (.iload_n 1, 1) := by decide +kernel
theorem dX1_slideToFront_125 : decode cX1_slideToFront 125 = .ok (.aload_n 0, 1) := by decide +kernel
theorem dX1_slideToFront_126 : decode cX1_slideToFront 126 = .ok (.invokevirtual 84, 3) := by decide +kernel
theorem dX1_slideToFront_129 : decode cX1_slideToFront 129 = .ok (.iastore, 1) := by decide +kernel
theorem dX1_slideToFront_130 : decode cX1_slideToFront 130 = .ok (.aload_n 0, 1) := by decide +kernel
theorem dX1_slideToFront_131 : decode cX1_slideToFront 131 = .ok (.getfield 43, 3) := by decide +kernel
theorem dX1_slideToFront_134 : decode cX1_slideToFront 134 = .ok (.iload_n 1, 1) := by decide +kernel
theorem dX1_slideToFront_135 : decode cX1_slideToFront 135 = .ok (.iconst 1, 1) := by decide +kernel
theorem dX1_slideToFront_136 : decode cX1_slideToFront 136 = .ok (.iadd, 1) := by decide +kernel
theorem dX1_slideToFront_137 : decode cX1_slideToFront 137 = .ok (.aload_n 0, 1) := by decide +kernel
theorem dX1_slideToFront_138 : decode cX1_slideToFront 138 = .ok (.invokevirtual 87, 3) := by decide +kernel
theorem dX1_slideToFront_141 : decode cX1_slideToFront 141 = .ok (.iastore, 1) := by decide +kernel
theorem dX1_slideToFront_142 : decode cX1_slideToFront 142 = .ok (.iload_n 2, 1) := by decide +kernel
theorem dX1_slideToFront_143 : decode cX1_slideToFront 143 = .ok (.ireturn, 1) := by decide +kernel
theorem dX1_changeNeighbours_0 : decode cX1_changeNeighbours 0 = .ok (.aload_n 0, 1) := by decide +kernel
theorem dX1_changeNeighbours_1 : decode cX1_changeNeighbours 1 = .ok (.iload_n 1, 1) := by decide +kernel
theorem dX1_changeNeighbours_2 : decode cX1_changeNeighbours 2 = .ok (.iaload, 1) := by decide +kernel
theorem dX1_changeNeighbours_3 : decode cX1_changeNeighbours 3 = .ok (.istore_n 2, 1) := by decide +kernel
theorem dX1_changeNeighbours_4 : decode cX1_changeNeighbours 4 = .ok (.aload_n 0, 1) := by decide +kernel
theorem dX1_changeNeighbours_5 : decode cX1_changeNeighbours 5 = .ok (.iload_n 1, 1) := by decide +kernel
theorem dX1_changeNeighbours_6 : decode cX1_changeNeighbours 6 = .ok (.aload_n 0, 1) := by decide +kernel
theorem dX1_changeNeighbours_7 : decode cX1_changeNeighbours 7 = .ok (.iload_n 1, 1) := by decide +kernel
theorem dX1_changeNeighbours_8 : decode cX1_changeNeighbours 8 = .ok (.iconst 1, 1) := by decide +kernel
theorem dX1_changeNeighbours_9 : decode cX1_changeNeighbours 9 = .ok (.iadd, 1) := by decide +kernel
theorem dX1_changeNeighbours_10 : decode cX1_changeNeighbours 10 = .ok (.iaload, 1) := by decide +kernel
theorem dX1_changeNeighbours_11 : decode cX1_changeNeighbours 11 = .ok (.iastore, 1) := by decide +kernel
theorem dX1_changeNeighbours_12 : decode cX1_changeNeighbours 12 = .ok (.aload_n 0, 1) := by decide +kernel
theorem dX1_changeNeighbours_13 : decode cX1_changeNeighbours 13 = .ok (.iload_n 1, 1) := by decide +kernel
theorem dX1_changeNeighbours_14 : decode cX1_changeNeighbours 14 = .ok (.iconst 1, 1) := by decide +kernel
theorem dX1_changeNeighbours_15 : decode cX1_changeNeighbours 15 = .ok (.iadd, 1) := by decide +kernel
theorem dX1_changeNeighbours_16 : decode cX1_changeNeighbours 16 = .ok (.iload_n 2, 1) := by decide +kernel
theorem dX1_changeNeighbours_17 : decode cX1_changeNeighbours 17 = .ok (.iastore, 1) := by decide +kernel
theorem dX1_changeNeighbours_18 : decode cX1_changeNeighbours 18 = .ok (.return_, 1) := by decide +kernel
theorem dX1_turnFactors_0 : decode cX1_turnFactors 0 = .ok (.aload_n 0, 1) := by decide +kernel
theorem dX1_turnFactors_1 : decode cX1_turnFactors 1 = .ok (.getfield 15, 3) := by decide +kernel
theorem dX1_turnFactors_4 : decode cX1_turnFactors 4 = .ok (.istore_n 1, 1) := by decide +kernel
theorem dX1_turnFactors_5 : decode cX1_turnFactors 5 = .ok (.iload_n 1, 1) := by decide +kernel
theorem dX1_turnFactors_6 : decode cX1_turnFactors 6 = .ok (.aload_n 0, 1) := by decide +kernel
theorem dX1_turnFactors_7 : decode cX1_turnFactors 7 = .ok (.getfield 18, 3) := by decide +kernel
theorem dX1_turnFactors_10 : decode cX1_turnFactors 10 = .ok (.if_icmp .ge 71, 3) := by decide +kernel
theorem dX1_turnFactors_13 : decode cX1_turnFactors 13 = .ok (.aload_n 0, 1) := by decide +kernel
theorem dX1_turnFactors_14 : decode cX1_turnFactors 14 = .ok (.aload_n 0, 1) := by decide +kernel
theorem dX1_turnFactors_15 : decode cX1_turnFactors 15 = .ok (.getfield 43, 3) := by decide +kernel
theorem dX1_turnFactors_18 : decode cX1_turnFactors 18 = .ok (.iload_n 1, 1) := by decide +kernel
theorem dX1_turnFactors_19 : decode cX1_turnFactors 19 = .ok (.iaload, 1) := by decide +kernel
theorem dX1_turnFactors_20 : decode cX1_turnFactors 20 = .ok (.invokevirtual 77, 3) := by decide +kernel
theorem dX1_turnFactors_23 : decode cX1_turnFactors 23 = .ok (.iconst 0, 1) := by decide +kernel
theorem dX1_turnFactors_24 : decode cX1_turnFactors 24 = .ok (.istore_n 2, 1) := by decide +kernel
theorem dX1_turnFactors_25 : decode cX1_turnFactors 25 = .ok (.iconst 1, 1) := by decide +kernel
theorem dX1_turnFactors_26 : decode cX1_turnFactors 26 = .ok (.istore_n 3, 1) := by decide +kernel
theorem dX1_turnFactors_27 : decode cX1_turnFactors 27 = .ok (.iload_n 3, 1) := by decide +kernel
theorem dX1_turnFactors_28 : decode cX1_turnFactors 28 = .ok (.aload_n 0, 1) := by decide +kernel
theorem dX1_turnFactors_29 : decode cX1_turnFactors 29 = .ok (.getfield 21, 3) := by decide +kernel
theorem dX1_turnFactors_32 : decode cX1_turnFactors 32 = .ok (.if_icmp .gt 36, 3) := by decide +kernel
theorem dX1_turnFactors_35 : decode cX1_turnFactors 35 = .ok (.iload_n 2, 1) := by decide +kernel
theorem dX1_turnFactors_36 : decode cX1_turnFactors 36 = .ok (.aload_n 0, 1) := by decide +kernel
theorem dX1_turnFactors_37 : decode cX1_turnFactors 37 = .ok (.getfield 21, 3) := by decide +kernel
theorem dX1_turnFactors_40 : decode cX1_turnFactors 40 = .ok (.iconst 1, 1) := by decide +kernel
theorem dX1_turnFactors_41 : decode cX1_turnFactors 41 = .ok (.iadd, 1) := by decide +kernel
theorem dX1_turnFactors_42 : decode cX1_turnFactors 42 = .ok (.iload_n 3, 1) := by decide +kernel
theorem dX1_turnFactors_43 : decode cX1_turnFactors 43 = .ok (.isub, 1) := by decide +kernel
theorem dX1_turnFactors_44 : decode cX1_turnFactors 44 = .ok (.aload_n 0, 1) := by decide +kernel
theorem dX1_turnFactors_45 : decode cX1_turnFactors 45 = .ok (.getfield 21, 3) := by decide +kernel
theorem dX1_turnFactors_48 : decode cX1_turnFactors 48 = .ok (.iconst 1, 1) := by decide +kernel
theorem dX1_turnFactors_49 : decode cX1_turnFactors 49 = .ok (.iadd, 1) := by decide +kernel
theorem dX1_turnFactors_50 : decode cX1_turnFactors 50 = .ok (.aload_n 0, 1) := by decide +kernel
theorem dX1_turnFactors_51 : decode cX1_turnFactors 51 = .ok (.getfield 34, 3) := by decide +kernel
theorem dX1_turnFactors_54 : decode cX1_turnFactors 54 = .ok (.iload_n 3, 1) := by decide +kernel
theorem dX1_turnFactors_55 : decode cX1_turnFactors 55 = .ok (.iaload, 1) := by decide +kernel
theorem dX1_turnFactors_56 : decode cX1_turnFactors 56 = .ok (.isub, 1) := by decide +kernel
theorem dX1_turnFactors_57 : decode cX1_turnFactors 57 = .ok (.invokestatic 46, 3) := by decide +kernel
theorem dX1_turnFactors_60 : decode cX1_turnFactors 60 = .ok (.ior, 1) := by decide +kernel
theorem dX1_turnFactors_61 : decode cX1_turnFactors 61 = .ok (.istore_n 2, 1) := by decide +kernel
theorem dX1_turnFactors_62 : decode cX1_turnFactors 62 = .ok (.iinc 3 1, 3) := by decide +kernel
theorem dX1_turnFactors_65 : decode cX1_turnFactors 65 = .ok (.goto (-38), 3) := by decide +kernel
theorem dX1_turnFactors_68 : decode cX1_turnFactors 68 = .ok (.aload_n 0, 1) := by decide +kernel
theorem dX1_turnFactors_69 : decode cX1_turnFactors 69 = .ok (.getfield 43, 3) := by decide +kernel
theorem dX1_turnFactors_72 : decode cX1_turnFactors 72 = .ok (.iload_n 1, 1) := by decide +kernel
theorem dX1_turnFactors_73 : decode cX1_turnFactors 73 = .ok (.iload_n 2, 1) := by decide +kernel
theorem dX1_turnFactors_74 : decode cX1_turnFactors 74 = .ok (.iastore, 1) := by decide +kernel
theorem dX1_turnFactors_75 : decode cX1_turnFactors 75 = .ok (.iinc 1 1, 3) := by decide +kernel
theorem dX1_turnFactors_78 : decode cX1_turnFactors 78 = .ok (.goto (-73), 3) := by decide +kernel
theorem dX1_turnFactors_81 : decode cX1_turnFactors 81 = .ok (.return_, 1) := by decide +kernel
theorem dX1_withNumbersChanged_0 : decode cX1_withNumbersChanged 0 = .ok (.aload_n 0, 1) := by decide +kernel
theorem dX1_withNumbersChanged_1 : decode cX1_withNumbersChanged 1 = .ok (.iload_n 1, 1) := by decide +kernel
theorem dX1_withNumbersChanged_2 : decode cX1_withNumbersChanged 2 = .ok (.invokevirtual 74, 3) := by decide +kernel
theorem dX1_withNumbersChanged_5 : decode cX1_withNumbersChanged 5 = .ok (.iload_n 2, 1) := by decide +kernel
theorem dX1_withNumbersChanged_6 : decode cX1_withNumbersChanged 6 = .ok (.iconst 1, 1) := by decide +kernel
theorem dX1_withNumbersChanged_7 : decode cX1_withNumbersChanged 7 = .ok (.if_icmp .lt 19, 3) := by decide +kernel
theorem dX1_withNumbersChanged_10 : decode cX1_withNumbersChanged 10 = .ok (.iload_n 2, 1) := by decide +kernel
theorem dX1_withNumbersChanged_11 : decode cX1_withNumbersChanged 11 = .ok (.aload_n 0, 1) := by decide +kernel
theorem dX1_withNumbersChanged_12 : decode cX1_withNumbersChanged 12 = .ok (.getfield 21, 3) := by decide +kernel
theorem dX1_withNumbersChanged_15 : decode cX1_withNumbersChanged 15 = .ok (.if_icmp .ge 11, 3) := by decide +kernel
theorem dX1_withNumbersChanged_18 : decode cX1_withNumbersChanged 18 = .ok (.aload_n 0, 1) := by decide +kernel
theorem dX1_withNumbersChanged_19 : decode cX1_withNumbersChanged 19 = .ok (.getfield 30, 3) := by decide +kernel
theorem dX1_withNumbersChanged_22 : decode cX1_withNumbersChanged 22 = .ok (.iload_n 2, 1) := by decide +kernel
theorem dX1_withNumbersChanged_23 : decode cX1_withNumbersChanged 23 = .ok (.invokestatic 80, 3) := by decide +kernel
theorem dX1_withNumbersChanged_26 : decode cX1_withNumbersChanged 26 = .ok (.aload_n 0, 1) := by decide +kernel
theorem dX1_withNumbersChanged_27 : decode cX1_withNumbersChanged 27 = .ok (.invokevirtual 84, 3) := by decide +kernel
theorem dX1_withNumbersChanged_30 : decode cX1_withNumbersChanged 30 = .ok (.ireturn, 1) := by decide +kernel
theorem dX1_packed_0 : decode cX1_packed 0 = .ok (.iload_n 1, 1) := by decide +kernel
theorem dX1_packed_1 : decode cX1_packed 1 = .ok (.iconst 3, 1) := by decide +kernel
theorem dX1_packed_2 : decode cX1_packed 2 = .ok (.iload_n 0, 1) := by decide +kernel
theorem dX1_packed_3 : decode cX1_packed 3 = .ok (.iconst 1, 1) := by decide +kernel
theorem dX1_packed_4 : decode cX1_packed 4 = .ok (.isub, 1) := by decide +kernel
theorem dX1_packed_5 : decode cX1_packed 5 = .ok (.imul, 1) := by decide +kernel
theorem dX1_packed_6 : decode cX1_packed 6 = .ok (.ishl, 1) := by decide +kernel
theorem dX1_packed_7 : decode cX1_packed 7 = .ok (.ireturn, 1) := by decide +kernel
theorem dX1_unpack_0 : decode cX1_unpack 0 = .ok (.iconst 1, 1) := by decide +kernel
theorem dX1_unpack_1 : decode cX1_unpack 1 = .ok (.istore_n 2, 1) := by decide +kernel
theorem dX1_unpack_2 : decode cX1_unpack 2 = .ok (.iload_n 2, 1) := by decide +kernel
theorem dX1_unpack_3 : decode cX1_unpack 3 = .ok (.aload_n 0, 1) := by decide +kernel
theorem dX1_unpack_4 : decode cX1_unpack 4 = .ok (.getfield 21, 3) := by decide +kernel
theorem dX1_unpack_7 : decode cX1_unpack 7 = .ok (.if_icmp .gt 25, 3) := by decide +kernel
theorem dX1_unpack_10 : decode cX1_unpack 10 = .ok (.aload_n 0, 1) := by decide +kernel
theorem dX1_unpack_11 : decode cX1_unpack 11 = .ok (.getfield 34, 3) := by decide +kernel
theorem dX1_unpack_14 : decode cX1_unpack 14 = .ok (.iload_n 2, 1) := by decide +kernel
theorem dX1_unpack_15 : decode cX1_unpack 15 = .ok (.iload_n 1, 1) := by decide +kernel
theorem dX1_unpack_16 : decode cX1_unpack 16 = .ok (.iconst 3, 1) := by decide +kernel
theorem dX1_unpack_17 : decode cX1_unpack 17 = .ok (.iload_n 2, 1) := by decide +kernel
theorem dX1_unpack_18 : decode cX1_unpack 18 = .ok (.iconst 1, 1) := by decide +kernel
theorem dX1_unpack_19 : decode cX1_unpack 19 = .ok (.isub, 1) := by decide +kernel
theorem dX1_unpack_20 : decode cX1_unpack 20 = .ok (.imul, 1) := by decide +kernel
theorem dX1_unpack_21 : decode cX1_unpack 21 = .ok (.ishr, 1) := by decide +kernel
theorem dX1_unpack_22 : decode cX1_unpack 22 = .ok (.bipush 7, 2) := by decide +kernel
theorem dX1_unpack_24 : decode cX1_unpack 24 = .ok (.iand, 1) := by decide +kernel
theorem dX1_unpack_25 : decode cX1_unpack 25 = .ok (.iastore, 1) := by decide +kernel
theorem dX1_unpack_26 : decode cX1_unpack 26 = .ok (.iinc 2 1, 3) := by decide +kernel
theorem dX1_unpack_29 : decode cX1_unpack 29 = .ok (.goto (-27), 3) := by decide +kernel
theorem dX1_unpack_32 : decode cX1_unpack 32 = .ok (.return_, 1) := by decide +kernel
theorem dX1_unpackInverse_0 : decode cX1_unpackInverse 0 = .ok (.iconst 1, 1) := by decide +kernel
theorem dX1_unpackInverse_1 : decode cX1_unpackInverse 1 = .ok (.istore_n 2, 1) := by decide +kernel
theorem dX1_unpackInverse_2 : decode cX1_unpackInverse 2 = .ok (.iload_n 2, 1) := by decide +kernel
theorem dX1_unpackInverse_3 : decode cX1_unpackInverse 3 = .ok (.aload_n 0, 1) := by decide +kernel
theorem dX1_unpackInverse_4 : decode cX1_unpackInverse 4 = .ok (.getfield 21, 3) := by decide +kernel
theorem dX1_unpackInverse_7 : decode cX1_unpackInverse 7 = .ok (.if_icmp .gt 25, 3) := by decide +kernel
theorem dX1_unpackInverse_10 : decode cX1_unpackInverse 10 = .ok (.aload_n 0, 1) := by decide +kernel
theorem dX1_unpackInverse_11 : decode cX1_unpackInverse 11 = .ok (.getfield 30, 3) := by decide +kernel
theorem dX1_unpackInverse_14 : decode cX1_unpackInverse 14 = .ok (.iload_n 1, 1) := by decide +kernel
theorem dX1_unpackInverse_15 : decode cX1_unpackInverse 15 = .ok (.iconst 3, 1) := by decide +kernel
theorem dX1_unpackInverse_16 : decode cX1_unpackInverse 16 = .ok (.iload_n 2, 1) := by decide +kernel
theorem dX1_unpackInverse_17 : decode cX1_unpackInverse 17 = .ok (.iconst 1, 1) := by decide +kernel
theorem dX1_unpackInverse_18 : decode cX1_unpackInverse 18 = .ok (.isub, 1) := by decide +kernel
theorem dX1_unpackInverse_19 : decode cX1_unpackInverse 19 = .ok (.imul, 1) := by decide +kernel
theorem dX1_unpackInverse_20 : decode cX1_unpackInverse 20 = .ok (.ishr, 1) := by decide +kernel
theorem dX1_unpackInverse_21 : decode cX1_unpackInverse 21 = .ok (.bipush 7, 2) := by decide +kernel
theorem dX1_unpackInverse_23 : decode cX1_unpackInverse 23 = .ok (.iand, 1) := by decide +kernel
theorem dX1_unpackInverse_24 : decode cX1_unpackInverse 24 = .ok (.iload_n 2, 1) := by decide +kernel
theorem dX1_unpackInverse_25 : decode cX1_unpackInverse 25 = .ok (.iastore, 1) := by decide +kernel
theorem dX1_unpackInverse_26 : decode cX1_unpackInverse 26 = .ok (.iinc 2 1, 3) := by decide +kernel
theorem dX1_unpackInverse_29 : decode cX1_unpackInverse 29 = .ok (.goto (-27), 3) := by decide +kernel
theorem dX1_unpackInverse_32 : decode cX1_unpackInverse 32 = .ok (.return_, 1) := by decide +kernel
theorem dX1_pack_0 : decode cX1_pack 0 = .ok (.iconst 0, 1) := by decide +kernel
theorem dX1_pack_1 : decode cX1_pack 1 = .ok (.istore_n 1, 1) := by decide +kernel
theorem dX1_pack_2 : decode cX1_pack 2 = .ok (.iconst 1, 1) := by decide +kernel
theorem dX1_pack_3 : decode cX1_pack 3 = .ok (.istore_n 2, 1) := by decide +kernel
theorem dX1_pack_4 : decode cX1_pack 4 = .ok (.iload_n 2, 1) := by decide +kernel
theorem dX1_pack_5 : decode cX1_pack 5 = .ok (.aload_n 0, 1) := by decide +kernel
theorem dX1_pack_6 : decode cX1_pack 6 = .ok (.getfield 21, 3) := by decide +kernel
theorem dX1_pack_9 : decode cX1_pack 9 = .ok (.if_icmp .gt 22, 3) := by decide +kernel
theorem dX1_pack_12 : decode cX1_pack 12 = .ok (.iload_n 1, 1) := by decide +kernel
theorem dX1_pack_13 : decode cX1_pack 13 = .ok (.iload_n 2, 1) := by decide +kernel
theorem dX1_pack_14 : decode cX1_pack 14 = .ok (.aload_n 0, 1) := by decide +kernel
theorem dX1_pack_15 : decode cX1_pack 15 = .ok (.getfield 34, 3) := by decide +kernel
theorem dX1_pack_18 : decode cX1_pack 18 = .ok (.iload_n 2, 1) := by decide +kernel
theorem dX1_pack_19 : decode cX1_pack 19 = .ok (.iaload, 1) := by decide +kernel
theorem dX1_pack_20 : decode cX1_pack 20 = .ok (.invokestatic 46, 3) := by decide +kernel
theorem dX1_pack_23 : decode cX1_pack 23 = .ok (.ior, 1) := by decide +kernel
theorem dX1_pack_24 : decode cX1_pack 24 = .ok (.istore_n 1, 1) := by decide +kernel
theorem dX1_pack_25 : decode cX1_pack 25 = .ok (.iinc 2 1, 3) := by decide +kernel
theorem dX1_pack_28 : decode cX1_pack 28 = .ok (.goto (-24), 3) := by decide +kernel
theorem dX1_pack_31 : decode cX1_pack 31 = .ok (.iload_n 1, 1) := by decide +kernel
theorem dX1_pack_32 : decode cX1_pack 32 = .ok (.ireturn, 1) := by decide +kernel
theorem dX1_packInverse_0 : decode cX1_packInverse 0 = .ok (.iconst 0, 1) := by decide +kernel
theorem dX1_packInverse_1 : decode cX1_packInverse 1 = .ok (.istore_n 1, 1) := by decide +kernel
theorem dX1_packInverse_2 : decode cX1_packInverse 2 = .ok (.iconst 1, 1) := by decide +kernel
theorem dX1_packInverse_3 : decode cX1_packInverse 3 = .ok (.istore_n 2, 1) := by decide +kernel
theorem dX1_packInverse_4 : decode cX1_packInverse 4 = .ok (.iload_n 2, 1) := by decide +kernel
theorem dX1_packInverse_5 : decode cX1_packInverse 5 = .ok (.aload_n 0, 1) := by decide +kernel
theorem dX1_packInverse_6 : decode cX1_packInverse 6 = .ok (.getfield 21, 3) := by decide +kernel
theorem dX1_packInverse_9 : decode cX1_packInverse 9 = .ok (.if_icmp .gt 22, 3) := by decide +kernel
theorem dX1_packInverse_12 : decode cX1_packInverse 12 = .ok (.iload_n 1, 1) := by decide +kernel
theorem dX1_packInverse_13 : decode cX1_packInverse 13 = .ok (.aload_n 0, 1) := by decide +kernel
theorem dX1_packInverse_14 : decode cX1_packInverse 14 = .ok (.getfield 30, 3) := by decide +kernel
theorem dX1_packInverse_17 : decode cX1_packInverse 17 = .ok (.iload_n 2, 1) := by decide +kernel
theorem dX1_packInverse_18 : decode cX1_packInverse 18 = .ok (.iaload, 1) := by decide +kernel
theorem dX1_packInverse_19 : decode cX1_packInverse 19 = .ok (.iload_n 2, 1) := by decide +kernel
theorem dX1_packInverse_20 : decode cX1_packInverse 20 = .ok (.invokestatic 46, 3) := by decide +kernel
theorem dX1_packInverse_23 : decode cX1_packInverse 23 = .ok (.ior, 1) := by decide +kernel
theorem dX1_packInverse_24 : decode cX1_packInverse 24 = .ok (.istore_n 1, 1) := by decide +kernel
theorem dX1_packInverse_25 : decode cX1_packInverse 25 = .ok (.iinc 2 1, 3) := by decide +kernel
theorem dX1_packInverse_28 : decode cX1_packInverse 28 = .ok (.goto (-24), 3) := by decide +kernel
theorem dX1_packInverse_31 : decode cX1_packInverse 31 = .ok (.iload_n 1, 1) := by decide +kernel
theorem dX1_packInverse_32 : decode cX1_packInverse 32 = .ok (.ireturn, 1) := by decide +kernel
theorem dX2_init_0 : decode cX2_init 0 = .ok (.aload_n 0, 1) := by decide +kernel
theorem dX2_init_1 : decode cX2_init 1 = .ok (.invokespecial 1, 3) := by decide +kernel
theorem dX2_init_4 : decode cX2_init 4 = .ok (.aload_n 0, 1) := by decide +kernel
theorem dX2_init_5 : decode cX2_init 5 = .ok (.iconst 0, 1) := by decide +kernel
theorem dX2_init_6 : decode cX2_init 6 = .ok (.putfield 7, 3) := by decide +kernel
theorem dX2_init_9 : decode cX2_init 9 = .ok (.aload_n 0, 1) := by decide +kernel
theorem dX2_init_10 : decode cX2_init 10 = .ok (.iconst 0, 1) := by decide +kernel
theorem dX2_init_11 : decode cX2_init 11 = .ok (.putfield 13, 3) := by decide +kernel
theorem dX2_init_14 : decode cX2_init 14 = .ok (.aload_n 0, 1) := by decide +kernel
theorem dX2_init_15 : decode cX2_init 15 = .ok (.iload_n 1, 1) := by decide +kernel
theorem dX2_init_16 : decode cX2_init 16 = .ok (.putfield 16, 3) := by decide +kernel
theorem dX2_init_19 : decode cX2_init 19 = .ok (.aload_n 0, 1) := by decide +kernel
theorem dX2_init_20 : decode cX2_init 20 = .ok (.iload_n 2, 1) := by decide +kernel
theorem dX2_init_21 : decode cX2_init 21 = .ok (.putfield 19, 3) := by decide +kernel
theorem dX2_init_24 : decode cX2_init 24 = .ok (.return_, 1) := by decide +kernel
theorem dX3_init_0 : decode cX3_init 0 = .ok (.aload_n 0, 1) := by decide +kernel
theorem dX3_init_1 : decode cX3_init 1 = .ok (.invokespecial 3, 3) := by decide +kernel
theorem dX3_init_4 : decode cX3_init 4 = .ok (.aload_n 0, 1) := by decide +kernel
theorem dX3_init_5 : decode cX3_init 5 = .ok (.sipush 300, 3) := by decide +kernel
theorem dX3_init_8 : decode cX3_init 8 = .ok (.newarray .int, 2) := by decide +kernel
theorem dX3_init_10 : decode cX3_init 10 = .ok (.putfield 9, 3) := by decide +kernel
theorem dX3_init_13 : decode cX3_init 13 = .ok (.aload_n 0, 1) := by decide +kernel
theorem dX3_init_14 : decode cX3_init 14 = .ok (.bipush 8, 2) := by decide +kernel
theorem dX3_init_16 : decode cX3_init 16 = .ok (.newarray .int, 2) := by decide +kernel
theorem dX3_init_18 : decode cX3_init 18 = .ok (.putfield 15, 3) := by decide +kernel
theorem dX3_init_21 : decode cX3_init 21 = .ok (.aload_n 0, 1) := by decide +kernel
theorem dX3_init_22 : decode cX3_init 22 = .ok (.iconst 0, 1) := by decide +kernel
theorem dX3_init_23 : decode cX3_init 23 = .ok (.putfield 18, 3) := by decide +kernel
theorem dX3_init_26 : decode cX3_init 26 = .ok (.aload_n 0, 1) := by decide +kernel
theorem dX3_init_27 : decode cX3_init 27 = .ok (.iconst 2, 1) := by decide +kernel
theorem dX3_init_28 : decode cX3_init 28 = .ok (.putfield 22, 3) := by decide +kernel
theorem dX3_init_31 : decode cX3_init 31 = .ok (.aload_n 0, 1) := by decide +kernel
theorem dX3_init_32 : decode cX3_init 32 = .ok (.iconst 0, 1) := by decide +kernel
theorem dX3_init_33 : decode cX3_init 33 = .ok (.putfield 25, 3) := by decide +kernel
theorem dX3_init_36 : decode cX3_init 36 = .ok (.aload_n 0, 1) := by decide +kernel
theorem dX3_init_37 : decode cX3_init 37 = .ok (.iconst 1, 1) := by decide +kernel
theorem dX3_init_38 : decode cX3_init 38 = .ok (.putfield 28, 3) := by decide +kernel
theorem dX3_init_41 : decode cX3_init 41 = .ok (.aload_n 0, 1) := by decide +kernel
theorem dX3_init_42 : decode cX3_init 42 = .ok (.iconst 0, 1) := by decide +kernel
theorem dX3_init_43 : decode cX3_init 43 = .ok (.putfield 31, 3) := by decide +kernel
theorem dX3_init_46 : decode cX3_init 46 = .ok (.aload_n 0, 1) := by decide +kernel
theorem dX3_init_47 : decode cX3_init 47 = .ok (.iconst 0, 1) := by decide +kernel
theorem dX3_init_48 : decode cX3_init 48 = .ok (.putfield 34, 3) := by decide +kernel
theorem dX3_init_51 : decode cX3_init 51 = .ok (.aload_n 0, 1) := by decide +kernel
theorem dX3_init_52 : decode cX3_init 52 = .ok (.bipush 8, 2) := by decide +kernel
theorem dX3_init_54 : decode cX3_init 54 = .ok (.newarray .int, 2) := by decide +kernel
theorem dX3_init_56 : decode cX3_init 56 = .ok (.putfield 38, 3) := by decide +kernel
theorem dX3_init_59 : decode cX3_init 59 = .ok (.aload_n 0, 1) := by decide +kernel
theorem dX3_init_60 : decode cX3_init 60 = .ok (.bipush 8, 2) := by decide +kernel
theorem dX3_init_62 : decode cX3_init 62 = .ok (.newarray .int, 2) := by decide +kernel
theorem dX3_init_64 : decode cX3_init 64 = .ok (.putfield 41, 3) := by decide +kernel
theorem dX3_init_67 : decode cX3_init 67 = .ok (.aload_n 0, 1) := by decide +kernel
theorem dX3_init_68 : decode cX3_init 68 = .ok (.bipush 8, 2) := by decide +kernel
theorem dX3_init_70 : decode cX3_init 70 = .ok (.newarray .int, 2) := by decide +kernel
theorem dX3_init_72 : decode cX3_init 72 = .ok (.putfield 44, 3) := by decide +kernel
theorem dX3_init_75 : decode cX3_init 75 = .ok (.aload_n 0, 1) := by decide +kernel
theorem dX3_init_76 : decode cX3_init 76 = .ok (.bipush 8, 2) := by decide +kernel
theorem dX3_init_78 : decode cX3_init 78 = .ok (.newarray .int, 2) := by decide +kernel
theorem dX3_init_80 : decode cX3_init 80 = .ok (.putfield 47, 3) := by decide +kernel
theorem dX3_init_83 : decode cX3_init 83 = .ok (.aload_n 0, 1) := by decide +kernel
theorem dX3_init_84 : decode cX3_init 84 = .ok (.bipush 8, 2) := by decide +kernel
theorem dX3_init_86 : decode cX3_init 86 = .ok (.newarray .int, 2) := by decide +kernel
theorem dX3_init_88 : decode cX3_init 88 = .ok (.putfield 50, 3) := by decide +kernel
theorem dX3_init_91 : decode cX3_init 91 = .ok (.aload_n 0, 1) := by decide +kernel
theorem dX3_init_92 : decode cX3_init 92 = .ok (.bipush 8, 2) := by decide +kernel
theorem dX3_init_94 : decode cX3_init 94 = .ok (.bipush 8, 2) := by decide +kernel
theorem dX3_init_96 : decode cX3_init 96 = .ok (.multianewarray 53 2, 4) := by decide +kernel
theorem dX3_init_100 : decode cX3_init 100 = .ok (.putfield 55, 3) := by decide +kernel
theorem dX3_init_103 : decode cX3_init 103 = .ok (.aload_n 0, 1) := by decide +kernel
theorem dX3_init_104 : decode cX3_init 104 = .ok (.iconst 1, 1) := by decide +kernel
theorem dX3_init_105 : decode cX3_init 105 = .ok (.putfield 58, 3) := by decide +kernel
theorem dX3_init_108 : decode cX3_init 108 = .ok (.aload_n 0, 1) := by decide +kernel
theorem dX3_init_109 : decode cX3_init 109 = .ok (.new 61, 3) := by decide +kernel
theorem dX3_init_112 : decode cX3_init 112 = .ok (.dup, 1) := by decide +kernel
theorem dX3_init_113 : decode cX3_init 113 = .ok (.sipush 300, 3) := by decide +kernel
theorem dX3_init_116 : decode cX3_init 116 = .ok (.invokespecial 63, 3) := by decide +kernel
theorem dX3_init_119 : decode cX3_init 119 = .ok (.putfield 66, 3) := by decide +kernel
theorem dX3_init_122 : decode cX3_init 122 = .ok (.aload_n 0, 1) := by decide +kernel
theorem dX3_init_123 : decode cX3_init 123 = .ok (.iconst 0, 1) := by decide +kernel
theorem dX3_init_124 : decode cX3_init 124 = .ok (.putfield 70, 3) := by decide +kernel
theorem dX3_init_127 : decode cX3_init 127 = .ok (.aload_n 0, 1) := by decide +kernel
theorem dX3_init_128 : decode cX3_init 128 = .ok (.iconst 0, 1) := by decide +kernel
theorem dX3_init_129 : decode cX3_init 129 = .ok (.putfield 73, 3) := by decide +kernel
theorem dX3_init_132 : decode cX3_init 132 = .ok (.return_, 1) := by decide +kernel
theorem dX3_become_0 : decode cX3_become 0 = .ok (.aload_n 0, 1) := by decide +kernel
theorem dX3_become_1 : decode cX3_become 1 = .ok (.iload_n 1, 1) := by decide +kernel
theorem dX3_become_2 : decode cX3_become 2 = .ok (.putfield 22, 3) := by decide +kernel
theorem dX3_become_5 : decode cX3_become 5 = .ok (.aload_n 0, 1) := by decide +kernel
theorem dX3_become_6 : decode cX3_become 6 = .ok (.iload_n 3, 1) := by decide +kernel
theorem dX3_become_7 : decode cX3_become 7 = .ok (.aload_n 2, 1) := by decide +kernel
theorem dX3_become_8 : decode cX3_become 8 = .ok (.arraylength, 1) := by decide +kernel
theorem dX3_become_9 : decode cX3_become 9 = .ok (.sipush 300, 3) := by decide +kernel
theorem dX3_become_12 : decode cX3_become 12 = .ok (.invokestatic 76, 3) := by decide +kernel
theorem dX3_become_15 : decode cX3_become 15 = .ok (.invokestatic 76, 3) := by decide +kernel
theorem dX3_become_18 : decode cX3_become 18 = .ok (.putfield 18, 3) := by decide +kernel
theorem dX3_become_21 : decode cX3_become 21 = .ok (.aload_n 2, 1) := by decide +kernel
theorem dX3_become_22 : decode cX3_become 22 = .ok (.iconst 0, 1) := by decide +kernel
theorem dX3_become_23 : decode cX3_become 23 = .ok (.aload_n 0, 1) := by decide +kernel
theorem dX3_become_24 : decode cX3_become 24 = .ok (.getfield 9, 3) := by decide +kernel
theorem dX3_become_27 : decode cX3_become 27 = .ok (.iconst 0, 1) := by decide +kernel
theorem dX3_become_28 : decode cX3_become 28 = .ok (.aload_n 0, 1) := by decide +kernel
theorem dX3_become_29 : decode cX3_become 29 = .ok (.getfield 18, 3) := by decide +kernel
theorem dX3_become_32 : decode cX3_become 32 = .ok (.invokestatic 82, 3) := by decide +kernel
theorem dX3_become_35 : decode cX3_become 35 = .ok (.aload_n 0, 1) := by decide +kernel
theorem dX3_become_36 : decode cX3_become 36 = .ok (.iconst 0, 1) := by decide +kernel
theorem dX3_become_37 : decode cX3_become 37 = .ok (.putfield 70, 3) := by decide +kernel
theorem dX3_become_40 : decode cX3_become 40 = .ok (.aload_n 0, 1) := by decide +kernel
theorem dX3_become_41 : decode cX3_become 41 = .ok (.iconst 0, 1) := by decide +kernel
theorem dX3_become_42 : decode cX3_become 42 = .ok (.putfield 73, 3) := by decide +kernel
theorem dX3_become_45 : decode cX3_become 45 = .ok (.aload_n 0, 1) := by decide +kernel
theorem dX3_become_46 : decode cX3_become 46 = .ok (.invokevirtual 88, 3) := by decide +kernel
theorem dX3_become_49 : decode cX3_become 49 = .ok (.iconst 0, 1) := by decide +kernel
theorem dX3_become_50 : decode cX3_become 50 = .ok (.istore 4, 2) := by decide +kernel
theorem dX3_become_52 : decode cX3_become 52 = .ok (.iload 4, 2) := by decide +kernel
theorem dX3_become_54 : decode cX3_become 54 = .ok (.aload_n 0, 1) := by decide +kernel
theorem dX3_become_55 : decode cX3_become 55 = .ok (.getfield 18, 3) := by decide +kernel
theorem dX3_become_58 : decode cX3_become 58 = .ok (.if_icmp .ge 20, 3) := by decide +kernel
theorem dX3_become_61 : decode cX3_become 61 = .ok (.aload_n 0, 1) := by decide +kernel
theorem dX3_become_62 : decode cX3_become 62 = .ok (.aload_n 0, 1) := by decide +kernel
theorem dX3_become_63 : decode cX3_become 63 = .ok (.getfield 9, 3) := by decide +kernel
theorem dX3_become_66 : decode cX3_become 66 = .ok (.iload 4, 2) := by decide +kernel
theorem dX3_become_68 : decode cX3_become 68 = .ok (.iaload, 1) := by decide +kernel
theorem dX3_become_69 : decode cX3_become 69 = .ok (.invokevirtual 91, 3) := by decide +kernel
theorem dX3_become_72 : decode cX3_become 72 = .ok (.iinc 4 1, 3) := by decide +kernel
theorem dX3_become_75 : decode cX3_become 75 = .ok (.goto (-23), 3) := by decide +kernel
theorem dX3_become_78 : decode cX3_become 78 = .ok (.iconst 1, 1) := by decide +kernel
theorem dX3_become_79 : decode cX3_become 79 = .ok (.istore 4, 2) := by decide +kernel
theorem dX3_become_81 : decode cX3_become 81 = .ok (.iload 4, 2) := by decide +kernel
theorem dX3_become_83 : decode cX3_become 83 = .ok (.aload_n 0, 1) := by decide +kernel
theorem dX3_become_84 : decode cX3_become 84 = .ok (.getfield 22, 3) := by decide +kernel
theorem dX3_become_87 : decode cX3_become 87 = .ok (.if_icmp .gt 23, 3) := by decide +kernel
theorem dX3_become_90 : decode cX3_become 90 = .ok (.aload_n 0, 1) := by decide +kernel
theorem dX3_become_91 : decode cX3_become 91 = .ok (.getfield 15, 3) := by decide +kernel
theorem dX3_become_94 : decode cX3_become 94 = .ok (.aload_n 0, 1) := by decide +kernel
theorem dX3_become_95 : decode cX3_become 95 = .ok (.getfield 38, 3) := by decide +kernel
theorem dX3_become_98 : decode cX3_become 98 = .ok (.iload 4, 2) := by decide +kernel
theorem dX3_become_100 : decode cX3_become 100 = .ok (.iaload, 1) := by decide +kernel
theorem dX3_become_101 : decode cX3_become 101 = .ok (.iload 4, 2) := by decide +kernel
theorem dX3_become_103 : decode cX3_become 103 = .ok (.iastore, 1) := by decide +kernel
theorem dX3_become_104 : decode cX3_become 104 = .ok (.iinc 4 1, 3) := by decide +kernel
theorem dX3_become_107 : decode cX3_become 107 = .ok (.goto (-26), 3) := by decide +kernel
theorem dX3_become_110 : decode cX3_become 110 = .ok (.aload_n 0, 1) := by decide +kernel
theorem dX3_become_111 : decode cX3_become 111 = .ok (.invokevirtual 94, 3) := by decide +kernel
theorem dX3_become_114 : decode cX3_become 114 = .ok (.aload_n 0, 1) := by decide +kernel
theorem dX3_become_115 : decode cX3_become 115 = .ok (.aload_n 0, 1) := by decide +kernel
theorem dX3_become_116 : decode cX3_become 116 = .ok (.getfield 58, 3) := by decide +kernel
theorem dX3_become_119 : decode cX3_become 119 = .ok (.ifCond .eq 21, 3) := by decide +kernel
theorem dX3_become_122 : decode cX3_become 122 = .ok (.aload_n 0, 1) := by decide +kernel
theorem dX3_become_123 : decode cX3_become 123 = .ok (.invokevirtual 97, 3) := by decide +kernel
theorem dX3_become_126 : decode cX3_become 126 = .ok (.ifCond .eq 14, 3) := by decide +kernel
theorem dX3_become_129 : decode cX3_become 129 = .ok (.aload_n 0, 1) := by decide +kernel
theorem dX3_become_130 : decode cX3_become 130 = .ok (.invokevirtual 101, 3) := by decide +kernel
theorem dX3_become_133 : decode cX3_become 133 = .ok (.ifCond .eq 7, 3) := by decide +kernel
theorem dX3_become_136 : decode cX3_become 136 = .ok (.iconst 1, 1) := by decide +kernel
theorem dX3_become_137 : decode cX3_become 137 = .ok (.goto 4, 3) := by decide +kernel
theorem dX3_become_140 : decode cX3_become 140 = .ok (.iconst 0, 1) := by decide +kernel
theorem dX3_become_141 : decode cX3_become 141 = .ok (.putfield 34, 3) := by decide +kernel
theorem dX3_become_144 : decode cX3_become 144 = .ok (.return_, 1) := by decide +kernel
theorem dX3_hasPlace_0 : decode cX3_hasPlace 0 = .ok (.iload_n 1, 1) := by decide +kernel
theorem dX3_hasPlace_1 : decode cX3_hasPlace 1 = .ok (.iconst 1, 1) := by decide +kernel
theorem dX3_hasPlace_2 : decode cX3_hasPlace 2 = .ok (.if_icmp .lt 15, 3) := by decide +kernel
theorem dX3_hasPlace_5 : decode cX3_hasPlace 5 = .ok (.iload_n 1, 1) := by decide +kernel
theorem dX3_hasPlace_6 : decode cX3_hasPlace 6 = .ok (.aload_n 0, 1) := by decide +kernel
theorem dX3_hasPlace_7 : decode cX3_hasPlace 7 = .ok (.getfield 22, 3) := by decide +kernel
theorem dX3_hasPlace_10 : decode cX3_hasPlace 10 = .ok (.if_icmp .gt 7, 3) := by decide +kernel
theorem dX3_hasPlace_13 : decode cX3_hasPlace 13 = .ok (.iconst 1, 1) := by decide +kernel
theorem dX3_hasPlace_14 : decode cX3_hasPlace 14 = .ok (.goto 4, 3) := by decide +kernel
theorem dX3_hasPlace_17 : decode cX3_hasPlace 17 = .ok (.iconst 0, 1) := by decide +kernel
theorem dX3_hasPlace_18 : decode cX3_hasPlace 18 = .ok (.ireturn, 1) := by decide +kernel
theorem dX3_useFrom_0 : decode cX3_useFrom 0 = .ok (.iconst 2, 1) := by decide +kernel
theorem dX3_useFrom_1 : decode cX3_useFrom 1 = .ok (.aload_n 0, 1) := by decide +kernel
theorem dX3_useFrom_2 : decode cX3_useFrom 2 = .ok (.getfield 25, 3) := by decide +kernel
theorem dX3_useFrom_5 : decode cX3_useFrom 5 = .ok (.imul, 1) := by decide +kernel
theorem dX3_useFrom_6 : decode cX3_useFrom 6 = .ok (.aload_n 0, 1) := by decide +kernel
theorem dX3_useFrom_7 : decode cX3_useFrom 7 = .ok (.getfield 44, 3) := by decide +kernel
theorem dX3_useFrom_10 : decode cX3_useFrom 10 = .ok (.iload_n 1, 1) := by decide +kernel
theorem dX3_useFrom_11 : decode cX3_useFrom 11 = .ok (.iaload, 1) := by decide +kernel
theorem dX3_useFrom_12 : decode cX3_useFrom 12 = .ok (.iadd, 1) := by decide +kernel
theorem dX3_useFrom_13 : decode cX3_useFrom 13 = .ok (.ireturn, 1) := by decide +kernel
theorem dX3_strawsNeeded_0 : decode cX3_strawsNeeded 0 = .ok (.iconst 0, 1) := by decide +kernel
theorem dX3_strawsNeeded_1 : decode cX3_strawsNeeded 1 = .ok (.istore_n 2, 1) := by decide +kernel
theorem dX3_strawsNeeded_2 : decode cX3_strawsNeeded 2 = .ok (.iconst 1, 1) := by decide +kernel
theorem dX3_strawsNeeded_3 : decode cX3_strawsNeeded 3 = .ok (.istore_n 3, 1) := by decide +kernel
theorem dX3_strawsNeeded_4 : decode cX3_strawsNeeded 4 = .ok (.iload_n 3, 1) := by decide +kernel
theorem dX3_strawsNeeded_5 : decode cX3_strawsNeeded 5 = .ok (.aload_n 0, 1) := by decide +kernel
theorem dX3_strawsNeeded_6 : decode cX3_strawsNeeded 6 = .ok (.getfield 22, 3) := by decide +kernel
theorem dX3_strawsNeeded_9 : decode cX3_strawsNeeded 9 = .ok (.if_icmp .gt 63, 3) := by decide +kernel
theorem dX3_strawsNeeded_12 : decode cX3_strawsNeeded 12 = .ok (.iconst 0, 1) := by decide +kernel
theorem dX3_strawsNeeded_13 : decode cX3_strawsNeeded 13 = .ok (.istore 4, 2) := by decide +kernel
theorem dX3_strawsNeeded_15 : decode cX3_strawsNeeded 15 = .ok (.iload_n 3, 1) := by decide +kernel
theorem dX3_strawsNeeded_16 : decode cX3_strawsNeeded 16 = .ok (.istore 5, 2) := by decide +kernel
theorem dX3_strawsNeeded_18 : decode cX3_strawsNeeded 18 = .ok (.iconst 0, 1) := by decide +kernel
theorem dX3_strawsNeeded_19 : decode cX3_strawsNeeded 19 = .ok (.istore 6, 2) := by decide +kernel
theorem dX3_strawsNeeded_21 : decode cX3_strawsNeeded 21 = .ok (.iload 6, 2) := by decide +kernel
theorem dX3_strawsNeeded_23 : decode cX3_strawsNeeded 23 = .ok (.iload_n 1, 1) := by decide +kernel
theorem dX3_strawsNeeded_24 : decode cX3_strawsNeeded 24 = .ok (.if_icmp .ge 29, 3) := by decide +kernel
theorem dX3_strawsNeeded_27 : decode cX3_strawsNeeded 27 = .ok (.iload 4, 2) := by decide +kernel
theorem dX3_strawsNeeded_29 : decode cX3_strawsNeeded 29 = .ok (.aload_n 0, 1) := by decide +kernel
theorem dX3_strawsNeeded_30 : decode cX3_strawsNeeded 30 = .ok (.iload 5, 2) := by decide +kernel
theorem dX3_strawsNeeded_32 : decode cX3_strawsNeeded 32 = .ok (.invokevirtual 104, 3) := by decide +kernel
theorem dX3_strawsNeeded_35 : decode cX3_strawsNeeded 35 = .ok (.iadd, 1) := by decide +kernel
theorem dX3_strawsNeeded_36 : decode cX3_strawsNeeded 36 = .ok (.istore 4, 2) := by decide +kernel
theorem dX3_strawsNeeded_38 : decode cX3_strawsNeeded 38 = .ok (.aload_n 0, 1) := by decide +kernel
theorem dX3_strawsNeeded_39 : decode cX3_strawsNeeded 39 = .ok (.getfield 15, 3) := by decide +kernel
theorem dX3_strawsNeeded_42 : decode cX3_strawsNeeded 42 = .ok (.iload 5, 2) := by decide +kernel
theorem dX3_strawsNeeded_44 : decode cX3_strawsNeeded 44 = .ok (.iaload, 1) := by decide +kernel
theorem dX3_strawsNeeded_45 : decode cX3_strawsNeeded 45 = .ok (.istore 5, 2) := by decide +kernel
theorem dX3_strawsNeeded_47 : decode cX3_strawsNeeded 47 = .ok (.iinc 6 1, 3) := by decide +kernel
theorem dX3_strawsNeeded_50 : decode cX3_strawsNeeded 50 = .ok (.goto (-29), 3) := by decide +kernel
theorem dX3_strawsNeeded_53 : decode cX3_strawsNeeded 53 = .ok (.iload_n 2, 1) := by decide +kernel
theorem dX3_strawsNeeded_54 : decode cX3_strawsNeeded 54 = .ok (.iload 4, 2) := by decide +kernel
theorem dX3_strawsNeeded_56 : decode cX3_strawsNeeded 56 = .ok (.bipush 100, 2) := by decide +kernel
theorem dX3_strawsNeeded_58 : decode cX3_strawsNeeded 58 = .ok (.iadd, 1) := by decide +kernel
theorem dX3_strawsNeeded_59 : decode cX3_strawsNeeded 59 = .ok (.iconst 1, 1) := by decide +kernel
theorem dX3_strawsNeeded_60 : decode cX3_strawsNeeded 60 = .ok (.isub, 1) := by decide +kernel
theorem dX3_strawsNeeded_61 : decode cX3_strawsNeeded 61 = .ok (.bipush 100, 2) := by decide +kernel
theorem dX3_strawsNeeded_63 : decode cX3_strawsNeeded 63 = .ok (.idiv, 1) := by decide +kernel
theorem dX3_strawsNeeded_64 : decode cX3_strawsNeeded 64 = .ok (.iadd, 1) := by decide +kernel
theorem dX3_strawsNeeded_65 : decode cX3_strawsNeeded 65 = .ok (.istore_n 2, 1) := by decide +kernel
theorem dX3_strawsNeeded_66 : decode cX3_strawsNeeded 66 = .ok (.iinc 3 1, 3) := by decide +kernel
theorem dX3_strawsNeeded_69 : decode cX3_strawsNeeded 69 = .ok (.goto (-65), 3) := by decide +kernel
theorem dX3_strawsNeeded_72 : decode cX3_strawsNeeded 72 = .ok (.iload_n 2, 1) := by decide +kernel
theorem dX3_strawsNeeded_73 : decode cX3_strawsNeeded 73 = .ok (.ireturn, 1) := by decide +kernel
