theorem dX4_openBracket_28 : decode cX4_openBracket 28 = .ok (.iastore, 1) := by decide +kernel
theorem dX4_openBracket_29 : decode cX4_openBracket 29 = .ok (.aload_n 0, 1) := by decide +kernel
theorem dX4_openBracket_30 : decode cX4_openBracket 30 = .ok (.getfield 28, 3) := by decide +kernel
theorem dX4_openBracket_33 : decode cX4_openBracket 33 = .ok (.aload_n 0, 1) := by decide +kernel
theorem dX4_openBracket_34 : decode cX4_openBracket 34 = .ok (.getfield 31, 3) := by decide +kernel
theorem dX4_openBracket_37 : decode cX4_openBracket 37 = .ok (.aload_n 0, 1) := by decide +kernel
theorem dX4_openBracket_38 : decode cX4_openBracket 38 = .ok (.getfield 15, 3) := by decide +kernel
theorem dX4_openBracket_41 : decode cX4_openBracket 41 = .ok (.iastore, 1) := by decide +kernel
theorem dX4_openBracket_42 : decode cX4_openBracket 42 = .ok (.aload_n 0, 1) := by decide +kernel
theorem dX4_openBracket_43 : decode cX4_openBracket 43 = .ok (.dup, 1) := by decide +kernel
theorem dX4_openBracket_44 : decode cX4_openBracket 44 = .ok (.getfield 31, 3) := by decide +kernel
theorem dX4_openBracket_47 : decode cX4_openBracket 47 = .ok (.iconst 1, 1) := by decide +kernel
theorem dX4_openBracket_48 : decode cX4_openBracket 48 = .ok (.iadd, 1) := by decide +kernel
theorem dX4_openBracket_49 : decode cX4_openBracket 49 = .ok (.putfield 31, 3) := by decide +kernel
theorem dX4_openBracket_52 : decode cX4_openBracket 52 = .ok (.aload_n 0, 1) := by decide +kernel
theorem dX4_openBracket_53 : decode cX4_openBracket 53 = .ok (.dup, 1) := by decide +kernel
theorem dX4_openBracket_54 : decode cX4_openBracket 54 = .ok (.getfield 37, 3) := by decide +kernel
theorem dX4_openBracket_57 : decode cX4_openBracket 57 = .ok (.iconst 1, 1) := by decide +kernel
theorem dX4_openBracket_58 : decode cX4_openBracket 58 = .ok (.iadd, 1) := by decide +kernel
theorem dX4_openBracket_59 : decode cX4_openBracket 59 = .ok (.putfield 37, 3) := by decide +kernel
theorem dX4_openBracket_62 : decode cX4_openBracket 62 = .ok (.return_, 1) := by decide +kernel
theorem dX4_closeBracket_0 : decode cX4_closeBracket 0 = .ok (.aload_n 0, 1) := by decide +kernel
theorem dX4_closeBracket_1 : decode cX4_closeBracket 1 = .ok (.dup, 1) := by decide +kernel
theorem dX4_closeBracket_2 : decode cX4_closeBracket 2 = .ok (.getfield 31, 3) := by decide +kernel
theorem dX4_closeBracket_5 : decode cX4_closeBracket 5 = .ok (.iconst 1, 1) := by decide +kernel
theorem dX4_closeBracket_6 : decode cX4_closeBracket 6 = .ok (.isub, 1) := by decide +kernel
theorem dX4_closeBracket_7 : decode cX4_closeBracket 7 = .ok (.putfield 31, 3) := by decide +kernel
theorem dX4_closeBracket_10 : decode cX4_closeBracket 10 = .ok (.aload_n 0, 1) := by decide +kernel
theorem dX4_closeBracket_11 : decode cX4_closeBracket 11 = .ok (.getfield 25, 3) := by decide +kernel
theorem dX4_closeBracket_14 : decode cX4_closeBracket 14 = .ok (.aload_n 0, 1) := by decide +kernel
theorem dX4_closeBracket_15 : decode cX4_closeBracket 15 = .ok (.getfield 31, 3) := by decide +kernel
theorem dX4_closeBracket_18 : decode cX4_closeBracket 18 = .ok (.iaload, 1) := by decide +kernel
theorem dX4_closeBracket_19 : decode cX4_closeBracket 19 = .ok (.istore_n 1, 1) := by decide +kernel
theorem dX4_closeBracket_20 : decode cX4_closeBracket 20 = .ok (.aload_n 0, 1) := by decide +kernel
theorem dX4_closeBracket_21 : decode cX4_closeBracket 21 = .ok (.getfield 28, 3) := by decide +kernel
theorem dX4_closeBracket_24 : decode cX4_closeBracket 24 = .ok (.aload_n 0, 1) := by decide +kernel
theorem dX4_closeBracket_25 : decode cX4_closeBracket 25 = .ok (.getfield 31, 3) := by decide +kernel
theorem dX4_closeBracket_28 : decode cX4_closeBracket 28 = .ok (.iaload, 1) := by decide +kernel
theorem dX4_closeBracket_29 : decode cX4_closeBracket 29 = .ok (.istore_n 2, 1) := by decide +kernel
theorem dX4_closeBracket_30 : decode cX4_closeBracket 30 = .ok (.iload_n 1, 1) := by decide +kernel
theorem dX4_closeBracket_31 : decode cX4_closeBracket 31 = .ok (.ifCond .ne 11, 3) := by decide +kernel
theorem dX4_closeBracket_34 : decode cX4_closeBracket 34 = .ok (.aload_n 0, 1) := by decide +kernel
theorem dX4_closeBracket_35 : decode cX4_closeBracket 35 = .ok (.iload_n 2, 1) := by decide +kernel
theorem dX4_closeBracket_36 : decode cX4_closeBracket 36 = .ok (.invokevirtual 113, 3) := by decide +kernel
theorem dX4_closeBracket_39 : decode cX4_closeBracket 39 = .ok (.goto 64, 3) := by decide +kernel
theorem dX4_closeBracket_42 : decode cX4_closeBracket 42 = .ok (.iload_n 1, 1) := by decide +kernel
theorem dX4_closeBracket_43 : decode cX4_closeBracket 43 = .ok (.iconst (-1), 1) := by decide +kernel
theorem dX4_closeBracket_44 : decode cX4_closeBracket 44 = .ok (.if_icmp .ne 11, 3) := by decide +kernel
theorem dX4_closeBracket_47 : decode cX4_closeBracket 47 = .ok (.aload_n 0, 1) := by decide +kernel
theorem dX4_closeBracket_48 : decode cX4_closeBracket 48 = .ok (.iload_n 2, 1) := by decide +kernel
theorem dX4_closeBracket_49 : decode cX4_closeBracket 49 = .ok (.invokevirtual 116, 3) := by decide +kernel
theorem dX4_closeBracket_52 : decode cX4_closeBracket 52 = .ok (.goto 51, 3) := by decide +kernel
theorem dX4_closeBracket_55 : decode cX4_closeBracket 55 = .ok (.iload_n 1, 1) := by decide +kernel
theorem dX4_closeBracket_56 : decode cX4_closeBracket 56 = .ok (.bipush (-2), 2) := by decide +kernel
theorem dX4_closeBracket_58 : decode cX4_closeBracket 58 = .ok (.if_icmp .ne 11, 3) := by decide +kernel
theorem dX4_closeBracket_61 : decode cX4_closeBracket 61 = .ok (.aload_n 0, 1) := by decide +kernel
theorem dX4_closeBracket_62 : decode cX4_closeBracket 62 = .ok (.iload_n 2, 1) := by decide +kernel
theorem dX4_closeBracket_63 : decode cX4_closeBracket 63 = .ok (.invokevirtual 119, 3) := by decide +kernel
theorem dX4_closeBracket_66 : decode cX4_closeBracket 66 = .ok (.goto 37, 3) := by decide +kernel
theorem dX4_closeBracket_69 : decode cX4_closeBracket 69 = .ok (.iload_n 2, 1) := by decide +kernel
theorem dX4_closeBracket_70 : decode cX4_closeBracket 70 = .ok (.aload_n 0, 1) := by decide +kernel
theorem dX4_closeBracket_71 : decode cX4_closeBracket 71 = .ok (.getfield 15, 3) := by decide +kernel
theorem dX4_closeBracket_74 : decode cX4_closeBracket 74 = .ok (.iload_n 2, 1) := by decide +kernel
theorem dX4_closeBracket_75 : decode cX4_closeBracket 75 = .ok (.isub, 1) := by decide +kernel
theorem dX4_closeBracket_76 : decode cX4_closeBracket 76 = .ok (.iload_n 1, 1) := by decide +kernel
theorem dX4_closeBracket_77 : decode cX4_closeBracket 77 = .ok (.imul, 1) := by decide +kernel
theorem dX4_closeBracket_78 : decode cX4_closeBracket 78 = .ok (.iadd, 1) := by decide +kernel
theorem dX4_closeBracket_79 : decode cX4_closeBracket 79 = .ok (.sipush 300, 3) := by decide +kernel
theorem dX4_closeBracket_82 : decode cX4_closeBracket 82 = .ok (.if_icmp .le 15, 3) := by decide +kernel
theorem dX4_closeBracket_85 : decode cX4_closeBracket 85 = .ok (.aload_n 0, 1) := by decide +kernel
theorem dX4_closeBracket_86 : decode cX4_closeBracket 86 = .ok (.iconst 2, 1) := by decide +kernel
theorem dX4_closeBracket_87 : decode cX4_closeBracket 87 = .ok (.aload_n 0, 1) := by decide +kernel
theorem dX4_closeBracket_88 : decode cX4_closeBracket 88 = .ok (.getfield 37, 3) := by decide +kernel
theorem dX4_closeBracket_91 : decode cX4_closeBracket 91 = .ok (.invokevirtual 64, 3) := by decide +kernel
theorem dX4_closeBracket_94 : decode cX4_closeBracket 94 = .ok (.goto 9, 3) := by decide +kernel
theorem dX4_closeBracket_97 : decode cX4_closeBracket 97 = .ok (.aload_n 0, 1) := by decide +kernel
theorem dX4_closeBracket_98 : decode cX4_closeBracket 98 = .ok (.iload_n 2, 1) := by decide +kernel
theorem dX4_closeBracket_99 : decode cX4_closeBracket 99 = .ok (.iload_n 1, 1) := by decide +kernel
theorem dX4_closeBracket_100 : decode cX4_closeBracket 100 = .ok (.invokevirtual 122, 3) := by decide +kernel
theorem dX4_closeBracket_103 : decode cX4_closeBracket 103 = .ok (.aload_n 0, 1) := by decide +kernel
theorem dX4_closeBracket_104 : decode cX4_closeBracket 104 = .ok (.dup, 1) := by decide +kernel
theorem dX4_closeBracket_105 : decode cX4_closeBracket 105 = .ok (.getfield 37, 3) := by decide +kernel
theorem dX4_closeBracket_108 : decode cX4_closeBracket 108 = .ok (.iconst 1, 1) := by decide +kernel
theorem dX4_closeBracket_109 : decode cX4_closeBracket 109 = .ok (.iadd, 1) := by decide +kernel
theorem dX4_closeBracket_110 : decode cX4_closeBracket 110 = .ok (.putfield 37, 3) := by decide +kernel
theorem dX4_closeBracket_113 : decode cX4_closeBracket 113 = .ok (.return_, 1) := by decide +kernel
theorem dX4_repeat_0 : decode cX4_repeat 0 = .ok (.aload_n 0, 1) := by decide +kernel
theorem dX4_repeat_1 : decode cX4_repeat 1 = .ok (.getfield 15, 3) := by decide +kernel
theorem dX4_repeat_4 : decode cX4_repeat 4 = .ok (.iload_n 1, 1) := by decide +kernel
theorem dX4_repeat_5 : decode cX4_repeat 5 = .ok (.isub, 1) := by decide +kernel
theorem dX4_repeat_6 : decode cX4_repeat 6 = .ok (.istore_n 3, 1) := by decide +kernel
theorem dX4_repeat_7 : decode cX4_repeat 7 = .ok (.iconst 1, 1) := by decide +kernel
theorem dX4_repeat_8 : decode cX4_repeat 8 = .ok (.istore 4, 2) := by decide +kernel
theorem dX4_repeat_10 : decode cX4_repeat 10 = .ok (.iload 4, 2) := by decide +kernel
theorem dX4_repeat_12 : decode cX4_repeat 12 = .ok (.iload_n 2, 1) := by decide +kernel
theorem dX4_repeat_13 : decode cX4_repeat 13 = .ok (.if_icmp .ge 48, 3) := by decide +kernel
theorem dX4_repeat_16 : decode cX4_repeat 16 = .ok (.aload_n 0, 1) := by decide +kernel
theorem dX4_repeat_17 : decode cX4_repeat 17 = .ok (.getfield 15, 3) := by decide +kernel
theorem dX4_repeat_20 : decode cX4_repeat 20 = .ok (.iload_n 3, 1) := by decide +kernel
theorem dX4_repeat_21 : decode cX4_repeat 21 = .ok (.iadd, 1) := by decide +kernel
theorem dX4_repeat_22 : decode cX4_repeat 22 = .ok (.sipush 300, 3) := by decide +kernel
theorem dX4_repeat_25 : decode cX4_repeat 25 = .ok (.if_icmp .gt 36, 3) := by decide +kernel
theorem dX4_repeat_28 : decode cX4_repeat 28 = .ok (.aload_n 0, 1) := by decide +kernel
theorem dX4_repeat_29 : decode cX4_repeat 29 = .ok (.getfield 9, 3) := by decide +kernel
theorem dX4_repeat_32 : decode cX4_repeat 32 = .ok (.iload_n 1, 1) := by decide +kernel
theorem dX4_repeat_33 : decode cX4_repeat 33 = .ok (.aload_n 0, 1) := by decide +kernel
theorem dX4_repeat_34 : decode cX4_repeat 34 = .ok (.getfield 9, 3) := by decide +kernel
theorem dX4_repeat_37 : decode cX4_repeat 37 = .ok (.aload_n 0, 1) := by decide +kernel
theorem dX4_repeat_38 : decode cX4_repeat 38 = .ok (.getfield 15, 3) := by decide +kernel
theorem dX4_repeat_41 : decode cX4_repeat 41 = .ok (.iload_n 3, 1) := by decide +kernel
theorem dX4_repeat_42 : decode cX4_repeat 42 = .ok (.invokestatic 107, 3) := by decide +kernel
theorem dX4_repeat_45 : decode cX4_repeat 45 = .ok (.aload_n 0, 1) := by decide +kernel
theorem dX4_repeat_46 : decode cX4_repeat 46 = .ok (.dup, 1) := by decide +kernel
theorem dX4_repeat_47 : decode cX4_repeat 47 = .ok (.getfield 15, 3) := by decide +kernel
theorem dX4_repeat_50 : decode cX4_repeat 50 = .ok (.iload_n 3, 1) := by decide +kernel
theorem dX4_repeat_51 : decode cX4_repeat 51 = .ok (.iadd, 1) := by decide +kernel
theorem dX4_repeat_52 : decode cX4_repeat 52 = .ok (.putfield 15, 3) := by decide +kernel
theorem dX4_repeat_55 : decode cX4_repeat 55 = .ok (.iinc 4 1, 3) := by decide +kernel
theorem dX4_repeat_58 : decode cX4_repeat 58 = .ok (.goto (-48), 3) := by decide +kernel
theorem dX4_repeat_61 : decode cX4_repeat 61 = .ok (.return_, 1) := by decide +kernel
theorem dX4_undo_0 : decode cX4_undo 0 = .ok (.aload_n 0, 1) := by decide +kernel
theorem dX4_undo_1 : decode cX4_undo 1 = .ok (.getfield 15, 3) := by decide +kernel
theorem dX4_undo_4 : decode cX4_undo 4 = .ok (.iconst 1, 1) := by decide +kernel
theorem dX4_undo_5 : decode cX4_undo 5 = .ok (.isub, 1) := by decide +kernel
theorem dX4_undo_6 : decode cX4_undo 6 = .ok (.istore_n 2, 1) := by decide +kernel
theorem dX4_undo_7 : decode cX4_undo 7 = .ok (.iload_n 1, 1) := by decide +kernel
theorem dX4_undo_8 : decode cX4_undo 8 = .ok (.istore_n 3, 1) := by decide +kernel
theorem dX4_undo_9 : decode cX4_undo 9 = .ok (.iload_n 3, 1) := by decide +kernel
theorem dX4_undo_10 : decode cX4_undo 10 = .ok (.iload_n 2, 1) := by decide +kernel
theorem dX4_undo_11 : decode cX4_undo 11 = .ok (.if_icmp .gt 42, 3) := by decide +kernel
theorem dX4_undo_14 : decode cX4_undo 14 = .ok (.aload_n 0, 1) := by decide +kernel
theorem dX4_undo_15 : decode cX4_undo 15 = .ok (.getfield 9, 3) := by decide +kernel
theorem dX4_undo_18 : decode cX4_undo 18 = .ok (.iload_n 3, 1) := by decide +kernel
theorem dX4_undo_19 : decode cX4_undo 19 = .ok (.iaload, 1) := by decide +kernel
theorem dX4_undo_20 : decode cX4_undo 20 = .ok (.istore 4, 2) := by decide +kernel
theorem dX4_undo_22 : decode cX4_undo 22 = .ok (.aload_n 0, 1) := by decide +kernel
theorem dX4_undo_23 : decode cX4_undo 23 = .ok (.getfield 9, 3) := by decide +kernel
theorem dX4_undo_26 : decode cX4_undo 26 = .ok (.iload_n 3, 1) := by decide +kernel
theorem dX4_undo_27 : decode cX4_undo 27 = .ok (.aload_n 0, 1) := by decide +kernel
theorem dX4_undo_28 : decode cX4_undo 28 = .ok (.getfield 9, 3) := by decide +kernel
theorem dX4_undo_31 : decode cX4_undo 31 = .ok (.iload_n 2, 1) := by decide +kernel
theorem dX4_undo_32 : decode cX4_undo 32 = .ok (.iaload, 1) := by decide +kernel
theorem dX4_undo_33 : decode cX4_undo 33 = .ok (.ineg, 1) := by decide +kernel
theorem dX4_undo_34 : decode cX4_undo 34 = .ok (.iastore, 1) := by decide +kernel
theorem dX4_undo_35 : decode cX4_undo 35 = .ok (.aload_n 0, 1) := by decide +kernel
theorem dX4_undo_36 : decode cX4_undo 36 = .ok (.getfield 9, 3) := by decide +kernel
theorem dX4_undo_39 : decode cX4_undo 39 = .ok (.iload_n 2, 1) := by decide +kernel
theorem dX4_undo_40 : decode cX4_undo 40 = .ok (.iload 4, 2) := by decide +kernel
theorem dX4_undo_42 : decode cX4_undo 42 = .ok (.ineg, 1) := by decide +kernel
theorem dX4_undo_43 : decode cX4_undo 43 = .ok (.iastore, 1) := by decide +kernel
theorem dX4_undo_44 : decode cX4_undo 44 = .ok (.iinc 2 (-1), 3) := by decide +kernel
theorem dX4_undo_47 : decode cX4_undo 47 = .ok (.iinc 3 1, 3) := by decide +kernel
theorem dX4_undo_50 : decode cX4_undo 50 = .ok (.goto (-41), 3) := by decide +kernel
theorem dX4_undo_53 : decode cX4_undo 53 = .ok (.return_, 1) := by decide +kernel
theorem dX4_mirror_0 : decode cX4_mirror 0 = .ok (.iload_n 1, 1) := by decide +kernel
theorem dX4_mirror_1 : decode cX4_mirror 1 = .ok (.istore_n 2, 1) := by decide +kernel
theorem dX4_mirror_2 : decode cX4_mirror 2 = .ok (.iload_n 2, 1) := by decide +kernel
theorem dX4_mirror_3 : decode cX4_mirror 3 = .ok (.aload_n 0, 1) := by decide +kernel
theorem dX4_mirror_4 : decode cX4_mirror 4 = .ok (.getfield 15, 3) := by decide +kernel
theorem dX4_mirror_7 : decode cX4_mirror 7 = .ok (.if_icmp .ge 22, 3) := by decide +kernel
theorem dX4_mirror_10 : decode cX4_mirror 10 = .ok (.aload_n 0, 1) := by decide +kernel
theorem dX4_mirror_11 : decode cX4_mirror 11 = .ok (.getfield 9, 3) := by decide +kernel
theorem dX4_mirror_14 : decode cX4_mirror 14 = .ok (.iload_n 2, 1) := by decide +kernel
theorem dX4_mirror_15 : decode cX4_mirror 15 = .ok (.aload_n 0, 1) := by decide +kernel
theorem dX4_mirror_16 : decode cX4_mirror 16 = .ok (.getfield 9, 3) := by decide +kernel
theorem dX4_mirror_19 : decode cX4_mirror 19 = .ok (.iload_n 2, 1) := by decide +kernel
theorem dX4_mirror_20 : decode cX4_mirror 20 = .ok (.iaload, 1) := by decide +kernel
theorem dX4_mirror_21 : decode cX4_mirror 21 = .ok (.ineg, 1) := by decide +kernel
theorem dX4_mirror_22 : decode cX4_mirror 22 = .ok (.iastore, 1) := by decide +kernel
theorem dX4_mirror_23 : decode cX4_mirror 23 = .ok (.iinc 2 1, 3) := by decide +kernel
theorem dX4_mirror_26 : decode cX4_mirror 26 = .ok (.goto (-24), 3) := by decide +kernel
theorem dX4_mirror_29 : decode cX4_mirror 29 = .ok (.return_, 1) := by decide +kernel
theorem dX4_turn_0 : decode cX4_turn 0 = .ok (.iload_n 1, 1) := by decide +kernel
theorem dX4_turn_1 : decode cX4_turn 1 = .ok (.istore_n 2, 1) := by decide +kernel
theorem dX4_turn_2 : decode cX4_turn 2 = .ok (.iload_n 2, 1) := by decide +kernel
theorem dX4_turn_3 : decode cX4_turn 3 = .ok (.aload_n 0, 1) := by decide +kernel
theorem dX4_turn_4 : decode cX4_turn 4 = .ok (.getfield 15, 3) := by decide +kernel
theorem dX4_turn_7 : decode cX4_turn 7 = .ok (.if_icmp .ge 50, 3) := by decide +kernel
theorem dX4_turn_10 : decode cX4_turn 10 = .ok (.aload_n 0, 1) := by decide +kernel
theorem dX4_turn_11 : decode cX4_turn 11 = .ok (.getfield 9, 3) := by decide +kernel
theorem dX4_turn_14 : decode cX4_turn 14 = .ok (.iload_n 2, 1) := by decide +kernel
theorem dX4_turn_15 : decode cX4_turn 15 = .ok (.aload_n 0, 1) := by decide +kernel
theorem dX4_turn_16 : decode cX4_turn 16 = .ok (.getfield 9, 3) := by decide +kernel
theorem dX4_turn_19 : decode cX4_turn 19 = .ok (.iload_n 2, 1) := by decide +kernel
theorem dX4_turn_20 : decode cX4_turn 20 = .ok (.iaload, 1) := by decide +kernel
theorem dX4_turn_21 : decode cX4_turn 21 = .ok (.ifCond .le 17, 3) := by decide +kernel
theorem dX4_turn_24 : decode cX4_turn 24 = .ok (.aload_n 0, 1) := by decide +kernel
theorem dX4_turn_25 : decode cX4_turn 25 = .ok (.getfield 40, 3) := by decide +kernel
theorem dX4_turn_28 : decode cX4_turn 28 = .ok (.aload_n 0, 1) := by decide +kernel
theorem dX4_turn_29 : decode cX4_turn 29 = .ok (.getfield 9, 3) := by decide +kernel
theorem dX4_turn_32 : decode cX4_turn 32 = .ok (.iload_n 2, 1) := by decide +kernel
theorem dX4_turn_33 : decode cX4_turn 33 = .ok (.iaload, 1) := by decide +kernel
theorem dX4_turn_34 : decode cX4_turn 34 = .ok (.isub, 1) := by decide +kernel
theorem dX4_turn_35 : decode cX4_turn 35 = .ok (.goto 15, 3) := by decide +kernel
theorem dX4_turn_38 : decode cX4_turn 38 = .ok (.aload_n 0, 1) := by decide +kernel
theorem dX4_turn_39 : decode cX4_turn 39 = .ok (.getfield 40, 3) := by decide +kernel
theorem dX4_turn_42 : decode cX4_turn 42 = .ok (.ineg, 1) := by decide +kernel
theorem dX4_turn_43 : decode cX4_turn 43 = .ok (.aload_n 0, 1) := by decide +kernel
theorem dX4_turn_44 : decode cX4_turn 44 = .ok (.getfield 9, 3) := by decide +kernel
theorem dX4_turn_47 : decode cX4_turn 47 = .ok (.iload_n 2, 1) := by decide +kernel
theorem dX4_turn_48 : decode cX4_turn 48 = .ok (.iaload, 1) := by decide +kernel
theorem dX4_turn_49 : decode cX4_turn 49 = .ok (.isub, 1) := by decide +kernel
theorem dX4_turn_50 : decode cX4_turn 50 = .ok (.iastore, 1) := by decide +kernel
theorem dX4_turn_51 : decode cX4_turn 51 = .ok (.iinc 2 1, 3) := by decide +kernel
theorem dX4_turn_54 : decode cX4_turn 54 = .ok (.goto (-52), 3) := by decide +kernel
theorem dX4_turn_57 : decode cX4_turn 57 = .ok (.return_, 1) := by decide +kernel
theorem dX4_readNumber_0 : decode cX4_readNumber 0 = .ok (.iconst 0, 1) := by decide +kernel
theorem dX4_readNumber_1 : decode cX4_readNumber 1 = .ok (.istore_n 1, 1) := by decide +kernel
theorem dX4_readNumber_2 : decode cX4_readNumber 2 = .ok (.aload_n 0, 1) := by decide +kernel
theorem dX4_readNumber_3 : decode cX4_readNumber 3 = .ok (.getfield 37, 3) := by decide +kernel
theorem dX4_readNumber_6 : decode cX4_readNumber 6 = .ok (.aload_n 0, 1) := by decide +kernel
theorem dX4_readNumber_7 : decode cX4_readNumber 7 = .ok (.getfield 34, 3) := by decide +kernel
theorem dX4_readNumber_10 : decode cX4_readNumber 10 = .ok (.if_icmp .ge 55, 3) := by decide +kernel
theorem dX4_readNumber_13 : decode cX4_readNumber 13 = .ok (.aload_n 0, 1) := by decide +kernel
theorem dX4_readNumber_14 : decode cX4_readNumber 14 = .ok (.getfield 43, 3) := by decide +kernel
theorem dX4_readNumber_17 : decode cX4_readNumber 17 = .ok (.aload_n 0, 1) := by decide +kernel
theorem dX4_readNumber_18 : decode cX4_readNumber 18 = .ok (.getfield 37, 3) := by decide +kernel
theorem dX4_readNumber_21 : decode cX4_readNumber 21 = .ok (.baload, 1) := by decide +kernel
theorem dX4_readNumber_22 : decode cX4_readNumber 22 = .ok (.invokestatic 72, 3) := by decide +kernel
theorem dX4_readNumber_25 : decode cX4_readNumber 25 = .ok (.ifCond .eq 40, 3) := by decide +kernel
theorem dX4_readNumber_28 : decode cX4_readNumber 28 = .ok (.sipush 1000, 3) := by decide +kernel
theorem dX4_readNumber_31 : decode cX4_readNumber 31 = .ok (.iload_n 1, 1) := by decide +kernel
theorem dX4_readNumber_32 : decode cX4_readNumber 32 = .ok (.bipush 10, 2) := by decide +kernel
theorem dX4_readNumber_34 : decode cX4_readNumber 34 = .ok (.imul, 1) := by decide +kernel
theorem dX4_readNumber_35 : decode cX4_readNumber 35 = .ok (.aload_n 0, 1) := by decide +kernel
theorem dX4_readNumber_36 : decode cX4_readNumber 36 = .ok (.getfield 43, 3) := by decide +kernel
theorem dX4_readNumber_39 : decode cX4_readNumber 39 = .ok (.aload_n 0, 1) := by decide +kernel
theorem dX4_readNumber_40 : decode cX4_readNumber 40 = .ok (.getfield 37, 3) := by decide +kernel
theorem dX4_readNumber_43 : decode cX4_readNumber 43 = .ok (.baload, 1) := by decide +kernel
theorem dX4_readNumber_44 : decode cX4_readNumber 44 = .ok (.bipush 48, 2) := by decide +kernel
theorem dX4_readNumber_46 : decode cX4_readNumber 46 = .ok (.isub, 1) := by decide +kernel
theorem dX4_readNumber_47 : decode cX4_readNumber 47 = .ok (.iadd, 1) := by decide +kernel
theorem dX4_readNumber_48 : decode cX4_readNumber 48 = .ok (.invokestatic 51, 3) := by decide +kernel
theorem dX4_readNumber_51 : decode cX4_readNumber 51 = .ok (.istore_n 1, 1) := by decide +kernel
theorem dX4_readNumber_52 : decode cX4_readNumber 52 = .ok (.aload_n 0, 1) := by decide +kernel
theorem dX4_readNumber_53 : decode cX4_readNumber 53 = .ok (.dup, 1) := by decide +kernel
theorem dX4_readNumber_54 : decode cX4_readNumber 54 = .ok (.getfield 37, 3) := by decide +kernel
theorem dX4_readNumber_57 : decode cX4_readNumber 57 = .ok (.iconst 1, 1) := by decide +kernel
theorem dX4_readNumber_58 : decode cX4_readNumber 58 = .ok (.iadd, 1) := by decide +kernel
theorem dX4_readNumber_59 : decode cX4_readNumber 59 = .ok (.putfield 37, 3) := by decide +kernel
theorem dX4_readNumber_62 : decode cX4_readNumber 62 = .ok (.goto (-60), 3) := by decide +kernel
theorem dX4_readNumber_65 : decode cX4_readNumber 65 = .ok (.iload_n 1, 1) := by decide +kernel
theorem dX4_readNumber_66 : decode cX4_readNumber 66 = .ok (.ireturn, 1) := by decide +kernel
theorem dX4_nextSign_0 : decode cX4_nextSign 0 = .ok (.aload_n 0, 1) := by decide +kernel
theorem dX4_nextSign_1 : decode cX4_nextSign 1 = .ok (.getfield 37, 3) := by decide +kernel
theorem dX4_nextSign_4 : decode cX4_nextSign 4 = .ok (.aload_n 0, 1) := by decide +kernel
theorem dX4_nextSign_5 : decode cX4_nextSign 5 = .ok (.getfield 34, 3) := by decide +kernel
theorem dX4_nextSign_8 : decode cX4_nextSign 8 = .ok (.if_icmp .ge 44, 3) := by decide +kernel
theorem dX4_nextSign_11 : decode cX4_nextSign 11 = .ok (.aload_n 0, 1) := by decide +kernel
theorem dX4_nextSign_12 : decode cX4_nextSign 12 = .ok (.getfield 43, 3) := by decide +kernel
theorem dX4_nextSign_15 : decode cX4_nextSign 15 = .ok (.aload_n 0, 1) := by decide +kernel
theorem dX4_nextSign_16 : decode cX4_nextSign 16 = .ok (.getfield 37, 3) := by decide +kernel
theorem dX4_nextSign_19 : decode cX4_nextSign 19 = .ok (.baload, 1) := by decide +kernel
theorem dX4_nextSign_20 : decode cX4_nextSign 20 = .ok (.bipush 32, 2) := by decide +kernel
theorem dX4_nextSign_22 : decode cX4_nextSign 22 = .ok (.if_icmp .eq 17, 3) := by decide +kernel
theorem dX4_nextSign_25 : decode cX4_nextSign 25 = .ok (.aload_n 0, 1) := by decide +kernel
theorem dX4_nextSign_26 : decode cX4_nextSign 26 = .ok (.getfield 43, 3) := by decide +kernel
theorem dX4_nextSign_29 : decode cX4_nextSign 29 = .ok (.aload_n 0, 1) := by decide +kernel
theorem dX4_nextSign_30 : decode cX4_nextSign 30 = .ok (.getfield 37, 3) := by decide +kernel
theorem dX4_nextSign_33 : decode cX4_nextSign 33 = .ok (.baload, 1) := by decide +kernel
theorem dX4_nextSign_34 : decode cX4_nextSign 34 = .ok (.bipush 10, 2) := by decide +kernel
theorem dX4_nextSign_36 : decode cX4_nextSign 36 = .ok (.if_icmp .ne 16, 3) := by decide +kernel
theorem dX4_nextSign_39 : decode cX4_nextSign 39 = .ok (.aload_n 0, 1) := by decide +kernel
theorem dX4_nextSign_40 : decode cX4_nextSign 40 = .ok (.dup, 1) := by decide +kernel
theorem dX4_nextSign_41 : decode cX4_nextSign 41 = .ok (.getfield 37, 3) := by decide +kernel
theorem dX4_nextSign_44 : decode cX4_nextSign 44 = .ok (.iconst 1, 1) := by decide +kernel
theorem dX4_nextSign_45 : decode cX4_nextSign 45 = .ok (.iadd, 1) := by decide +kernel
theorem dX4_nextSign_46 : decode cX4_nextSign 46 = .ok (.putfield 37, 3) := by decide +kernel
theorem dX4_nextSign_49 : decode cX4_nextSign 49 = .ok (.goto (-49), 3) := by decide +kernel
theorem dX4_nextSign_52 : decode cX4_nextSign 52 = .ok (.aload_n 0, 1) := by decide +kernel
theorem dX4_nextSign_53 : decode cX4_nextSign 53 = .ok (.getfield 37, 3) := by decide +kernel
theorem dX4_nextSign_56 : decode cX4_nextSign 56 = .ok (.aload_n 0, 1) := by decide +kernel
theorem dX4_nextSign_57 : decode cX4_nextSign 57 = .ok (.getfield 34, 3) := by decide +kernel
theorem dX4_nextSign_60 : decode cX4_nextSign 60 = .ok (.if_icmp .ge 19, 3) := by decide +kernel
theorem dX4_nextSign_63 : decode cX4_nextSign 63 = .ok (.aload_n 0, 1) := by decide +kernel
theorem dX4_nextSign_64 : decode cX4_nextSign 64 = .ok (.getfield 43, 3) := by decide +kernel
theorem dX4_nextSign_67 : decode cX4_nextSign 67 = .ok (.aload_n 0, 1) := by decide +kernel
theorem dX4_nextSign_68 : decode cX4_nextSign 68 = .ok (.getfield 37, 3) := by decide +kernel
theorem dX4_nextSign_71 : decode cX4_nextSign 71 = .ok (.baload, 1) := by decide +kernel
theorem dX4_nextSign_72 : decode cX4_nextSign 72 = .ok (.sipush 255, 3) := by decide +kernel
theorem dX4_nextSign_75 : decode cX4_nextSign 75 = .ok (.iand, 1) := by decide +kernel
theorem dX4_nextSign_76 : decode cX4_nextSign 76 = .ok (.goto 4, 3) := by decide +kernel
theorem dX4_nextSign_79 : decode cX4_nextSign 79 = .ok (.iconst (-1), 1) := by decide +kernel
theorem dX4_nextSign_80 : decode cX4_nextSign 80 = .ok (.ireturn, 1) := by decide +kernel
theorem dX4_isDigit_0 : decode cX4_isDigit 0 = .ok (.iload_n 0, 1) := by decide +kernel
theorem dX4_isDigit_1 : decode cX4_isDigit 1 = .ok (.bipush 48, 2) := by decide +kernel
theorem dX4_isDigit_3 : decode cX4_isDigit 3 = .ok (.if_icmp .lt 13, 3) := by decide +kernel
theorem dX4_isDigit_6 : decode cX4_isDigit 6 = .ok (.iload_n 0, 1) := by decide +kernel
theorem dX4_isDigit_7 : decode cX4_isDigit 7 = .ok (.bipush 57, 2) := by decide +kernel
theorem dX4_isDigit_9 : decode cX4_isDigit 9 = .ok (.if_icmp .gt 7, 3) := by decide +kernel
theorem dX4_isDigit_12 : decode cX4_isDigit 12 = .ok (.iconst 1, 1) := by decide +kernel
theorem dX4_isDigit_13 : decode cX4_isDigit 13 = .ok (.goto 4, 3) := by decide +kernel
theorem dX4_isDigit_16 : decode cX4_isDigit 16 = .ok (.iconst 0, 1) := by decide +kernel
theorem dX4_isDigit_17 : decode cX4_isDigit 17 = .ok (.ireturn, 1) := by decide +kernel
theorem dX4_refuse_0 : decode cX4_refuse 0 = .ok (.aload_n 0, 1) := by decide +kernel
theorem dX4_refuse_1 : decode cX4_refuse 1 = .ok (.iload_n 1, 1) := by decide +kernel
theorem dX4_refuse_2 : decode cX4_refuse 2 = .ok (.putfield 19, 3) := by decide +kernel
theorem dX4_refuse_5 : decode cX4_refuse 5 = .ok (.aload_n 0, 1) := by decide +kernel
theorem dX4_refuse_6 : decode cX4_refuse 6 = .ok (.iload_n 2, 1) := by decide +kernel
theorem dX4_refuse_7 : decode cX4_refuse 7 = .ok (.putfield 22, 3) := by decide +kernel
theorem dX4_refuse_10 : decode cX4_refuse 10 = .ok (.return_, 1) := by decide +kernel
theorem dX5_init_0 : decode cX5_init 0 = .ok (.aload_n 0, 1) := by decide +kernel
theorem dX5_init_1 : decode cX5_init 1 = .ok (.invokespecial 1, 3) := by decide +kernel
theorem dX5_init_4 : decode cX5_init 4 = .ok (.aload_n 0, 1) := by decide +kernel
theorem dX5_init_5 : decode cX5_init 5 = .ok (.iload_n 1, 1) := by decide +kernel
theorem dX5_init_6 : decode cX5_init 6 = .ok (.putfield 7, 3) := by decide +kernel
theorem dX5_init_9 : decode cX5_init 9 = .ok (.aload_n 0, 1) := by decide +kernel
theorem dX5_init_10 : decode cX5_init 10 = .ok (.iload_n 2, 1) := by decide +kernel
theorem dX5_init_11 : decode cX5_init 11 = .ok (.putfield 13, 3) := by decide +kernel
theorem dX5_init_14 : decode cX5_init 14 = .ok (.aload_n 0, 1) := by decide +kernel
theorem dX5_init_15 : decode cX5_init 15 = .ok (.iload_n 3, 1) := by decide +kernel
theorem dX5_init_16 : decode cX5_init 16 = .ok (.putfield 16, 3) := by decide +kernel
theorem dX5_init_19 : decode cX5_init 19 = .ok (.aload_n 0, 1) := by decide +kernel
theorem dX5_init_20 : decode cX5_init 20 = .ok (.iload 4, 2) := by decide +kernel
theorem dX5_init_22 : decode cX5_init 22 = .ok (.putfield 19, 3) := by decide +kernel
theorem dX5_init_25 : decode cX5_init 25 = .ok (.aload_n 0, 1) := by decide +kernel
theorem dX5_init_26 : decode cX5_init 26 = .ok (.iload_n 2, 1) := by decide +kernel
theorem dX5_init_27 : decode cX5_init 27 = .ok (.putfield 22, 3) := by decide +kernel
theorem dX5_init_30 : decode cX5_init 30 = .ok (.return_, 1) := by decide +kernel
theorem dX6_init_0 : decode cX6_init 0 = .ok (.aload_n 0, 1) := by decide +kernel
theorem dX6_init_1 : decode cX6_init 1 = .ok (.invokespecial 1, 3) := by decide +kernel
theorem dX6_init_4 : decode cX6_init 4 = .ok (.aload_n 0, 1) := by decide +kernel
theorem dX6_init_5 : decode cX6_init 5 = .ok (.sipush 800, 3) := by decide +kernel
theorem dX6_init_8 : decode cX6_init 8 = .ok (.newarray .byte, 2) := by decide +kernel
theorem dX6_init_10 : decode cX6_init 10 = .ok (.putfield 9, 3) := by decide +kernel
theorem dX6_init_13 : decode cX6_init 13 = .ok (.aload_n 0, 1) := by decide +kernel
theorem dX6_init_14 : decode cX6_init 14 = .ok (.iconst 0, 1) := by decide +kernel
theorem dX6_init_15 : decode cX6_init 15 = .ok (.putfield 13, 3) := by decide +kernel
theorem dX6_init_18 : decode cX6_init 18 = .ok (.aload_n 0, 1) := by decide +kernel
theorem dX6_init_19 : decode cX6_init 19 = .ok (.bipush 8, 2) := by decide +kernel
theorem dX6_init_21 : decode cX6_init 21 = .ok (.anewarray 17, 3) := by decide +kernel
theorem dX6_init_24 : decode cX6_init 24 = .ok (.putfield 19, 3) := by decide +kernel
theorem dX6_init_27 : decode cX6_init 27 = .ok (.aload_n 0, 1) := by decide +kernel
theorem dX6_init_28 : decode cX6_init 28 = .ok (.new 23, 3) := by decide +kernel
theorem dX6_init_31 : decode cX6_init 31 = .ok (.dup, 1) := by decide +kernel
theorem dX6_init_32 : decode cX6_init 32 = .ok (.aload_n 0, 1) := by decide +kernel
theorem dX6_init_33 : decode cX6_init 33 = .ok (.getfield 9, 3) := by decide +kernel
theorem dX6_init_36 : decode cX6_init 36 = .ok (.aload_n 0, 1) := by decide +kernel
theorem dX6_init_37 : decode cX6_init 37 = .ok (.getfield 19, 3) := by decide +kernel
theorem dX6_init_40 : decode cX6_init 40 = .ok (.invokespecial 25, 3) := by decide +kernel
theorem dX6_init_43 : decode cX6_init 43 = .ok (.putfield 28, 3) := by decide +kernel
theorem dX6_init_46 : decode cX6_init 46 = .ok (.aload_n 0, 1) := by decide +kernel
theorem dX6_init_47 : decode cX6_init 47 = .ok (.new 32, 3) := by decide +kernel
theorem dX6_init_50 : decode cX6_init 50 = .ok (.dup, 1) := by decide +kernel
theorem dX6_init_51 : decode cX6_init 51 = .ok (.sipush 600, 3) := by decide +kernel
theorem dX6_init_54 : decode cX6_init 54 = .ok (.invokespecial 34, 3) := by decide +kernel
theorem dX6_init_57 : decode cX6_init 57 = .ok (.putfield 37, 3) := by decide +kernel
theorem dX6_init_60 : decode cX6_init 60 = .ok (.aload_n 0, 1) := by decide +kernel
theorem dX6_init_61 : decode cX6_init 61 = .ok (.bipush 40, 2) := by decide +kernel
theorem dX6_init_63 : decode cX6_init 63 = .ok (.anewarray 41, 3) := by decide +kernel
theorem dX6_init_66 : decode cX6_init 66 = .ok (.putfield 43, 3) := by decide +kernel
theorem dX6_init_69 : decode cX6_init 69 = .ok (.aload_n 0, 1) := by decide +kernel
theorem dX6_init_70 : decode cX6_init 70 = .ok (.iconst 0, 1) := by decide +kernel
theorem dX6_init_71 : decode cX6_init 71 = .ok (.putfield 47, 3) := by decide +kernel
theorem dX6_init_74 : decode cX6_init 74 = .ok (.aload_n 0, 1) := by decide +kernel
theorem dX6_init_75 : decode cX6_init 75 = .ok (.bipush 60, 2) := by decide +kernel
theorem dX6_init_77 : decode cX6_init 77 = .ok (.anewarray 50, 3) := by decide +kernel
theorem dX6_init_80 : decode cX6_init 80 = .ok (.putfield 52, 3) := by decide +kernel
theorem dX6_init_83 : decode cX6_init 83 = .ok (.aload_n 0, 1) := by decide +kernel
theorem dX6_init_84 : decode cX6_init 84 = .ok (.iconst 0, 1) := by decide +kernel
theorem dX6_init_85 : decode cX6_init 85 = .ok (.putfield 56, 3) := by decide +kernel
theorem dX6_init_88 : decode cX6_init 88 = .ok (.aload_n 0, 1) := by decide +kernel
theorem dX6_init_89 : decode cX6_init 89 = .ok (.bipush 60, 2) := by decide +kernel
theorem dX6_init_91 : decode cX6_init 91 = .ok (.anewarray 59, 3) := by decide +kernel
theorem dX6_init_94 : decode cX6_init 94 = .ok (.putfield 61, 3) := by decide +kernel
theorem dX6_init_97 : decode cX6_init 97 = .ok (.aload_n 0, 1) := by decide +kernel
theorem dX6_init_98 : decode cX6_init 98 = .ok (.iconst 0, 1) := by decide +kernel
theorem dX6_init_99 : decode cX6_init 99 = .ok (.putfield 65, 3) := by decide +kernel
theorem dX6_init_102 : decode cX6_init 102 = .ok (.return_, 1) := by decide +kernel
theorem dX6_feed_0 : decode cX6_feed 0 = .ok (.aload_n 0, 1) := by decide +kernel
theorem dX6_feed_1 : decode cX6_feed 1 = .ok (.getfield 13, 3) := by decide +kernel
theorem dX6_feed_4 : decode cX6_feed 4 = .ok (.sipush 780, 3) := by decide +kernel
theorem dX6_feed_7 : decode cX6_feed 7 = .ok (.if_icmp .le 5, 3) := by decide +kernel
theorem dX6_feed_10 : decode cX6_feed 10 = .ok (.iconst (-1), 1) := by decide +kernel
theorem dX6_feed_11 : decode cX6_feed 11 = .ok (.ireturn, 1) := by decide +kernel
theorem dX6_feed_12 : decode cX6_feed 12 = .ok (.aload_n 0, 1) := by decide +kernel
theorem dX6_feed_13 : decode cX6_feed 13 = .ok (.iload_n 1, 1) := by decide +kernel
theorem dX6_feed_14 : decode cX6_feed 14 = .ok (.invokevirtual 68, 3) := by decide +kernel
theorem dX6_feed_17 : decode cX6_feed 17 = .ok (.aload_n 0, 1) := by decide +kernel
theorem dX6_feed_18 : decode cX6_feed 18 = .ok (.iload_n 2, 1) := by decide +kernel
theorem dX6_feed_19 : decode cX6_feed 19 = .ok (.invokevirtual 68, 3) := by decide +kernel
theorem dX6_feed_22 : decode cX6_feed 22 = .ok (.aload_n 0, 1) := by decide +kernel
theorem dX6_feed_23 : decode cX6_feed 23 = .ok (.iload_n 3, 1) := by decide +kernel
theorem dX6_feed_24 : decode cX6_feed 24 = .ok (.invokevirtual 68, 3) := by decide +kernel
theorem dX6_feed_27 : decode cX6_feed 27 = .ok (.aload_n 0, 1) := by decide +kernel
theorem dX6_feed_28 : decode cX6_feed 28 = .ok (.iload 4, 2) := by decide +kernel
theorem dX6_feed_30 : decode cX6_feed 30 = .ok (.invokevirtual 68, 3) := by decide +kernel
theorem dX6_feed_33 : decode cX6_feed 33 = .ok (.aload_n 0, 1) := by decide +kernel
theorem dX6_feed_34 : decode cX6_feed 34 = .ok (.iload 5, 2) := by decide +kernel
theorem dX6_feed_36 : decode cX6_feed 36 = .ok (.invokevirtual 68, 3) := by decide +kernel
theorem dX6_feed_39 : decode cX6_feed 39 = .ok (.aload_n 0, 1) := by decide +kernel
theorem dX6_feed_40 : decode cX6_feed 40 = .ok (.getfield 13, 3) := by decide +kernel
theorem dX6_feed_43 : decode cX6_feed 43 = .ok (.ireturn, 1) := by decide +kernel
theorem dX6_pattern_0 : decode cX6_pattern 0 = .ok (.iload_n 1, 1) := by decide +kernel
theorem dX6_pattern_1 : decode cX6_pattern 1 = .ok (.ifCond .lt 20, 3) := by decide +kernel
theorem dX6_pattern_4 : decode cX6_pattern 4 = .ok (.iload_n 1, 1) := by decide +kernel
theorem dX6_pattern_5 : decode cX6_pattern 5 = .ok (.bipush 8, 2) := by decide +kernel
theorem dX6_pattern_7 : decode cX6_pattern 7 = .ok (.if_icmp .ge 14, 3) := by decide +kernel
theorem dX6_pattern_10 : decode cX6_pattern 10 = .ok (.iload_n 2, 1) := by decide +kernel
theorem dX6_pattern_11 : decode cX6_pattern 11 = .ok (.iconst 2, 1) := by decide +kernel
theorem dX6_pattern_12 : decode cX6_pattern 12 = .ok (.if_icmp .lt 9, 3) := by decide +kernel
theorem dX6_pattern_15 : decode cX6_pattern 15 = .ok (.iload_n 2, 1) := by decide +kernel
theorem dX6_pattern_16 : decode cX6_pattern 16 = .ok (.bipush 7, 2) := by decide +kernel
theorem dX6_pattern_18 : decode cX6_pattern 18 = .ok (.if_icmp .le 13, 3) := by decide +kernel
theorem dX6_pattern_21 : decode cX6_pattern 21 = .ok (.new 71, 3) := by decide +kernel
theorem dX6_pattern_24 : decode cX6_pattern 24 = .ok (.dup, 1) := by decide +kernel
theorem dX6_pattern_25 : decode cX6_pattern 25 = .ok (.ldc 73, 2) := by decide +kernel
theorem dX6_pattern_27 : decode cX6_pattern 27 = .ok (.invokespecial 75, 3) := by decide +kernel
theorem dX6_pattern_30 : decode cX6_pattern 30 = .ok (.athrow, 1) := by decide +kernel
theorem dX6_pattern_31 : decode cX6_pattern 31 = .ok (.iload_n 3, 1) := by decide +kernel
theorem dX6_pattern_32 : decode cX6_pattern 32 = .ok (.ifCond .lt 11, 3) := by decide +kernel
theorem dX6_pattern_35 : decode cX6_pattern 35 = .ok (.iload_n 3, 1) := by decide +kernel
theorem dX6_pattern_36 : decode cX6_pattern 36 = .ok (.aload_n 0, 1) := by decide +kernel
theorem dX6_pattern_37 : decode cX6_pattern 37 = .ok (.getfield 13, 3) := by decide +kernel
theorem dX6_pattern_40 : decode cX6_pattern 40 = .ok (.if_icmp .le 13, 3) := by decide +kernel
theorem dX6_pattern_43 : decode cX6_pattern 43 = .ok (.new 71, 3) := by decide +kernel
theorem dX6_pattern_46 : decode cX6_pattern 46 = .ok (.dup, 1) := by decide +kernel
theorem dX6_pattern_47 : decode cX6_pattern 47 = .ok (.ldc 78, 2) := by decide +kernel
theorem dX6_pattern_49 : decode cX6_pattern 49 = .ok (.invokespecial 75, 3) := by decide +kernel
theorem dX6_pattern_52 : decode cX6_pattern 52 = .ok (.athrow, 1) := by decide +kernel
theorem dX6_pattern_53 : decode cX6_pattern 53 = .ok (.aload_n 0, 1) := by decide +kernel
theorem dX6_pattern_54 : decode cX6_pattern 54 = .ok (.getfield 28, 3) := by decide +kernel
theorem dX6_pattern_57 : decode cX6_pattern 57 = .ok (.iload_n 3, 1) := by decide +kernel
theorem dX6_pattern_58 : decode cX6_pattern 58 = .ok (.iload_n 2, 1) := by decide +kernel
theorem dX6_pattern_59 : decode cX6_pattern 59 = .ok (.invokevirtual 80, 3) := by decide +kernel
theorem dX6_pattern_62 : decode cX6_pattern 62 = .ok (.aload_n 0, 1) := by decide +kernel
theorem dX6_pattern_63 : decode cX6_pattern 63 = .ok (.iconst 0, 1) := by decide +kernel
theorem dX6_pattern_64 : decode cX6_pattern 64 = .ok (.putfield 13, 3) := by decide +kernel
theorem dX6_pattern_67 : decode cX6_pattern 67 = .ok (.aload_n 0, 1) := by decide +kernel
theorem dX6_pattern_68 : decode cX6_pattern 68 = .ok (.getfield 28, 3) := by decide +kernel
theorem dX6_pattern_71 : decode cX6_pattern 71 = .ok (.getfield 84, 3) := by decide +kernel
theorem dX6_pattern_74 : decode cX6_pattern 74 = .ok (.ifCond .ne 49, 3) := by decide +kernel
theorem dX6_pattern_77 : decode cX6_pattern 77 = .ok (.aload_n 0, 1) := by decide +kernel
theorem dX6_pattern_78 : decode cX6_pattern 78 = .ok (.getfield 19, 3) := by decide +kernel
theorem dX6_pattern_81 : decode cX6_pattern 81 = .ok (.iload_n 1, 1) := by decide +kernel
theorem dX6_pattern_82 : decode cX6_pattern 82 = .ok (.aaload, 1) := by decide +kernel
theorem dX6_pattern_83 : decode cX6_pattern 83 = .ok (.ifnonnull 16, 3) := by decide +kernel
theorem dX6_pattern_86 : decode cX6_pattern 86 = .ok (.aload_n 0, 1) := by decide +kernel
theorem dX6_pattern_87 : decode cX6_pattern 87 = .ok (.getfield 19, 3) := by decide +kernel
theorem dX6_pattern_90 : decode cX6_pattern 90 = .ok (.iload_n 1, 1) := by decide +kernel
theorem dX6_pattern_91 : decode cX6_pattern 91 = .ok (.new 17, 3) := by decide +kernel
theorem dX6_pattern_94 : decode cX6_pattern 94 = .ok (.dup, 1) := by decide +kernel
theorem dX6_pattern_95 : decode cX6_pattern 95 = .ok (.invokespecial 87, 3) := by decide +kernel
theorem dX6_pattern_98 : decode cX6_pattern 98 = .ok (.aastore, 1) := by decide +kernel
theorem dX6_pattern_99 : decode cX6_pattern 99 = .ok (.aload_n 0, 1) := by decide +kernel
theorem dX6_pattern_100 : decode cX6_pattern 100 = .ok (.getfield 19, 3) := by decide +kernel
theorem dX6_pattern_103 : decode cX6_pattern 103 = .ok (.iload_n 1, 1) := by decide +kernel
theorem dX6_pattern_104 : decode cX6_pattern 104 = .ok (.aaload, 1) := by decide +kernel
theorem dX6_pattern_105 : decode cX6_pattern 105 = .ok (.iload_n 2, 1) := by decide +kernel
theorem dX6_pattern_106 : decode cX6_pattern 106 = .ok (.aload_n 0, 1) := by decide +kernel
theorem dX6_pattern_107 : decode cX6_pattern 107 = .ok (.getfield 28, 3) := by decide +kernel
theorem dX6_pattern_110 : decode cX6_pattern 110 = .ok (.getfield 88, 3) := by decide +kernel
theorem dX6_pattern_113 : decode cX6_pattern 113 = .ok (.aload_n 0, 1) := by decide +kernel
theorem dX6_pattern_114 : decode cX6_pattern 114 = .ok (.getfield 28, 3) := by decide +kernel
theorem dX6_pattern_117 : decode cX6_pattern 117 = .ok (.getfield 92, 3) := by decide +kernel
theorem dX6_pattern_120 : decode cX6_pattern 120 = .ok (.invokevirtual 95, 3) := by decide +kernel
theorem dX6_pattern_123 : decode cX6_pattern 123 = .ok (.aload_n 0, 1) := by decide +kernel
theorem dX6_pattern_124 : decode cX6_pattern 124 = .ok (.getfield 28, 3) := by decide +kernel
theorem dX6_pattern_127 : decode cX6_pattern 127 = .ok (.getfield 84, 3) := by decide +kernel
theorem dX6_pattern_130 : decode cX6_pattern 130 = .ok (.ireturn, 1) := by decide +kernel
theorem dX6_fault_0 : decode cX6_fault 0 = .ok (.iload_n 1, 1) := by decide +kernel
theorem dX6_fault_1 : decode cX6_fault 1 = .ok (.lookupswitch 43 #[(0, 27), (1, 35)], 27) := by decide +kernel
theorem dX6_fault_28 : decode cX6_fault 28 = .ok (.aload_n 0, 1) := by decide +kernel
theorem dX6_fault_29 : decode cX6_fault 29 = .ok (.getfield 28, 3) := by decide +kernel
theorem dX6_fault_32 : decode cX6_fault 32 = .ok (.getfield 84, 3) := by decide +kernel
theorem dX6_fault_35 : decode cX6_fault 35 = .ok (.ireturn, 1) := by decide +kernel
theorem dX6_fault_36 : decode cX6_fault 36 = .ok (.aload_n 0, 1) := by decide +kernel
theorem dX6_fault_37 : decode cX6_fault 37 = .ok (.getfield 28, 3) := by decide +kernel
theorem dX6_fault_40 : decode cX6_fault 40 = .ok (.getfield 99, 3) := by decide +kernel
theorem dX6_fault_43 : decode cX6_fault 43 = .ok (.ireturn, 1) := by decide +kernel
theorem dX6_fault_44 : decode cX6_fault 44 = .ok (.new 102, 3) := by decide +kernel
theorem dX6_fault_47 : decode cX6_fault 47 = .ok (.dup, 1) := by decide +kernel
theorem dX6_fault_48 : decode cX6_fault 48 = .ok (.ldc 104, 2) := by decide +kernel
theorem dX6_fault_50 : decode cX6_fault 50 = .ok (.invokespecial 106, 3) := by decide +kernel
theorem dX6_fault_53 : decode cX6_fault 53 = .ok (.athrow, 1) := by decide +kernel
theorem dX6_size_0 : decode cX6_size 0 = .ok (.aload_n 0, 1) := by decide +kernel
theorem dX6_size_1 : decode cX6_size 1 = .ok (.iload_n 1, 1) := by decide +kernel
theorem dX6_size_2 : decode cX6_size 2 = .ok (.invokevirtual 107, 3) := by decide +kernel
theorem dX6_size_5 : decode cX6_size 5 = .ok (.astore_n 2, 1) := by decide +kernel
theorem dX6_size_6 : decode cX6_size 6 = .ok (.aload_n 2, 1) := by decide +kernel
theorem dX6_size_7 : decode cX6_size 7 = .ok (.ifnonnull 7, 3) := by decide +kernel
theorem dX6_size_10 : decode cX6_size 10 = .ok (.iconst (-1), 1) := by decide +kernel
theorem dX6_size_11 : decode cX6_size 11 = .ok (.goto 7, 3) := by decide +kernel
theorem dX6_size_14 : decode cX6_size 14 = .ok (.aload_n 2, 1) := by decide +kernel
theorem dX6_size_15 : decode cX6_size 15 = .ok (.getfield 111, 3) := by decide +kernel
theorem dX6_size_18 : decode cX6_size 18 = .ok (.ireturn, 1) := by decide +kernel
theorem dX6_crossing_0 : decode cX6_crossing 0 = .ok (.aload_n 0, 1) := by decide +kernel
theorem dX6_crossing_1 : decode cX6_crossing 1 = .ok (.iload_n 1, 1) := by decide +kernel
theorem dX6_crossing_2 : decode cX6_crossing 2 = .ok (.invokevirtual 112, 3) := by decide +kernel
theorem dX6_crossing_5 : decode cX6_crossing 5 = .ok (.astore_n 3, 1) := by decide +kernel
theorem dX6_crossing_6 : decode cX6_crossing 6 = .ok (.iload_n 2, 1) := by decide +kernel
theorem dX6_crossing_7 : decode cX6_crossing 7 = .ok (.ifCond .lt 11, 3) := by decide +kernel
theorem dX6_crossing_10 : decode cX6_crossing 10 = .ok (.iload_n 2, 1) := by decide +kernel
theorem dX6_crossing_11 : decode cX6_crossing 11 = .ok (.aload_n 3, 1) := by decide +kernel
theorem dX6_crossing_12 : decode cX6_crossing 12 = .ok (.getfield 111, 3) := by decide +kernel
theorem dX6_crossing_15 : decode cX6_crossing 15 = .ok (.if_icmp .lt 13, 3) := by decide +kernel
theorem dX6_crossing_18 : decode cX6_crossing 18 = .ok (.new 102, 3) := by decide +kernel
theorem dX6_crossing_21 : decode cX6_crossing 21 = .ok (.dup, 1) := by decide +kernel
theorem dX6_crossing_22 : decode cX6_crossing 22 = .ok (.ldc 115, 2) := by decide +kernel
theorem dX6_crossing_24 : decode cX6_crossing 24 = .ok (.invokespecial 106, 3) := by decide +kernel
theorem dX6_crossing_27 : decode cX6_crossing 27 = .ok (.athrow, 1) := by decide +kernel
theorem dX6_crossing_28 : decode cX6_crossing 28 = .ok (.aload_n 3, 1) := by decide +kernel
theorem dX6_crossing_29 : decode cX6_crossing 29 = .ok (.getfield 117, 3) := by decide +kernel
theorem dX6_crossing_32 : decode cX6_crossing 32 = .ok (.iload_n 2, 1) := by decide +kernel
theorem dX6_crossing_33 : decode cX6_crossing 33 = .ok (.iaload, 1) := by decide +kernel
theorem dX6_crossing_34 : decode cX6_crossing 34 = .ok (.ireturn, 1) := by decide +kernel
theorem dX6_about_0 : decode cX6_about 0 = .ok (.aload_n 0, 1) := by decide +kernel
theorem dX6_about_1 : decode cX6_about 1 = .ok (.iload_n 1, 1) := by decide +kernel
theorem dX6_about_2 : decode cX6_about 2 = .ok (.invokevirtual 112, 3) := by decide +kernel
theorem dX6_about_5 : decode cX6_about 5 = .ok (.astore_n 3, 1) := by decide +kernel
theorem dX6_about_6 : decode cX6_about 6 = .ok (.iload_n 2, 1) := by decide +kernel
theorem dX6_about_7 : decode cX6_about 7 = .ok (.tableswitch 90 0 6 #[41, 46, 51, 56, 69, 74, 82], 41) := by decide +kernel
theorem dX6_about_48 : decode cX6_about 48 = .ok (.aload_n 3, 1) := by decide +kernel
theorem dX6_about_49 : decode cX6_about 49 = .ok (.getfield 118, 3) := by decide +kernel
theorem dX6_about_52 : decode cX6_about 52 = .ok (.ireturn, 1) := by decide +kernel
theorem dX6_about_53 : decode cX6_about 53 = .ok (.aload_n 3, 1) := by decide +kernel
theorem dX6_about_54 : decode cX6_about 54 = .ok (.getfield 121, 3) := by decide +kernel
theorem dX6_about_57 : decode cX6_about 57 = .ok (.ireturn, 1) := by decide +kernel
theorem dX6_about_58 : decode cX6_about 58 = .ok (.aload_n 3, 1) := by decide +kernel
theorem dX6_about_59 : decode cX6_about 59 = .ok (.getfield 124, 3) := by decide +kernel
theorem dX6_about_62 : decode cX6_about 62 = .ok (.ireturn, 1) := by decide +kernel
theorem dX6_about_63 : decode cX6_about 63 = .ok (.aload_n 3, 1) := by decide +kernel
theorem dX6_about_64 : decode cX6_about 64 = .ok (.getfield 127, 3) := by decide +kernel
theorem dX6_about_67 : decode cX6_about 67 = .ok (.ifCond .eq 7, 3) := by decide +kernel
theorem dX6_about_70 : decode cX6_about 70 = .ok (.iconst 1, 1) := by decide +kernel
theorem dX6_about_71 : decode cX6_about 71 = .ok (.goto 4, 3) := by decide +kernel
theorem dX6_about_74 : decode cX6_about 74 = .ok (.iconst 0, 1) := by decide +kernel
theorem dX6_about_75 : decode cX6_about 75 = .ok (.ireturn, 1) := by decide +kernel
theorem dX6_about_76 : decode cX6_about 76 = .ok (.aload_n 3, 1) := by decide +kernel
theorem dX6_about_77 : decode cX6_about 77 = .ok (.getfield 131, 3) := by decide +kernel
theorem dX6_about_80 : decode cX6_about 80 = .ok (.ireturn, 1) := by decide +kernel
theorem dX6_about_81 : decode cX6_about 81 = .ok (.aload_n 3, 1) := by decide +kernel
theorem dX6_about_82 : decode cX6_about 82 = .ok (.invokevirtual 134, 3) := by decide +kernel
theorem dX6_about_85 : decode cX6_about 85 = .ok (.getfield 138, 3) := by decide +kernel
theorem dX6_about_88 : decode cX6_about 88 = .ok (.ireturn, 1) := by decide +kernel
theorem dX6_about_89 : decode cX6_about 89 = .ok (.aload_n 3, 1) := by decide +kernel
theorem dX6_about_90 : decode cX6_about 90 = .ok (.invokevirtual 134, 3) := by decide +kernel
theorem dX6_about_93 : decode cX6_about 93 = .ok (.invokevirtual 141, 3) := by decide +kernel
theorem dX6_about_96 : decode cX6_about 96 = .ok (.ireturn, 1) := by decide +kernel
theorem dX6_about_97 : decode cX6_about 97 = .ok (.new 102, 3) := by decide +kernel
theorem dX6_about_100 : decode cX6_about 100 = .ok (.dup, 1) := by decide +kernel
theorem dX6_about_101 : decode cX6_about 101 = .ok (.ldc 104, 2) := by decide +kernel
theorem dX6_about_103 : decode cX6_about 103 = .ok (.invokespecial 106, 3) := by decide +kernel
theorem dX6_about_106 : decode cX6_about 106 = .ok (.athrow, 1) := by decide +kernel
theorem dX6_factor_0 : decode cX6_factor 0 = .ok (.aload_n 0, 1) := by decide +kernel
theorem dX6_factor_1 : decode cX6_factor 1 = .ok (.iload_n 1, 1) := by decide +kernel
theorem dX6_factor_2 : decode cX6_factor 2 = .ok (.invokevirtual 112, 3) := by decide +kernel
theorem dX6_factor_5 : decode cX6_factor 5 = .ok (.invokevirtual 134, 3) := by decide +kernel
theorem dX6_factor_8 : decode cX6_factor 8 = .ok (.astore_n 3, 1) := by decide +kernel
theorem dX6_factor_9 : decode cX6_factor 9 = .ok (.iload_n 2, 1) := by decide +kernel
theorem dX6_factor_10 : decode cX6_factor 10 = .ok (.ifCond .lt 11, 3) := by decide +kernel
theorem dX6_factor_13 : decode cX6_factor 13 = .ok (.iload_n 2, 1) := by decide +kernel
theorem dX6_factor_14 : decode cX6_factor 14 = .ok (.aload_n 3, 1) := by decide +kernel
theorem dX6_factor_15 : decode cX6_factor 15 = .ok (.invokevirtual 141, 3) := by decide +kernel
theorem dX6_factor_18 : decode cX6_factor 18 = .ok (.if_icmp .lt 13, 3) := by decide +kernel
theorem dX6_factor_21 : decode cX6_factor 21 = .ok (.new 102, 3) := by decide +kernel
theorem dX6_factor_24 : decode cX6_factor 24 = .ok (.dup, 1) := by decide +kernel
theorem dX6_factor_25 : decode cX6_factor 25 = .ok (.ldc 145, 2) := by decide +kernel
theorem dX6_factor_27 : decode cX6_factor 27 = .ok (.invokespecial 106, 3) := by decide +kernel
theorem dX6_factor_30 : decode cX6_factor 30 = .ok (.athrow, 1) := by decide +kernel
theorem dX6_factor_31 : decode cX6_factor 31 = .ok (.aload_n 3, 1) := by decide +kernel
theorem dX6_factor_32 : decode cX6_factor 32 = .ok (.iload_n 2, 1) := by decide +kernel
theorem dX6_factor_33 : decode cX6_factor 33 = .ok (.invokevirtual 147, 3) := by decide +kernel
theorem dX6_factor_36 : decode cX6_factor 36 = .ok (.ireturn, 1) := by decide +kernel
theorem dX6_alike_0 : decode cX6_alike 0 = .ok (.aload_n 0, 1) := by decide +kernel
theorem dX6_alike_1 : decode cX6_alike 1 = .ok (.iload_n 1, 1) := by decide +kernel
theorem dX6_alike_2 : decode cX6_alike 2 = .ok (.invokevirtual 112, 3) := by decide +kernel
theorem dX6_alike_5 : decode cX6_alike 5 = .ok (.astore_n 3, 1) := by decide +kernel
theorem dX6_alike_6 : decode cX6_alike 6 = .ok (.aload_n 0, 1) := by decide +kernel
theorem dX6_alike_7 : decode cX6_alike 7 = .ok (.iload_n 2, 1) := by decide +kernel
theorem dX6_alike_8 : decode cX6_alike 8 = .ok (.invokevirtual 112, 3) := by decide +kernel
theorem dX6_alike_11 : decode cX6_alike 11 = .ok (.astore 4, 2) := by decide +kernel
theorem dX6_alike_13 : decode cX6_alike 13 = .ok (.aload_n 3, 1) := by decide +kernel
theorem dX6_alike_14 : decode cX6_alike 14 = .ok (.getfield 118, 3) := by decide +kernel
theorem dX6_alike_17 : decode cX6_alike 17 = .ok (.aload 4, 2) := by decide +kernel
theorem dX6_alike_19 : decode cX6_alike 19 = .ok (.getfield 118, 3) := by decide +kernel
theorem dX6_alike_22 : decode cX6_alike 22 = .ok (.if_icmp .ne 22, 3) := by decide +kernel
theorem dX6_alike_25 : decode cX6_alike 25 = .ok (.aload_n 3, 1) := by decide +kernel
theorem dX6_alike_26 : decode cX6_alike 26 = .ok (.invokevirtual 134, 3) := by decide +kernel
theorem dX6_alike_29 : decode cX6_alike 29 = .ok (.aload 4, 2) := by decide +kernel
theorem dX6_alike_31 : decode cX6_alike 31 = .ok (.invokevirtual 134, 3) := by decide +kernel
theorem dX6_alike_34 : decode cX6_alike 34 = .ok (.invokevirtual 151, 3) := by decide +kernel
theorem dX6_alike_37 : decode cX6_alike 37 = .ok (.ifCond .eq 7, 3) := by decide +kernel
theorem dX6_alike_40 : decode cX6_alike 40 = .ok (.iconst 1, 1) := by decide +kernel
theorem dX6_alike_41 : decode cX6_alike 41 = .ok (.goto 4, 3) := by decide +kernel
theorem dX6_alike_44 : decode cX6_alike 44 = .ok (.iconst 0, 1) := by decide +kernel
theorem dX6_alike_45 : decode cX6_alike 45 = .ok (.ireturn, 1) := by decide +kernel
theorem dX6_untwined_0 : decode cX6_untwined 0 = .ok (.aload_n 0, 1) := by decide +kernel
theorem dX6_untwined_1 : decode cX6_untwined 1 = .ok (.iload_n 1, 1) := by decide +kernel
theorem dX6_untwined_2 : decode cX6_untwined 2 = .ok (.invokevirtual 112, 3) := by decide +kernel
theorem dX6_untwined_5 : decode cX6_untwined 5 = .ok (.aload_n 0, 1) := by decide +kernel
theorem dX6_untwined_6 : decode cX6_untwined 6 = .ok (.getfield 37, 3) := by decide +kernel
theorem dX6_untwined_9 : decode cX6_untwined 9 = .ok (.invokevirtual 155, 3) := by decide +kernel
theorem dX6_untwined_12 : decode cX6_untwined 12 = .ok (.ireturn, 1) := by decide +kernel
theorem dX6_goes_0 : decode cX6_goes 0 = .ok (.aload_n 0, 1) := by decide +kernel
theorem dX6_goes_1 : decode cX6_goes 1 = .ok (.iload_n 1, 1) := by decide +kernel
theorem dX6_goes_2 : decode cX6_goes 2 = .ok (.invokevirtual 112, 3) := by decide +kernel
theorem dX6_goes_5 : decode cX6_goes 5 = .ok (.astore_n 3, 1) := by decide +kernel
theorem dX6_goes_6 : decode cX6_goes 6 = .ok (.aload_n 3, 1) := by decide +kernel
theorem dX6_goes_7 : decode cX6_goes 7 = .ok (.iload_n 2, 1) := by decide +kernel
theorem dX6_goes_8 : decode cX6_goes 8 = .ok (.invokevirtual 159, 3) := by decide +kernel
theorem dX6_goes_11 : decode cX6_goes 11 = .ok (.ifCond .ne 13, 3) := by decide +kernel
theorem dX6_goes_14 : decode cX6_goes 14 = .ok (.new 102, 3) := by decide +kernel
theorem dX6_goes_17 : decode cX6_goes 17 = .ok (.dup, 1) := by decide +kernel
theorem dX6_goes_18 : decode cX6_goes 18 = .ok (.ldc 163, 2) := by decide +kernel
theorem dX6_goes_20 : decode cX6_goes 20 = .ok (.invokespecial 106, 3) := by decide +kernel
theorem dX6_goes_23 : decode cX6_goes 23 = .ok (.athrow, 1) := by decide +kernel
theorem dX6_goes_24 : decode cX6_goes 24 = .ok (.aload_n 3, 1) := by decide +kernel
theorem dX6_goes_25 : decode cX6_goes 25 = .ok (.getfield 165, 3) := by decide +kernel
theorem dX6_goes_28 : decode cX6_goes 28 = .ok (.iload_n 2, 1) := by decide +kernel
theorem dX6_goes_29 : decode cX6_goes 29 = .ok (.iaload, 1) := by decide +kernel
theorem dX6_goes_30 : decode cX6_goes 30 = .ok (.ireturn, 1) := by decide +kernel
theorem dX6_twine_0 : decode cX6_twine 0 = .ok (.aload_n 0, 1) := by decide +kernel
theorem dX6_twine_1 : decode cX6_twine 1 = .ok (.iload_n 1, 1) := by decide +kernel
theorem dX6_twine_2 : decode cX6_twine 2 = .ok (.invokevirtual 112, 3) := by decide +kernel
theorem dX6_twine_5 : decode cX6_twine 5 = .ok (.astore 4, 2) := by decide +kernel
theorem dX6_twine_7 : decode cX6_twine 7 = .ok (.aload 4, 2) := by decide +kernel
theorem dX6_twine_9 : decode cX6_twine 9 = .ok (.iload_n 2, 1) := by decide +kernel
theorem dX6_twine_10 : decode cX6_twine 10 = .ok (.invokevirtual 159, 3) := by decide +kernel
theorem dX6_twine_13 : decode cX6_twine 13 = .ok (.ifCond .eq 17, 3) := by decide +kernel
theorem dX6_twine_16 : decode cX6_twine 16 = .ok (.aload 4, 2) := by decide +kernel
theorem dX6_twine_18 : decode cX6_twine 18 = .ok (.iload_n 3, 1) := by decide +kernel
theorem dX6_twine_19 : decode cX6_twine 19 = .ok (.invokevirtual 159, 3) := by decide +kernel
theorem dX6_twine_22 : decode cX6_twine 22 = .ok (.ifCond .eq 8, 3) := by decide +kernel
theorem dX6_twine_25 : decode cX6_twine 25 = .ok (.iload_n 2, 1) := by decide +kernel
theorem dX6_twine_26 : decode cX6_twine 26 = .ok (.iload_n 3, 1) := by decide +kernel
theorem dX6_twine_27 : decode cX6_twine 27 = .ok (.if_icmp .ne 13, 3) := by decide +kernel
theorem dX6_twine_30 : decode cX6_twine 30 = .ok (.new 102, 3) := by decide +kernel
theorem dX6_twine_33 : decode cX6_twine 33 = .ok (.dup, 1) := by decide +kernel
theorem dX6_twine_34 : decode cX6_twine 34 = .ok (.ldc 168, 2) := by decide +kernel
theorem dX6_twine_36 : decode cX6_twine 36 = .ok (.invokespecial 106, 3) := by decide +kernel
theorem dX6_twine_39 : decode cX6_twine 39 = .ok (.athrow, 1) := by decide +kernel
theorem dX6_twine_40 : decode cX6_twine 40 = .ok (.aload 4, 2) := by decide +kernel
theorem dX6_twine_42 : decode cX6_twine 42 = .ok (.iload_n 2, 1) := by decide +kernel
theorem dX6_twine_43 : decode cX6_twine 43 = .ok (.iload_n 3, 1) := by decide +kernel
theorem dX6_twine_44 : decode cX6_twine 44 = .ok (.invokevirtual 170, 3) := by decide +kernel
theorem dX6_twine_47 : decode cX6_twine 47 = .ok (.ireturn, 1) := by decide +kernel
theorem dX6_use_0 : decode cX6_use 0 = .ok (.aload_n 0, 1) := by decide +kernel
theorem dX6_use_1 : decode cX6_use 1 = .ok (.iload_n 1, 1) := by decide +kernel
theorem dX6_use_2 : decode cX6_use 2 = .ok (.invokevirtual 112, 3) := by decide +kernel
theorem dX6_use_5 : decode cX6_use 5 = .ok (.astore_n 3, 1) := by decide +kernel
theorem dX6_use_6 : decode cX6_use 6 = .ok (.aload_n 3, 1) := by decide +kernel
theorem dX6_use_7 : decode cX6_use 7 = .ok (.iload_n 2, 1) := by decide +kernel
theorem dX6_use_8 : decode cX6_use 8 = .ok (.invokevirtual 159, 3) := by decide +kernel
theorem dX6_use_11 : decode cX6_use 11 = .ok (.ifCond .ne 13, 3) := by decide +kernel
theorem dX6_use_14 : decode cX6_use 14 = .ok (.new 102, 3) := by decide +kernel
theorem dX6_use_17 : decode cX6_use 17 = .ok (.dup, 1) := by decide +kernel
theorem dX6_use_18 : decode cX6_use 18 = .ok (.ldc 163, 2) := by decide +kernel
theorem dX6_use_20 : decode cX6_use 20 = .ok (.invokespecial 106, 3) := by decide +kernel
theorem dX6_use_23 : decode cX6_use 23 = .ok (.athrow, 1) := by decide +kernel
theorem dX6_use_24 : decode cX6_use 24 = .ok (.aload_n 3, 1) := by decide +kernel
theorem dX6_use_25 : decode cX6_use 25 = .ok (.iload_n 2, 1) := by decide +kernel
theorem dX6_use_26 : decode cX6_use 26 = .ok (.invokevirtual 174, 3) := by decide +kernel
theorem dX6_use_29 : decode cX6_use 29 = .ok (.ireturn, 1) := by decide +kernel
theorem dX6_bundle_0 : decode cX6_bundle 0 = .ok (.aload_n 0, 1) := by decide +kernel
theorem dX6_bundle_1 : decode cX6_bundle 1 = .ok (.getfield 47, 3) := by decide +kernel
theorem dX6_bundle_4 : decode cX6_bundle 4 = .ok (.bipush 40, 2) := by decide +kernel
theorem dX6_bundle_6 : decode cX6_bundle 6 = .ok (.if_icmp .ge 32, 3) := by decide +kernel
theorem dX6_bundle_9 : decode cX6_bundle 9 = .ok (.iload_n 1, 1) := by decide +kernel
theorem dX6_bundle_10 : decode cX6_bundle 10 = .ok (.ifCond .lt 28, 3) := by decide +kernel
theorem dX6_bundle_13 : decode cX6_bundle 13 = .ok (.iload_n 1, 1) := by decide +kernel
theorem dX6_bundle_14 : decode cX6_bundle 14 = .ok (.bipush 31, 2) := by decide +kernel
theorem dX6_bundle_16 : decode cX6_bundle 16 = .ok (.if_icmp .gt 22, 3) := by decide +kernel
theorem dX6_bundle_19 : decode cX6_bundle 19 = .ok (.iload_n 2, 1) := by decide +kernel
theorem dX6_bundle_20 : decode cX6_bundle 20 = .ok (.invokestatic 177, 3) := by decide +kernel
theorem dX6_bundle_23 : decode cX6_bundle 23 = .ok (.ifCond .eq 15, 3) := by decide +kernel
theorem dX6_bundle_26 : decode cX6_bundle 26 = .ok (.iload_n 3, 1) := by decide +kernel
theorem dX6_bundle_27 : decode cX6_bundle 27 = .ok (.iconst 1, 1) := by decide +kernel
theorem dX6_bundle_28 : decode cX6_bundle 28 = .ok (.if_icmp .lt 10, 3) := by decide +kernel
theorem dX6_bundle_31 : decode cX6_bundle 31 = .ok (.iload_n 3, 1) := by decide +kernel
theorem dX6_bundle_32 : decode cX6_bundle 32 = .ok (.sipush 5000, 3) := by decide +kernel
theorem dX6_bundle_35 : decode cX6_bundle 35 = .ok (.if_icmp .le 5, 3) := by decide +kernel
theorem dX6_bundle_38 : decode cX6_bundle 38 = .ok (.iconst (-1), 1) := by decide +kernel
theorem dX6_bundle_39 : decode cX6_bundle 39 = .ok (.ireturn, 1) := by decide +kernel
theorem dX6_bundle_40 : decode cX6_bundle 40 = .ok (.aload_n 0, 1) := by decide +kernel
theorem dX6_bundle_41 : decode cX6_bundle 41 = .ok (.getfield 43, 3) := by decide +kernel
theorem dX6_bundle_44 : decode cX6_bundle 44 = .ok (.aload_n 0, 1) := by decide +kernel
theorem dX6_bundle_45 : decode cX6_bundle 45 = .ok (.getfield 47, 3) := by decide +kernel
theorem dX6_bundle_48 : decode cX6_bundle 48 = .ok (.new 41, 3) := by decide +kernel
theorem dX6_bundle_51 : decode cX6_bundle 51 = .ok (.dup, 1) := by decide +kernel
theorem dX6_bundle_52 : decode cX6_bundle 52 = .ok (.iload_n 1, 1) := by decide +kernel
theorem dX6_bundle_53 : decode cX6_bundle 53 = .ok (.iload_n 2, 1) := by decide +kernel
theorem dX6_bundle_54 : decode cX6_bundle 54 = .ok (.iload_n 3, 1) := by decide +kernel
theorem dX6_bundle_55 : decode cX6_bundle 55 = .ok (.invokespecial 180, 3) := by decide +kernel
theorem dX6_bundle_58 : decode cX6_bundle 58 = .ok (.aastore, 1) := by decide +kernel
theorem dX6_bundle_59 : decode cX6_bundle 59 = .ok (.aload_n 0, 1) := by decide +kernel
theorem dX6_bundle_60 : decode cX6_bundle 60 = .ok (.dup, 1) := by decide +kernel
theorem dX6_bundle_61 : decode cX6_bundle 61 = .ok (.getfield 47, 3) := by decide +kernel
theorem dX6_bundle_64 : decode cX6_bundle 64 = .ok (.iconst 1, 1) := by decide +kernel
theorem dX6_bundle_65 : decode cX6_bundle 65 = .ok (.iadd, 1) := by decide +kernel
theorem dX6_bundle_66 : decode cX6_bundle 66 = .ok (.putfield 47, 3) := by decide +kernel
theorem dX6_bundle_69 : decode cX6_bundle 69 = .ok (.aload_n 0, 1) := by decide +kernel
theorem dX6_bundle_70 : decode cX6_bundle 70 = .ok (.getfield 47, 3) := by decide +kernel
theorem dX6_bundle_73 : decode cX6_bundle 73 = .ok (.iconst 1, 1) := by decide +kernel
theorem dX6_bundle_74 : decode cX6_bundle 74 = .ok (.isub, 1) := by decide +kernel
theorem dX6_bundle_75 : decode cX6_bundle 75 = .ok (.ireturn, 1) := by decide +kernel
theorem dX6_left_0 : decode cX6_left 0 = .ok (.iload_n 1, 1) := by decide +kernel
theorem dX6_left_1 : decode cX6_left 1 = .ok (.ifCond .lt 11, 3) := by decide +kernel
theorem dX6_left_4 : decode cX6_left 4 = .ok (.iload_n 1, 1) := by decide +kernel
theorem dX6_left_5 : decode cX6_left 5 = .ok (.aload_n 0, 1) := by decide +kernel
theorem dX6_left_6 : decode cX6_left 6 = .ok (.getfield 47, 3) := by decide +kernel
theorem dX6_left_9 : decode cX6_left 9 = .ok (.if_icmp .lt 13, 3) := by decide +kernel
theorem dX6_left_12 : decode cX6_left 12 = .ok (.new 102, 3) := by decide +kernel
theorem dX6_left_15 : decode cX6_left 15 = .ok (.dup, 1) := by decide +kernel
theorem dX6_left_16 : decode cX6_left 16 = .ok (.ldc 183, 2) := by decide +kernel
theorem dX6_left_18 : decode cX6_left 18 = .ok (.invokespecial 106, 3) := by decide +kernel
theorem dX6_left_21 : decode cX6_left 21 = .ok (.athrow, 1) := by decide +kernel
theorem dX6_left_22 : decode cX6_left 22 = .ok (.aload_n 0, 1) := by decide +kernel
theorem dX6_left_23 : decode cX6_left 23 = .ok (.getfield 43, 3) := by decide +kernel
theorem dX6_left_26 : decode cX6_left 26 = .ok (.iload_n 1, 1) := by decide +kernel
theorem dX6_left_27 : decode cX6_left 27 = .ok (.aaload, 1) := by decide +kernel
theorem dX6_left_28 : decode cX6_left 28 = .ok (.getfield 185, 3) := by decide +kernel
theorem dX6_left_31 : decode cX6_left 31 = .ok (.ireturn, 1) := by decide +kernel
theorem dX6_score_0 : decode cX6_score 0 = .ok (.aload_n 0, 1) := by decide +kernel
theorem dX6_score_1 : decode cX6_score 1 = .ok (.iload_n 1, 1) := by decide +kernel
theorem dX6_score_2 : decode cX6_score 2 = .ok (.invokevirtual 107, 3) := by decide +kernel
theorem dX6_score_5 : decode cX6_score 5 = .ok (.astore 4, 2) := by decide +kernel
theorem dX6_score_7 : decode cX6_score 7 = .ok (.aload_n 0, 1) := by decide +kernel
theorem dX6_score_8 : decode cX6_score 8 = .ok (.getfield 56, 3) := by decide +kernel
theorem dX6_score_11 : decode cX6_score 11 = .ok (.bipush 60, 2) := by decide +kernel
theorem dX6_score_13 : decode cX6_score 13 = .ok (.if_icmp .ge 35, 3) := by decide +kernel
theorem dX6_score_16 : decode cX6_score 16 = .ok (.aload 4, 2) := by decide +kernel
theorem dX6_score_18 : decode cX6_score 18 = .ok (.ifnull 30, 3) := by decide +kernel
theorem dX6_score_21 : decode cX6_score 21 = .ok (.aload 4, 2) := by decide +kernel
theorem dX6_score_23 : decode cX6_score 23 = .ok (.getfield 127, 3) := by decide +kernel
theorem dX6_score_26 : decode cX6_score 26 = .ok (.ifCond .eq 22, 3) := by decide +kernel
theorem dX6_score_29 : decode cX6_score 29 = .ok (.iload_n 2, 1) := by decide +kernel
theorem dX6_score_30 : decode cX6_score 30 = .ok (.iconst 1, 1) := by decide +kernel
theorem dX6_score_31 : decode cX6_score 31 = .ok (.if_icmp .lt 17, 3) := by decide +kernel
theorem dX6_score_34 : decode cX6_score 34 = .ok (.iload_n 2, 1) := by decide +kernel
theorem dX6_score_35 : decode cX6_score 35 = .ok (.sipush 200, 3) := by decide +kernel
theorem dX6_score_38 : decode cX6_score 38 = .ok (.if_icmp .gt 10, 3) := by decide +kernel
theorem dX6_score_41 : decode cX6_score 41 = .ok (.iload_n 3, 1) := by decide +kernel
theorem dX6_score_42 : decode cX6_score 42 = .ok (.invokestatic 177, 3) := by decide +kernel
theorem dX6_score_45 : decode cX6_score 45 = .ok (.ifCond .ne 5, 3) := by decide +kernel
theorem dX6_score_48 : decode cX6_score 48 = .ok (.iconst (-1), 1) := by decide +kernel
theorem dX6_score_49 : decode cX6_score 49 = .ok (.ireturn, 1) := by decide +kernel
theorem dX6_score_50 : decode cX6_score 50 = .ok (.aload 4, 2) := by decide +kernel
theorem dX6_score_52 : decode cX6_score 52 = .ok (.iload_n 2, 1) := by decide +kernel
theorem dX6_score_53 : decode cX6_score 53 = .ok (.invokevirtual 188, 3) := by decide +kernel
theorem dX6_score_56 : decode cX6_score 56 = .ok (.istore 5, 2) := by decide +kernel
theorem dX6_score_58 : decode cX6_score 58 = .ok (.iload 5, 2) := by decide +kernel
theorem dX6_score_60 : decode cX6_score 60 = .ok (.aload_n 0, 1) := by decide +kernel
theorem dX6_score_61 : decode cX6_score 61 = .ok (.iload_n 3, 1) := by decide +kernel
theorem dX6_score_62 : decode cX6_score 62 = .ok (.invokevirtual 191, 3) := by decide +kernel
theorem dX6_score_65 : decode cX6_score 65 = .ok (.if_icmp .le 5, 3) := by decide +kernel
theorem dX6_score_68 : decode cX6_score 68 = .ok (.iconst (-1), 1) := by decide +kernel
theorem dX6_score_69 : decode cX6_score 69 = .ok (.ireturn, 1) := by decide +kernel
theorem dX6_score_70 : decode cX6_score 70 = .ok (.aload_n 0, 1) := by decide +kernel
theorem dX6_score_71 : decode cX6_score 71 = .ok (.iload_n 3, 1) := by decide +kernel
theorem dX6_score_72 : decode cX6_score 72 = .ok (.iload 5, 2) := by decide +kernel
theorem dX6_score_74 : decode cX6_score 74 = .ok (.invokevirtual 194, 3) := by decide +kernel
theorem dX6_score_77 : decode cX6_score 77 = .ok (.istore 6, 2) := by decide +kernel
theorem dX6_score_79 : decode cX6_score 79 = .ok (.aload_n 0, 1) := by decide +kernel
theorem dX6_score_80 : decode cX6_score 80 = .ok (.getfield 52, 3) := by decide +kernel
theorem dX6_score_83 : decode cX6_score 83 = .ok (.aload_n 0, 1) := by decide +kernel
theorem dX6_score_84 : decode cX6_score 84 = .ok (.getfield 56, 3) := by decide +kernel
theorem dX6_score_87 : decode cX6_score 87 = .ok (.new 50, 3) := by decide +kernel
theorem dX6_score_90 : decode cX6_score 90 = .ok (.dup, 1) := by decide +kernel
theorem dX6_score_91 : decode cX6_score 91 = .ok (.iload_n 3, 1) := by decide +kernel
theorem dX6_score_92 : decode cX6_score 92 = .ok (.iconst 2, 1) := by decide +kernel
theorem dX6_score_93 : decode cX6_score 93 = .ok (.aload 4, 2) := by decide +kernel
theorem dX6_score_95 : decode cX6_score 95 = .ok (.getfield 131, 3) := by decide +kernel
theorem dX6_score_98 : decode cX6_score 98 = .ok (.imul, 1) := by decide +kernel
theorem dX6_score_99 : decode cX6_score 99 = .ok (.iload_n 2, 1) := by decide +kernel
theorem dX6_score_100 : decode cX6_score 100 = .ok (.imul, 1) := by decide +kernel
theorem dX6_score_101 : decode cX6_score 101 = .ok (.iload 6, 2) := by decide +kernel
theorem dX6_score_103 : decode cX6_score 103 = .ok (.iload 5, 2) := by decide +kernel
theorem dX6_score_105 : decode cX6_score 105 = .ok (.invokespecial 197, 3) := by decide +kernel
theorem dX6_score_108 : decode cX6_score 108 = .ok (.aastore, 1) := by decide +kernel
theorem dX6_score_109 : decode cX6_score 109 = .ok (.aload_n 0, 1) := by decide +kernel
theorem dX6_score_110 : decode cX6_score 110 = .ok (.dup, 1) := by decide +kernel
theorem dX6_score_111 : decode cX6_score 111 = .ok (.getfield 56, 3) := by decide +kernel
theorem dX6_score_114 : decode cX6_score 114 = .ok (.iconst 1, 1) := by decide +kernel
theorem dX6_score_115 : decode cX6_score 115 = .ok (.iadd, 1) := by decide +kernel
theorem dX6_score_116 : decode cX6_score 116 = .ok (.putfield 56, 3) := by decide +kernel
theorem dX6_score_119 : decode cX6_score 119 = .ok (.aload_n 0, 1) := by decide +kernel
theorem dX6_score_120 : decode cX6_score 120 = .ok (.getfield 56, 3) := by decide +kernel
theorem dX6_score_123 : decode cX6_score 123 = .ok (.iconst 1, 1) := by decide +kernel
theorem dX6_score_124 : decode cX6_score 124 = .ok (.isub, 1) := by decide +kernel
theorem dX6_score_125 : decode cX6_score 125 = .ok (.ireturn, 1) := by decide +kernel
theorem dX6_scored_0 : decode cX6_scored 0 = .ok (.iload_n 1, 1) := by decide +kernel
theorem dX6_scored_1 : decode cX6_scored 1 = .ok (.ifCond .lt 11, 3) := by decide +kernel
theorem dX6_scored_4 : decode cX6_scored 4 = .ok (.iload_n 1, 1) := by decide +kernel
theorem dX6_scored_5 : decode cX6_scored 5 = .ok (.aload_n 0, 1) := by decide +kernel
theorem dX6_scored_6 : decode cX6_scored 6 = .ok (.getfield 56, 3) := by decide +kernel
theorem dX6_scored_9 : decode cX6_scored 9 = .ok (.if_icmp .lt 13, 3) := by decide +kernel
theorem dX6_scored_12 : decode cX6_scored 12 = .ok (.new 102, 3) := by decide +kernel
theorem dX6_scored_15 : decode cX6_scored 15 = .ok (.dup, 1) := by decide +kernel
theorem dX6_scored_16 : decode cX6_scored 16 = .ok (.ldc 200, 2) := by decide +kernel
theorem dX6_scored_18 : decode cX6_scored 18 = .ok (.invokespecial 106, 3) := by decide +kernel
theorem dX6_scored_21 : decode cX6_scored 21 = .ok (.athrow, 1) := by decide +kernel
theorem dX6_scored_22 : decode cX6_scored 22 = .ok (.aload_n 0, 1) := by decide +kernel
theorem dX6_scored_23 : decode cX6_scored 23 = .ok (.getfield 52, 3) := by decide +kernel
theorem dX6_scored_26 : decode cX6_scored 26 = .ok (.iload_n 1, 1) := by decide +kernel
theorem dX6_scored_27 : decode cX6_scored 27 = .ok (.aaload, 1) := by decide +kernel
theorem dX6_scored_28 : decode cX6_scored 28 = .ok (.astore_n 3, 1) := by decide +kernel
theorem dX6_scored_29 : decode cX6_scored 29 = .ok (.iload_n 2, 1) := by decide +kernel
theorem dX6_scored_30 : decode cX6_scored 30 = .ok (.tableswitch 59 0 4 #[34, 39, 44, 49, 54], 34) := by decide +kernel
theorem dX6_scored_64 : decode cX6_scored 64 = .ok (.aload_n 3, 1) := by decide +kernel
